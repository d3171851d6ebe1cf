section
-- ===== PART A: goes FIRST, ahead of the names: the tables' words, and 'selects' of the private methods out of them =====
/-- a private method of a class that the tables say can be made, by its rows of tables_1 -/
def lw_okq (q : MethodName × Nat) : Prop := (q.1.cls ≠ "java/lang/invoke/MethodHandle" ∧ q.1.cls ≠ "java/lang/invoke/VarHandle") ∧ Cond.instantiable q.1.cls q.2 ∈ tables_1 ∧ Cond.privateMethod q.1 ∈ tables_1 ∧ Cond.instanceMethod q.1 ∈ tables_1
theorem lw_p0 : lw_okq (⟨"CountGates", "toldAnew", "(I)I"⟩, 16) := ⟨⟨by decide +kernel, by decide +kernel⟩, List.mem_of_getElem? (i := 22) (by decide +kernel), List.mem_of_getElem? (i := 456) (by decide +kernel), List.mem_of_getElem? (i := 457) (by decide +kernel)⟩
theorem lw_p1 : lw_okq (⟨"CountGates", "told", "(I)I"⟩, 16) := ⟨⟨by decide +kernel, by decide +kernel⟩, List.mem_of_getElem? (i := 22) (by decide +kernel), List.mem_of_getElem? (i := 460) (by decide +kernel), List.mem_of_getElem? (i := 461) (by decide +kernel)⟩
theorem lw_p2 : lw_okq (⟨"CountGates$Tape", "takeFour", "(I)V"⟩, 2) := ⟨⟨by decide +kernel, by decide +kernel⟩, List.mem_of_getElem? (i := 153) (by decide +kernel), List.mem_of_getElem? (i := 563) (by decide +kernel), List.mem_of_getElem? (i := 564) (by decide +kernel)⟩
theorem lw_p3 : lw_okq (⟨"CountGates", "readTape", "(Z)Z"⟩, 16) := ⟨⟨by decide +kernel, by decide +kernel⟩, List.mem_of_getElem? (i := 22) (by decide +kernel), List.mem_of_getElem? (i := 595) (by decide +kernel), List.mem_of_getElem? (i := 596) (by decide +kernel)⟩
theorem lw_p4 : lw_okq (⟨"CountGates$Reader", "split", "(LCountGates$Tape;)V"⟩, 9) := ⟨⟨by decide +kernel, by decide +kernel⟩, List.mem_of_getElem? (i := 185) (by decide +kernel), List.mem_of_getElem? (i := 603) (by decide +kernel), List.mem_of_getElem? (i := 604) (by decide +kernel)⟩
theorem lw_p5 : lw_okq (⟨"CountGates$Reader", "behindToken", "(LCountGates$Tape;I)I"⟩, 9) := ⟨⟨by decide +kernel, by decide +kernel⟩, List.mem_of_getElem? (i := 185) (by decide +kernel), List.mem_of_getElem? (i := 607) (by decide +kernel), List.mem_of_getElem? (i := 608) (by decide +kernel)⟩
theorem lw_p6 : lw_okq (⟨"CountGates$Reader", "addToken", "(LCountGates$Tape;II)V"⟩, 9) := ⟨⟨by decide +kernel, by decide +kernel⟩, List.mem_of_getElem? (i := 185) (by decide +kernel), List.mem_of_getElem? (i := 614) (by decide +kernel), List.mem_of_getElem? (i := 615) (by decide +kernel)⟩
theorem lw_p7 : lw_okq (⟨"CountGates$Reader", "clause", "()Z"⟩, 9) := ⟨⟨by decide +kernel, by decide +kernel⟩, List.mem_of_getElem? (i := 185) (by decide +kernel), List.mem_of_getElem? (i := 675) (by decide +kernel), List.mem_of_getElem? (i := 676) (by decide +kernel)⟩
theorem lw_p8 : lw_okq (⟨"CountGates$Reader", "here", "()I"⟩, 9) := ⟨⟨by decide +kernel, by decide +kernel⟩, List.mem_of_getElem? (i := 185) (by decide +kernel), List.mem_of_getElem? (i := 679) (by decide +kernel), List.mem_of_getElem? (i := 680) (by decide +kernel)⟩
theorem lw_p9 : lw_okq (⟨"CountGates$Reader", "faulty", "()Z"⟩, 9) := ⟨⟨by decide +kernel, by decide +kernel⟩, List.mem_of_getElem? (i := 185) (by decide +kernel), List.mem_of_getElem? (i := 683) (by decide +kernel), List.mem_of_getElem? (i := 684) (by decide +kernel)⟩
theorem lw_p10 : lw_okq (⟨"CountGates$Reader", "sum", "(I)Z"⟩, 9) := ⟨⟨by decide +kernel, by decide +kernel⟩, List.mem_of_getElem? (i := 185) (by decide +kernel), List.mem_of_getElem? (i := 687) (by decide +kernel), List.mem_of_getElem? (i := 688) (by decide +kernel)⟩
theorem lw_p11 : lw_okq (⟨"CountGates$Reader", "term", "(I)Z"⟩, 9) := ⟨⟨by decide +kernel, by decide +kernel⟩, List.mem_of_getElem? (i := 185) (by decide +kernel), List.mem_of_getElem? (i := 691) (by decide +kernel), List.mem_of_getElem? (i := 692) (by decide +kernel)⟩
theorem lw_p12 : lw_okq (⟨"CountGates$Reader", "part", "(I)Z"⟩, 9) := ⟨⟨by decide +kernel, by decide +kernel⟩, List.mem_of_getElem? (i := 185) (by decide +kernel), List.mem_of_getElem? (i := 695) (by decide +kernel), List.mem_of_getElem? (i := 696) (by decide +kernel)⟩
theorem lw_p13 : lw_okq (⟨"CountGates$Reader", "inBrackets", "(II)Z"⟩, 9) := ⟨⟨by decide +kernel, by decide +kernel⟩, List.mem_of_getElem? (i := 185) (by decide +kernel), List.mem_of_getElem? (i := 699) (by decide +kernel), List.mem_of_getElem? (i := 700) (by decide +kernel)⟩
theorem lw_p14 : lw_okq (⟨"CountGates$Reader", "test", "(II)Z"⟩, 9) := ⟨⟨by decide +kernel, by decide +kernel⟩, List.mem_of_getElem? (i := 185) (by decide +kernel), List.mem_of_getElem? (i := 703) (by decide +kernel), List.mem_of_getElem? (i := 704) (by decide +kernel)⟩
theorem lw_p15 : lw_okq (⟨"CountGates$Reader", "plain", "(I)Z"⟩, 9) := ⟨⟨by decide +kernel, by decide +kernel⟩, List.mem_of_getElem? (i := 185) (by decide +kernel), List.mem_of_getElem? (i := 707) (by decide +kernel), List.mem_of_getElem? (i := 708) (by decide +kernel)⟩
def lw_privs_1 : List (MethodName × Nat) := [(⟨"CountGates", "toldAnew", "(I)I"⟩, 16), (⟨"CountGates", "told", "(I)I"⟩, 16), (⟨"CountGates$Tape", "takeFour", "(I)V"⟩, 2), (⟨"CountGates", "readTape", "(Z)Z"⟩, 16), (⟨"CountGates$Reader", "split", "(LCountGates$Tape;)V"⟩, 9), (⟨"CountGates$Reader", "behindToken", "(LCountGates$Tape;I)I"⟩, 9), (⟨"CountGates$Reader", "addToken", "(LCountGates$Tape;II)V"⟩, 9), (⟨"CountGates$Reader", "clause", "()Z"⟩, 9), (⟨"CountGates$Reader", "here", "()I"⟩, 9), (⟨"CountGates$Reader", "faulty", "()Z"⟩, 9), (⟨"CountGates$Reader", "sum", "(I)Z"⟩, 9), (⟨"CountGates$Reader", "term", "(I)Z"⟩, 9), (⟨"CountGates$Reader", "part", "(I)Z"⟩, 9), (⟨"CountGates$Reader", "inBrackets", "(II)Z"⟩, 9), (⟨"CountGates$Reader", "test", "(II)Z"⟩, 9), (⟨"CountGates$Reader", "plain", "(I)Z"⟩, 9)]
theorem lw_r1 : ∀ q ∈ lw_privs_1, lw_okq q := List.forall_mem_cons.mpr ⟨lw_p0, List.forall_mem_cons.mpr ⟨lw_p1, List.forall_mem_cons.mpr ⟨lw_p2, List.forall_mem_cons.mpr ⟨lw_p3, List.forall_mem_cons.mpr ⟨lw_p4, List.forall_mem_cons.mpr ⟨lw_p5, List.forall_mem_cons.mpr ⟨lw_p6, List.forall_mem_cons.mpr ⟨lw_p7, List.forall_mem_cons.mpr ⟨lw_p8, List.forall_mem_cons.mpr ⟨lw_p9, List.forall_mem_cons.mpr ⟨lw_p10, List.forall_mem_cons.mpr ⟨lw_p11, List.forall_mem_cons.mpr ⟨lw_p12, List.forall_mem_cons.mpr ⟨lw_p13, List.forall_mem_cons.mpr ⟨lw_p14, List.forall_mem_cons.mpr ⟨lw_p15, fun _ h => absurd h List.not_mem_nil⟩⟩⟩⟩⟩⟩⟩⟩⟩⟩⟩⟩⟩⟩⟩⟩
theorem lw_p16 : lw_okq (⟨"CountGates$Reader", "comparison", "(I)Z"⟩, 9) := ⟨⟨by decide +kernel, by decide +kernel⟩, List.mem_of_getElem? (i := 185) (by decide +kernel), List.mem_of_getElem? (i := 711) (by decide +kernel), List.mem_of_getElem? (i := 712) (by decide +kernel)⟩
theorem lw_p17 : lw_okq (⟨"CountGates$Reader", "take", "(I)Z"⟩, 9) := ⟨⟨by decide +kernel, by decide +kernel⟩, List.mem_of_getElem? (i := 185) (by decide +kernel), List.mem_of_getElem? (i := 723) (by decide +kernel), List.mem_of_getElem? (i := 724) (by decide +kernel)⟩
theorem lw_p18 : lw_okq (⟨"CountGates$Reader", "orderWord", "()I"⟩, 9) := ⟨⟨by decide +kernel, by decide +kernel⟩, List.mem_of_getElem? (i := 185) (by decide +kernel), List.mem_of_getElem? (i := 727) (by decide +kernel), List.mem_of_getElem? (i := 728) (by decide +kernel)⟩
theorem lw_p19 : lw_okq (⟨"CountGates$Reader", "numberedWord", "(II)I"⟩, 9) := ⟨⟨by decide +kernel, by decide +kernel⟩, List.mem_of_getElem? (i := 185) (by decide +kernel), List.mem_of_getElem? (i := 731) (by decide +kernel), List.mem_of_getElem? (i := 732) (by decide +kernel)⟩
theorem lw_p20 : lw_okq (⟨"CountGates$Reader", "lawWord", "()I"⟩, 9) := ⟨⟨by decide +kernel, by decide +kernel⟩, List.mem_of_getElem? (i := 185) (by decide +kernel), List.mem_of_getElem? (i := 735) (by decide +kernel), List.mem_of_getElem? (i := 736) (by decide +kernel)⟩
theorem lw_p21 : lw_okq (⟨"CountGates$Reader", "times", "(I)Z"⟩, 9) := ⟨⟨by decide +kernel, by decide +kernel⟩, List.mem_of_getElem? (i := 185) (by decide +kernel), List.mem_of_getElem? (i := 739) (by decide +kernel), List.mem_of_getElem? (i := 740) (by decide +kernel)⟩
theorem lw_p22 : lw_okq (⟨"CountGates$Runner", "runOnce", "(LCountGates$Text;I)Z"⟩, 6) := ⟨⟨by decide +kernel, by decide +kernel⟩, List.mem_of_getElem? (i := 287) (by decide +kernel), List.mem_of_getElem? (i := 774) (by decide +kernel), List.mem_of_getElem? (i := 775) (by decide +kernel)⟩
theorem lw_p23 : lw_okq (⟨"CountGates$Runner", "lookRound", "()V"⟩, 6) := ⟨⟨by decide +kernel, by decide +kernel⟩, List.mem_of_getElem? (i := 287) (by decide +kernel), List.mem_of_getElem? (i := 778) (by decide +kernel), List.mem_of_getElem? (i := 779) (by decide +kernel)⟩
theorem lw_p24 : lw_okq (⟨"CountGates$Doer", "keep", "(IIIII)V"⟩, 7) := ⟨⟨by decide +kernel, by decide +kernel⟩, List.mem_of_getElem? (i := 256) (by decide +kernel), List.mem_of_getElem? (i := 794) (by decide +kernel), List.mem_of_getElem? (i := 795) (by decide +kernel)⟩
theorem lw_p25 : lw_okq (⟨"CountGates", "canSeek", "(III)Z"⟩, 16) := ⟨⟨by decide +kernel, by decide +kernel⟩, List.mem_of_getElem? (i := 22) (by decide +kernel), List.mem_of_getElem? (i := 864) (by decide +kernel), List.mem_of_getElem? (i := 865) (by decide +kernel)⟩
theorem lw_p26 : lw_okq (⟨"CountGates$Search", "find", "(II)I"⟩, 13) := ⟨⟨by decide +kernel, by decide +kernel⟩, List.mem_of_getElem? (i := 313) (by decide +kernel), List.mem_of_getElem? (i := 880) (by decide +kernel), List.mem_of_getElem? (i := 881) (by decide +kernel)⟩
theorem lw_p27 : lw_okq (⟨"CountGates$Search", "start", "()I"⟩, 13) := ⟨⟨by decide +kernel, by decide +kernel⟩, List.mem_of_getElem? (i := 313) (by decide +kernel), List.mem_of_getElem? (i := 884) (by decide +kernel), List.mem_of_getElem? (i := 885) (by decide +kernel)⟩
theorem lw_p28 : lw_okq (⟨"CountGates$Search", "behind", "(II)I"⟩, 13) := ⟨⟨by decide +kernel, by decide +kernel⟩, List.mem_of_getElem? (i := 313) (by decide +kernel), List.mem_of_getElem? (i := 891) (by decide +kernel), List.mem_of_getElem? (i := 892) (by decide +kernel)⟩
theorem lw_p29 : lw_okq (⟨"CountGates$Search", "cheapestUnsettled", "()I"⟩, 13) := ⟨⟨by decide +kernel, by decide +kernel⟩, List.mem_of_getElem? (i := 313) (by decide +kernel), List.mem_of_getElem? (i := 909) (by decide +kernel), List.mem_of_getElem? (i := 910) (by decide +kernel)⟩
theorem lw_p30 : lw_okq (⟨"CountGates$Search", "payInto", "(II)V"⟩, 13) := ⟨⟨by decide +kernel, by decide +kernel⟩, List.mem_of_getElem? (i := 313) (by decide +kernel), List.mem_of_getElem? (i := 913) (by decide +kernel), List.mem_of_getElem? (i := 914) (by decide +kernel)⟩
theorem lw_p31 : lw_okq (⟨"CountGates$Search", "findAll", "()V"⟩, 13) := ⟨⟨by decide +kernel, by decide +kernel⟩, List.mem_of_getElem? (i := 313) (by decide +kernel), List.mem_of_getElem? (i := 925) (by decide +kernel), List.mem_of_getElem? (i := 926) (by decide +kernel)⟩
def lw_privs_2 : List (MethodName × Nat) := [(⟨"CountGates$Reader", "comparison", "(I)Z"⟩, 9), (⟨"CountGates$Reader", "take", "(I)Z"⟩, 9), (⟨"CountGates$Reader", "orderWord", "()I"⟩, 9), (⟨"CountGates$Reader", "numberedWord", "(II)I"⟩, 9), (⟨"CountGates$Reader", "lawWord", "()I"⟩, 9), (⟨"CountGates$Reader", "times", "(I)Z"⟩, 9), (⟨"CountGates$Runner", "runOnce", "(LCountGates$Text;I)Z"⟩, 6), (⟨"CountGates$Runner", "lookRound", "()V"⟩, 6), (⟨"CountGates$Doer", "keep", "(IIIII)V"⟩, 7), (⟨"CountGates", "canSeek", "(III)Z"⟩, 16), (⟨"CountGates$Search", "find", "(II)I"⟩, 13), (⟨"CountGates$Search", "start", "()I"⟩, 13), (⟨"CountGates$Search", "behind", "(II)I"⟩, 13), (⟨"CountGates$Search", "cheapestUnsettled", "()I"⟩, 13), (⟨"CountGates$Search", "payInto", "(II)V"⟩, 13), (⟨"CountGates$Search", "findAll", "()V"⟩, 13)]
theorem lw_r2 : ∀ q ∈ lw_privs_2, lw_okq q := List.forall_mem_cons.mpr ⟨lw_p16, List.forall_mem_cons.mpr ⟨lw_p17, List.forall_mem_cons.mpr ⟨lw_p18, List.forall_mem_cons.mpr ⟨lw_p19, List.forall_mem_cons.mpr ⟨lw_p20, List.forall_mem_cons.mpr ⟨lw_p21, List.forall_mem_cons.mpr ⟨lw_p22, List.forall_mem_cons.mpr ⟨lw_p23, List.forall_mem_cons.mpr ⟨lw_p24, List.forall_mem_cons.mpr ⟨lw_p25, List.forall_mem_cons.mpr ⟨lw_p26, List.forall_mem_cons.mpr ⟨lw_p27, List.forall_mem_cons.mpr ⟨lw_p28, List.forall_mem_cons.mpr ⟨lw_p29, List.forall_mem_cons.mpr ⟨lw_p30, List.forall_mem_cons.mpr ⟨lw_p31, fun _ h => absurd h List.not_mem_nil⟩⟩⟩⟩⟩⟩⟩⟩⟩⟩⟩⟩⟩⟩⟩⟩
theorem lw_p32 : lw_okq (⟨"CountGates$Search", "flowFrom", "(IZ)V"⟩, 13) := ⟨⟨by decide +kernel, by decide +kernel⟩, List.mem_of_getElem? (i := 313) (by decide +kernel), List.mem_of_getElem? (i := 949) (by decide +kernel), List.mem_of_getElem? (i := 950) (by decide +kernel)⟩
theorem lw_p33 : lw_okq (⟨"CountGates$Search", "tryArm", "(II)V"⟩, 13) := ⟨⟨by decide +kernel, by decide +kernel⟩, List.mem_of_getElem? (i := 313) (by decide +kernel), List.mem_of_getElem? (i := 980) (by decide +kernel), List.mem_of_getElem? (i := 981) (by decide +kernel)⟩
theorem lw_p34 : lw_okq (⟨"CountGates$Search", "shuts", "(II)Z"⟩, 13) := ⟨⟨by decide +kernel, by decide +kernel⟩, List.mem_of_getElem? (i := 313) (by decide +kernel), List.mem_of_getElem? (i := 998) (by decide +kernel), List.mem_of_getElem? (i := 999) (by decide +kernel)⟩
theorem lw_p35 : lw_okq (⟨"CountGates$Guesser", "comesOut", "(LCountGates$State;III)I"⟩, 3) := ⟨⟨by decide +kernel, by decide +kernel⟩, List.mem_of_getElem? (i := 362) (by decide +kernel), List.mem_of_getElem? (i := 1042) (by decide +kernel), List.mem_of_getElem? (i := 1043) (by decide +kernel)⟩
theorem lw_p36 : lw_okq (⟨"CountGates$Guesser", "mostAlike", "()I"⟩, 3) := ⟨⟨by decide +kernel, by decide +kernel⟩, List.mem_of_getElem? (i := 362) (by decide +kernel), List.mem_of_getElem? (i := 1057) (by decide +kernel), List.mem_of_getElem? (i := 1058) (by decide +kernel)⟩
theorem lw_p37 : lw_okq (⟨"CountGates$Draws", "draw", "(I)I"⟩, 3) := ⟨⟨by decide +kernel, by decide +kernel⟩, List.mem_of_getElem? (i := 378) (by decide +kernel), List.mem_of_getElem? (i := 1091) (by decide +kernel), List.mem_of_getElem? (i := 1092) (by decide +kernel)⟩
theorem lw_p38 : lw_okq (⟨"CountGatesModel", "refuses", "(I)I"⟩, 53) := ⟨⟨by decide +kernel, by decide +kernel⟩, List.mem_of_getElem? (i := 1129) (by decide +kernel), List.mem_of_getElem? (i := 1302) (by decide +kernel), List.mem_of_getElem? (i := 1303) (by decide +kernel)⟩
theorem lw_p39 : lw_okq (⟨"CountGatesModel", "good", "(I)I"⟩, 53) := ⟨⟨by decide +kernel, by decide +kernel⟩, List.mem_of_getElem? (i := 1129) (by decide +kernel), List.mem_of_getElem? (i := 1306) (by decide +kernel), List.mem_of_getElem? (i := 1307) (by decide +kernel)⟩
theorem lw_p40 : lw_okq (⟨"CountGatesModel", "settled", "(I)I"⟩, 53) := ⟨⟨by decide +kernel, by decide +kernel⟩, List.mem_of_getElem? (i := 1129) (by decide +kernel), List.mem_of_getElem? (i := 1314) (by decide +kernel), List.mem_of_getElem? (i := 1315) (by decide +kernel)⟩
theorem lw_p41 : lw_okq (⟨"CountGatesModel", "gateMany", "()I"⟩, 53) := ⟨⟨by decide +kernel, by decide +kernel⟩, List.mem_of_getElem? (i := 1129) (by decide +kernel), List.mem_of_getElem? (i := 1331) (by decide +kernel), List.mem_of_getElem? (i := 1332) (by decide +kernel)⟩
theorem lw_p42 : lw_okq (⟨"CountGatesModel", "adds", "(IIII)V"⟩, 53) := ⟨⟨by decide +kernel, by decide +kernel⟩, List.mem_of_getElem? (i := 1129) (by decide +kernel), List.mem_of_getElem? (i := 1335) (by decide +kernel), List.mem_of_getElem? (i := 1336) (by decide +kernel)⟩
theorem lw_p43 : lw_okq (⟨"CountGatesModel", "isGate", "(I)Z"⟩, 53) := ⟨⟨by decide +kernel, by decide +kernel⟩, List.mem_of_getElem? (i := 1129) (by decide +kernel), List.mem_of_getElem? (i := 1343) (by decide +kernel), List.mem_of_getElem? (i := 1344) (by decide +kernel)⟩
theorem lw_p44 : lw_okq (⟨"CountGatesModel", "isGoer", "(I)Z"⟩, 53) := ⟨⟨by decide +kernel, by decide +kernel⟩, List.mem_of_getElem? (i := 1129) (by decide +kernel), List.mem_of_getElem? (i := 1358) (by decide +kernel), List.mem_of_getElem? (i := 1359) (by decide +kernel)⟩
theorem lw_p45 : lw_okq (⟨"CountGatesModel", "gatesOf", "(I)I"⟩, 53) := ⟨⟨by decide +kernel, by decide +kernel⟩, List.mem_of_getElem? (i := 1129) (by decide +kernel), List.mem_of_getElem? (i := 1362) (by decide +kernel), List.mem_of_getElem? (i := 1363) (by decide +kernel)⟩
theorem lw_p46 : lw_okq (⟨"CountGatesModel", "canGo", "(II)Z"⟩, 53) := ⟨⟨by decide +kernel, by decide +kernel⟩, List.mem_of_getElem? (i := 1129) (by decide +kernel), List.mem_of_getElem? (i := 1366) (by decide +kernel), List.mem_of_getElem? (i := 1367) (by decide +kernel)⟩
theorem lw_p47 : lw_okq (⟨"CountGatesModel", "setsGate", "(III)V"⟩, 53) := ⟨⟨by decide +kernel, by decide +kernel⟩, List.mem_of_getElem? (i := 1129) (by decide +kernel), List.mem_of_getElem? (i := 1370) (by decide +kernel), List.mem_of_getElem? (i := 1371) (by decide +kernel)⟩
def lw_privs_3 : List (MethodName × Nat) := [(⟨"CountGates$Search", "flowFrom", "(IZ)V"⟩, 13), (⟨"CountGates$Search", "tryArm", "(II)V"⟩, 13), (⟨"CountGates$Search", "shuts", "(II)Z"⟩, 13), (⟨"CountGates$Guesser", "comesOut", "(LCountGates$State;III)I"⟩, 3), (⟨"CountGates$Guesser", "mostAlike", "()I"⟩, 3), (⟨"CountGates$Draws", "draw", "(I)I"⟩, 3), (⟨"CountGatesModel", "refuses", "(I)I"⟩, 53), (⟨"CountGatesModel", "good", "(I)I"⟩, 53), (⟨"CountGatesModel", "settled", "(I)I"⟩, 53), (⟨"CountGatesModel", "gateMany", "()I"⟩, 53), (⟨"CountGatesModel", "adds", "(IIII)V"⟩, 53), (⟨"CountGatesModel", "isGate", "(I)Z"⟩, 53), (⟨"CountGatesModel", "isGoer", "(I)Z"⟩, 53), (⟨"CountGatesModel", "gatesOf", "(I)I"⟩, 53), (⟨"CountGatesModel", "canGo", "(II)Z"⟩, 53), (⟨"CountGatesModel", "setsGate", "(III)V"⟩, 53)]
theorem lw_r3 : ∀ q ∈ lw_privs_3, lw_okq q := List.forall_mem_cons.mpr ⟨lw_p32, List.forall_mem_cons.mpr ⟨lw_p33, List.forall_mem_cons.mpr ⟨lw_p34, List.forall_mem_cons.mpr ⟨lw_p35, List.forall_mem_cons.mpr ⟨lw_p36, List.forall_mem_cons.mpr ⟨lw_p37, List.forall_mem_cons.mpr ⟨lw_p38, List.forall_mem_cons.mpr ⟨lw_p39, List.forall_mem_cons.mpr ⟨lw_p40, List.forall_mem_cons.mpr ⟨lw_p41, List.forall_mem_cons.mpr ⟨lw_p42, List.forall_mem_cons.mpr ⟨lw_p43, List.forall_mem_cons.mpr ⟨lw_p44, List.forall_mem_cons.mpr ⟨lw_p45, List.forall_mem_cons.mpr ⟨lw_p46, List.forall_mem_cons.mpr ⟨lw_p47, fun _ h => absurd h List.not_mem_nil⟩⟩⟩⟩⟩⟩⟩⟩⟩⟩⟩⟩⟩⟩⟩⟩
theorem lw_p48 : lw_okq (⟨"CountGatesModel", "setsAsked", "(IIIIII)V"⟩, 53) := ⟨⟨by decide +kernel, by decide +kernel⟩, List.mem_of_getElem? (i := 1129) (by decide +kernel), List.mem_of_getElem? (i := 1374) (by decide +kernel), List.mem_of_getElem? (i := 1375) (by decide +kernel)⟩
theorem lw_p49 : lw_okq (⟨"CountGatesModel", "isBarredNow", "()Z"⟩, 53) := ⟨⟨by decide +kernel, by decide +kernel⟩, List.mem_of_getElem? (i := 1129) (by decide +kernel), List.mem_of_getElem? (i := 1378) (by decide +kernel), List.mem_of_getElem? (i := 1379) (by decide +kernel)⟩
theorem lw_p50 : lw_okq (⟨"CountGatesModel", "tells", "(III)I"⟩, 53) := ⟨⟨by decide +kernel, by decide +kernel⟩, List.mem_of_getElem? (i := 1129) (by decide +kernel), List.mem_of_getElem? (i := 1382) (by decide +kernel), List.mem_of_getElem? (i := 1383) (by decide +kernel)⟩
theorem lw_p51 : lw_okq (⟨"CountGatesModel", "codeAt", "(I)I"⟩, 53) := ⟨⟨by decide +kernel, by decide +kernel⟩, List.mem_of_getElem? (i := 1129) (by decide +kernel), List.mem_of_getElem? (i := 1386) (by decide +kernel), List.mem_of_getElem? (i := 1387) (by decide +kernel)⟩
theorem lw_p52 : lw_okq (⟨"CountGatesModel", "sumOf", "(Z)J"⟩, 53) := ⟨⟨by decide +kernel, by decide +kernel⟩, List.mem_of_getElem? (i := 1129) (by decide +kernel), List.mem_of_getElem? (i := 1390) (by decide +kernel), List.mem_of_getElem? (i := 1391) (by decide +kernel)⟩
theorem lw_p53 : lw_okq (⟨"CountGatesModel", "termOf", "(Z)J"⟩, 53) := ⟨⟨by decide +kernel, by decide +kernel⟩, List.mem_of_getElem? (i := 1129) (by decide +kernel), List.mem_of_getElem? (i := 1394) (by decide +kernel), List.mem_of_getElem? (i := 1395) (by decide +kernel)⟩
theorem lw_p54 : lw_okq (⟨"CountGatesModel", "partOf", "(Z)J"⟩, 53) := ⟨⟨by decide +kernel, by decide +kernel⟩, List.mem_of_getElem? (i := 1129) (by decide +kernel), List.mem_of_getElem? (i := 1398) (by decide +kernel), List.mem_of_getElem? (i := 1399) (by decide +kernel)⟩
theorem lw_p55 : lw_okq (⟨"CountGatesModel", "passes0", "(I)Z"⟩, 53) := ⟨⟨by decide +kernel, by decide +kernel⟩, List.mem_of_getElem? (i := 1129) (by decide +kernel), List.mem_of_getElem? (i := 1405) (by decide +kernel), List.mem_of_getElem? (i := 1406) (by decide +kernel)⟩
theorem lw_p56 : lw_okq (⟨"CountGatesModel", "orderValue", "(II)I"⟩, 53) := ⟨⟨by decide +kernel, by decide +kernel⟩, List.mem_of_getElem? (i := 1129) (by decide +kernel), List.mem_of_getElem? (i := 1409) (by decide +kernel), List.mem_of_getElem? (i := 1410) (by decide +kernel)⟩
theorem lw_p57 : lw_okq (⟨"CountGatesModel", "wholeMany", "()I"⟩, 53) := ⟨⟨by decide +kernel, by decide +kernel⟩, List.mem_of_getElem? (i := 1129) (by decide +kernel), List.mem_of_getElem? (i := 1413) (by decide +kernel), List.mem_of_getElem? (i := 1414) (by decide +kernel)⟩
theorem lw_p58 : lw_okq (⟨"CountGatesModel", "bounded", "(JZ)J"⟩, 53) := ⟨⟨by decide +kernel, by decide +kernel⟩, List.mem_of_getElem? (i := 1129) (by decide +kernel), List.mem_of_getElem? (i := 1417) (by decide +kernel), List.mem_of_getElem? (i := 1418) (by decide +kernel)⟩
theorem lw_p59 : lw_okq (⟨"CountGatesModel", "testOf", "(Z)Z"⟩, 53) := ⟨⟨by decide +kernel, by decide +kernel⟩, List.mem_of_getElem? (i := 1129) (by decide +kernel), List.mem_of_getElem? (i := 1423) (by decide +kernel), List.mem_of_getElem? (i := 1424) (by decide +kernel)⟩
theorem lw_p60 : lw_okq (⟨"CountGatesModel", "bothOf", "(Z)Z"⟩, 53) := ⟨⟨by decide +kernel, by decide +kernel⟩, List.mem_of_getElem? (i := 1129) (by decide +kernel), List.mem_of_getElem? (i := 1427) (by decide +kernel), List.mem_of_getElem? (i := 1428) (by decide +kernel)⟩
theorem lw_p61 : lw_okq (⟨"CountGatesModel", "plainOf", "(Z)Z"⟩, 53) := ⟨⟨by decide +kernel, by decide +kernel⟩, List.mem_of_getElem? (i := 1129) (by decide +kernel), List.mem_of_getElem? (i := 1431) (by decide +kernel), List.mem_of_getElem? (i := 1432) (by decide +kernel)⟩
theorem lw_p62 : lw_okq (⟨"CountGatesModel", "positiveOf", "(Z)Z"⟩, 53) := ⟨⟨by decide +kernel, by decide +kernel⟩, List.mem_of_getElem? (i := 1129) (by decide +kernel), List.mem_of_getElem? (i := 1435) (by decide +kernel), List.mem_of_getElem? (i := 1436) (by decide +kernel)⟩
theorem lw_p63 : lw_okq (⟨"CountGatesModel", "turnsNow", "()I"⟩, 53) := ⟨⟨by decide +kernel, by decide +kernel⟩, List.mem_of_getElem? (i := 1129) (by decide +kernel), List.mem_of_getElem? (i := 1443) (by decide +kernel), List.mem_of_getElem? (i := 1444) (by decide +kernel)⟩
def lw_privs_4 : List (MethodName × Nat) := [(⟨"CountGatesModel", "setsAsked", "(IIIIII)V"⟩, 53), (⟨"CountGatesModel", "isBarredNow", "()Z"⟩, 53), (⟨"CountGatesModel", "tells", "(III)I"⟩, 53), (⟨"CountGatesModel", "codeAt", "(I)I"⟩, 53), (⟨"CountGatesModel", "sumOf", "(Z)J"⟩, 53), (⟨"CountGatesModel", "termOf", "(Z)J"⟩, 53), (⟨"CountGatesModel", "partOf", "(Z)J"⟩, 53), (⟨"CountGatesModel", "passes0", "(I)Z"⟩, 53), (⟨"CountGatesModel", "orderValue", "(II)I"⟩, 53), (⟨"CountGatesModel", "wholeMany", "()I"⟩, 53), (⟨"CountGatesModel", "bounded", "(JZ)J"⟩, 53), (⟨"CountGatesModel", "testOf", "(Z)Z"⟩, 53), (⟨"CountGatesModel", "bothOf", "(Z)Z"⟩, 53), (⟨"CountGatesModel", "plainOf", "(Z)Z"⟩, 53), (⟨"CountGatesModel", "positiveOf", "(Z)Z"⟩, 53), (⟨"CountGatesModel", "turnsNow", "()I"⟩, 53)]
theorem lw_r4 : ∀ q ∈ lw_privs_4, lw_okq q := List.forall_mem_cons.mpr ⟨lw_p48, List.forall_mem_cons.mpr ⟨lw_p49, List.forall_mem_cons.mpr ⟨lw_p50, List.forall_mem_cons.mpr ⟨lw_p51, List.forall_mem_cons.mpr ⟨lw_p52, List.forall_mem_cons.mpr ⟨lw_p53, List.forall_mem_cons.mpr ⟨lw_p54, List.forall_mem_cons.mpr ⟨lw_p55, List.forall_mem_cons.mpr ⟨lw_p56, List.forall_mem_cons.mpr ⟨lw_p57, List.forall_mem_cons.mpr ⟨lw_p58, List.forall_mem_cons.mpr ⟨lw_p59, List.forall_mem_cons.mpr ⟨lw_p60, List.forall_mem_cons.mpr ⟨lw_p61, List.forall_mem_cons.mpr ⟨lw_p62, List.forall_mem_cons.mpr ⟨lw_p63, fun _ h => absurd h List.not_mem_nil⟩⟩⟩⟩⟩⟩⟩⟩⟩⟩⟩⟩⟩⟩⟩⟩
theorem lw_p64 : lw_okq (⟨"CountGatesModel", "paysNow", "()I"⟩, 53) := ⟨⟨by decide +kernel, by decide +kernel⟩, List.mem_of_getElem? (i := 1129) (by decide +kernel), List.mem_of_getElem? (i := 1450) (by decide +kernel), List.mem_of_getElem? (i := 1451) (by decide +kernel)⟩
theorem lw_p65 : lw_okq (⟨"CountGatesModel", "readsAs", "(Z)Z"⟩, 53) := ⟨⟨by decide +kernel, by decide +kernel⟩, List.mem_of_getElem? (i := 1129) (by decide +kernel), List.mem_of_getElem? (i := 1484) (by decide +kernel), List.mem_of_getElem? (i := 1485) (by decide +kernel)⟩
theorem lw_p66 : lw_okq (⟨"CountGatesModel", "reads", "()Z"⟩, 53) := ⟨⟨by decide +kernel, by decide +kernel⟩, List.mem_of_getElem? (i := 1129) (by decide +kernel), List.mem_of_getElem? (i := 1488) (by decide +kernel), List.mem_of_getElem? (i := 1489) (by decide +kernel)⟩
theorem lw_p67 : lw_okq (⟨"CountGatesModel", "splits", "(I)V"⟩, 53) := ⟨⟨by decide +kernel, by decide +kernel⟩, List.mem_of_getElem? (i := 1129) (by decide +kernel), List.mem_of_getElem? (i := 1492) (by decide +kernel), List.mem_of_getElem? (i := 1493) (by decide +kernel)⟩
theorem lw_p68 : lw_okq (⟨"CountGatesModel", "wordOf", "(II)I"⟩, 53) := ⟨⟨by decide +kernel, by decide +kernel⟩, List.mem_of_getElem? (i := 1129) (by decide +kernel), List.mem_of_getElem? (i := 1502) (by decide +kernel), List.mem_of_getElem? (i := 1503) (by decide +kernel)⟩
theorem lw_p69 : lw_okq (⟨"CountGatesModel", "readOne", "()V"⟩, 53) := ⟨⟨by decide +kernel, by decide +kernel⟩, List.mem_of_getElem? (i := 1129) (by decide +kernel), List.mem_of_getElem? (i := 1507) (by decide +kernel), List.mem_of_getElem? (i := 1508) (by decide +kernel)⟩
theorem lw_p70 : lw_okq (⟨"CountGatesModel", "readOrder", "()V"⟩, 53) := ⟨⟨by decide +kernel, by decide +kernel⟩, List.mem_of_getElem? (i := 1129) (by decide +kernel), List.mem_of_getElem? (i := 1511) (by decide +kernel), List.mem_of_getElem? (i := 1512) (by decide +kernel)⟩
theorem lw_p71 : lw_okq (⟨"CountGatesModel", "takes0", "(I)Z"⟩, 53) := ⟨⟨by decide +kernel, by decide +kernel⟩, List.mem_of_getElem? (i := 1129) (by decide +kernel), List.mem_of_getElem? (i := 1515) (by decide +kernel), List.mem_of_getElem? (i := 1516) (by decide +kernel)⟩
theorem lw_p72 : lw_okq (⟨"CountGatesModel", "fine", "()Z"⟩, 53) := ⟨⟨by decide +kernel, by decide +kernel⟩, List.mem_of_getElem? (i := 1129) (by decide +kernel), List.mem_of_getElem? (i := 1519) (by decide +kernel), List.mem_of_getElem? (i := 1520) (by decide +kernel)⟩
theorem lw_p73 : lw_okq (⟨"CountGatesModel", "readTwo", "(I)V"⟩, 53) := ⟨⟨by decide +kernel, by decide +kernel⟩, List.mem_of_getElem? (i := 1129) (by decide +kernel), List.mem_of_getElem? (i := 1523) (by decide +kernel), List.mem_of_getElem? (i := 1524) (by decide +kernel)⟩
theorem lw_p74 : lw_okq (⟨"CountGatesModel", "readSum", "(I)V"⟩, 53) := ⟨⟨by decide +kernel, by decide +kernel⟩, List.mem_of_getElem? (i := 1129) (by decide +kernel), List.mem_of_getElem? (i := 1527) (by decide +kernel), List.mem_of_getElem? (i := 1528) (by decide +kernel)⟩
theorem lw_p75 : lw_okq (⟨"CountGatesModel", "readTerm", "(I)V"⟩, 53) := ⟨⟨by decide +kernel, by decide +kernel⟩, List.mem_of_getElem? (i := 1129) (by decide +kernel), List.mem_of_getElem? (i := 1531) (by decide +kernel), List.mem_of_getElem? (i := 1532) (by decide +kernel)⟩
theorem lw_p76 : lw_okq (⟨"CountGatesModel", "readPart", "(I)V"⟩, 53) := ⟨⟨by decide +kernel, by decide +kernel⟩, List.mem_of_getElem? (i := 1129) (by decide +kernel), List.mem_of_getElem? (i := 1535) (by decide +kernel), List.mem_of_getElem? (i := 1536) (by decide +kernel)⟩
theorem lw_p77 : lw_okq (⟨"CountGatesModel", "faults", "()V"⟩, 53) := ⟨⟨by decide +kernel, by decide +kernel⟩, List.mem_of_getElem? (i := 1129) (by decide +kernel), List.mem_of_getElem? (i := 1539) (by decide +kernel), List.mem_of_getElem? (i := 1540) (by decide +kernel)⟩
theorem lw_p78 : lw_okq (⟨"CountGatesModel", "must", "(I)V"⟩, 53) := ⟨⟨by decide +kernel, by decide +kernel⟩, List.mem_of_getElem? (i := 1129) (by decide +kernel), List.mem_of_getElem? (i := 1543) (by decide +kernel), List.mem_of_getElem? (i := 1544) (by decide +kernel)⟩
theorem lw_p79 : lw_okq (⟨"CountGatesModel", "leaf", "()V"⟩, 53) := ⟨⟨by decide +kernel, by decide +kernel⟩, List.mem_of_getElem? (i := 1129) (by decide +kernel), List.mem_of_getElem? (i := 1547) (by decide +kernel), List.mem_of_getElem? (i := 1548) (by decide +kernel)⟩
def lw_privs_5 : List (MethodName × Nat) := [(⟨"CountGatesModel", "paysNow", "()I"⟩, 53), (⟨"CountGatesModel", "readsAs", "(Z)Z"⟩, 53), (⟨"CountGatesModel", "reads", "()Z"⟩, 53), (⟨"CountGatesModel", "splits", "(I)V"⟩, 53), (⟨"CountGatesModel", "wordOf", "(II)I"⟩, 53), (⟨"CountGatesModel", "readOne", "()V"⟩, 53), (⟨"CountGatesModel", "readOrder", "()V"⟩, 53), (⟨"CountGatesModel", "takes0", "(I)Z"⟩, 53), (⟨"CountGatesModel", "fine", "()Z"⟩, 53), (⟨"CountGatesModel", "readTwo", "(I)V"⟩, 53), (⟨"CountGatesModel", "readSum", "(I)V"⟩, 53), (⟨"CountGatesModel", "readTerm", "(I)V"⟩, 53), (⟨"CountGatesModel", "readPart", "(I)V"⟩, 53), (⟨"CountGatesModel", "faults", "()V"⟩, 53), (⟨"CountGatesModel", "must", "(I)V"⟩, 53), (⟨"CountGatesModel", "leaf", "()V"⟩, 53)]
theorem lw_r5 : ∀ q ∈ lw_privs_5, lw_okq q := List.forall_mem_cons.mpr ⟨lw_p64, List.forall_mem_cons.mpr ⟨lw_p65, List.forall_mem_cons.mpr ⟨lw_p66, List.forall_mem_cons.mpr ⟨lw_p67, List.forall_mem_cons.mpr ⟨lw_p68, List.forall_mem_cons.mpr ⟨lw_p69, List.forall_mem_cons.mpr ⟨lw_p70, List.forall_mem_cons.mpr ⟨lw_p71, List.forall_mem_cons.mpr ⟨lw_p72, List.forall_mem_cons.mpr ⟨lw_p73, List.forall_mem_cons.mpr ⟨lw_p74, List.forall_mem_cons.mpr ⟨lw_p75, List.forall_mem_cons.mpr ⟨lw_p76, List.forall_mem_cons.mpr ⟨lw_p77, List.forall_mem_cons.mpr ⟨lw_p78, List.forall_mem_cons.mpr ⟨lw_p79, fun _ h => absurd h List.not_mem_nil⟩⟩⟩⟩⟩⟩⟩⟩⟩⟩⟩⟩⟩⟩⟩⟩
theorem lw_p80 : lw_okq (⟨"CountGatesModel", "mustNumber", "(II)V"⟩, 53) := ⟨⟨by decide +kernel, by decide +kernel⟩, List.mem_of_getElem? (i := 1129) (by decide +kernel), List.mem_of_getElem? (i := 1551) (by decide +kernel), List.mem_of_getElem? (i := 1552) (by decide +kernel)⟩
theorem lw_p81 : lw_okq (⟨"CountGatesModel", "readTest", "(I)V"⟩, 53) := ⟨⟨by decide +kernel, by decide +kernel⟩, List.mem_of_getElem? (i := 1129) (by decide +kernel), List.mem_of_getElem? (i := 1555) (by decide +kernel), List.mem_of_getElem? (i := 1556) (by decide +kernel)⟩
theorem lw_p82 : lw_okq (⟨"CountGatesModel", "readBoth", "(I)V"⟩, 53) := ⟨⟨by decide +kernel, by decide +kernel⟩, List.mem_of_getElem? (i := 1129) (by decide +kernel), List.mem_of_getElem? (i := 1559) (by decide +kernel), List.mem_of_getElem? (i := 1560) (by decide +kernel)⟩
theorem lw_p83 : lw_okq (⟨"CountGatesModel", "readPlain", "(I)V"⟩, 53) := ⟨⟨by decide +kernel, by decide +kernel⟩, List.mem_of_getElem? (i := 1129) (by decide +kernel), List.mem_of_getElem? (i := 1563) (by decide +kernel), List.mem_of_getElem? (i := 1564) (by decide +kernel)⟩
theorem lw_p84 : lw_okq (⟨"CountGatesModel", "readClause", "()V"⟩, 53) := ⟨⟨by decide +kernel, by decide +kernel⟩, List.mem_of_getElem? (i := 1129) (by decide +kernel), List.mem_of_getElem? (i := 1567) (by decide +kernel), List.mem_of_getElem? (i := 1568) (by decide +kernel)⟩
theorem lw_p85 : lw_okq (⟨"CountGatesModel", "lays", "(I)V"⟩, 53) := ⟨⟨by decide +kernel, by decide +kernel⟩, List.mem_of_getElem? (i := 1129) (by decide +kernel), List.mem_of_getElem? (i := 1571) (by decide +kernel), List.mem_of_getElem? (i := 1572) (by decide +kernel)⟩
theorem lw_p86 : lw_okq (⟨"CountGatesModel", "isLaw", "(I)Z"⟩, 53) := ⟨⟨by decide +kernel, by decide +kernel⟩, List.mem_of_getElem? (i := 1129) (by decide +kernel), List.mem_of_getElem? (i := 1583) (by decide +kernel), List.mem_of_getElem? (i := 1584) (by decide +kernel)⟩
theorem lw_p87 : lw_okq (⟨"CountGatesModel", "goesKept", "(II)I"⟩, 53) := ⟨⟨by decide +kernel, by decide +kernel⟩, List.mem_of_getElem? (i := 1129) (by decide +kernel), List.mem_of_getElem? (i := 1595) (by decide +kernel), List.mem_of_getElem? (i := 1596) (by decide +kernel)⟩
theorem lw_p88 : lw_okq (⟨"CountGatesModel", "keeps", "(I)V"⟩, 53) := ⟨⟨by decide +kernel, by decide +kernel⟩, List.mem_of_getElem? (i := 1129) (by decide +kernel), List.mem_of_getElem? (i := 1599) (by decide +kernel), List.mem_of_getElem? (i := 1600) (by decide +kernel)⟩
theorem lw_p89 : lw_okq (⟨"CountGatesModel", "goesNow", "(II)I"⟩, 53) := ⟨⟨by decide +kernel, by decide +kernel⟩, List.mem_of_getElem? (i := 1129) (by decide +kernel), List.mem_of_getElem? (i := 1603) (by decide +kernel), List.mem_of_getElem? (i := 1604) (by decide +kernel)⟩
theorem lw_p90 : lw_okq (⟨"CountGatesModel", "goodOr", "(I)I"⟩, 53) := ⟨⟨by decide +kernel, by decide +kernel⟩, List.mem_of_getElem? (i := 1129) (by decide +kernel), List.mem_of_getElem? (i := 1610) (by decide +kernel), List.mem_of_getElem? (i := 1611) (by decide +kernel)⟩
theorem lw_p91 : lw_okq (⟨"CountGatesModel", "latchesKept", "(I)I"⟩, 53) := ⟨⟨by decide +kernel, by decide +kernel⟩, List.mem_of_getElem? (i := 1129) (by decide +kernel), List.mem_of_getElem? (i := 1618) (by decide +kernel), List.mem_of_getElem? (i := 1619) (by decide +kernel)⟩
theorem lw_p92 : lw_okq (⟨"CountGatesModel", "setsKept", "(II)I"⟩, 53) := ⟨⟨by decide +kernel, by decide +kernel⟩, List.mem_of_getElem? (i := 1129) (by decide +kernel), List.mem_of_getElem? (i := 1626) (by decide +kernel), List.mem_of_getElem? (i := 1627) (by decide +kernel)⟩
theorem lw_p93 : lw_okq (⟨"CountGatesModel", "passesKept", "()I"⟩, 53) := ⟨⟨by decide +kernel, by decide +kernel⟩, List.mem_of_getElem? (i := 1129) (by decide +kernel), List.mem_of_getElem? (i := 1634) (by decide +kernel), List.mem_of_getElem? (i := 1635) (by decide +kernel)⟩
theorem lw_p94 : lw_okq (⟨"CountGatesModel", "laysOut", "(I)V"⟩, 53) := ⟨⟨by decide +kernel, by decide +kernel⟩, List.mem_of_getElem? (i := 1129) (by decide +kernel), List.mem_of_getElem? (i := 1645) (by decide +kernel), List.mem_of_getElem? (i := 1646) (by decide +kernel)⟩
theorem lw_p95 : lw_okq (⟨"CountGatesModel", "laysGate", "(II)V"⟩, 53) := ⟨⟨by decide +kernel, by decide +kernel⟩, List.mem_of_getElem? (i := 1129) (by decide +kernel), List.mem_of_getElem? (i := 1649) (by decide +kernel), List.mem_of_getElem? (i := 1650) (by decide +kernel)⟩
def lw_privs_6 : List (MethodName × Nat) := [(⟨"CountGatesModel", "mustNumber", "(II)V"⟩, 53), (⟨"CountGatesModel", "readTest", "(I)V"⟩, 53), (⟨"CountGatesModel", "readBoth", "(I)V"⟩, 53), (⟨"CountGatesModel", "readPlain", "(I)V"⟩, 53), (⟨"CountGatesModel", "readClause", "()V"⟩, 53), (⟨"CountGatesModel", "lays", "(I)V"⟩, 53), (⟨"CountGatesModel", "isLaw", "(I)Z"⟩, 53), (⟨"CountGatesModel", "goesKept", "(II)I"⟩, 53), (⟨"CountGatesModel", "keeps", "(I)V"⟩, 53), (⟨"CountGatesModel", "goesNow", "(II)I"⟩, 53), (⟨"CountGatesModel", "goodOr", "(I)I"⟩, 53), (⟨"CountGatesModel", "latchesKept", "(I)I"⟩, 53), (⟨"CountGatesModel", "setsKept", "(II)I"⟩, 53), (⟨"CountGatesModel", "passesKept", "()I"⟩, 53), (⟨"CountGatesModel", "laysOut", "(I)V"⟩, 53), (⟨"CountGatesModel", "laysGate", "(II)V"⟩, 53)]
theorem lw_r6 : ∀ q ∈ lw_privs_6, lw_okq q := List.forall_mem_cons.mpr ⟨lw_p80, List.forall_mem_cons.mpr ⟨lw_p81, List.forall_mem_cons.mpr ⟨lw_p82, List.forall_mem_cons.mpr ⟨lw_p83, List.forall_mem_cons.mpr ⟨lw_p84, List.forall_mem_cons.mpr ⟨lw_p85, List.forall_mem_cons.mpr ⟨lw_p86, List.forall_mem_cons.mpr ⟨lw_p87, List.forall_mem_cons.mpr ⟨lw_p88, List.forall_mem_cons.mpr ⟨lw_p89, List.forall_mem_cons.mpr ⟨lw_p90, List.forall_mem_cons.mpr ⟨lw_p91, List.forall_mem_cons.mpr ⟨lw_p92, List.forall_mem_cons.mpr ⟨lw_p93, List.forall_mem_cons.mpr ⟨lw_p94, List.forall_mem_cons.mpr ⟨lw_p95, fun _ h => absurd h List.not_mem_nil⟩⟩⟩⟩⟩⟩⟩⟩⟩⟩⟩⟩⟩⟩⟩⟩
theorem lw_p96 : lw_okq (⟨"CountGatesModel", "laysLeft", "(IIZ)V"⟩, 53) := ⟨⟨by decide +kernel, by decide +kernel⟩, List.mem_of_getElem? (i := 1129) (by decide +kernel), List.mem_of_getElem? (i := 1653) (by decide +kernel), List.mem_of_getElem? (i := 1654) (by decide +kernel)⟩
theorem lw_p97 : lw_okq (⟨"CountGatesModel", "nextPlace", "(II)I"⟩, 53) := ⟨⟨by decide +kernel, by decide +kernel⟩, List.mem_of_getElem? (i := 1129) (by decide +kernel), List.mem_of_getElem? (i := 1660) (by decide +kernel), List.mem_of_getElem? (i := 1661) (by decide +kernel)⟩
theorem lw_p98 : lw_okq (⟨"CountGatesModel", "placeOf", "(I)I"⟩, 53) := ⟨⟨by decide +kernel, by decide +kernel⟩, List.mem_of_getElem? (i := 1129) (by decide +kernel), List.mem_of_getElem? (i := 1664) (by decide +kernel), List.mem_of_getElem? (i := 1665) (by decide +kernel)⟩
theorem lw_p99 : lw_okq (⟨"CountGatesModel", "laysGone", "(II)V"⟩, 53) := ⟨⟨by decide +kernel, by decide +kernel⟩, List.mem_of_getElem? (i := 1129) (by decide +kernel), List.mem_of_getElem? (i := 1681) (by decide +kernel), List.mem_of_getElem? (i := 1682) (by decide +kernel)⟩
theorem lw_p100 : lw_okq (⟨"CountGatesModel", "comesTo", "(I)Z"⟩, 53) := ⟨⟨by decide +kernel, by decide +kernel⟩, List.mem_of_getElem? (i := 1129) (by decide +kernel), List.mem_of_getElem? (i := 1692) (by decide +kernel), List.mem_of_getElem? (i := 1693) (by decide +kernel)⟩
theorem lw_p101 : lw_okq (⟨"CountGatesModel", "laysParts", "(IJ)V"⟩, 53) := ⟨⟨by decide +kernel, by decide +kernel⟩, List.mem_of_getElem? (i := 1129) (by decide +kernel), List.mem_of_getElem? (i := 1701) (by decide +kernel), List.mem_of_getElem? (i := 1702) (by decide +kernel)⟩
theorem lw_p102 : lw_okq (⟨"CountGatesModel", "steps", "(Z)V"⟩, 53) := ⟨⟨by decide +kernel, by decide +kernel⟩, List.mem_of_getElem? (i := 1129) (by decide +kernel), List.mem_of_getElem? (i := 1705) (by decide +kernel), List.mem_of_getElem? (i := 1706) (by decide +kernel)⟩
theorem lw_p103 : lw_okq (⟨"CountGatesModel", "gatesFrom", "(I)I"⟩, 53) := ⟨⟨by decide +kernel, by decide +kernel⟩, List.mem_of_getElem? (i := 1129) (by decide +kernel), List.mem_of_getElem? (i := 1709) (by decide +kernel), List.mem_of_getElem? (i := 1710) (by decide +kernel)⟩
theorem lw_p104 : lw_okq (⟨"CountGatesModel", "partsAt", "(II)J"⟩, 53) := ⟨⟨by decide +kernel, by decide +kernel⟩, List.mem_of_getElem? (i := 1129) (by decide +kernel), List.mem_of_getElem? (i := 1713) (by decide +kernel), List.mem_of_getElem? (i := 1714) (by decide +kernel)⟩
theorem lw_p105 : lw_okq (⟨"CountGatesModel", "hasWay", "(III)Z"⟩, 53) := ⟨⟨by decide +kernel, by decide +kernel⟩, List.mem_of_getElem? (i := 1129) (by decide +kernel), List.mem_of_getElem? (i := 1730) (by decide +kernel), List.mem_of_getElem? (i := 1731) (by decide +kernel)⟩
theorem lw_p106 : lw_okq (⟨"CountGatesModel", "fixedAt", "(IIII)I"⟩, 53) := ⟨⟨by decide +kernel, by decide +kernel⟩, List.mem_of_getElem? (i := 1129) (by decide +kernel), List.mem_of_getElem? (i := 1734) (by decide +kernel), List.mem_of_getElem? (i := 1735) (by decide +kernel)⟩
theorem lw_p107 : lw_okq (⟨"CountGatesModel", "canBeKind", "(I)Z"⟩, 53) := ⟨⟨by decide +kernel, by decide +kernel⟩, List.mem_of_getElem? (i := 1129) (by decide +kernel), List.mem_of_getElem? (i := 1761) (by decide +kernel), List.mem_of_getElem? (i := 1762) (by decide +kernel)⟩
theorem lw_p108 : lw_okq (⟨"CountGatesModel", "outOf", "(III)I"⟩, 53) := ⟨⟨by decide +kernel, by decide +kernel⟩, List.mem_of_getElem? (i := 1129) (by decide +kernel), List.mem_of_getElem? (i := 1765) (by decide +kernel), List.mem_of_getElem? (i := 1766) (by decide +kernel)⟩
theorem lw_p109 : lw_okq (⟨"CountGatesModel", "mostAlike", "(III)I"⟩, 53) := ⟨⟨by decide +kernel, by decide +kernel⟩, List.mem_of_getElem? (i := 1129) (by decide +kernel), List.mem_of_getElem? (i := 1774) (by decide +kernel), List.mem_of_getElem? (i := 1775) (by decide +kernel)⟩
theorem lw_p110 : lw_okq (⟨"CountGatesModel", "laysAside", "(I)V"⟩, 53) := ⟨⟨by decide +kernel, by decide +kernel⟩, List.mem_of_getElem? (i := 1129) (by decide +kernel), List.mem_of_getElem? (i := 1791) (by decide +kernel), List.mem_of_getElem? (i := 1792) (by decide +kernel)⟩
theorem lw_p111 : lw_okq (⟨"CountGatesModel", "runs", "(I)Z"⟩, 53) := ⟨⟨by decide +kernel, by decide +kernel⟩, List.mem_of_getElem? (i := 1129) (by decide +kernel), List.mem_of_getElem? (i := 1795) (by decide +kernel), List.mem_of_getElem? (i := 1796) (by decide +kernel)⟩
def lw_privs_7 : List (MethodName × Nat) := [(⟨"CountGatesModel", "laysLeft", "(IIZ)V"⟩, 53), (⟨"CountGatesModel", "nextPlace", "(II)I"⟩, 53), (⟨"CountGatesModel", "placeOf", "(I)I"⟩, 53), (⟨"CountGatesModel", "laysGone", "(II)V"⟩, 53), (⟨"CountGatesModel", "comesTo", "(I)Z"⟩, 53), (⟨"CountGatesModel", "laysParts", "(IJ)V"⟩, 53), (⟨"CountGatesModel", "steps", "(Z)V"⟩, 53), (⟨"CountGatesModel", "gatesFrom", "(I)I"⟩, 53), (⟨"CountGatesModel", "partsAt", "(II)J"⟩, 53), (⟨"CountGatesModel", "hasWay", "(III)Z"⟩, 53), (⟨"CountGatesModel", "fixedAt", "(IIII)I"⟩, 53), (⟨"CountGatesModel", "canBeKind", "(I)Z"⟩, 53), (⟨"CountGatesModel", "outOf", "(III)I"⟩, 53), (⟨"CountGatesModel", "mostAlike", "(III)I"⟩, 53), (⟨"CountGatesModel", "laysAside", "(I)V"⟩, 53), (⟨"CountGatesModel", "runs", "(I)Z"⟩, 53)]
theorem lw_r7 : ∀ q ∈ lw_privs_7, lw_okq q := List.forall_mem_cons.mpr ⟨lw_p96, List.forall_mem_cons.mpr ⟨lw_p97, List.forall_mem_cons.mpr ⟨lw_p98, List.forall_mem_cons.mpr ⟨lw_p99, List.forall_mem_cons.mpr ⟨lw_p100, List.forall_mem_cons.mpr ⟨lw_p101, List.forall_mem_cons.mpr ⟨lw_p102, List.forall_mem_cons.mpr ⟨lw_p103, List.forall_mem_cons.mpr ⟨lw_p104, List.forall_mem_cons.mpr ⟨lw_p105, List.forall_mem_cons.mpr ⟨lw_p106, List.forall_mem_cons.mpr ⟨lw_p107, List.forall_mem_cons.mpr ⟨lw_p108, List.forall_mem_cons.mpr ⟨lw_p109, List.forall_mem_cons.mpr ⟨lw_p110, List.forall_mem_cons.mpr ⟨lw_p111, fun _ h => absurd h List.not_mem_nil⟩⟩⟩⟩⟩⟩⟩⟩⟩⟩⟩⟩⟩⟩⟩⟩
theorem lw_p112 : lw_okq (⟨"CountGatesModel", "goesAlong", "(IZ)V"⟩, 53) := ⟨⟨by decide +kernel, by decide +kernel⟩, List.mem_of_getElem? (i := 1129) (by decide +kernel), List.mem_of_getElem? (i := 1799) (by decide +kernel), List.mem_of_getElem? (i := 1800) (by decide +kernel)⟩
theorem lw_p113 : lw_okq (⟨"CountGatesModel", "obeys", "()I"⟩, 53) := ⟨⟨by decide +kernel, by decide +kernel⟩, List.mem_of_getElem? (i := 1129) (by decide +kernel), List.mem_of_getElem? (i := 1803) (by decide +kernel), List.mem_of_getElem? (i := 1804) (by decide +kernel)⟩
theorem lw_p114 : lw_okq (⟨"CountGatesModel", "takesBack", "(I)V"⟩, 53) := ⟨⟨by decide +kernel, by decide +kernel⟩, List.mem_of_getElem? (i := 1129) (by decide +kernel), List.mem_of_getElem? (i := 1811) (by decide +kernel), List.mem_of_getElem? (i := 1812) (by decide +kernel)⟩
theorem lw_p115 : lw_okq (⟨"CountGatesModel", "draws", "(I)I"⟩, 53) := ⟨⟨by decide +kernel, by decide +kernel⟩, List.mem_of_getElem? (i := 1129) (by decide +kernel), List.mem_of_getElem? (i := 1819) (by decide +kernel), List.mem_of_getElem? (i := 1820) (by decide +kernel)⟩
theorem lw_p116 : lw_okq (⟨"CountGatesModel", "allMany", "()I"⟩, 53) := ⟨⟨by decide +kernel, by decide +kernel⟩, List.mem_of_getElem? (i := 1129) (by decide +kernel), List.mem_of_getElem? (i := 1834) (by decide +kernel), List.mem_of_getElem? (i := 1835) (by decide +kernel)⟩
def lw_privs_8 : List (MethodName × Nat) := [(⟨"CountGatesModel", "goesAlong", "(IZ)V"⟩, 53), (⟨"CountGatesModel", "obeys", "()I"⟩, 53), (⟨"CountGatesModel", "takesBack", "(I)V"⟩, 53), (⟨"CountGatesModel", "draws", "(I)I"⟩, 53), (⟨"CountGatesModel", "allMany", "()I"⟩, 53)]
theorem lw_r8 : ∀ q ∈ lw_privs_8, lw_okq q := List.forall_mem_cons.mpr ⟨lw_p112, List.forall_mem_cons.mpr ⟨lw_p113, List.forall_mem_cons.mpr ⟨lw_p114, List.forall_mem_cons.mpr ⟨lw_p115, List.forall_mem_cons.mpr ⟨lw_p116, fun _ h => absurd h List.not_mem_nil⟩⟩⟩⟩⟩
def lw_privs : List (MethodName × Nat) := lw_privs_1 ++ (lw_privs_2 ++ (lw_privs_3 ++ (lw_privs_4 ++ (lw_privs_5 ++ (lw_privs_6 ++ (lw_privs_7 ++ (lw_privs_8)))))))
def lw_tbl : List Cond := k2_sels lw_privs ++ tables_1
theorem lw_privs_ok : ∀ q ∈ lw_privs, lw_okq q := by
  show ∀ q ∈ lw_privs_1 ++ (lw_privs_2 ++ (lw_privs_3 ++ (lw_privs_4 ++ (lw_privs_5 ++ (lw_privs_6 ++ (lw_privs_7 ++ (lw_privs_8))))))), lw_okq q
  exact List.forall_mem_append.mpr ⟨lw_r1, List.forall_mem_append.mpr ⟨lw_r2, List.forall_mem_append.mpr ⟨lw_r3, List.forall_mem_append.mpr ⟨lw_r4, List.forall_mem_append.mpr ⟨lw_r5, List.forall_mem_append.mpr ⟨lw_r6, List.forall_mem_append.mpr ⟨lw_r7, lw_r8⟩⟩⟩⟩⟩⟩⟩
end
section
section NAMES
def RX0 : String := "CountGates$Asker"
def TX0 : u_T := fun k => match k with
  | 0 => ("CountGates$Asker", "words", "[I", true)
  | 1 => ("CountGates$Asker", "stack", "[I", true)
  | _ => ("CountGates$Asker", "firstTime", "[I", true)
def tyX0 : Nat → FieldType := fun k => match k with
  | 0 => .array .int
  | 1 => .array .int
  | _ => .array .int
theorem nmX0 : ∀ a, a < 3 → ∀ b, b < 3 → a ≠ b → (TX0 a).2.1 ≠ (TX0 b).2.1 := by decide +kernel
theorem tyX0_ok : ∀ k, k < 3 → parseFieldDescriptor (TX0 k).2.2.1 = some (tyX0 k) := by decide +kernel
abbrev cX0_init : ByteArray := prog_2_method_1_code
def yX0_init : MethodName := ⟨RX0, "<init>", "()V"⟩
abbrev cX0_regard : ByteArray := prog_2_method_2_code
def yX0_regard : MethodName := ⟨RX0, "regard", "(LCountGates$State;III)V"⟩
abbrev cX0_regardUnknown : ByteArray := prog_2_method_3_code
def yX0_regardUnknown : MethodName := ⟨RX0, "regardUnknown", "(LCountGates$State;III)V"⟩
abbrev cX0_told : ByteArray := prog_2_method_4_code
def yX0_told : MethodName := ⟨RX0, "told", "(LCountGates$State;I)I"⟩
abbrev cX0_can : ByteArray := prog_2_method_5_code
def yX0_can : MethodName := ⟨RX0, "can", "(LCountGates$State;II)Z"⟩
abbrev cX0_canBits : ByteArray := prog_2_method_6_code
def yX0_canBits : MethodName := ⟨RX0, "canBits", "(LCountGates$State;I)I"⟩
abbrev cX0_move : ByteArray := prog_2_method_7_code
def yX0_move : MethodName := ⟨RX0, "move", "(LCountGates$State;II)V"⟩
abbrev cX0_roundAndRound : ByteArray := prog_2_method_8_code
def yX0_roundAndRound : MethodName := ⟨RX0, "roundAndRound", "(LCountGates$State;IIZ)I"⟩
def RX1 : String := "CountGates$Doer"
def TX1 : u_T := fun k => match k with
  | 0 => ("CountGates$Doer", "undoable", "I", false)
  | 1 => ("CountGates$Doer", "rows", "[I", true)
  | 2 => ("CountGates$Doer", "state", "LCountGates$State;", true)
  | 3 => ("CountGates$Doer", "asker", "LCountGates$Asker;", true)
  | 4 => ("CountGates$Doer", "stateAhead", "LCountGates$State;", true)
  | 5 => ("CountGates$Doer", "rowsAhead", "[I", true)
  | _ => ("CountGates$Doer", "undoableAhead", "I", false)
def tyX1 : Nat → FieldType := fun k => match k with
  | 0 => .int
  | 1 => .array .int
  | 2 => .object "CountGates$State"
  | 3 => .object "CountGates$Asker"
  | 4 => .object "CountGates$State"
  | 5 => .array .int
  | _ => .int
theorem nmX1 : ∀ a, a < 7 → ∀ b, b < 7 → a ≠ b → (TX1 a).2.1 ≠ (TX1 b).2.1 := by decide +kernel
theorem tyX1_ok : ∀ k, k < 7 → parseFieldDescriptor (TX1 k).2.2.1 = some (tyX1 k) := by decide +kernel
abbrev cX1_init : ByteArray := prog_3_method_1_code
def yX1_init : MethodName := ⟨RX1, "<init>", "(LCountGates$State;LCountGates$Asker;)V"⟩
abbrev cX1_sendThrough : ByteArray := prog_3_method_2_code
def yX1_sendThrough : MethodName := ⟨RX1, "sendThrough", "(II)I"⟩
abbrev cX1_flip : ByteArray := prog_3_method_3_code
def yX1_flip : MethodName := ⟨RX1, "flip", "(I)I"⟩
abbrev cX1_changeArm : ByteArray := prog_3_method_4_code
def yX1_changeArm : MethodName := ⟨RX1, "changeArm", "(II)I"⟩
abbrev cX1_nextDay : ByteArray := prog_3_method_5_code
def yX1_nextDay : MethodName := ⟨RX1, "nextDay", "()I"⟩
abbrev cX1_takeBack : ByteArray := prog_3_method_6_code
def yX1_takeBack : MethodName := ⟨RX1, "takeBack", "()I"⟩
abbrev cX1_keep : ByteArray := prog_3_method_7_code
def yX1_keep : MethodName := ⟨RX1, "keep", "(IIIII)V"⟩
abbrev cX1_keepAhead : ByteArray := prog_3_method_8_code
def yX1_keepAhead : MethodName := ⟨RX1, "keepAhead", "()V"⟩
abbrev cX1_restoreAhead : ByteArray := prog_3_method_9_code
def yX1_restoreAhead : MethodName := ⟨RX1, "restoreAhead", "()V"⟩
def RX2 : String := "CountGates$Draws"
def TX2 : u_T := fun k => match k with
  | 0 => ("CountGates$Draws", "paper", "LCountGates$State;", true)
  | 1 => ("CountGates$Draws", "asker", "LCountGates$Asker;", true)
  | _ => ("CountGates$Draws", "seed", "I", false)
def tyX2 : Nat → FieldType := fun k => match k with
  | 0 => .object "CountGates$State"
  | 1 => .object "CountGates$Asker"
  | _ => .int
theorem nmX2 : ∀ a, a < 3 → ∀ b, b < 3 → a ≠ b → (TX2 a).2.1 ≠ (TX2 b).2.1 := by decide +kernel
theorem tyX2_ok : ∀ k, k < 3 → parseFieldDescriptor (TX2 k).2.2.1 = some (tyX2 k) := by decide +kernel
abbrev cX2_init : ByteArray := prog_4_method_1_code
def yX2_init : MethodName := ⟨RX2, "<init>", "(LCountGates$Asker;)V"⟩
abbrev cX2_run : ByteArray := prog_4_method_2_code
def yX2_run : MethodName := ⟨RX2, "run", "(LCountGates$State;II)I"⟩
abbrev cX2_draw : ByteArray := prog_4_method_3_code
def yX2_draw : MethodName := ⟨RX2, "draw", "(I)I"⟩
abbrev cX2_behind : ByteArray := prog_4_method_4_code
def yX2_behind : MethodName := ⟨RX2, "behind", "(II)I"⟩
def RX3 : String := "CountGates$Guesser"
def TX3 : u_T := fun k => match k with
  | 0 => ("CountGates$Guesser", "asker", "LCountGates$Asker;", true)
  | 1 => ("CountGates$Guesser", "turned", "[I", true)
  | _ => ("CountGates$Guesser", "bitten", "[J", true)
def tyX3 : Nat → FieldType := fun k => match k with
  | 0 => .object "CountGates$Asker"
  | 1 => .array .int
  | _ => .array .long
theorem nmX3 : ∀ a, a < 3 → ∀ b, b < 3 → a ≠ b → (TX3 a).2.1 ≠ (TX3 b).2.1 := by decide +kernel
theorem tyX3_ok : ∀ k, k < 3 → parseFieldDescriptor (TX3 k).2.2.1 = some (tyX3 k) := by decide +kernel
abbrev cX3_init : ByteArray := prog_5_method_1_code
def yX3_init : MethodName := ⟨RX3, "<init>", "(LCountGates$Asker;)V"⟩
abbrev cX3_comesOut : ByteArray := prog_5_method_2_code
def yX3_comesOut : MethodName := ⟨RX3, "comesOut", "(LCountGates$State;III)I"⟩
abbrev cX3_possible : ByteArray := prog_5_method_3_code
def yX3_possible : MethodName := ⟨RX3, "possible", "(LCountGates$State;)I"⟩
abbrev cX3_bestTrial : ByteArray := prog_5_method_4_code
def yX3_bestTrial : MethodName := ⟨RX3, "bestTrial", "(LCountGates$State;IZ)I"⟩
abbrev cX3_mostAlike : ByteArray := prog_5_method_5_code
def yX3_mostAlike : MethodName := ⟨RX3, "mostAlike", "()I"⟩
abbrev cX3_fewerBitten : ByteArray := prog_5_method_6_code
def yX3_fewerBitten : MethodName := ⟨RX3, "fewerBitten", "(III)J"⟩
def RX4 : String := "CountGates$Reader"
def TX4 : u_T := fun k => match k with
  | 0 => ("CountGates$Reader", "text", "LCountGates$Text;", true)
  | 1 => ("CountGates$Reader", "fault", "I", false)
  | 2 => ("CountGates$Reader", "token", "[I", true)
  | 3 => ("CountGates$Reader", "value", "[I", true)
  | 4 => ("CountGates$Reader", "place", "[I", true)
  | 5 => ("CountGates$Reader", "tokens", "I", false)
  | 6 => ("CountGates$Reader", "now", "I", false)
  | 7 => ("CountGates$Reader", "parts", "I", false)
  | _ => ("CountGates$Reader", "asOrders", "Z", false)
def tyX4 : Nat → FieldType := fun k => match k with
  | 0 => .object "CountGates$Text"
  | 1 => .int
  | 2 => .array .int
  | 3 => .array .int
  | 4 => .array .int
  | 5 => .int
  | 6 => .int
  | 7 => .int
  | _ => .boolean
theorem nmX4 : ∀ a, a < 9 → ∀ b, b < 9 → a ≠ b → (TX4 a).2.1 ≠ (TX4 b).2.1 := by decide +kernel
theorem tyX4_ok : ∀ k, k < 9 → parseFieldDescriptor (TX4 k).2.2.1 = some (tyX4 k) := by decide +kernel
abbrev cX4_init : ByteArray := prog_6_method_1_code
def yX4_init : MethodName := ⟨RX4, "<init>", "()V"⟩
abbrev cX4_read : ByteArray := prog_6_method_2_code
def yX4_read : MethodName := ⟨RX4, "read", "(LCountGates$Tape;Z)Z"⟩
abbrev cX4_split : ByteArray := prog_6_method_3_code
def yX4_split : MethodName := ⟨RX4, "split", "(LCountGates$Tape;)V"⟩
abbrev cX4_behindToken : ByteArray := prog_6_method_4_code
def yX4_behindToken : MethodName := ⟨RX4, "behindToken", "(LCountGates$Tape;I)I"⟩
abbrev cX4_addToken : ByteArray := prog_6_method_5_code
def yX4_addToken : MethodName := ⟨RX4, "addToken", "(LCountGates$Tape;II)V"⟩
abbrev cX4_sortOf : ByteArray := prog_6_method_6_code
def yX4_sortOf : MethodName := ⟨RX4, "sortOf", "(I)I"⟩
abbrev cX4_wordOf : ByteArray := prog_6_method_7_code
def yX4_wordOf : MethodName := ⟨RX4, "wordOf", "(LCountGates$Tape;II)I"⟩
abbrev cX4_here : ByteArray := prog_6_method_8_code
def yX4_here : MethodName := ⟨RX4, "here", "()I"⟩
abbrev cX4_faulty : ByteArray := prog_6_method_9_code
def yX4_faulty : MethodName := ⟨RX4, "faulty", "()Z"⟩
abbrev cX4_take : ByteArray := prog_6_method_10_code
def yX4_take : MethodName := ⟨RX4, "take", "(I)Z"⟩
abbrev cX4_clause : ByteArray := prog_6_method_11_code
def yX4_clause : MethodName := ⟨RX4, "clause", "()Z"⟩
abbrev cX4_times : ByteArray := prog_6_method_12_code
def yX4_times : MethodName := ⟨RX4, "times", "(I)Z"⟩
abbrev cX4_test : ByteArray := prog_6_method_13_code
def yX4_test : MethodName := ⟨RX4, "test", "(II)Z"⟩
abbrev cX4_plain : ByteArray := prog_6_method_14_code
def yX4_plain : MethodName := ⟨RX4, "plain", "(I)Z"⟩
abbrev cX4_comparison : ByteArray := prog_6_method_15_code
def yX4_comparison : MethodName := ⟨RX4, "comparison", "(I)Z"⟩
abbrev cX4_inBrackets : ByteArray := prog_6_method_16_code
def yX4_inBrackets : MethodName := ⟨RX4, "inBrackets", "(II)Z"⟩
abbrev cX4_sum : ByteArray := prog_6_method_17_code
def yX4_sum : MethodName := ⟨RX4, "sum", "(I)Z"⟩
abbrev cX4_term : ByteArray := prog_6_method_18_code
def yX4_term : MethodName := ⟨RX4, "term", "(I)Z"⟩
abbrev cX4_part : ByteArray := prog_6_method_19_code
def yX4_part : MethodName := ⟨RX4, "part", "(I)Z"⟩
abbrev cX4_lawWord : ByteArray := prog_6_method_20_code
def yX4_lawWord : MethodName := ⟨RX4, "lawWord", "()I"⟩
abbrev cX4_orderWord : ByteArray := prog_6_method_21_code
def yX4_orderWord : MethodName := ⟨RX4, "orderWord", "()I"⟩
abbrev cX4_numberedWord : ByteArray := prog_6_method_22_code
def yX4_numberedWord : MethodName := ⟨RX4, "numberedWord", "(II)I"⟩
def RX5 : String := "CountGates$Runner"
def TX5 : u_T := fun k => match k with
  | 0 => ("CountGates$Runner", "done", "I", false)
  | 1 => ("CountGates$Runner", "latest", "I", false)
  | 2 => ("CountGates$Runner", "state", "LCountGates$State;", true)
  | 3 => ("CountGates$Runner", "doer", "LCountGates$Doer;", true)
  | 4 => ("CountGates$Runner", "words", "[I", true)
  | _ => ("CountGates$Runner", "stack", "[I", true)
def tyX5 : Nat → FieldType := fun k => match k with
  | 0 => .int
  | 1 => .int
  | 2 => .object "CountGates$State"
  | 3 => .object "CountGates$Doer"
  | 4 => .array .int
  | _ => .array .int
theorem nmX5 : ∀ a, a < 6 → ∀ b, b < 6 → a ≠ b → (TX5 a).2.1 ≠ (TX5 b).2.1 := by decide +kernel
theorem tyX5_ok : ∀ k, k < 6 → parseFieldDescriptor (TX5 k).2.2.1 = some (tyX5 k) := by decide +kernel
abbrev cX5_init : ByteArray := prog_7_method_1_code
def yX5_init : MethodName := ⟨RX5, "<init>", "(LCountGates$State;LCountGates$Doer;)V"⟩
abbrev cX5_run : ByteArray := prog_7_method_2_code
def yX5_run : MethodName := ⟨RX5, "run", "(LCountGates$Text;)I"⟩
abbrev cX5_runOnce : ByteArray := prog_7_method_3_code
def yX5_runOnce : MethodName := ⟨RX5, "runOnce", "(LCountGates$Text;I)Z"⟩
abbrev cX5_lookRound : ByteArray := prog_7_method_4_code
def yX5_lookRound : MethodName := ⟨RX5, "lookRound", "()V"⟩
def RX6 : String := "CountGates$Search"
def TX6 : u_T := fun k => match k with
  | 0 => ("CountGates$Search", "paper", "LCountGates$State;", true)
  | 1 => ("CountGates$Search", "asker", "LCountGates$Asker;", true)
  | 2 => ("CountGates$Search", "goer", "I", false)
  | 3 => ("CountGates$Search", "outs", "[I", true)
  | 4 => ("CountGates$Search", "queue", "[I", true)
  | 5 => ("CountGates$Search", "steps", "[I", true)
  | 6 => ("CountGates$Search", "lastGate", "[I", true)
  | 7 => ("CountGates$Search", "placeAhead", "[I", true)
  | 8 => ("CountGates$Search", "otherSteps", "[I", true)
  | 9 => ("CountGates$Search", "tolls", "[I", true)
  | 10 => ("CountGates$Search", "settled", "[I", true)
  | 11 => ("CountGates$Search", "flowing", "[J", true)
  | _ => ("CountGates$Search", "flowingThen", "[J", true)
def tyX6 : Nat → FieldType := fun k => match k with
  | 0 => .object "CountGates$State"
  | 1 => .object "CountGates$Asker"
  | 2 => .int
  | 3 => .array .int
  | 4 => .array .int
  | 5 => .array .int
  | 6 => .array .int
  | 7 => .array .int
  | 8 => .array .int
  | 9 => .array .int
  | 10 => .array .int
  | 11 => .array .long
  | _ => .array .long
theorem nmX6 : ∀ a, a < 13 → ∀ b, b < 13 → a ≠ b → (TX6 a).2.1 ≠ (TX6 b).2.1 := by decide +kernel
theorem tyX6_ok : ∀ k, k < 13 → parseFieldDescriptor (TX6 k).2.2.1 = some (tyX6 k) := by decide +kernel
abbrev cX6_init : ByteArray := prog_8_method_1_code
def yX6_init : MethodName := ⟨RX6, "<init>", "(LCountGates$Asker;)V"⟩
abbrev cX6_begin : ByteArray := prog_8_method_2_code
def yX6_begin : MethodName := ⟨RX6, "begin", "(LCountGates$State;I)V"⟩
abbrev cX6_tryLaw : ByteArray := prog_8_method_3_code
def yX6_tryLaw : MethodName := ⟨RX6, "tryLaw", "(I)V"⟩
abbrev cX6_tryArm : ByteArray := prog_8_method_4_code
def yX6_tryArm : MethodName := ⟨RX6, "tryArm", "(II)V"⟩
abbrev cX6_start : ByteArray := prog_8_method_5_code
def yX6_start : MethodName := ⟨RX6, "start", "()I"⟩
abbrev cX6_isAt : ByteArray := prog_8_method_6_code
def yX6_isAt : MethodName := ⟨RX6, "isAt", "(III)Z"⟩
abbrev cX6_behind : ByteArray := prog_8_method_7_code
def yX6_behind : MethodName := ⟨RX6, "behind", "(II)I"⟩
abbrev cX6_find : ByteArray := prog_8_method_8_code
def yX6_find : MethodName := ⟨RX6, "find", "(II)I"⟩
abbrev cX6_findAll : ByteArray := prog_8_method_9_code
def yX6_findAll : MethodName := ⟨RX6, "findAll", "()V"⟩
abbrev cX6_wayLength : ByteArray := prog_8_method_10_code
def yX6_wayLength : MethodName := ⟨RX6, "wayLength", "(II)I"⟩
abbrev cX6_wayGate : ByteArray := prog_8_method_11_code
def yX6_wayGate : MethodName := ⟨RX6, "wayGate", "(III)I"⟩
abbrev cX6_manyBits : ByteArray := prog_8_method_12_code
def yX6_manyBits : MethodName := ⟨RX6, "manyBits", "(I)I"⟩
abbrev cX6_parkBits : ByteArray := prog_8_method_13_code
def yX6_parkBits : MethodName := ⟨RX6, "parkBits", "()I"⟩
abbrev cX6_leastToll : ByteArray := prog_8_method_14_code
def yX6_leastToll : MethodName := ⟨RX6, "leastToll", "(II)I"⟩
abbrev cX6_cheapestUnsettled : ByteArray := prog_8_method_15_code
def yX6_cheapestUnsettled : MethodName := ⟨RX6, "cheapestUnsettled", "()I"⟩
abbrev cX6_payInto : ByteArray := prog_8_method_16_code
def yX6_payInto : MethodName := ⟨RX6, "payInto", "(II)V"⟩
abbrev cX6_flow : ByteArray := prog_8_method_17_code
def yX6_flow : MethodName := ⟨RX6, "flow", "(JIZ)V"⟩
abbrev cX6_flowFrom : ByteArray := prog_8_method_18_code
def yX6_flowFrom : MethodName := ⟨RX6, "flowFrom", "(IZ)V"⟩
abbrev cX6_flowed : ByteArray := prog_8_method_19_code
def yX6_flowed : MethodName := ⟨RX6, "flowed", "(II)J"⟩
abbrev cX6_firstFix : ByteArray := prog_8_method_20_code
def yX6_firstFix : MethodName := ⟨RX6, "firstFix", "(II)I"⟩
abbrev cX6_fewestShut : ByteArray := prog_8_method_21_code
def yX6_fewestShut : MethodName := ⟨RX6, "fewestShut", "(I)I"⟩
abbrev cX6_shuts : ByteArray := prog_8_method_22_code
def yX6_shuts : MethodName := ⟨RX6, "shuts", "(II)Z"⟩
abbrev cX6_keepSteps : ByteArray := prog_8_method_23_code
def yX6_keepSteps : MethodName := ⟨RX6, "keepSteps", "()V"⟩
abbrev cX6_meetingPlace : ByteArray := prog_8_method_24_code
def yX6_meetingPlace : MethodName := ⟨RX6, "meetingPlace", "()I"⟩
abbrev cX6_longerSteps : ByteArray := prog_8_method_25_code
def yX6_longerSteps : MethodName := ⟨RX6, "longerSteps", "(I)I"⟩
def RX7 : String := "CountGates$State"
def TX7 : u_T := fun k => match k with
  | 0 => ("CountGates$State", "gates", "I", false)
  | 1 => ("CountGates$State", "from", "[I", true)
  | 2 => ("CountGates$State", "to", "[I", true)
  | 3 => ("CountGates$State", "kind", "[I", true)
  | 4 => ("CountGates$State", "arm", "[I", true)
  | 5 => ("CountGates$State", "open", "[Z", true)
  | 6 => ("CountGates$State", "goers", "I", false)
  | 7 => ("CountGates$State", "park", "[I", true)
  | 8 => ("CountGates$State", "many", "[I", true)
  | 9 => ("CountGates$State", "hurry", "[I", true)
  | 10 => ("CountGates$State", "paid", "[I", true)
  | 11 => ("CountGates$State", "sights", "I", false)
  | 12 => ("CountGates$State", "sightArm", "[I", true)
  | 13 => ("CountGates$State", "sightMany", "[I", true)
  | 14 => ("CountGates$State", "sightThen", "[I", true)
  | 15 => ("CountGates$State", "terms", "[I", true)
  | 16 => ("CountGates$State", "laws", "I", false)
  | 17 => ("CountGates$State", "texts", "[LCountGates$Text;", true)
  | _ => ("CountGates$State", "force", "I", false)
def tyX7 : Nat → FieldType := fun k => match k with
  | 0 => .int
  | 1 => .array .int
  | 2 => .array .int
  | 3 => .array .int
  | 4 => .array .int
  | 5 => .array .boolean
  | 6 => .int
  | 7 => .array .int
  | 8 => .array .int
  | 9 => .array .int
  | 10 => .array .int
  | 11 => .int
  | 12 => .array .int
  | 13 => .array .int
  | 14 => .array .int
  | 15 => .array .int
  | 16 => .int
  | 17 => .array (.object "CountGates$Text")
  | _ => .int
theorem nmX7 : ∀ a, a < 19 → ∀ b, b < 19 → a ≠ b → (TX7 a).2.1 ≠ (TX7 b).2.1 := by decide +kernel
theorem tyX7_ok : ∀ k, k < 19 → parseFieldDescriptor (TX7 k).2.2.1 = some (tyX7 k) := by decide +kernel
abbrev cX7_init : ByteArray := prog_9_method_1_code
def yX7_init : MethodName := ⟨RX7, "<init>", "()V"⟩
abbrev cX7_hasGate : ByteArray := prog_9_method_2_code
def yX7_hasGate : MethodName := ⟨RX7, "hasGate", "(I)Z"⟩
abbrev cX7_hasGoer : ByteArray := prog_9_method_3_code
def yX7_hasGoer : MethodName := ⟨RX7, "hasGoer", "(I)Z"⟩
abbrev cX7_hasLaw : ByteArray := prog_9_method_4_code
def yX7_hasLaw : MethodName := ⟨RX7, "hasLaw", "(I)Z"⟩
abbrev cX7_inForce : ByteArray := prog_9_method_5_code
def yX7_inForce : MethodName := ⟨RX7, "inForce", "()LCountGates$Text;"⟩
abbrev cX7_addGate : ByteArray := prog_9_method_6_code
def yX7_addGate : MethodName := ⟨RX7, "addGate", "(IIII)I"⟩
abbrev cX7_addGoer : ByteArray := prog_9_method_7_code
def yX7_addGoer : MethodName := ⟨RX7, "addGoer", "(III)I"⟩
abbrev cX7_addSight : ByteArray := prog_9_method_8_code
def yX7_addSight : MethodName := ⟨RX7, "addSight", "(III)I"⟩
abbrev cX7_addLaw : ByteArray := prog_9_method_9_code
def yX7_addLaw : MethodName := ⟨RX7, "addLaw", "(LCountGates$Text;)I"⟩
abbrev cX7_changeTerm : ByteArray := prog_9_method_10_code
def yX7_changeTerm : MethodName := ⟨RX7, "changeTerm", "(II)I"⟩
abbrev cX7_allMany : ByteArray := prog_9_method_11_code
def yX7_allMany : MethodName := ⟨RX7, "allMany", "()I"⟩
abbrev cX7_copyFrom : ByteArray := prog_9_method_12_code
def yX7_copyFrom : MethodName := ⟨RX7, "copyFrom", "(LCountGates$State;)V"⟩
def RX8 : String := "CountGates$Tape"
def TX8 : u_T := fun k => match k with
  | 0 => ("CountGates$Tape", "bytes", "[I", true)
  | _ => ("CountGates$Tape", "length", "I", false)
def tyX8 : Nat → FieldType := fun k => match k with
  | 0 => .array .int
  | _ => .int
theorem nmX8 : ∀ a, a < 2 → ∀ b, b < 2 → a ≠ b → (TX8 a).2.1 ≠ (TX8 b).2.1 := by decide +kernel
theorem tyX8_ok : ∀ k, k < 2 → parseFieldDescriptor (TX8 k).2.2.1 = some (tyX8 k) := by decide +kernel
abbrev cX8_init : ByteArray := prog_10_method_1_code
def yX8_init : MethodName := ⟨RX8, "<init>", "()V"⟩
abbrev cX8_take : ByteArray := prog_10_method_2_code
def yX8_take : MethodName := ⟨RX8, "take", "(IIIII)I"⟩
abbrev cX8_takeFour : ByteArray := prog_10_method_3_code
def yX8_takeFour : MethodName := ⟨RX8, "takeFour", "(I)V"⟩
abbrev cX8_shorten : ByteArray := prog_10_method_4_code
def yX8_shorten : MethodName := ⟨RX8, "shorten", "(I)I"⟩
abbrev cX8_clear : ByteArray := prog_10_method_5_code
def yX8_clear : MethodName := ⟨RX8, "clear", "()V"⟩
abbrev cX8_byteAt : ByteArray := prog_10_method_6_code
def yX8_byteAt : MethodName := ⟨RX8, "byteAt", "(I)I"⟩
def RX9 : String := "CountGates$Text"
def TX9 : u_T := fun k => match k with
  | 0 => ("CountGates$Text", "clauses", "I", false)
  | 1 => ("CountGates$Text", "size", "I", false)
  | 2 => ("CountGates$Text", "verb", "[I", true)
  | 3 => ("CountGates$Text", "times", "[I", true)
  | 4 => ("CountGates$Text", "bounds", "[I", true)
  | _ => ("CountGates$Text", "code", "[I", true)
def tyX9 : Nat → FieldType := fun k => match k with
  | 0 => .int
  | 1 => .int
  | 2 => .array .int
  | 3 => .array .int
  | 4 => .array .int
  | _ => .array .int
theorem nmX9 : ∀ a, a < 6 → ∀ b, b < 6 → a ≠ b → (TX9 a).2.1 ≠ (TX9 b).2.1 := by decide +kernel
theorem tyX9_ok : ∀ k, k < 6 → parseFieldDescriptor (TX9 k).2.2.1 = some (tyX9 k) := by decide +kernel
abbrev cX9_init : ByteArray := prog_11_method_1_code
def yX9_init : MethodName := ⟨RX9, "<init>", "(II)V"⟩
abbrev cX9_copy : ByteArray := prog_11_method_2_code
def yX9_copy : MethodName := ⟨RX9, "copy", "()LCountGates$Text;"⟩
abbrev cX9_clear : ByteArray := prog_11_method_3_code
def yX9_clear : MethodName := ⟨RX9, "clear", "()V"⟩
abbrev cX9_add : ByteArray := prog_11_method_4_code
def yX9_add : MethodName := ⟨RX9, "add", "(II)I"⟩
abbrev cX9_aim : ByteArray := prog_11_method_5_code
def yX9_aim : MethodName := ⟨RX9, "aim", "(I)V"⟩
abbrev cX9_has : ByteArray := prog_11_method_6_code
def yX9_has : MethodName := ⟨RX9, "has", "(II)Z"⟩
abbrev cX9_reckon : ByteArray := prog_11_method_7_code
def yX9_reckon : MethodName := ⟨RX9, "reckon", "(II[I[I)I"⟩
abbrev cX9_join : ByteArray := prog_11_method_8_code
def yX9_join : MethodName := ⟨RX9, "join", "(IJJ)I"⟩
def RX10 : String := "CountGates"
def TX10 : u_T := fun k => match k with
  | 0 => ("CountGates", "state", "LCountGates$State;", true)
  | 1 => ("CountGates", "images", "[LCountGates$State;", true)
  | 2 => ("CountGates", "kept", "[Z", true)
  | 3 => ("CountGates", "tape", "LCountGates$Tape;", true)
  | 4 => ("CountGates", "asker", "LCountGates$Asker;", true)
  | 5 => ("CountGates", "reader", "LCountGates$Reader;", true)
  | 6 => ("CountGates", "doer", "LCountGates$Doer;", true)
  | 7 => ("CountGates", "runner", "LCountGates$Runner;", true)
  | 8 => ("CountGates", "search", "LCountGates$Search;", true)
  | 9 => ("CountGates", "guesser", "LCountGates$Guesser;", true)
  | 10 => ("CountGates", "draws", "LCountGates$Draws;", true)
  | 11 => ("CountGates", "refused", "[I", true)
  | 12 => ("CountGates", "refusedBy", "I", false)
  | 13 => ("CountGates", "faultAt", "I", false)
  | 14 => ("CountGates", "stoppedAt", "I", false)
  | _ => ("CountGates", "rusty", "I", false)
def tyX10 : Nat → FieldType := fun k => match k with
  | 0 => .object "CountGates$State"
  | 1 => .array (.object "CountGates$State")
  | 2 => .array .boolean
  | 3 => .object "CountGates$Tape"
  | 4 => .object "CountGates$Asker"
  | 5 => .object "CountGates$Reader"
  | 6 => .object "CountGates$Doer"
  | 7 => .object "CountGates$Runner"
  | 8 => .object "CountGates$Search"
  | 9 => .object "CountGates$Guesser"
  | 10 => .object "CountGates$Draws"
  | 11 => .array .int
  | 12 => .int
  | 13 => .int
  | 14 => .int
  | _ => .int
theorem nmX10 : ∀ a, a < 16 → ∀ b, b < 16 → a ≠ b → (TX10 a).2.1 ≠ (TX10 b).2.1 := by decide +kernel
theorem tyX10_ok : ∀ k, k < 16 → parseFieldDescriptor (TX10 k).2.2.1 = some (tyX10 k) := by decide +kernel
abbrev cX10_init : ByteArray := prog_1_method_1_code
def yX10_init : MethodName := ⟨RX10, "<init>", "()V"⟩
abbrev cX10_gate : ByteArray := prog_1_method_2_code
def yX10_gate : MethodName := ⟨RX10, "gate", "(IIII)I"⟩
abbrev cX10_at : ByteArray := prog_1_method_3_code
def yX10_at : MethodName := ⟨RX10, "at", "(II)I"⟩
abbrev cX10_goer : ByteArray := prog_1_method_4_code
def yX10_goer : MethodName := ⟨RX10, "goer", "(III)I"⟩
abbrev cX10_of : ByteArray := prog_1_method_5_code
def yX10_of : MethodName := ⟨RX10, "of", "(II)I"⟩
abbrev cX10_asks : ByteArray := prog_1_method_6_code
def yX10_asks : MethodName := ⟨RX10, "asks", "(IIII)I"⟩
abbrev cX10_terms : ByteArray := prog_1_method_7_code
def yX10_terms : MethodName := ⟨RX10, "terms", "(II)I"⟩
abbrev cX10_feed : ByteArray := prog_1_method_8_code
def yX10_feed : MethodName := ⟨RX10, "feed", "(IIIII)I"⟩
abbrev cX10_end : ByteArray := prog_1_method_9_code
def yX10_end : MethodName := ⟨RX10, "end", "(I)I"⟩
abbrev cX10_row : ByteArray := prog_1_method_10_code
def yX10_row : MethodName := ⟨RX10, "row", "()I"⟩
abbrev cX10_rust : ByteArray := prog_1_method_11_code
def yX10_rust : MethodName := ⟨RX10, "rust", "()I"⟩
abbrev cX10_law : ByteArray := prog_1_method_12_code
def yX10_law : MethodName := ⟨RX10, "law", "()I"⟩
abbrev cX10_orders : ByteArray := prog_1_method_13_code
def yX10_orders : MethodName := ⟨RX10, "orders", "()I"⟩
abbrev cX10_fault : ByteArray := prog_1_method_14_code
def yX10_fault : MethodName := ⟨RX10, "fault", "()I"⟩
abbrev cX10_stopped : ByteArray := prog_1_method_15_code
def yX10_stopped : MethodName := ⟨RX10, "stopped", "()I"⟩
abbrev cX10_force : ByteArray := prog_1_method_16_code
def yX10_force : MethodName := ⟨RX10, "force", "(I)I"⟩
abbrev cX10_go : ByteArray := prog_1_method_17_code
def yX10_go : MethodName := ⟨RX10, "go", "(II)I"⟩
abbrev cX10_latch : ByteArray := prog_1_method_18_code
def yX10_latch : MethodName := ⟨RX10, "latch", "(I)I"⟩
abbrev cX10_set : ByteArray := prog_1_method_19_code
def yX10_set : MethodName := ⟨RX10, "set", "(II)I"⟩
abbrev cX10_pass : ByteArray := prog_1_method_20_code
def yX10_pass : MethodName := ⟨RX10, "pass", "()I"⟩
abbrev cX10_undo : ByteArray := prog_1_method_21_code
def yX10_undo : MethodName := ⟨RX10, "undo", "()I"⟩
abbrev cX10_way : ByteArray := prog_1_method_22_code
def yX10_way : MethodName := ⟨RX10, "way", "(IIII)I"⟩
abbrev cX10_cheap : ByteArray := prog_1_method_23_code
def yX10_cheap : MethodName := ⟨RX10, "cheap", "(III)I"⟩
abbrev cX10_manys : ByteArray := prog_1_method_24_code
def yX10_manys : MethodName := ⟨RX10, "manys", "(II)I"⟩
abbrev cX10_reach : ByteArray := prog_1_method_25_code
def yX10_reach : MethodName := ⟨RX10, "reach", "(I)I"⟩
abbrev cX10_ways : ByteArray := prog_1_method_26_code
def yX10_ways : MethodName := ⟨RX10, "ways", "(IIII)J"⟩
abbrev cX10_likely : ByteArray := prog_1_method_27_code
def yX10_likely : MethodName := ⟨RX10, "likely", "(IIII)J"⟩
abbrev cX10_again : ByteArray := prog_1_method_28_code
def yX10_again : MethodName := ⟨RX10, "again", "(III)I"⟩
abbrev cX10_fixed : ByteArray := prog_1_method_29_code
def yX10_fixed : MethodName := ⟨RX10, "fixed", "(III)I"⟩
abbrev cX10_cut : ByteArray := prog_1_method_30_code
def yX10_cut : MethodName := ⟨RX10, "cut", "(III)I"⟩
abbrev cX10_meet : ByteArray := prog_1_method_31_code
def yX10_meet : MethodName := ⟨RX10, "meet", "(III)I"⟩
abbrev cX10_seen : ByteArray := prog_1_method_32_code
def yX10_seen : MethodName := ⟨RX10, "seen", "(III)I"⟩
abbrev cX10_forget : ByteArray := prog_1_method_33_code
def yX10_forget : MethodName := ⟨RX10, "forget", "()I"⟩
abbrev cX10_kinds : ByteArray := prog_1_method_34_code
def yX10_kinds : MethodName := ⟨RX10, "kinds", "()I"⟩
abbrev cX10_ask : ByteArray := prog_1_method_35_code
def yX10_ask : MethodName := ⟨RX10, "ask", "(II)I"⟩
abbrev cX10_few : ByteArray := prog_1_method_36_code
def yX10_few : MethodName := ⟨RX10, "few", "(II)J"⟩
abbrev cX10_compare : ByteArray := prog_1_method_37_code
def yX10_compare : MethodName := ⟨RX10, "compare", "(IIII)I"⟩
abbrev cX10_days : ByteArray := prog_1_method_38_code
def yX10_days : MethodName := ⟨RX10, "days", "(II)I"⟩
abbrev cX10_drawn : ByteArray := prog_1_method_39_code
def yX10_drawn : MethodName := ⟨RX10, "drawn", "(II)I"⟩
abbrev cX10_image : ByteArray := prog_1_method_40_code
def yX10_image : MethodName := ⟨RX10, "image", "(I)I"⟩
abbrev cX10_back : ByteArray := prog_1_method_41_code
def yX10_back : MethodName := ⟨RX10, "back", "(I)I"⟩
abbrev cX10_count : ByteArray := prog_1_method_42_code
def yX10_count : MethodName := ⟨RX10, "count", "(I)I"⟩
abbrev cX10_status : ByteArray := prog_1_method_43_code
def yX10_status : MethodName := ⟨RX10, "status", "()I"⟩
abbrev cX10_told : ByteArray := prog_1_method_44_code
def yX10_told : MethodName := ⟨RX10, "told", "(I)I"⟩
abbrev cX10_toldAnew : ByteArray := prog_1_method_45_code
def yX10_toldAnew : MethodName := ⟨RX10, "toldAnew", "(I)I"⟩
abbrev cX10_readTape : ByteArray := prog_1_method_46_code
def yX10_readTape : MethodName := ⟨RX10, "readTape", "(Z)Z"⟩
abbrev cX10_canSeek : ByteArray := prog_1_method_47_code
def yX10_canSeek : MethodName := ⟨RX10, "canSeek", "(III)Z"⟩
abbrev cX10_within : ByteArray := prog_1_method_48_code
def yX10_within : MethodName := ⟨RX10, "within", "(II)Z"⟩
def RX11 : String := "CountGatesModel"
def TX11 : u_T := fun k => match k with
  | 0 => ("CountGatesModel", "status", "I", false)
  | 1 => ("CountGatesModel", "refused", "[I", true)
  | 2 => ("CountGatesModel", "kept", "[I", true)
  | 3 => ("CountGatesModel", "images", "[I", true)
  | 4 => ("CountGatesModel", "hasImage", "[Z", true)
  | 5 => ("CountGatesModel", "aside", "[I", true)
  | 6 => ("CountGatesModel", "rust0", "I", false)
  | 7 => ("CountGatesModel", "words", "[B", true)
  | 8 => ("CountGatesModel", "firstWord", "I", false)
  | 9 => ("CountGatesModel", "lastWord", "I", false)
  | 10 => ("CountGatesModel", "isOrders", "Z", false)
  | 11 => ("CountGatesModel", "tape", "[B", true)
  | 12 => ("CountGatesModel", "five", "[I", true)
  | 13 => ("CountGatesModel", "taped", "I", false)
  | 14 => ("CountGatesModel", "fault", "I", false)
  | 15 => ("CountGatesModel", "code", "[I", true)
  | 16 => ("CountGatesModel", "value", "[I", true)
  | 17 => ("CountGatesModel", "placed", "[I", true)
  | 18 => ("CountGatesModel", "tokens", "I", false)
  | 19 => ("CountGatesModel", "token", "I", false)
  | 20 => ("CountGatesModel", "leaves", "I", false)
  | 21 => ("CountGatesModel", "bad", "I", false)
  | 22 => ("CountGatesModel", "go", "I", false)
  | 23 => ("CountGatesModel", "goEnd", "I", false)
  | 24 => ("CountGatesModel", "broken", "Z", false)
  | 25 => ("CountGatesModel", "inOrders", "Z", false)
  | 26 => ("CountGatesModel", "asked", "[I", true)
  | 27 => ("CountGatesModel", "orderDone", "I", false)
  | 28 => ("CountGatesModel", "orderLatest", "I", false)
  | 29 => ("CountGatesModel", "left0", "[I", true)
  | 30 => ("CountGatesModel", "leftAhead", "[I", true)
  | 31 => ("CountGatesModel", "undoMany", "I", false)
  | 32 => ("CountGatesModel", "out", "[I", true)
  | 33 => ("CountGatesModel", "pay", "[I", true)
  | 34 => ("CountGatesModel", "left", "[I", true)
  | 35 => ("CountGatesModel", "gone", "[I", true)
  | 36 => ("CountGatesModel", "queue", "[I", true)
  | 37 => ("CountGatesModel", "parts", "[J", true)
  | 38 => ("CountGatesModel", "then", "[J", true)
  | 39 => ("CountGatesModel", "firstTime", "[I", true)
  | 40 => ("CountGatesModel", "goneOne", "[I", true)
  | 41 => ("CountGatesModel", "alike", "[I", true)
  | 42 => ("CountGatesModel", "shares", "[J", true)
  | 43 => ("CountGatesModel", "stopped0", "I", false)
  | 44 => ("CountGatesModel", "orderAt", "I", false)
  | 45 => ("CountGatesModel", "howOften", "I", false)
  | 46 => ("CountGatesModel", "head", "I", false)
  | 47 => ("CountGatesModel", "sumsAre", "Z", false)
  | 48 => ("CountGatesModel", "testIs", "Z", false)
  | 49 => ("CountGatesModel", "sums", "[J", true)
  | 50 => ("CountGatesModel", "drawnMoved", "[I", true)
  | 51 => ("CountGatesModel", "drawnMany", "I", false)
  | _ => ("CountGatesModel", "latest", "I", false)
def tyX11 : Nat → FieldType := fun k => match k with
  | 0 => .int
  | 1 => .array .int
  | 2 => .array .int
  | 3 => .array .int
  | 4 => .array .boolean
  | 5 => .array .int
  | 6 => .int
  | 7 => .array .byte
  | 8 => .int
  | 9 => .int
  | 10 => .boolean
  | 11 => .array .byte
  | 12 => .array .int
  | 13 => .int
  | 14 => .int
  | 15 => .array .int
  | 16 => .array .int
  | 17 => .array .int
  | 18 => .int
  | 19 => .int
  | 20 => .int
  | 21 => .int
  | 22 => .int
  | 23 => .int
  | 24 => .boolean
  | 25 => .boolean
  | 26 => .array .int
  | 27 => .int
  | 28 => .int
  | 29 => .array .int
  | 30 => .array .int
  | 31 => .int
  | 32 => .array .int
  | 33 => .array .int
  | 34 => .array .int
  | 35 => .array .int
  | 36 => .array .int
  | 37 => .array .long
  | 38 => .array .long
  | 39 => .array .int
  | 40 => .array .int
  | 41 => .array .int
  | 42 => .array .long
  | 43 => .int
  | 44 => .int
  | 45 => .int
  | 46 => .int
  | 47 => .boolean
  | 48 => .boolean
  | 49 => .array .long
  | 50 => .array .int
  | 51 => .int
  | _ => .int
theorem nmX11 : ∀ a, a < 53 → ∀ b, b < 53 → a ≠ b → (TX11 a).2.1 ≠ (TX11 b).2.1 := by decide +kernel
theorem tyX11_ok : ∀ k, k < 53 → parseFieldDescriptor (TX11 k).2.2.1 = some (tyX11 k) := by decide +kernel
abbrev cX11_lies : ByteArray := prog_13_method_1_code
def yX11_lies : MethodName := ⟨RX11, "lies", "(III)Z"⟩
abbrev cX11_lesser : ByteArray := prog_13_method_2_code
def yX11_lesser : MethodName := ⟨RX11, "lesser", "(II)I"⟩
abbrev cX11_greater : ByteArray := prog_13_method_3_code
def yX11_greater : MethodName := ⟨RX11, "greater", "(II)I"⟩
abbrev cX11_refuses : ByteArray := prog_13_method_4_code
def yX11_refuses : MethodName := ⟨RX11, "refuses", "(I)I"⟩
abbrev cX11_good : ByteArray := prog_13_method_5_code
def yX11_good : MethodName := ⟨RX11, "good", "(I)I"⟩
abbrev cX11_settled : ByteArray := prog_13_method_6_code
def yX11_settled : MethodName := ⟨RX11, "settled", "(I)I"⟩
abbrev cX11_isIn : ByteArray := prog_13_method_7_code
def yX11_isIn : MethodName := ⟨RX11, "isIn", "(II)Z"⟩
abbrev cX11_ones : ByteArray := prog_13_method_8_code
def yX11_ones : MethodName := ⟨RX11, "ones", "(I)I"⟩
abbrev cX11_isPark : ByteArray := prog_13_method_9_code
def yX11_isPark : MethodName := ⟨RX11, "isPark", "(I)Z"⟩
abbrev cX11_isMany : ByteArray := prog_13_method_10_code
def yX11_isMany : MethodName := ⟨RX11, "isMany", "(I)Z"⟩
abbrev cX11_isArm : ByteArray := prog_13_method_11_code
def yX11_isArm : MethodName := ⟨RX11, "isArm", "(I)Z"⟩
abbrev cX11_init : ByteArray := prog_13_method_12_code
def yX11_init : MethodName := ⟨RX11, "<init>", "()V"⟩
abbrev cX11_laysAside : ByteArray := prog_13_method_13_code
def yX11_laysAside : MethodName := ⟨RX11, "laysAside", "(I)V"⟩
abbrev cX11_takesBack : ByteArray := prog_13_method_14_code
def yX11_takesBack : MethodName := ⟨RX11, "takesBack", "(I)V"⟩
abbrev cX11_image : ByteArray := prog_13_method_15_code
def yX11_image : MethodName := ⟨RX11, "image", "(I)I"⟩
abbrev cX11_back : ByteArray := prog_13_method_16_code
def yX11_back : MethodName := ⟨RX11, "back", "(I)I"⟩
abbrev cX11_gateMany : ByteArray := prog_13_method_17_code
def yX11_gateMany : MethodName := ⟨RX11, "gateMany", "()I"⟩
abbrev cX11_isGate : ByteArray := prog_13_method_18_code
def yX11_isGate : MethodName := ⟨RX11, "isGate", "(I)Z"⟩
abbrev cX11_isGoer : ByteArray := prog_13_method_19_code
def yX11_isGoer : MethodName := ⟨RX11, "isGoer", "(I)Z"⟩
abbrev cX11_canGate : ByteArray := prog_13_method_20_code
def yX11_canGate : MethodName := ⟨RX11, "canGate", "(IIII)Z"⟩
abbrev cX11_adds : ByteArray := prog_13_method_21_code
def yX11_adds : MethodName := ⟨RX11, "adds", "(IIII)V"⟩
abbrev cX11_gate : ByteArray := prog_13_method_22_code
def yX11_gate : MethodName := ⟨RX11, "gate", "(IIII)I"⟩
abbrev cX11_at : ByteArray := prog_13_method_23_code
def yX11_at : MethodName := ⟨RX11, "at", "(II)I"⟩
abbrev cX11_goer : ByteArray := prog_13_method_24_code
def yX11_goer : MethodName := ⟨RX11, "goer", "(III)I"⟩
abbrev cX11_of : ByteArray := prog_13_method_25_code
def yX11_of : MethodName := ⟨RX11, "of", "(II)I"⟩
abbrev cX11_gatesOf : ByteArray := prog_13_method_26_code
def yX11_gatesOf : MethodName := ⟨RX11, "gatesOf", "(I)I"⟩
abbrev cX11_asks : ByteArray := prog_13_method_27_code
def yX11_asks : MethodName := ⟨RX11, "asks", "(IIII)I"⟩
abbrev cX11_isTerm : ByteArray := prog_13_method_28_code
def yX11_isTerm : MethodName := ⟨RX11, "isTerm", "(II)Z"⟩
abbrev cX11_termAt : ByteArray := prog_13_method_29_code
def yX11_termAt : MethodName := ⟨RX11, "termAt", "(I)I"⟩
abbrev cX11_terms : ByteArray := prog_13_method_30_code
def yX11_terms : MethodName := ⟨RX11, "terms", "(II)I"⟩
abbrev cX11_row : ByteArray := prog_13_method_31_code
def yX11_row : MethodName := ⟨RX11, "row", "()I"⟩
abbrev cX11_rust : ByteArray := prog_13_method_32_code
def yX11_rust : MethodName := ⟨RX11, "rust", "()I"⟩
abbrev cX11_feed : ByteArray := prog_13_method_33_code
def yX11_feed : MethodName := ⟨RX11, "feed", "(IIIII)I"⟩
abbrev cX11_end : ByteArray := prog_13_method_34_code
def yX11_end : MethodName := ⟨RX11, "end", "(I)I"⟩
abbrev cX11_isSmall : ByteArray := prog_13_method_35_code
def yX11_isSmall : MethodName := ⟨RX11, "isSmall", "(I)Z"⟩
abbrev cX11_isDigit : ByteArray := prog_13_method_36_code
def yX11_isDigit : MethodName := ⟨RX11, "isDigit", "(I)Z"⟩
abbrev cX11_wordOf : ByteArray := prog_13_method_37_code
def yX11_wordOf : MethodName := ⟨RX11, "wordOf", "(II)I"⟩
abbrev cX11_splits : ByteArray := prog_13_method_38_code
def yX11_splits : MethodName := ⟨RX11, "splits", "(I)V"⟩
abbrev cX11_fine : ByteArray := prog_13_method_39_code
def yX11_fine : MethodName := ⟨RX11, "fine", "()Z"⟩
abbrev cX11_faults : ByteArray := prog_13_method_40_code
def yX11_faults : MethodName := ⟨RX11, "faults", "()V"⟩
abbrev cX11_takes0 : ByteArray := prog_13_method_41_code
def yX11_takes0 : MethodName := ⟨RX11, "takes0", "(I)Z"⟩
abbrev cX11_must : ByteArray := prog_13_method_42_code
def yX11_must : MethodName := ⟨RX11, "must", "(I)V"⟩
abbrev cX11_leaf : ByteArray := prog_13_method_43_code
def yX11_leaf : MethodName := ⟨RX11, "leaf", "()V"⟩
abbrev cX11_sign : ByteArray := prog_13_method_44_code
def yX11_sign : MethodName := ⟨RX11, "sign", "(C)I"⟩
abbrev cX11_mustNumber : ByteArray := prog_13_method_45_code
def yX11_mustNumber : MethodName := ⟨RX11, "mustNumber", "(II)V"⟩
abbrev cX11_readClause : ByteArray := prog_13_method_46_code
def yX11_readClause : MethodName := ⟨RX11, "readClause", "()V"⟩
abbrev cX11_readTwo : ByteArray := prog_13_method_47_code
def yX11_readTwo : MethodName := ⟨RX11, "readTwo", "(I)V"⟩
abbrev cX11_readOrder : ByteArray := prog_13_method_48_code
def yX11_readOrder : MethodName := ⟨RX11, "readOrder", "()V"⟩
abbrev cX11_readOne : ByteArray := prog_13_method_49_code
def yX11_readOne : MethodName := ⟨RX11, "readOne", "()V"⟩
abbrev cX11_readTest : ByteArray := prog_13_method_50_code
def yX11_readTest : MethodName := ⟨RX11, "readTest", "(I)V"⟩
abbrev cX11_readBoth : ByteArray := prog_13_method_51_code
def yX11_readBoth : MethodName := ⟨RX11, "readBoth", "(I)V"⟩
abbrev cX11_readPlain : ByteArray := prog_13_method_52_code
def yX11_readPlain : MethodName := ⟨RX11, "readPlain", "(I)V"⟩
abbrev cX11_readSum : ByteArray := prog_13_method_53_code
def yX11_readSum : MethodName := ⟨RX11, "readSum", "(I)V"⟩
abbrev cX11_readTerm : ByteArray := prog_13_method_54_code
def yX11_readTerm : MethodName := ⟨RX11, "readTerm", "(I)V"⟩
abbrev cX11_readPart : ByteArray := prog_13_method_55_code
def yX11_readPart : MethodName := ⟨RX11, "readPart", "(I)V"⟩
abbrev cX11_reads : ByteArray := prog_13_method_56_code
def yX11_reads : MethodName := ⟨RX11, "reads", "()Z"⟩
abbrev cX11_readsAs : ByteArray := prog_13_method_57_code
def yX11_readsAs : MethodName := ⟨RX11, "readsAs", "(Z)Z"⟩
abbrev cX11_lays : ByteArray := prog_13_method_58_code
def yX11_lays : MethodName := ⟨RX11, "lays", "(I)V"⟩
abbrev cX11_law : ByteArray := prog_13_method_59_code
def yX11_law : MethodName := ⟨RX11, "law", "()I"⟩
abbrev cX11_fault : ByteArray := prog_13_method_60_code
def yX11_fault : MethodName := ⟨RX11, "fault", "()I"⟩
abbrev cX11_isLaw : ByteArray := prog_13_method_61_code
def yX11_isLaw : MethodName := ⟨RX11, "isLaw", "(I)Z"⟩
abbrev cX11_force : ByteArray := prog_13_method_62_code
def yX11_force : MethodName := ⟨RX11, "force", "(I)I"⟩
abbrev cX11_codeAt : ByteArray := prog_13_method_63_code
def yX11_codeAt : MethodName := ⟨RX11, "codeAt", "(I)I"⟩
abbrev cX11_passes0 : ByteArray := prog_13_method_64_code
def yX11_passes0 : MethodName := ⟨RX11, "passes0", "(I)Z"⟩
abbrev cX11_bounded : ByteArray := prog_13_method_65_code
def yX11_bounded : MethodName := ⟨RX11, "bounded", "(JZ)J"⟩
abbrev cX11_sumOf : ByteArray := prog_13_method_66_code
def yX11_sumOf : MethodName := ⟨RX11, "sumOf", "(Z)J"⟩
abbrev cX11_termOf : ByteArray := prog_13_method_67_code
def yX11_termOf : MethodName := ⟨RX11, "termOf", "(Z)J"⟩
abbrev cX11_partOf : ByteArray := prog_13_method_68_code
def yX11_partOf : MethodName := ⟨RX11, "partOf", "(Z)J"⟩
abbrev cX11_wholeMany : ByteArray := prog_13_method_69_code
def yX11_wholeMany : MethodName := ⟨RX11, "wholeMany", "()I"⟩
abbrev cX11_orderValue : ByteArray := prog_13_method_70_code
def yX11_orderValue : MethodName := ⟨RX11, "orderValue", "(II)I"⟩
abbrev cX11_testOf : ByteArray := prog_13_method_71_code
def yX11_testOf : MethodName := ⟨RX11, "testOf", "(Z)Z"⟩
abbrev cX11_bothOf : ByteArray := prog_13_method_72_code
def yX11_bothOf : MethodName := ⟨RX11, "bothOf", "(Z)Z"⟩
abbrev cX11_plainOf : ByteArray := prog_13_method_73_code
def yX11_plainOf : MethodName := ⟨RX11, "plainOf", "(Z)Z"⟩
abbrev cX11_positiveOf : ByteArray := prog_13_method_74_code
def yX11_positiveOf : MethodName := ⟨RX11, "positiveOf", "(Z)Z"⟩
abbrev cX11_setsAsked : ByteArray := prog_13_method_75_code
def yX11_setsAsked : MethodName := ⟨RX11, "setsAsked", "(IIIIII)V"⟩
abbrev cX11_setsGate : ByteArray := prog_13_method_76_code
def yX11_setsGate : MethodName := ⟨RX11, "setsGate", "(III)V"⟩
abbrev cX11_tells : ByteArray := prog_13_method_77_code
def yX11_tells : MethodName := ⟨RX11, "tells", "(III)I"⟩
abbrev cX11_turnsNow : ByteArray := prog_13_method_78_code
def yX11_turnsNow : MethodName := ⟨RX11, "turnsNow", "()I"⟩
abbrev cX11_paysNow : ByteArray := prog_13_method_79_code
def yX11_paysNow : MethodName := ⟨RX11, "paysNow", "()I"⟩
abbrev cX11_isBarredNow : ByteArray := prog_13_method_80_code
def yX11_isBarredNow : MethodName := ⟨RX11, "isBarredNow", "()Z"⟩
abbrev cX11_canGo : ByteArray := prog_13_method_81_code
def yX11_canGo : MethodName := ⟨RX11, "canGo", "(II)Z"⟩
abbrev cX11_goesNow : ByteArray := prog_13_method_82_code
def yX11_goesNow : MethodName := ⟨RX11, "goesNow", "(II)I"⟩
abbrev cX11_keeps : ByteArray := prog_13_method_83_code
def yX11_keeps : MethodName := ⟨RX11, "keeps", "(I)V"⟩
abbrev cX11_undo : ByteArray := prog_13_method_84_code
def yX11_undo : MethodName := ⟨RX11, "undo", "()I"⟩
abbrev cX11_goodOr : ByteArray := prog_13_method_85_code
def yX11_goodOr : MethodName := ⟨RX11, "goodOr", "(I)I"⟩
abbrev cX11_goesKept : ByteArray := prog_13_method_86_code
def yX11_goesKept : MethodName := ⟨RX11, "goesKept", "(II)I"⟩
abbrev cX11_latchesKept : ByteArray := prog_13_method_87_code
def yX11_latchesKept : MethodName := ⟨RX11, "latchesKept", "(I)I"⟩
abbrev cX11_setsKept : ByteArray := prog_13_method_88_code
def yX11_setsKept : MethodName := ⟨RX11, "setsKept", "(II)I"⟩
abbrev cX11_passesKept : ByteArray := prog_13_method_89_code
def yX11_passesKept : MethodName := ⟨RX11, "passesKept", "()I"⟩
abbrev cX11_go : ByteArray := prog_13_method_90_code
def yX11_go : MethodName := ⟨RX11, "go", "(II)I"⟩
abbrev cX11_latch : ByteArray := prog_13_method_91_code
def yX11_latch : MethodName := ⟨RX11, "latch", "(I)I"⟩
abbrev cX11_set : ByteArray := prog_13_method_92_code
def yX11_set : MethodName := ⟨RX11, "set", "(II)I"⟩
abbrev cX11_pass : ByteArray := prog_13_method_93_code
def yX11_pass : MethodName := ⟨RX11, "pass", "()I"⟩
abbrev cX11_laysGate : ByteArray := prog_13_method_94_code
def yX11_laysGate : MethodName := ⟨RX11, "laysGate", "(II)V"⟩
abbrev cX11_laysOut : ByteArray := prog_13_method_95_code
def yX11_laysOut : MethodName := ⟨RX11, "laysOut", "(I)V"⟩
abbrev cX11_placeOf : ByteArray := prog_13_method_96_code
def yX11_placeOf : MethodName := ⟨RX11, "placeOf", "(I)I"⟩
abbrev cX11_nextPlace : ByteArray := prog_13_method_97_code
def yX11_nextPlace : MethodName := ⟨RX11, "nextPlace", "(II)I"⟩
abbrev cX11_isGoal : ByteArray := prog_13_method_98_code
def yX11_isGoal : MethodName := ⟨RX11, "isGoal", "(III)Z"⟩
abbrev cX11_canBeGoal : ByteArray := prog_13_method_99_code
def yX11_canBeGoal : MethodName := ⟨RX11, "canBeGoal", "(II)Z"⟩
abbrev cX11_laysLeft : ByteArray := prog_13_method_100_code
def yX11_laysLeft : MethodName := ⟨RX11, "laysLeft", "(IIZ)V"⟩
abbrev cX11_way : ByteArray := prog_13_method_101_code
def yX11_way : MethodName := ⟨RX11, "way", "(IIII)I"⟩
abbrev cX11_cheap : ByteArray := prog_13_method_102_code
def yX11_cheap : MethodName := ⟨RX11, "cheap", "(III)I"⟩
abbrev cX11_compare : ByteArray := prog_13_method_103_code
def yX11_compare : MethodName := ⟨RX11, "compare", "(IIII)I"⟩
abbrev cX11_laysGone : ByteArray := prog_13_method_104_code
def yX11_laysGone : MethodName := ⟨RX11, "laysGone", "(II)V"⟩
abbrev cX11_comesTo : ByteArray := prog_13_method_105_code
def yX11_comesTo : MethodName := ⟨RX11, "comesTo", "(I)Z"⟩
abbrev cX11_manys : ByteArray := prog_13_method_106_code
def yX11_manys : MethodName := ⟨RX11, "manys", "(II)I"⟩
abbrev cX11_reach : ByteArray := prog_13_method_107_code
def yX11_reach : MethodName := ⟨RX11, "reach", "(I)I"⟩
abbrev cX11_laysParts : ByteArray := prog_13_method_108_code
def yX11_laysParts : MethodName := ⟨RX11, "laysParts", "(IJ)V"⟩
abbrev cX11_gatesFrom : ByteArray := prog_13_method_109_code
def yX11_gatesFrom : MethodName := ⟨RX11, "gatesFrom", "(I)I"⟩
abbrev cX11_steps : ByteArray := prog_13_method_110_code
def yX11_steps : MethodName := ⟨RX11, "steps", "(Z)V"⟩
abbrev cX11_partsAt : ByteArray := prog_13_method_111_code
def yX11_partsAt : MethodName := ⟨RX11, "partsAt", "(II)J"⟩
abbrev cX11_ways : ByteArray := prog_13_method_112_code
def yX11_ways : MethodName := ⟨RX11, "ways", "(IIII)J"⟩
abbrev cX11_likely : ByteArray := prog_13_method_113_code
def yX11_likely : MethodName := ⟨RX11, "likely", "(IIII)J"⟩
abbrev cX11_again : ByteArray := prog_13_method_114_code
def yX11_again : MethodName := ⟨RX11, "again", "(III)I"⟩
abbrev cX11_hasWay : ByteArray := prog_13_method_115_code
def yX11_hasWay : MethodName := ⟨RX11, "hasWay", "(III)Z"⟩
abbrev cX11_fixedAt : ByteArray := prog_13_method_116_code
def yX11_fixedAt : MethodName := ⟨RX11, "fixedAt", "(IIII)I"⟩
abbrev cX11_fixed : ByteArray := prog_13_method_117_code
def yX11_fixed : MethodName := ⟨RX11, "fixed", "(III)I"⟩
abbrev cX11_cut : ByteArray := prog_13_method_118_code
def yX11_cut : MethodName := ⟨RX11, "cut", "(III)I"⟩
abbrev cX11_meet : ByteArray := prog_13_method_119_code
def yX11_meet : MethodName := ⟨RX11, "meet", "(III)I"⟩
abbrev cX11_seen : ByteArray := prog_13_method_120_code
def yX11_seen : MethodName := ⟨RX11, "seen", "(III)I"⟩
abbrev cX11_forget : ByteArray := prog_13_method_121_code
def yX11_forget : MethodName := ⟨RX11, "forget", "()I"⟩
abbrev cX11_outOf : ByteArray := prog_13_method_122_code
def yX11_outOf : MethodName := ⟨RX11, "outOf", "(III)I"⟩
abbrev cX11_canBeKind : ByteArray := prog_13_method_123_code
def yX11_canBeKind : MethodName := ⟨RX11, "canBeKind", "(I)Z"⟩
abbrev cX11_kinds : ByteArray := prog_13_method_124_code
def yX11_kinds : MethodName := ⟨RX11, "kinds", "()I"⟩
abbrev cX11_mostAlike : ByteArray := prog_13_method_125_code
def yX11_mostAlike : MethodName := ⟨RX11, "mostAlike", "(III)I"⟩
abbrev cX11_ask : ByteArray := prog_13_method_126_code
def yX11_ask : MethodName := ⟨RX11, "ask", "(II)I"⟩
abbrev cX11_few : ByteArray := prog_13_method_127_code
def yX11_few : MethodName := ⟨RX11, "few", "(II)J"⟩
abbrev cX11_stopped : ByteArray := prog_13_method_128_code
def yX11_stopped : MethodName := ⟨RX11, "stopped", "()I"⟩
abbrev cX11_orders : ByteArray := prog_13_method_129_code
def yX11_orders : MethodName := ⟨RX11, "orders", "()I"⟩
abbrev cX11_goesAlong : ByteArray := prog_13_method_130_code
def yX11_goesAlong : MethodName := ⟨RX11, "goesAlong", "(IZ)V"⟩
abbrev cX11_small : ByteArray := prog_13_method_131_code
def yX11_small : MethodName := ⟨RX11, "small", "(J)I"⟩
abbrev cX11_obeys : ByteArray := prog_13_method_132_code
def yX11_obeys : MethodName := ⟨RX11, "obeys", "()I"⟩
abbrev cX11_runs : ByteArray := prog_13_method_133_code
def yX11_runs : MethodName := ⟨RX11, "runs", "(I)Z"⟩
abbrev cX11_draws : ByteArray := prog_13_method_134_code
def yX11_draws : MethodName := ⟨RX11, "draws", "(I)I"⟩
abbrev cX11_days : ByteArray := prog_13_method_135_code
def yX11_days : MethodName := ⟨RX11, "days", "(II)I"⟩
abbrev cX11_drawn : ByteArray := prog_13_method_136_code
def yX11_drawn : MethodName := ⟨RX11, "drawn", "(II)I"⟩
abbrev cX11_allMany : ByteArray := prog_13_method_137_code
def yX11_allMany : MethodName := ⟨RX11, "allMany", "()I"⟩
abbrev cX11_count : ByteArray := prog_13_method_138_code
def yX11_count : MethodName := ⟨RX11, "count", "(I)I"⟩
abbrev cX11_status : ByteArray := prog_13_method_139_code
def yX11_status : MethodName := ⟨RX11, "status", "()I"⟩
def RJ6 : String := "java/lang/Integer"
abbrev cJ6_bitCount_0f7a4 : ByteArray := prog_14_method_49_code
def yJ6_bitCount_0f7a4 : MethodName := ⟨RJ6, "bitCount", "(I)I"⟩
def RJ0 : String := "java/lang/String"
abbrev cJ0_length_8abf5 : ByteArray := prog_16_method_54_code
def yJ0_length_8abf5 : MethodName := ⟨RJ0, "length", "()I"⟩
abbrev cJ0_charAt_5068e : ByteArray := prog_16_method_56_code
def yJ0_charAt_5068e : MethodName := ⟨RJ0, "charAt", "(I)C"⟩
abbrev cJ0_coder_7d493 : ByteArray := prog_16_method_152_code
def yJ0_coder_7d493 : MethodName := ⟨RJ0, "coder", "()B"⟩
abbrev cJ0_isLatin1_aae02 : ByteArray := prog_16_method_154_code
def yJ0_isLatin1_aae02 : MethodName := ⟨RJ0, "isLatin1", "()Z"⟩
abbrev cJ0_checkIndex_df160 : ByteArray := prog_16_method_155_code
def yJ0_checkIndex_df160 : MethodName := ⟨RJ0, "checkIndex", "(II)V"⟩
def RJ1 : String := "java/lang/StringLatin1"
abbrev cJ1_charAt_3b067 : ByteArray := prog_17_method_2_code
def yJ1_charAt_3b067 : MethodName := ⟨RJ1, "charAt", "([BI)C"⟩
def RJ7 : String := "java/util/Arrays"
abbrev cJ7_fill_d0a16 : ByteArray := prog_20_method_101_code
def yJ7_fill_d0a16 : MethodName := ⟨RJ7, "fill", "([JJ)V"⟩
abbrev cJ7_fill_53178 : ByteArray := prog_20_method_103_code
def yJ7_fill_53178 : MethodName := ⟨RJ7, "fill", "([II)V"⟩
def RJ3 : String := "jdk/internal/util/Preconditions"
abbrev cJ3_checkIndex_8e157 : ByteArray := prog_21_method_11_code
def yJ3_checkIndex_8e157 : MethodName := ⟨RJ3, "checkIndex", "(IILjava/util/function/BiFunction;)I"⟩
def RL : String := "CountGatesLaw"
abbrev cL_law : ByteArray := code
def yL_law : MethodName := ⟨RL, "law", "([I)Z"⟩
end NAMES
end
section
section TABS
def tbX0_init : List (Nat × Instr × Nat) := [(0, Instr.aload_n 0, 1), (1, Instr.invokespecial 3, 3), (4, Instr.aload_n 0, 1), (5, Instr.bipush 8, 2), (7, Instr.newarray .int, 2), (9, Instr.putfield 9, 3), (12, Instr.aload_n 0, 1), (13, Instr.bipush 50, 2), (15, Instr.newarray .int, 2), (17, Instr.putfield 15, 3), (20, Instr.aload_n 0, 1), (21, Instr.bipush 20, 2), (23, Instr.newarray .int, 2), (25, Instr.putfield 18, 3), (28, Instr.return_, 1)]
set_option maxRecDepth 20000 in
theorem tkX0_init : (tbX0_init.all fun q => decide (decode cX0_init q.1 = .ok q.2)) = true := by decide +kernel
def mX0_init : Nat × MethodName × ByteArray × Nat × Option FieldType × List (Nat × Instr × Nat) × Option (Nat × (Nat → Int32)) := (0, yX0_init, cX0_init, 1, none, tbX0_init, none)
def tbX0_regard : List (Nat × Instr × Nat) := [(0, Instr.aload_n 0, 1), (1, Instr.aload_n 1, 1), (2, Instr.aload_n 1, 1), (3, Instr.getfield 21, 3), (6, Instr.iload_n 3, 1), (7, Instr.iaload, 1), (8, Instr.aload_n 1, 1), (9, Instr.getfield 26, 3), (12, Instr.iload_n 3, 1), (13, Instr.iaload, 1), (14, Instr.iload 4, 2), (16, Instr.invokevirtual 29, 3), (19, Instr.aload_n 0, 1), (20, Instr.getfield 9, 3), (23, Instr.iconst 3, 1), (24, Instr.aload_n 1, 1), (25, Instr.getfield 33, 3), (28, Instr.iload_n 2, 1), (29, Instr.iaload, 1), (30, Instr.iastore, 1), (31, Instr.aload_n 0, 1), (32, Instr.getfield 9, 3), (35, Instr.iconst 4, 1), (36, Instr.iload_n 3, 1), (37, Instr.iastore, 1), (38, Instr.aload_n 0, 1), (39, Instr.getfield 9, 3), (42, Instr.iconst 5, 1), (43, Instr.iload_n 2, 1), (44, Instr.iastore, 1), (45, Instr.return_, 1)]
set_option maxRecDepth 20000 in
theorem tkX0_regard : (tbX0_regard.all fun q => decide (decode cX0_regard q.1 = .ok q.2)) = true := by decide +kernel
def mX0_regard : Nat × MethodName × ByteArray × Nat × Option FieldType × List (Nat × Instr × Nat) × Option (Nat × (Nat → Int32)) := (0, yX0_regard, cX0_regard, 5, none, tbX0_regard, none)
def tbX0_regardUnknown : List (Nat × Instr × Nat) := [(0, Instr.aload_n 0, 1), (1, Instr.getfield 9, 3), (4, Instr.iconst 0, 1), (5, Instr.iload_n 2, 1), (6, Instr.iastore, 1), (7, Instr.aload_n 0, 1), (8, Instr.getfield 9, 3), (11, Instr.iconst 1, 1), (12, Instr.iload_n 3, 1), (13, Instr.iastore, 1), (14, Instr.aload_n 0, 1), (15, Instr.getfield 9, 3), (18, Instr.iconst 2, 1), (19, Instr.iload 4, 2), (21, Instr.iastore, 1), (22, Instr.aload_n 0, 1), (23, Instr.getfield 9, 3), (26, Instr.iconst 3, 1), (27, Instr.iconst 0, 1), (28, Instr.iastore, 1), (29, Instr.aload_n 0, 1), (30, Instr.getfield 9, 3), (33, Instr.iconst 4, 1), (34, Instr.iconst (-1), 1), (35, Instr.iastore, 1), (36, Instr.aload_n 0, 1), (37, Instr.getfield 9, 3), (40, Instr.iconst 5, 1), (41, Instr.iconst (-1), 1), (42, Instr.iastore, 1), (43, Instr.aload_n 0, 1), (44, Instr.getfield 9, 3), (47, Instr.bipush 6, 2), (49, Instr.aload_n 1, 1), (50, Instr.getfield 36, 3), (53, Instr.iconst 0, 1), (54, Instr.iaload, 1), (55, Instr.iastore, 1), (56, Instr.aload_n 0, 1), (57, Instr.getfield 9, 3), (60, Instr.bipush 7, 2), (62, Instr.aload_n 1, 1), (63, Instr.getfield 36, 3), (66, Instr.iconst 2, 1), (67, Instr.iaload, 1), (68, Instr.iastore, 1), (69, Instr.return_, 1)]
set_option maxRecDepth 20000 in
theorem tkX0_regardUnknown : (tbX0_regardUnknown.all fun q => decide (decode cX0_regardUnknown q.1 = .ok q.2)) = true := by decide +kernel
def mX0_regardUnknown : Nat × MethodName × ByteArray × Nat × Option FieldType × List (Nat × Instr × Nat) × Option (Nat × (Nat → Int32)) := (0, yX0_regardUnknown, cX0_regardUnknown, 5, none, tbX0_regardUnknown, none)
def tbX0_told : List (Nat × Instr × Nat) := [(0, Instr.ldc 39, 2), (2, Instr.istore_n 3, 1), (3, Instr.aload_n 1, 1), (4, Instr.invokevirtual 40, 3), (7, Instr.astore 4, 2), (9, Instr.aload 4, 2), (11, Instr.ifnull 100, 3), (14, Instr.aload 4, 2), (16, Instr.getfield 44, 3), (19, Instr.iconst 1, 1), (20, Instr.isub, 1), (21, Instr.istore 5, 2), (23, Instr.iload 5, 2), (25, Instr.ifCond .lt 86, 3), (28, Instr.iload_n 3, 1), (29, Instr.ldc 39, 2), (31, Instr.if_icmp .ne 80, 3), (34, Instr.aload 4, 2), (36, Instr.getfield 50, 3), (39, Instr.iload 5, 2), (41, Instr.iaload, 1), (42, Instr.iload_n 2, 1), (43, Instr.if_icmp .ne 62, 3), (46, Instr.aload 4, 2), (48, Instr.iload 5, 2), (50, Instr.iconst 2, 1), (51, Instr.invokevirtual 53, 3), (54, Instr.ifCond .eq 23, 3), (57, Instr.aload 4, 2), (59, Instr.iload 5, 2), (61, Instr.iconst 2, 1), (62, Instr.aload_n 0, 1), (63, Instr.getfield 9, 3), (66, Instr.aload_n 0, 1), (67, Instr.getfield 15, 3), (70, Instr.invokevirtual 57, 3), (73, Instr.iconst 1, 1), (74, Instr.if_icmp .ne 31, 3), (77, Instr.iload_n 2, 1), (78, Instr.sipush 262, 3), (81, Instr.if_icmp .ne 7, 3), (84, Instr.iconst 1, 1), (85, Instr.goto 19, 3), (88, Instr.aload 4, 2), (90, Instr.iload 5, 2), (92, Instr.iconst 0, 1), (93, Instr.aload_n 0, 1), (94, Instr.getfield 9, 3), (97, Instr.aload_n 0, 1), (98, Instr.getfield 15, 3), (101, Instr.invokevirtual 57, 3), (104, Instr.istore_n 3, 1), (105, Instr.iinc 5 (-1), 3), (108, Instr.goto (-85), 3), (111, Instr.iload_n 2, 1), (112, Instr.lookupswitch 81 #[(260, 28), (261, 60)], 28), (140, Instr.iload_n 3, 1), (141, Instr.ldc 39, 2), (143, Instr.if_icmp .ne 18, 3), (146, Instr.aload_n 0, 1), (147, Instr.getfield 9, 3), (150, Instr.iconst 2, 1), (151, Instr.iaload, 1), (152, Instr.iconst 1, 1), (153, Instr.isub, 1), (154, Instr.iconst 0, 1), (155, Instr.invokestatic 61, 3), (158, Instr.goto 13, 3), (161, Instr.iconst 0, 1), (162, Instr.iload_n 3, 1), (163, Instr.bipush 19, 2), (165, Instr.invokestatic 67, 3), (168, Instr.invokestatic 61, 3), (171, Instr.ireturn, 1), (172, Instr.iload_n 3, 1), (173, Instr.ldc 39, 2), (175, Instr.if_icmp .ne 7, 3), (178, Instr.iconst 1, 1), (179, Instr.goto 13, 3), (182, Instr.iconst 0, 1), (183, Instr.iload_n 3, 1), (184, Instr.bipush 9, 2), (186, Instr.invokestatic 67, 3), (189, Instr.invokestatic 61, 3), (192, Instr.ireturn, 1), (193, Instr.iload_n 3, 1), (194, Instr.ldc 39, 2), (196, Instr.if_icmp .ne 7, 3), (199, Instr.iconst 0, 1), (200, Instr.goto 4, 3), (203, Instr.iconst 1, 1), (204, Instr.ireturn, 1)]
set_option maxRecDepth 20000 in
theorem tkX0_told : (tbX0_told.all fun q => decide (decode cX0_told q.1 = .ok q.2)) = true := by decide +kernel
def mX0_told : Nat × MethodName × ByteArray × Nat × Option FieldType × List (Nat × Instr × Nat) × Option (Nat × (Nat → Int32)) := (0, yX0_told, cX0_told, 6, (some .int), tbX0_told, none)
def tbX0_can : List (Nat × Instr × Nat) := [(0, Instr.aload_n 1, 1), (1, Instr.getfield 70, 3), (4, Instr.iload_n 2, 1), (5, Instr.iaload, 1), (6, Instr.aload_n 1, 1), (7, Instr.getfield 73, 3), (10, Instr.iload_n 3, 1), (11, Instr.iaload, 1), (12, Instr.if_icmp .ne 12, 3), (15, Instr.aload_n 1, 1), (16, Instr.getfield 76, 3), (19, Instr.iload_n 3, 1), (20, Instr.baload, 1), (21, Instr.ifCond .ne 5, 3), (24, Instr.iconst 0, 1), (25, Instr.ireturn, 1), (26, Instr.aload_n 0, 1), (27, Instr.aload_n 1, 1), (28, Instr.iload_n 2, 1), (29, Instr.iload_n 3, 1), (30, Instr.aload_n 1, 1), (31, Instr.getfield 80, 3), (34, Instr.iload_n 2, 1), (35, Instr.iaload, 1), (36, Instr.invokevirtual 83, 3), (39, Instr.aload_n 0, 1), (40, Instr.aload_n 1, 1), (41, Instr.sipush 262, 3), (44, Instr.invokevirtual 86, 3), (47, Instr.ifCond .ne 7, 3), (50, Instr.iconst 1, 1), (51, Instr.goto 4, 3), (54, Instr.iconst 0, 1), (55, Instr.ireturn, 1)]
set_option maxRecDepth 20000 in
theorem tkX0_can : (tbX0_can.all fun q => decide (decode cX0_can q.1 = .ok q.2)) = true := by decide +kernel
def mX0_can : Nat × MethodName × ByteArray × Nat × Option FieldType × List (Nat × Instr × Nat) × Option (Nat × (Nat → Int32)) := (0, yX0_can, cX0_can, 4, (some .boolean), tbX0_can, none)
def tbX0_canBits : List (Nat × Instr × Nat) := [(0, Instr.iconst 0, 1), (1, Instr.istore_n 3, 1), (2, Instr.iconst 0, 1), (3, Instr.istore 4, 2), (5, Instr.iload 4, 2), (7, Instr.aload_n 1, 1), (8, Instr.getfield 90, 3), (11, Instr.if_icmp .ge 27, 3), (14, Instr.aload_n 0, 1), (15, Instr.aload_n 1, 1), (16, Instr.iload_n 2, 1), (17, Instr.iload 4, 2), (19, Instr.invokevirtual 93, 3), (22, Instr.ifCond .eq 10, 3), (25, Instr.iload_n 3, 1), (26, Instr.iconst 1, 1), (27, Instr.iload 4, 2), (29, Instr.ishl, 1), (30, Instr.ior, 1), (31, Instr.istore_n 3, 1), (32, Instr.iinc 4 1, 3), (35, Instr.goto (-30), 3), (38, Instr.iload_n 3, 1), (39, Instr.ireturn, 1)]
set_option maxRecDepth 20000 in
theorem tkX0_canBits : (tbX0_canBits.all fun q => decide (decode cX0_canBits q.1 = .ok q.2)) = true := by decide +kernel
def mX0_canBits : Nat × MethodName × ByteArray × Nat × Option FieldType × List (Nat × Instr × Nat) × Option (Nat × (Nat → Int32)) := (0, yX0_canBits, cX0_canBits, 5, (some .int), tbX0_canBits, none)
def tbX0_move : List (Nat × Instr × Nat) := [(0, Instr.aload_n 0, 1), (1, Instr.aload_n 1, 1), (2, Instr.iload_n 2, 1), (3, Instr.iload_n 3, 1), (4, Instr.aload_n 1, 1), (5, Instr.getfield 80, 3), (8, Instr.iload_n 2, 1), (9, Instr.iaload, 1), (10, Instr.invokevirtual 83, 3), (13, Instr.aload_n 0, 1), (14, Instr.aload_n 1, 1), (15, Instr.sipush 260, 3), (18, Instr.invokevirtual 86, 3), (21, Instr.istore 4, 2), (23, Instr.aload_n 0, 1), (24, Instr.aload_n 1, 1), (25, Instr.sipush 261, 3), (28, Instr.invokevirtual 86, 3), (31, Instr.istore 5, 2), (33, Instr.aload_n 1, 1), (34, Instr.getfield 70, 3), (37, Instr.iload_n 2, 1), (38, Instr.aload_n 1, 1), (39, Instr.getfield 97, 3), (42, Instr.iload_n 3, 1), (43, Instr.iaload, 1), (44, Instr.iastore, 1), (45, Instr.aload_n 1, 1), (46, Instr.getfield 80, 3), (49, Instr.iload_n 2, 1), (50, Instr.iload 4, 2), (52, Instr.iastore, 1), (53, Instr.aload_n 1, 1), (54, Instr.getfield 100, 3), (57, Instr.iload_n 2, 1), (58, Instr.aload_n 1, 1), (59, Instr.getfield 100, 3), (62, Instr.iload_n 2, 1), (63, Instr.iaload, 1), (64, Instr.iload 5, 2), (66, Instr.iadd, 1), (67, Instr.sipush 9999, 3), (70, Instr.invokestatic 67, 3), (73, Instr.iastore, 1), (74, Instr.return_, 1)]
set_option maxRecDepth 20000 in
theorem tkX0_move : (tbX0_move.all fun q => decide (decode cX0_move q.1 = .ok q.2)) = true := by decide +kernel
def mX0_move : Nat × MethodName × ByteArray × Nat × Option FieldType × List (Nat × Instr × Nat) × Option (Nat × (Nat → Int32)) := (0, yX0_move, cX0_move, 6, none, tbX0_move, none)
def tbX0_roundAndRound : List (Nat × Instr × Nat) := [(0, Instr.aload_n 0, 1), (1, Instr.getfield 18, 3), (4, Instr.iconst (-1), 1), (5, Instr.invokestatic 103, 3), (8, Instr.aload_n 1, 1), (9, Instr.getfield 80, 3), (12, Instr.iload_n 2, 1), (13, Instr.iaload, 1), (14, Instr.istore 5, 2), (16, Instr.iconst 0, 1), (17, Instr.istore 6, 2), (19, Instr.iload 6, 2), (21, Instr.bipush 20, 2), (23, Instr.if_icmp .gt 74, 3), (26, Instr.aload_n 0, 1), (27, Instr.getfield 18, 3), (30, Instr.iload 5, 2), (32, Instr.iaload, 1), (33, Instr.iconst (-1), 1), (34, Instr.if_icmp .eq 29, 3), (37, Instr.iload 4, 2), (39, Instr.ifCond .eq 13, 3), (42, Instr.aload_n 0, 1), (43, Instr.getfield 18, 3), (46, Instr.iload 5, 2), (48, Instr.iaload, 1), (49, Instr.goto 13, 3), (52, Instr.iload 6, 2), (54, Instr.aload_n 0, 1), (55, Instr.getfield 18, 3), (58, Instr.iload 5, 2), (60, Instr.iaload, 1), (61, Instr.isub, 1), (62, Instr.ireturn, 1), (63, Instr.aload_n 0, 1), (64, Instr.getfield 18, 3), (67, Instr.iload 5, 2), (69, Instr.iload 6, 2), (71, Instr.iastore, 1), (72, Instr.aload_n 0, 1), (73, Instr.aload_n 1, 1), (74, Instr.iload_n 2, 1), (75, Instr.iload_n 3, 1), (76, Instr.iload 5, 2), (78, Instr.invokevirtual 83, 3), (81, Instr.aload_n 0, 1), (82, Instr.aload_n 1, 1), (83, Instr.sipush 260, 3), (86, Instr.invokevirtual 86, 3), (89, Instr.istore 5, 2), (91, Instr.iinc 6 1, 3), (94, Instr.goto (-75), 3), (97, Instr.iconst (-1), 1), (98, Instr.ireturn, 1)]
set_option maxRecDepth 20000 in
theorem tkX0_roundAndRound : (tbX0_roundAndRound.all fun q => decide (decode cX0_roundAndRound q.1 = .ok q.2)) = true := by decide +kernel
def mX0_roundAndRound : Nat × MethodName × ByteArray × Nat × Option FieldType × List (Nat × Instr × Nat) × Option (Nat × (Nat → Int32)) := (0, yX0_roundAndRound, cX0_roundAndRound, 7, (some .int), tbX0_roundAndRound, none)
def tbX1_init : List (Nat × Instr × Nat) := [(0, Instr.aload_n 0, 1), (1, Instr.invokespecial 3, 3), (4, Instr.aload_n 0, 1), (5, Instr.iconst 0, 1), (6, Instr.putfield 9, 3), (9, Instr.aload_n 0, 1), (10, Instr.bipush 80, 2), (12, Instr.newarray .int, 2), (14, Instr.putfield 15, 3), (17, Instr.aload_n 0, 1), (18, Instr.new 19, 3), (21, Instr.dup, 1), (22, Instr.invokespecial 21, 3), (25, Instr.putfield 22, 3), (28, Instr.aload_n 0, 1), (29, Instr.bipush 80, 2), (31, Instr.newarray .int, 2), (33, Instr.putfield 26, 3), (36, Instr.aload_n 0, 1), (37, Instr.iconst 0, 1), (38, Instr.putfield 29, 3), (41, Instr.aload_n 0, 1), (42, Instr.aload_n 1, 1), (43, Instr.putfield 32, 3), (46, Instr.aload_n 0, 1), (47, Instr.aload_n 2, 1), (48, Instr.putfield 35, 3), (51, Instr.return_, 1)]
set_option maxRecDepth 20000 in
theorem tkX1_init : (tbX1_init.all fun q => decide (decode cX1_init q.1 = .ok q.2)) = true := by decide +kernel
def mX1_init : Nat × MethodName × ByteArray × Nat × Option FieldType × List (Nat × Instr × Nat) × Option (Nat × (Nat → Int32)) := (1, yX1_init, cX1_init, 3, none, tbX1_init, none)
def tbX1_sendThrough : List (Nat × Instr × Nat) := [(0, Instr.aload_n 0, 1), (1, Instr.getfield 32, 3), (4, Instr.iload_n 1, 1), (5, Instr.invokevirtual 39, 3), (8, Instr.ifCond .eq 14, 3), (11, Instr.aload_n 0, 1), (12, Instr.getfield 32, 3), (15, Instr.iload_n 2, 1), (16, Instr.invokevirtual 43, 3), (19, Instr.ifCond .ne 6, 3), (22, Instr.bipush (-2), 2), (24, Instr.ireturn, 1), (25, Instr.aload_n 0, 1), (26, Instr.getfield 35, 3), (29, Instr.aload_n 0, 1), (30, Instr.getfield 32, 3), (33, Instr.iload_n 1, 1), (34, Instr.iload_n 2, 1), (35, Instr.invokevirtual 46, 3), (38, Instr.ifCond .ne 6, 3), (41, Instr.bipush (-3), 2), (43, Instr.ireturn, 1), (44, Instr.aload_n 0, 1), (45, Instr.sipush 263, 3), (48, Instr.iload_n 1, 1), (49, Instr.aload_n 0, 1), (50, Instr.getfield 32, 3), (53, Instr.getfield 52, 3), (56, Instr.iload_n 1, 1), (57, Instr.iaload, 1), (58, Instr.aload_n 0, 1), (59, Instr.getfield 32, 3), (62, Instr.getfield 55, 3), (65, Instr.iload_n 1, 1), (66, Instr.iaload, 1), (67, Instr.aload_n 0, 1), (68, Instr.getfield 32, 3), (71, Instr.getfield 58, 3), (74, Instr.iload_n 1, 1), (75, Instr.iaload, 1), (76, Instr.invokevirtual 61, 3), (79, Instr.aload_n 0, 1), (80, Instr.getfield 35, 3), (83, Instr.aload_n 0, 1), (84, Instr.getfield 32, 3), (87, Instr.iload_n 1, 1), (88, Instr.iload_n 2, 1), (89, Instr.invokevirtual 65, 3), (92, Instr.aload_n 0, 1), (93, Instr.getfield 32, 3), (96, Instr.getfield 55, 3), (99, Instr.iload_n 1, 1), (100, Instr.iaload, 1), (101, Instr.ireturn, 1)]
set_option maxRecDepth 20000 in
theorem tkX1_sendThrough : (tbX1_sendThrough.all fun q => decide (decode cX1_sendThrough q.1 = .ok q.2)) = true := by decide +kernel
def mX1_sendThrough : Nat × MethodName × ByteArray × Nat × Option FieldType × List (Nat × Instr × Nat) × Option (Nat × (Nat → Int32)) := (1, yX1_sendThrough, cX1_sendThrough, 3, (some .int), tbX1_sendThrough, none)
def tbX1_flip : List (Nat × Instr × Nat) := [(0, Instr.aload_n 0, 1), (1, Instr.getfield 32, 3), (4, Instr.iload_n 1, 1), (5, Instr.invokevirtual 43, 3), (8, Instr.ifCond .ne 6, 3), (11, Instr.bipush (-2), 2), (13, Instr.ireturn, 1), (14, Instr.aload_n 0, 1), (15, Instr.sipush 264, 3), (18, Instr.iload_n 1, 1), (19, Instr.iconst 0, 1), (20, Instr.iconst 0, 1), (21, Instr.iconst 0, 1), (22, Instr.invokevirtual 61, 3), (25, Instr.aload_n 0, 1), (26, Instr.getfield 32, 3), (29, Instr.getfield 69, 3), (32, Instr.iload_n 1, 1), (33, Instr.aload_n 0, 1), (34, Instr.getfield 32, 3), (37, Instr.getfield 69, 3), (40, Instr.iload_n 1, 1), (41, Instr.baload, 1), (42, Instr.ifCond .ne 7, 3), (45, Instr.iconst 1, 1), (46, Instr.goto 4, 3), (49, Instr.iconst 0, 1), (50, Instr.bastore, 1), (51, Instr.aload_n 0, 1), (52, Instr.getfield 32, 3), (55, Instr.getfield 69, 3), (58, Instr.iload_n 1, 1), (59, Instr.baload, 1), (60, Instr.ifCond .eq 7, 3), (63, Instr.iconst 1, 1), (64, Instr.goto 4, 3), (67, Instr.iconst 0, 1), (68, Instr.ireturn, 1)]
set_option maxRecDepth 20000 in
theorem tkX1_flip : (tbX1_flip.all fun q => decide (decode cX1_flip q.1 = .ok q.2)) = true := by decide +kernel
def mX1_flip : Nat × MethodName × ByteArray × Nat × Option FieldType × List (Nat × Instr × Nat) × Option (Nat × (Nat → Int32)) := (1, yX1_flip, cX1_flip, 2, (some .int), tbX1_flip, none)
def tbX1_changeArm : List (Nat × Instr × Nat) := [(0, Instr.iload_n 2, 1), (1, Instr.bipush 10, 2), (3, Instr.invokestatic 73, 3), (6, Instr.ifCond .ne 5, 3), (9, Instr.iconst (-1), 1), (10, Instr.ireturn, 1), (11, Instr.aload_n 0, 1), (12, Instr.getfield 32, 3), (15, Instr.iload_n 1, 1), (16, Instr.invokevirtual 43, 3), (19, Instr.ifCond .ne 6, 3), (22, Instr.bipush (-2), 2), (24, Instr.ireturn, 1), (25, Instr.aload_n 0, 1), (26, Instr.getfield 32, 3), (29, Instr.getfield 77, 3), (32, Instr.iload_n 1, 1), (33, Instr.iaload, 1), (34, Instr.istore_n 3, 1), (35, Instr.iload_n 3, 1), (36, Instr.iload_n 2, 1), (37, Instr.if_icmp .ne 6, 3), (40, Instr.bipush (-3), 2), (42, Instr.ireturn, 1), (43, Instr.aload_n 0, 1), (44, Instr.sipush 265, 3), (47, Instr.iload_n 1, 1), (48, Instr.iload_n 3, 1), (49, Instr.iconst 0, 1), (50, Instr.iconst 0, 1), (51, Instr.invokevirtual 61, 3), (54, Instr.aload_n 0, 1), (55, Instr.getfield 32, 3), (58, Instr.getfield 77, 3), (61, Instr.iload_n 1, 1), (62, Instr.iload_n 2, 1), (63, Instr.iastore, 1), (64, Instr.iload_n 3, 1), (65, Instr.ireturn, 1)]
set_option maxRecDepth 20000 in
theorem tkX1_changeArm : (tbX1_changeArm.all fun q => decide (decode cX1_changeArm q.1 = .ok q.2)) = true := by decide +kernel
def mX1_changeArm : Nat × MethodName × ByteArray × Nat × Option FieldType × List (Nat × Instr × Nat) × Option (Nat × (Nat → Int32)) := (1, yX1_changeArm, cX1_changeArm, 4, (some .int), tbX1_changeArm, none)
def tbX1_nextDay : List (Nat × Instr × Nat) := [(0, Instr.aload_n 0, 1), (1, Instr.getfield 32, 3), (4, Instr.getfield 80, 3), (7, Instr.iconst 0, 1), (8, Instr.iaload, 1), (9, Instr.sipush 999, 3), (12, Instr.if_icmp .lt 6, 3), (15, Instr.bipush (-3), 2), (17, Instr.ireturn, 1), (18, Instr.aload_n 0, 1), (19, Instr.sipush 266, 3), (22, Instr.iconst 0, 1), (23, Instr.iconst 0, 1), (24, Instr.iconst 0, 1), (25, Instr.iconst 0, 1), (26, Instr.invokevirtual 61, 3), (29, Instr.aload_n 0, 1), (30, Instr.getfield 32, 3), (33, Instr.getfield 80, 3), (36, Instr.iconst 0, 1), (37, Instr.dup2, 1), (38, Instr.iaload, 1), (39, Instr.iconst 1, 1), (40, Instr.iadd, 1), (41, Instr.iastore, 1), (42, Instr.aload_n 0, 1), (43, Instr.getfield 32, 3), (46, Instr.getfield 80, 3), (49, Instr.iconst 0, 1), (50, Instr.iaload, 1), (51, Instr.ireturn, 1)]
set_option maxRecDepth 20000 in
theorem tkX1_nextDay : (tbX1_nextDay.all fun q => decide (decode cX1_nextDay q.1 = .ok q.2)) = true := by decide +kernel
def mX1_nextDay : Nat × MethodName × ByteArray × Nat × Option FieldType × List (Nat × Instr × Nat) × Option (Nat × (Nat → Int32)) := (1, yX1_nextDay, cX1_nextDay, 1, (some .int), tbX1_nextDay, none)
def tbX1_takeBack : List (Nat × Instr × Nat) := [(0, Instr.aload_n 0, 1), (1, Instr.getfield 9, 3), (4, Instr.ifCond .gt 6, 3), (7, Instr.bipush (-3), 2), (9, Instr.ireturn, 1), (10, Instr.aload_n 0, 1), (11, Instr.dup, 1), (12, Instr.getfield 9, 3), (15, Instr.iconst 1, 1), (16, Instr.isub, 1), (17, Instr.putfield 9, 3), (20, Instr.aload_n 0, 1), (21, Instr.getfield 9, 3), (24, Instr.iconst 5, 1), (25, Instr.imul, 1), (26, Instr.istore_n 1, 1), (27, Instr.aload_n 0, 1), (28, Instr.getfield 15, 3), (31, Instr.iload_n 1, 1), (32, Instr.iconst 1, 1), (33, Instr.iadd, 1), (34, Instr.iaload, 1), (35, Instr.istore_n 2, 1), (36, Instr.aload_n 0, 1), (37, Instr.getfield 15, 3), (40, Instr.iload_n 1, 1), (41, Instr.iaload, 1), (42, Instr.sipush 263, 3), (45, Instr.if_icmp .ne 68, 3), (48, Instr.aload_n 0, 1), (49, Instr.getfield 32, 3), (52, Instr.iload_n 2, 1), (53, Instr.invokevirtual 39, 3), (56, Instr.ifCond .eq 57, 3), (59, Instr.aload_n 0, 1), (60, Instr.getfield 32, 3), (63, Instr.getfield 52, 3), (66, Instr.iload_n 2, 1), (67, Instr.aload_n 0, 1), (68, Instr.getfield 15, 3), (71, Instr.iload_n 1, 1), (72, Instr.iconst 2, 1), (73, Instr.iadd, 1), (74, Instr.iaload, 1), (75, Instr.iastore, 1), (76, Instr.aload_n 0, 1), (77, Instr.getfield 32, 3), (80, Instr.getfield 55, 3), (83, Instr.iload_n 2, 1), (84, Instr.aload_n 0, 1), (85, Instr.getfield 15, 3), (88, Instr.iload_n 1, 1), (89, Instr.iconst 3, 1), (90, Instr.iadd, 1), (91, Instr.iaload, 1), (92, Instr.iastore, 1), (93, Instr.aload_n 0, 1), (94, Instr.getfield 32, 3), (97, Instr.getfield 58, 3), (100, Instr.iload_n 2, 1), (101, Instr.aload_n 0, 1), (102, Instr.getfield 15, 3), (105, Instr.iload_n 1, 1), (106, Instr.iconst 4, 1), (107, Instr.iadd, 1), (108, Instr.iaload, 1), (109, Instr.iastore, 1), (110, Instr.goto 123, 3), (113, Instr.aload_n 0, 1), (114, Instr.getfield 15, 3), (117, Instr.iload_n 1, 1), (118, Instr.iaload, 1), (119, Instr.sipush 264, 3), (122, Instr.if_icmp .ne 43, 3), (125, Instr.aload_n 0, 1), (126, Instr.getfield 32, 3), (129, Instr.iload_n 2, 1), (130, Instr.invokevirtual 43, 3), (133, Instr.ifCond .eq 32, 3), (136, Instr.aload_n 0, 1), (137, Instr.getfield 32, 3), (140, Instr.getfield 69, 3), (143, Instr.iload_n 2, 1), (144, Instr.aload_n 0, 1), (145, Instr.getfield 32, 3), (148, Instr.getfield 69, 3), (151, Instr.iload_n 2, 1), (152, Instr.baload, 1), (153, Instr.ifCond .ne 7, 3), (156, Instr.iconst 1, 1), (157, Instr.goto 4, 3), (160, Instr.iconst 0, 1), (161, Instr.bastore, 1), (162, Instr.goto 71, 3), (165, Instr.aload_n 0, 1), (166, Instr.getfield 15, 3), (169, Instr.iload_n 1, 1), (170, Instr.iaload, 1), (171, Instr.sipush 265, 3), (174, Instr.if_icmp .ne 34, 3), (177, Instr.aload_n 0, 1), (178, Instr.getfield 32, 3), (181, Instr.iload_n 2, 1), (182, Instr.invokevirtual 43, 3), (185, Instr.ifCond .eq 23, 3), (188, Instr.aload_n 0, 1), (189, Instr.getfield 32, 3), (192, Instr.getfield 77, 3), (195, Instr.iload_n 2, 1), (196, Instr.aload_n 0, 1), (197, Instr.getfield 15, 3), (200, Instr.iload_n 1, 1), (201, Instr.iconst 2, 1), (202, Instr.iadd, 1), (203, Instr.iaload, 1), (204, Instr.iastore, 1), (205, Instr.goto 28, 3), (208, Instr.aload_n 0, 1), (209, Instr.getfield 15, 3), (212, Instr.iload_n 1, 1), (213, Instr.iaload, 1), (214, Instr.sipush 266, 3), (217, Instr.if_icmp .ne 16, 3), (220, Instr.aload_n 0, 1), (221, Instr.getfield 32, 3), (224, Instr.getfield 80, 3), (227, Instr.iconst 0, 1), (228, Instr.dup2, 1), (229, Instr.iaload, 1), (230, Instr.iconst 1, 1), (231, Instr.isub, 1), (232, Instr.iastore, 1), (233, Instr.aload_n 0, 1), (234, Instr.getfield 15, 3), (237, Instr.iload_n 1, 1), (238, Instr.iaload, 1), (239, Instr.sipush 263, 3), (242, Instr.isub, 1), (243, Instr.ireturn, 1)]
set_option maxRecDepth 20000 in
theorem tkX1_takeBack : (tbX1_takeBack.all fun q => decide (decode cX1_takeBack q.1 = .ok q.2)) = true := by decide +kernel
def mX1_takeBack : Nat × MethodName × ByteArray × Nat × Option FieldType × List (Nat × Instr × Nat) × Option (Nat × (Nat → Int32)) := (1, yX1_takeBack, cX1_takeBack, 3, (some .int), tbX1_takeBack, none)
def tbX1_keep : List (Nat × Instr × Nat) := [(0, Instr.aload_n 0, 1), (1, Instr.getfield 9, 3), (4, Instr.bipush 16, 2), (6, Instr.if_icmp .lt 24, 3), (9, Instr.aload_n 0, 1), (10, Instr.getfield 15, 3), (13, Instr.iconst 5, 1), (14, Instr.aload_n 0, 1), (15, Instr.getfield 15, 3), (18, Instr.iconst 0, 1), (19, Instr.bipush 75, 2), (21, Instr.invokestatic 83, 3), (24, Instr.aload_n 0, 1), (25, Instr.bipush 15, 2), (27, Instr.putfield 9, 3), (30, Instr.aload_n 0, 1), (31, Instr.getfield 9, 3), (34, Instr.iconst 5, 1), (35, Instr.imul, 1), (36, Instr.istore 6, 2), (38, Instr.aload_n 0, 1), (39, Instr.getfield 15, 3), (42, Instr.iload 6, 2), (44, Instr.iload_n 1, 1), (45, Instr.iastore, 1), (46, Instr.aload_n 0, 1), (47, Instr.getfield 15, 3), (50, Instr.iload 6, 2), (52, Instr.iconst 1, 1), (53, Instr.iadd, 1), (54, Instr.iload_n 2, 1), (55, Instr.iastore, 1), (56, Instr.aload_n 0, 1), (57, Instr.getfield 15, 3), (60, Instr.iload 6, 2), (62, Instr.iconst 2, 1), (63, Instr.iadd, 1), (64, Instr.iload_n 3, 1), (65, Instr.iastore, 1), (66, Instr.aload_n 0, 1), (67, Instr.getfield 15, 3), (70, Instr.iload 6, 2), (72, Instr.iconst 3, 1), (73, Instr.iadd, 1), (74, Instr.iload 4, 2), (76, Instr.iastore, 1), (77, Instr.aload_n 0, 1), (78, Instr.getfield 15, 3), (81, Instr.iload 6, 2), (83, Instr.iconst 4, 1), (84, Instr.iadd, 1), (85, Instr.iload 5, 2), (87, Instr.iastore, 1), (88, Instr.aload_n 0, 1), (89, Instr.dup, 1), (90, Instr.getfield 9, 3), (93, Instr.iconst 1, 1), (94, Instr.iadd, 1), (95, Instr.putfield 9, 3), (98, Instr.return_, 1)]
set_option maxRecDepth 20000 in
theorem tkX1_keep : (tbX1_keep.all fun q => decide (decode cX1_keep q.1 = .ok q.2)) = true := by decide +kernel
def mX1_keep : Nat × MethodName × ByteArray × Nat × Option FieldType × List (Nat × Instr × Nat) × Option (Nat × (Nat → Int32)) := (1, yX1_keep, cX1_keep, 7, none, tbX1_keep, none)
def tbX1_keepAhead : List (Nat × Instr × Nat) := [(0, Instr.aload_n 0, 1), (1, Instr.getfield 22, 3), (4, Instr.aload_n 0, 1), (5, Instr.getfield 32, 3), (8, Instr.invokevirtual 89, 3), (11, Instr.aload_n 0, 1), (12, Instr.getfield 15, 3), (15, Instr.iconst 0, 1), (16, Instr.aload_n 0, 1), (17, Instr.getfield 26, 3), (20, Instr.iconst 0, 1), (21, Instr.aload_n 0, 1), (22, Instr.getfield 15, 3), (25, Instr.arraylength, 1), (26, Instr.invokestatic 83, 3), (29, Instr.aload_n 0, 1), (30, Instr.aload_n 0, 1), (31, Instr.getfield 9, 3), (34, Instr.putfield 29, 3), (37, Instr.return_, 1)]
set_option maxRecDepth 20000 in
theorem tkX1_keepAhead : (tbX1_keepAhead.all fun q => decide (decode cX1_keepAhead q.1 = .ok q.2)) = true := by decide +kernel
def mX1_keepAhead : Nat × MethodName × ByteArray × Nat × Option FieldType × List (Nat × Instr × Nat) × Option (Nat × (Nat → Int32)) := (1, yX1_keepAhead, cX1_keepAhead, 1, none, tbX1_keepAhead, none)
def tbX1_restoreAhead : List (Nat × Instr × Nat) := [(0, Instr.aload_n 0, 1), (1, Instr.getfield 32, 3), (4, Instr.aload_n 0, 1), (5, Instr.getfield 22, 3), (8, Instr.invokevirtual 89, 3), (11, Instr.aload_n 0, 1), (12, Instr.getfield 26, 3), (15, Instr.iconst 0, 1), (16, Instr.aload_n 0, 1), (17, Instr.getfield 15, 3), (20, Instr.iconst 0, 1), (21, Instr.aload_n 0, 1), (22, Instr.getfield 15, 3), (25, Instr.arraylength, 1), (26, Instr.invokestatic 83, 3), (29, Instr.aload_n 0, 1), (30, Instr.aload_n 0, 1), (31, Instr.getfield 29, 3), (34, Instr.putfield 9, 3), (37, Instr.return_, 1)]
set_option maxRecDepth 20000 in
theorem tkX1_restoreAhead : (tbX1_restoreAhead.all fun q => decide (decode cX1_restoreAhead q.1 = .ok q.2)) = true := by decide +kernel
def mX1_restoreAhead : Nat × MethodName × ByteArray × Nat × Option FieldType × List (Nat × Instr × Nat) × Option (Nat × (Nat → Int32)) := (1, yX1_restoreAhead, cX1_restoreAhead, 1, none, tbX1_restoreAhead, none)
def tbX2_init : List (Nat × Instr × Nat) := [(0, Instr.aload_n 0, 1), (1, Instr.invokespecial 3, 3), (4, Instr.aload_n 0, 1), (5, Instr.new 9, 3), (8, Instr.dup, 1), (9, Instr.invokespecial 11, 3), (12, Instr.putfield 12, 3), (15, Instr.aload_n 0, 1), (16, Instr.iconst 0, 1), (17, Instr.putfield 18, 3), (20, Instr.aload_n 0, 1), (21, Instr.aload_n 1, 1), (22, Instr.putfield 22, 3), (25, Instr.return_, 1)]
set_option maxRecDepth 20000 in
theorem tkX2_init : (tbX2_init.all fun q => decide (decode cX2_init q.1 = .ok q.2)) = true := by decide +kernel
def mX2_init : Nat × MethodName × ByteArray × Nat × Option FieldType × List (Nat × Instr × Nat) × Option (Nat × (Nat → Int32)) := (2, yX2_init, cX2_init, 2, none, tbX2_init, none)
def tbX2_run : List (Nat × Instr × Nat) := [(0, Instr.aload_n 0, 1), (1, Instr.getfield 12, 3), (4, Instr.aload_n 1, 1), (5, Instr.invokevirtual 26, 3), (8, Instr.aload_n 0, 1), (9, Instr.iload_n 2, 1), (10, Instr.putfield 18, 3), (13, Instr.iconst 0, 1), (14, Instr.istore 4, 2), (16, Instr.iconst 0, 1), (17, Instr.istore 5, 2), (19, Instr.iload 5, 2), (21, Instr.iload_n 3, 1), (22, Instr.if_icmp .ge 123, 3), (25, Instr.aload_n 0, 1), (26, Instr.getfield 12, 3), (29, Instr.getfield 30, 3), (32, Instr.iconst 0, 1), (33, Instr.iaload, 1), (34, Instr.sipush 999, 3), (37, Instr.if_icmp .ge 108, 3), (40, Instr.aload_n 0, 1), (41, Instr.aload_n 0, 1), (42, Instr.getfield 12, 3), (45, Instr.getfield 34, 3), (48, Instr.invokevirtual 37, 3), (51, Instr.istore 6, 2), (53, Instr.aload_n 0, 1), (54, Instr.aload_n 0, 1), (55, Instr.getfield 12, 3), (58, Instr.getfield 41, 3), (61, Instr.invokevirtual 37, 3), (64, Instr.istore 7, 2), (66, Instr.aload_n 0, 1), (67, Instr.getfield 12, 3), (70, Instr.iload 6, 2), (72, Instr.invokevirtual 44, 3), (75, Instr.ifCond .eq 51, 3), (78, Instr.aload_n 0, 1), (79, Instr.getfield 12, 3), (82, Instr.iload 7, 2), (84, Instr.invokevirtual 48, 3), (87, Instr.ifCond .eq 39, 3), (90, Instr.aload_n 0, 1), (91, Instr.getfield 22, 3), (94, Instr.aload_n 0, 1), (95, Instr.getfield 12, 3), (98, Instr.iload 6, 2), (100, Instr.iload 7, 2), (102, Instr.invokevirtual 51, 3), (105, Instr.ifCond .eq 21, 3), (108, Instr.aload_n 0, 1), (109, Instr.getfield 22, 3), (112, Instr.aload_n 0, 1), (113, Instr.getfield 12, 3), (116, Instr.iload 6, 2), (118, Instr.iload 7, 2), (120, Instr.invokevirtual 57, 3), (123, Instr.iinc 4 1, 3), (126, Instr.aload_n 0, 1), (127, Instr.getfield 12, 3), (130, Instr.getfield 30, 3), (133, Instr.iconst 0, 1), (134, Instr.dup2, 1), (135, Instr.iaload, 1), (136, Instr.iconst 1, 1), (137, Instr.iadd, 1), (138, Instr.iastore, 1), (139, Instr.iinc 5 1, 3), (142, Instr.goto (-123), 3), (145, Instr.iload 4, 2), (147, Instr.ireturn, 1)]
set_option maxRecDepth 20000 in
theorem tkX2_run : (tbX2_run.all fun q => decide (decode cX2_run q.1 = .ok q.2)) = true := by decide +kernel
def mX2_run : Nat × MethodName × ByteArray × Nat × Option FieldType × List (Nat × Instr × Nat) × Option (Nat × (Nat → Int32)) := (2, yX2_run, cX2_run, 8, (some .int), tbX2_run, none)
def tbX2_draw : List (Nat × Instr × Nat) := [(0, Instr.aload_n 0, 1), (1, Instr.aload_n 0, 1), (2, Instr.getfield 18, 3), (5, Instr.sipush 1103, 3), (8, Instr.imul, 1), (9, Instr.sipush 12345, 3), (12, Instr.iadd, 1), (13, Instr.ldc 61, 2), (15, Instr.irem, 1), (16, Instr.putfield 18, 3), (19, Instr.iload_n 1, 1), (20, Instr.ifCond .le 12, 3), (23, Instr.aload_n 0, 1), (24, Instr.getfield 18, 3), (27, Instr.iload_n 1, 1), (28, Instr.irem, 1), (29, Instr.goto 4, 3), (32, Instr.iconst (-1), 1), (33, Instr.ireturn, 1)]
set_option maxRecDepth 20000 in
theorem tkX2_draw : (tbX2_draw.all fun q => decide (decode cX2_draw q.1 = .ok q.2)) = true := by decide +kernel
def mX2_draw : Nat × MethodName × ByteArray × Nat × Option FieldType × List (Nat × Instr × Nat) × Option (Nat × (Nat → Int32)) := (2, yX2_draw, cX2_draw, 2, (some .int), tbX2_draw, none)
def tbX2_behind : List (Nat × Instr × Nat) := [(0, Instr.aload_n 0, 1), (1, Instr.getfield 12, 3), (4, Instr.iload_n 1, 1), (5, Instr.invokevirtual 44, 3), (8, Instr.ifCond .ne 5, 3), (11, Instr.iconst (-1), 1), (12, Instr.ireturn, 1), (13, Instr.iload_n 2, 1), (14, Instr.tableswitch 56 0 2 #[26, 36, 46], 26), (40, Instr.aload_n 0, 1), (41, Instr.getfield 12, 3), (44, Instr.getfield 62, 3), (47, Instr.iload_n 1, 1), (48, Instr.iaload, 1), (49, Instr.ireturn, 1), (50, Instr.aload_n 0, 1), (51, Instr.getfield 12, 3), (54, Instr.getfield 65, 3), (57, Instr.iload_n 1, 1), (58, Instr.iaload, 1), (59, Instr.ireturn, 1), (60, Instr.aload_n 0, 1), (61, Instr.getfield 12, 3), (64, Instr.getfield 68, 3), (67, Instr.iload_n 1, 1), (68, Instr.iaload, 1), (69, Instr.ireturn, 1), (70, Instr.iconst (-1), 1), (71, Instr.ireturn, 1)]
set_option maxRecDepth 20000 in
theorem tkX2_behind : (tbX2_behind.all fun q => decide (decode cX2_behind q.1 = .ok q.2)) = true := by decide +kernel
def mX2_behind : Nat × MethodName × ByteArray × Nat × Option FieldType × List (Nat × Instr × Nat) × Option (Nat × (Nat → Int32)) := (2, yX2_behind, cX2_behind, 3, (some .int), tbX2_behind, none)
def tbX3_init : List (Nat × Instr × Nat) := [(0, Instr.aload_n 0, 1), (1, Instr.invokespecial 3, 3), (4, Instr.aload_n 0, 1), (5, Instr.bipush 8, 2), (7, Instr.newarray .int, 2), (9, Instr.putfield 9, 3), (12, Instr.aload_n 0, 1), (13, Instr.bipush 20, 2), (15, Instr.newarray .long, 2), (17, Instr.putfield 15, 3), (20, Instr.aload_n 0, 1), (21, Instr.aload_n 1, 1), (22, Instr.putfield 19, 3), (25, Instr.return_, 1)]
set_option maxRecDepth 20000 in
theorem tkX3_init : (tbX3_init.all fun q => decide (decode cX3_init q.1 = .ok q.2)) = true := by decide +kernel
def mX3_init : Nat × MethodName × ByteArray × Nat × Option FieldType × List (Nat × Instr × Nat) × Option (Nat × (Nat → Int32)) := (3, yX3_init, cX3_init, 2, none, tbX3_init, none)
def tbX3_comesOut : List (Nat × Instr × Nat) := [(0, Instr.aload_n 0, 1), (1, Instr.getfield 19, 3), (4, Instr.aload_n 1, 1), (5, Instr.iload_n 2, 1), (6, Instr.iload_n 3, 1), (7, Instr.iload 4, 2), (9, Instr.invokevirtual 23, 3), (12, Instr.aload_n 0, 1), (13, Instr.getfield 19, 3), (16, Instr.aload_n 1, 1), (17, Instr.sipush 262, 3), (20, Instr.invokevirtual 29, 3), (23, Instr.iconst 1, 1), (24, Instr.if_icmp .ne 7, 3), (27, Instr.iconst (-1), 1), (28, Instr.goto 14, 3), (31, Instr.aload_n 0, 1), (32, Instr.getfield 19, 3), (35, Instr.aload_n 1, 1), (36, Instr.sipush 260, 3), (39, Instr.invokevirtual 29, 3), (42, Instr.ireturn, 1)]
set_option maxRecDepth 20000 in
theorem tkX3_comesOut : (tbX3_comesOut.all fun q => decide (decode cX3_comesOut q.1 = .ok q.2)) = true := by decide +kernel
def mX3_comesOut : Nat × MethodName × ByteArray × Nat × Option FieldType × List (Nat × Instr × Nat) × Option (Nat × (Nat → Int32)) := (3, yX3_comesOut, cX3_comesOut, 5, (some .int), tbX3_comesOut, none)
def tbX3_possible : List (Nat × Instr × Nat) := [(0, Instr.iconst 0, 1), (1, Instr.istore_n 2, 1), (2, Instr.iconst 0, 1), (3, Instr.istore_n 3, 1), (4, Instr.iload_n 3, 1), (5, Instr.bipush 8, 2), (7, Instr.if_icmp .ge 87, 3), (10, Instr.iconst 1, 1), (11, Instr.istore 4, 2), (13, Instr.iconst 0, 1), (14, Instr.istore 5, 2), (16, Instr.iload 5, 2), (18, Instr.aload_n 1, 1), (19, Instr.getfield 33, 3), (22, Instr.if_icmp .ge 51, 3), (25, Instr.iload 4, 2), (27, Instr.ifCond .eq 46, 3), (30, Instr.aload_n 0, 1), (31, Instr.aload_n 1, 1), (32, Instr.iload_n 3, 1), (33, Instr.aload_n 1, 1), (34, Instr.getfield 39, 3), (37, Instr.iload 5, 2), (39, Instr.iaload, 1), (40, Instr.aload_n 1, 1), (41, Instr.getfield 42, 3), (44, Instr.iload 5, 2), (46, Instr.iaload, 1), (47, Instr.invokevirtual 45, 3), (50, Instr.aload_n 1, 1), (51, Instr.getfield 49, 3), (54, Instr.iload 5, 2), (56, Instr.iaload, 1), (57, Instr.if_icmp .ne 7, 3), (60, Instr.iconst 1, 1), (61, Instr.goto 4, 3), (64, Instr.iconst 0, 1), (65, Instr.istore 4, 2), (67, Instr.iinc 5 1, 3), (70, Instr.goto (-54), 3), (73, Instr.iload_n 2, 1), (74, Instr.iload 4, 2), (76, Instr.ifCond .eq 9, 3), (79, Instr.iconst 1, 1), (80, Instr.iload_n 3, 1), (81, Instr.ishl, 1), (82, Instr.goto 4, 3), (85, Instr.iconst 0, 1), (86, Instr.ior, 1), (87, Instr.istore_n 2, 1), (88, Instr.iinc 3 1, 3), (91, Instr.goto (-87), 3), (94, Instr.iload_n 2, 1), (95, Instr.ireturn, 1)]
set_option maxRecDepth 20000 in
theorem tkX3_possible : (tbX3_possible.all fun q => decide (decode cX3_possible q.1 = .ok q.2)) = true := by decide +kernel
def mX3_possible : Nat × MethodName × ByteArray × Nat × Option FieldType × List (Nat × Instr × Nat) × Option (Nat × (Nat → Int32)) := (3, yX3_possible, cX3_possible, 6, (some .int), tbX3_possible, none)
def tbX3_bestTrial : List (Nat × Instr × Nat) := [(0, Instr.aload_n 0, 1), (1, Instr.aload_n 1, 1), (2, Instr.invokevirtual 52, 3), (5, Instr.istore 4, 2), (7, Instr.iload 4, 2), (9, Instr.ifCond .ne 5, 3), (12, Instr.iconst (-1), 1), (13, Instr.ireturn, 1), (14, Instr.iconst (-1), 1), (15, Instr.istore 5, 2), (17, Instr.bipush 9, 2), (19, Instr.istore 6, 2), (21, Instr.iconst 0, 1), (22, Instr.istore 7, 2), (24, Instr.iload 7, 2), (26, Instr.bipush 20, 2), (28, Instr.if_icmp .ge 79, 3), (31, Instr.iconst 0, 1), (32, Instr.istore 8, 2), (34, Instr.iload 8, 2), (36, Instr.bipush 8, 2), (38, Instr.if_icmp .ge 42, 3), (41, Instr.aload_n 0, 1), (42, Instr.getfield 9, 3), (45, Instr.iload 8, 2), (47, Instr.iload 4, 2), (49, Instr.iload 8, 2), (51, Instr.ishr, 1), (52, Instr.iconst 1, 1), (53, Instr.iand, 1), (54, Instr.iconst 1, 1), (55, Instr.if_icmp .ne 16, 3), (58, Instr.aload_n 0, 1), (59, Instr.aload_n 1, 1), (60, Instr.iload 8, 2), (62, Instr.iload_n 2, 1), (63, Instr.iload 7, 2), (65, Instr.invokevirtual 45, 3), (68, Instr.goto 5, 3), (71, Instr.bipush (-2), 2), (73, Instr.iastore, 1), (74, Instr.iinc 8 1, 3), (77, Instr.goto (-43), 3), (80, Instr.aload_n 0, 1), (81, Instr.invokevirtual 56, 3), (84, Instr.istore 8, 2), (86, Instr.iload 8, 2), (88, Instr.iload 6, 2), (90, Instr.if_icmp .ge 11, 3), (93, Instr.iload 8, 2), (95, Instr.istore 6, 2), (97, Instr.iload 7, 2), (99, Instr.istore 5, 2), (101, Instr.iinc 7 1, 3), (104, Instr.goto (-80), 3), (107, Instr.iload_n 3, 1), (108, Instr.ifCond .eq 8, 3), (111, Instr.iload 5, 2), (113, Instr.goto 5, 3), (116, Instr.iload 6, 2), (118, Instr.ireturn, 1)]
set_option maxRecDepth 20000 in
theorem tkX3_bestTrial : (tbX3_bestTrial.all fun q => decide (decode cX3_bestTrial q.1 = .ok q.2)) = true := by decide +kernel
def mX3_bestTrial : Nat × MethodName × ByteArray × Nat × Option FieldType × List (Nat × Instr × Nat) × Option (Nat × (Nat → Int32)) := (3, yX3_bestTrial, cX3_bestTrial, 9, (some .int), tbX3_bestTrial, none)
def tbX3_mostAlike : List (Nat × Instr × Nat) := [(0, Instr.iconst 0, 1), (1, Instr.istore_n 1, 1), (2, Instr.iconst 0, 1), (3, Instr.istore_n 2, 1), (4, Instr.iload_n 2, 1), (5, Instr.bipush 8, 2), (7, Instr.if_icmp .ge 68, 3), (10, Instr.iconst 0, 1), (11, Instr.istore_n 3, 1), (12, Instr.iconst 0, 1), (13, Instr.istore 4, 2), (15, Instr.iload 4, 2), (17, Instr.bipush 8, 2), (19, Instr.if_icmp .ge 44, 3), (22, Instr.iload_n 3, 1), (23, Instr.aload_n 0, 1), (24, Instr.getfield 9, 3), (27, Instr.iload 4, 2), (29, Instr.iaload, 1), (30, Instr.aload_n 0, 1), (31, Instr.getfield 9, 3), (34, Instr.iload_n 2, 1), (35, Instr.iaload, 1), (36, Instr.if_icmp .ne 18, 3), (39, Instr.aload_n 0, 1), (40, Instr.getfield 9, 3), (43, Instr.iload_n 2, 1), (44, Instr.iaload, 1), (45, Instr.bipush (-2), 2), (47, Instr.if_icmp .eq 7, 3), (50, Instr.iconst 1, 1), (51, Instr.goto 4, 3), (54, Instr.iconst 0, 1), (55, Instr.iadd, 1), (56, Instr.istore_n 3, 1), (57, Instr.iinc 4 1, 3), (60, Instr.goto (-45), 3), (63, Instr.iload_n 1, 1), (64, Instr.iload_n 3, 1), (65, Instr.invokestatic 60, 3), (68, Instr.istore_n 1, 1), (69, Instr.iinc 2 1, 3), (72, Instr.goto (-68), 3), (75, Instr.iload_n 1, 1), (76, Instr.ireturn, 1)]
set_option maxRecDepth 20000 in
theorem tkX3_mostAlike : (tbX3_mostAlike.all fun q => decide (decode cX3_mostAlike q.1 = .ok q.2)) = true := by decide +kernel
def mX3_mostAlike : Nat × MethodName × ByteArray × Nat × Option FieldType × List (Nat × Instr × Nat) × Option (Nat × (Nat → Int32)) := (3, yX3_mostAlike, cX3_mostAlike, 5, (some .int), tbX3_mostAlike, none)
def tbX3_fewerBitten : List (Nat × Instr × Nat) := [(0, Instr.aload_n 0, 1), (1, Instr.getfield 15, 3), (4, Instr.lconst 0, 1), (5, Instr.invokestatic 66, 3), (8, Instr.aload_n 0, 1), (9, Instr.getfield 15, 3), (12, Instr.iconst 0, 1), (13, Instr.ldc2_w 72, 3), (16, Instr.lastore, 1), (17, Instr.iconst 0, 1), (18, Instr.istore 4, 2), (20, Instr.iload 4, 2), (22, Instr.iload_n 3, 1), (23, Instr.if_icmp .ge 74, 3), (26, Instr.bipush 19, 2), (28, Instr.istore 5, 2), (30, Instr.iload 5, 2), (32, Instr.ifCond .lt 59, 3), (35, Instr.aload_n 0, 1), (36, Instr.getfield 15, 3), (39, Instr.iload 5, 2), (41, Instr.aload_n 0, 1), (42, Instr.getfield 15, 3), (45, Instr.iload 5, 2), (47, Instr.laload, 1), (48, Instr.bipush 10, 2), (50, Instr.iload_n 1, 1), (51, Instr.isub, 1), (52, Instr.i2l, 1), (53, Instr.lmul, 1), (54, Instr.ldc2_w 74, 3), (57, Instr.ldiv, 1), (58, Instr.iload 5, 2), (60, Instr.ifCond .le 22, 3), (63, Instr.aload_n 0, 1), (64, Instr.getfield 15, 3), (67, Instr.iload 5, 2), (69, Instr.iconst 1, 1), (70, Instr.isub, 1), (71, Instr.laload, 1), (72, Instr.iload_n 1, 1), (73, Instr.i2l, 1), (74, Instr.lmul, 1), (75, Instr.ldc2_w 74, 3), (78, Instr.ldiv, 1), (79, Instr.goto 4, 3), (82, Instr.lconst 0, 1), (83, Instr.ladd, 1), (84, Instr.lastore, 1), (85, Instr.iinc 5 (-1), 3), (88, Instr.goto (-58), 3), (91, Instr.iinc 4 1, 3), (94, Instr.goto (-74), 3), (97, Instr.lconst 0, 1), (98, Instr.lstore 4, 2), (100, Instr.iconst 0, 1), (101, Instr.istore 6, 2), (103, Instr.iload 6, 2), (105, Instr.iload_n 2, 1), (106, Instr.if_icmp .ge 28, 3), (109, Instr.iload 6, 2), (111, Instr.bipush 20, 2), (113, Instr.if_icmp .ge 21, 3), (116, Instr.lload 4, 2), (118, Instr.aload_n 0, 1), (119, Instr.getfield 15, 3), (122, Instr.iload 6, 2), (124, Instr.laload, 1), (125, Instr.ladd, 1), (126, Instr.lstore 4, 2), (128, Instr.iinc 6 1, 3), (131, Instr.goto (-28), 3), (134, Instr.lload 4, 2), (136, Instr.lreturn, 1)]
set_option maxRecDepth 20000 in
theorem tkX3_fewerBitten : (tbX3_fewerBitten.all fun q => decide (decode cX3_fewerBitten q.1 = .ok q.2)) = true := by decide +kernel
def mX3_fewerBitten : Nat × MethodName × ByteArray × Nat × Option FieldType × List (Nat × Instr × Nat) × Option (Nat × (Nat → Int32)) := (3, yX3_fewerBitten, cX3_fewerBitten, 7, (some .long), tbX3_fewerBitten, none)
def tbX4_init : List (Nat × Instr × Nat) := [(0, Instr.aload_n 0, 1), (1, Instr.invokespecial 3, 3), (4, Instr.aload_n 0, 1), (5, Instr.new 9, 3), (8, Instr.dup, 1), (9, Instr.bipush 12, 2), (11, Instr.sipush 400, 3), (14, Instr.invokespecial 11, 3), (17, Instr.putfield 14, 3), (20, Instr.aload_n 0, 1), (21, Instr.iconst (-1), 1), (22, Instr.putfield 20, 3), (25, Instr.aload_n 0, 1), (26, Instr.sipush 401, 3), (29, Instr.newarray .int, 2), (31, Instr.putfield 24, 3), (34, Instr.aload_n 0, 1), (35, Instr.sipush 401, 3), (38, Instr.newarray .int, 2), (40, Instr.putfield 28, 3), (43, Instr.aload_n 0, 1), (44, Instr.sipush 401, 3), (47, Instr.newarray .int, 2), (49, Instr.putfield 31, 3), (52, Instr.aload_n 0, 1), (53, Instr.iconst 0, 1), (54, Instr.putfield 34, 3), (57, Instr.aload_n 0, 1), (58, Instr.iconst 0, 1), (59, Instr.putfield 37, 3), (62, Instr.aload_n 0, 1), (63, Instr.iconst 0, 1), (64, Instr.putfield 40, 3), (67, Instr.aload_n 0, 1), (68, Instr.iconst 0, 1), (69, Instr.putfield 43, 3), (72, Instr.return_, 1)]
set_option maxRecDepth 20000 in
theorem tkX4_init : (tbX4_init.all fun q => decide (decode cX4_init q.1 = .ok q.2)) = true := by decide +kernel
def mX4_init : Nat × MethodName × ByteArray × Nat × Option FieldType × List (Nat × Instr × Nat) × Option (Nat × (Nat → Int32)) := (4, yX4_init, cX4_init, 1, none, tbX4_init, none)
def tbX4_read : List (Nat × Instr × Nat) := [(0, Instr.aload_n 0, 1), (1, Instr.aload_n 1, 1), (2, Instr.invokevirtual 47, 3), (5, Instr.aload_n 0, 1), (6, Instr.iload_n 2, 1), (7, Instr.putfield 43, 3), (10, Instr.aload_n 0, 1), (11, Instr.iconst 0, 1), (12, Instr.putfield 37, 3), (15, Instr.aload_n 0, 1), (16, Instr.iconst 0, 1), (17, Instr.putfield 40, 3), (20, Instr.aload_n 0, 1), (21, Instr.iconst (-1), 1), (22, Instr.putfield 20, 3), (25, Instr.aload_n 0, 1), (26, Instr.getfield 14, 3), (29, Instr.invokevirtual 51, 3), (32, Instr.iconst 1, 1), (33, Instr.istore_n 3, 1), (34, Instr.iconst 0, 1), (35, Instr.istore 4, 2), (37, Instr.iload 4, 2), (39, Instr.bipush 12, 2), (41, Instr.if_icmp .gt 51, 3), (44, Instr.iload_n 3, 1), (45, Instr.ifCond .eq 47, 3), (48, Instr.aload_n 0, 1), (49, Instr.invokevirtual 54, 3), (52, Instr.ifCond .ne 5, 3), (55, Instr.iconst 0, 1), (56, Instr.ireturn, 1), (57, Instr.aload_n 0, 1), (58, Instr.invokevirtual 58, 3), (61, Instr.bipush 59, 2), (63, Instr.if_icmp .ne 7, 3), (66, Instr.iconst 1, 1), (67, Instr.goto 4, 3), (70, Instr.iconst 0, 1), (71, Instr.istore_n 3, 1), (72, Instr.iload_n 3, 1), (73, Instr.ifCond .eq 13, 3), (76, Instr.aload_n 0, 1), (77, Instr.dup, 1), (78, Instr.getfield 37, 3), (81, Instr.iconst 1, 1), (82, Instr.iadd, 1), (83, Instr.putfield 37, 3), (86, Instr.iinc 4 1, 3), (89, Instr.goto (-52), 3), (92, Instr.aload_n 0, 1), (93, Instr.invokevirtual 58, 3), (96, Instr.sipush 257, 3), (99, Instr.if_icmp .eq 10, 3), (102, Instr.aload_n 0, 1), (103, Instr.invokevirtual 62, 3), (106, Instr.ifCond .eq 7, 3), (109, Instr.iconst 1, 1), (110, Instr.goto 4, 3), (113, Instr.iconst 0, 1), (114, Instr.ireturn, 1)]
set_option maxRecDepth 20000 in
theorem tkX4_read : (tbX4_read.all fun q => decide (decode cX4_read q.1 = .ok q.2)) = true := by decide +kernel
def mX4_read : Nat × MethodName × ByteArray × Nat × Option FieldType × List (Nat × Instr × Nat) × Option (Nat × (Nat → Int32)) := (4, yX4_read, cX4_read, 5, (some .boolean), tbX4_read, none)
def tbX4_split : List (Nat × Instr × Nat) := [(0, Instr.aload_n 0, 1), (1, Instr.iconst 0, 1), (2, Instr.putfield 34, 3), (5, Instr.iconst 0, 1), (6, Instr.istore_n 2, 1), (7, Instr.iconst 0, 1), (8, Instr.istore_n 3, 1), (9, Instr.iload_n 3, 1), (10, Instr.sipush 400, 3), (13, Instr.if_icmp .ge 52, 3), (16, Instr.iload_n 2, 1), (17, Instr.aload_n 1, 1), (18, Instr.getfield 65, 3), (21, Instr.if_icmp .ge 44, 3), (24, Instr.iload_n 2, 1), (25, Instr.iconst 1, 1), (26, Instr.iadd, 1), (27, Instr.istore 4, 2), (29, Instr.aload_n 1, 1), (30, Instr.getfield 70, 3), (33, Instr.iload_n 2, 1), (34, Instr.iaload, 1), (35, Instr.bipush 32, 2), (37, Instr.if_icmp .eq 19, 3), (40, Instr.aload_n 0, 1), (41, Instr.aload_n 1, 1), (42, Instr.iload_n 2, 1), (43, Instr.invokevirtual 73, 3), (46, Instr.istore 4, 2), (48, Instr.aload_n 0, 1), (49, Instr.aload_n 1, 1), (50, Instr.iload_n 2, 1), (51, Instr.iload 4, 2), (53, Instr.invokevirtual 77, 3), (56, Instr.iload 4, 2), (58, Instr.istore_n 2, 1), (59, Instr.iinc 3 1, 3), (62, Instr.goto (-53), 3), (65, Instr.aload_n 0, 1), (66, Instr.getfield 24, 3), (69, Instr.aload_n 0, 1), (70, Instr.getfield 34, 3), (73, Instr.sipush 257, 3), (76, Instr.iastore, 1), (77, Instr.aload_n 0, 1), (78, Instr.getfield 31, 3), (81, Instr.aload_n 0, 1), (82, Instr.getfield 34, 3), (85, Instr.aload_n 1, 1), (86, Instr.getfield 65, 3), (89, Instr.iastore, 1), (90, Instr.aload_n 0, 1), (91, Instr.dup, 1), (92, Instr.getfield 34, 3), (95, Instr.iconst 1, 1), (96, Instr.iadd, 1), (97, Instr.putfield 34, 3), (100, Instr.return_, 1)]
set_option maxRecDepth 20000 in
theorem tkX4_split : (tbX4_split.all fun q => decide (decode cX4_split q.1 = .ok q.2)) = true := by decide +kernel
def mX4_split : Nat × MethodName × ByteArray × Nat × Option FieldType × List (Nat × Instr × Nat) × Option (Nat × (Nat → Int32)) := (4, yX4_split, cX4_split, 5, none, tbX4_split, none)
end TABS
end
section
section TABS
def tbX4_behindToken : List (Nat × Instr × Nat) := [(0, Instr.aload_n 1, 1), (1, Instr.getfield 70, 3), (4, Instr.iload_n 2, 1), (5, Instr.iaload, 1), (6, Instr.invokestatic 81, 3), (9, Instr.istore_n 3, 1), (10, Instr.iload_n 2, 1), (11, Instr.iconst 1, 1), (12, Instr.iadd, 1), (13, Instr.istore 4, 2), (15, Instr.iload_n 3, 1), (16, Instr.iconst 3, 1), (17, Instr.if_icmp .eq 32, 3), (20, Instr.iload 4, 2), (22, Instr.aload_n 1, 1), (23, Instr.getfield 65, 3), (26, Instr.if_icmp .ge 23, 3), (29, Instr.aload_n 1, 1), (30, Instr.getfield 70, 3), (33, Instr.iload 4, 2), (35, Instr.iaload, 1), (36, Instr.invokestatic 81, 3), (39, Instr.iload_n 3, 1), (40, Instr.if_icmp .ne 9, 3), (43, Instr.iinc 4 1, 3), (46, Instr.goto (-31), 3), (49, Instr.iload 4, 2), (51, Instr.ireturn, 1)]
set_option maxRecDepth 20000 in
theorem tkX4_behindToken : (tbX4_behindToken.all fun q => decide (decode cX4_behindToken q.1 = .ok q.2)) = true := by decide +kernel
def mX4_behindToken : Nat × MethodName × ByteArray × Nat × Option FieldType × List (Nat × Instr × Nat) × Option (Nat × (Nat → Int32)) := (4, yX4_behindToken, cX4_behindToken, 5, (some .int), tbX4_behindToken, none)
def tbX4_addToken : List (Nat × Instr × Nat) := [(0, Instr.aload_n 1, 1), (1, Instr.getfield 70, 3), (4, Instr.iload_n 2, 1), (5, Instr.iaload, 1), (6, Instr.invokestatic 81, 3), (9, Instr.istore 4, 2), (11, Instr.aload_n 0, 1), (12, Instr.getfield 31, 3), (15, Instr.aload_n 0, 1), (16, Instr.getfield 34, 3), (19, Instr.iload_n 2, 1), (20, Instr.iastore, 1), (21, Instr.aload_n 0, 1), (22, Instr.getfield 28, 3), (25, Instr.aload_n 0, 1), (26, Instr.getfield 34, 3), (29, Instr.iconst 0, 1), (30, Instr.iastore, 1), (31, Instr.iload 4, 2), (33, Instr.iconst 1, 1), (34, Instr.if_icmp .ne 21, 3), (37, Instr.aload_n 0, 1), (38, Instr.getfield 24, 3), (41, Instr.aload_n 0, 1), (42, Instr.getfield 34, 3), (45, Instr.aload_n 1, 1), (46, Instr.iload_n 2, 1), (47, Instr.iload_n 3, 1), (48, Instr.invokestatic 85, 3), (51, Instr.iastore, 1), (52, Instr.goto 92, 3), (55, Instr.iload 4, 2), (57, Instr.iconst 2, 1), (58, Instr.if_icmp .ne 71, 3), (61, Instr.aload_n 0, 1), (62, Instr.getfield 24, 3), (65, Instr.aload_n 0, 1), (66, Instr.getfield 34, 3), (69, Instr.sipush 256, 3), (72, Instr.iastore, 1), (73, Instr.iload_n 2, 1), (74, Instr.istore 5, 2), (76, Instr.iload 5, 2), (78, Instr.iload_n 3, 1), (79, Instr.if_icmp .ge 47, 3), (82, Instr.aload_n 0, 1), (83, Instr.getfield 28, 3), (86, Instr.aload_n 0, 1), (87, Instr.getfield 34, 3), (90, Instr.bipush 10, 2), (92, Instr.aload_n 0, 1), (93, Instr.getfield 28, 3), (96, Instr.aload_n 0, 1), (97, Instr.getfield 34, 3), (100, Instr.iaload, 1), (101, Instr.imul, 1), (102, Instr.aload_n 1, 1), (103, Instr.getfield 70, 3), (106, Instr.iload 5, 2), (108, Instr.iaload, 1), (109, Instr.iadd, 1), (110, Instr.bipush 48, 2), (112, Instr.isub, 1), (113, Instr.sipush 1001, 3), (116, Instr.invokestatic 89, 3), (119, Instr.iastore, 1), (120, Instr.iinc 5 1, 3), (123, Instr.goto (-47), 3), (126, Instr.goto 18, 3), (129, Instr.aload_n 0, 1), (130, Instr.getfield 24, 3), (133, Instr.aload_n 0, 1), (134, Instr.getfield 34, 3), (137, Instr.aload_n 1, 1), (138, Instr.getfield 70, 3), (141, Instr.iload_n 2, 1), (142, Instr.iaload, 1), (143, Instr.iastore, 1), (144, Instr.aload_n 0, 1), (145, Instr.dup, 1), (146, Instr.getfield 34, 3), (149, Instr.iconst 1, 1), (150, Instr.iadd, 1), (151, Instr.putfield 34, 3), (154, Instr.return_, 1)]
set_option maxRecDepth 20000 in
theorem tkX4_addToken : (tbX4_addToken.all fun q => decide (decode cX4_addToken q.1 = .ok q.2)) = true := by decide +kernel
def mX4_addToken : Nat × MethodName × ByteArray × Nat × Option FieldType × List (Nat × Instr × Nat) × Option (Nat × (Nat → Int32)) := (4, yX4_addToken, cX4_addToken, 6, none, tbX4_addToken, none)
def tbX4_sortOf : List (Nat × Instr × Nat) := [(0, Instr.iload_n 0, 1), (1, Instr.bipush 97, 2), (3, Instr.if_icmp .lt 13, 3), (6, Instr.iload_n 0, 1), (7, Instr.bipush 122, 2), (9, Instr.if_icmp .gt 7, 3), (12, Instr.iconst 1, 1), (13, Instr.goto 20, 3), (16, Instr.iload_n 0, 1), (17, Instr.bipush 48, 2), (19, Instr.if_icmp .lt 13, 3), (22, Instr.iload_n 0, 1), (23, Instr.bipush 57, 2), (25, Instr.if_icmp .gt 7, 3), (28, Instr.iconst 2, 1), (29, Instr.goto 4, 3), (32, Instr.iconst 3, 1), (33, Instr.ireturn, 1)]
set_option maxRecDepth 20000 in
theorem tkX4_sortOf : (tbX4_sortOf.all fun q => decide (decode cX4_sortOf q.1 = .ok q.2)) = true := by decide +kernel
def mX4_sortOf : Nat × MethodName × ByteArray × Nat × Option FieldType × List (Nat × Instr × Nat) × Option (Nat × (Nat → Int32)) := (4, yX4_sortOf, cX4_sortOf, 1, (some .int), tbX4_sortOf, none)
def tbX4_wordOf : List (Nat × Instr × Nat) := [(0, Instr.sipush 260, 3), (3, Instr.istore_n 3, 1), (4, Instr.iload_n 1, 1), (5, Instr.istore 4, 2), (7, Instr.iconst 1, 1), (8, Instr.istore 5, 2), (10, Instr.iconst 0, 1), (11, Instr.istore 6, 2), (13, Instr.iload 6, 2), (15, Instr.ldc 95, 2), (17, Instr.invokevirtual 97, 3), (20, Instr.if_icmp .ge 83, 3), (23, Instr.ldc 95, 2), (25, Instr.iload 6, 2), (27, Instr.invokevirtual 101, 3), (30, Instr.istore 7, 2), (32, Instr.iload 7, 2), (34, Instr.bipush 32, 2), (36, Instr.if_icmp .ne 28, 3), (39, Instr.iload 5, 2), (41, Instr.ifCond .eq 11, 3), (44, Instr.iload 4, 2), (46, Instr.iload_n 2, 1), (47, Instr.if_icmp .ne 5, 3), (50, Instr.iload_n 3, 1), (51, Instr.ireturn, 1), (52, Instr.iinc 3 1, 3), (55, Instr.iload_n 1, 1), (56, Instr.istore 4, 2), (58, Instr.iconst 1, 1), (59, Instr.istore 5, 2), (61, Instr.goto 36, 3), (64, Instr.iload 5, 2), (66, Instr.ifCond .eq 25, 3), (69, Instr.iload 4, 2), (71, Instr.iload_n 2, 1), (72, Instr.if_icmp .ge 19, 3), (75, Instr.aload_n 0, 1), (76, Instr.getfield 70, 3), (79, Instr.iload 4, 2), (81, Instr.iaload, 1), (82, Instr.iload 7, 2), (84, Instr.if_icmp .ne 7, 3), (87, Instr.iconst 1, 1), (88, Instr.goto 4, 3), (91, Instr.iconst 0, 1), (92, Instr.istore 5, 2), (94, Instr.iinc 4 1, 3), (97, Instr.iinc 6 1, 3), (100, Instr.goto (-87), 3), (103, Instr.sipush 258, 3), (106, Instr.ireturn, 1)]
set_option maxRecDepth 20000 in
theorem tkX4_wordOf : (tbX4_wordOf.all fun q => decide (decode cX4_wordOf q.1 = .ok q.2)) = true := by decide +kernel
def mX4_wordOf : Nat × MethodName × ByteArray × Nat × Option FieldType × List (Nat × Instr × Nat) × Option (Nat × (Nat → Int32)) := (4, yX4_wordOf, cX4_wordOf, 8, (some .int), tbX4_wordOf, none)
def tbX4_here : List (Nat × Instr × Nat) := [(0, Instr.aload_n 0, 1), (1, Instr.getfield 37, 3), (4, Instr.aload_n 0, 1), (5, Instr.getfield 34, 3), (8, Instr.if_icmp .ge 15, 3), (11, Instr.aload_n 0, 1), (12, Instr.getfield 24, 3), (15, Instr.aload_n 0, 1), (16, Instr.getfield 37, 3), (19, Instr.iaload, 1), (20, Instr.goto 6, 3), (23, Instr.sipush 257, 3), (26, Instr.ireturn, 1)]
set_option maxRecDepth 20000 in
theorem tkX4_here : (tbX4_here.all fun q => decide (decode cX4_here q.1 = .ok q.2)) = true := by decide +kernel
def mX4_here : Nat × MethodName × ByteArray × Nat × Option FieldType × List (Nat × Instr × Nat) × Option (Nat × (Nat → Int32)) := (4, yX4_here, cX4_here, 1, (some .int), tbX4_here, none)
def tbX4_faulty : List (Nat × Instr × Nat) := [(0, Instr.aload_n 0, 1), (1, Instr.aload_n 0, 1), (2, Instr.getfield 37, 3), (5, Instr.aload_n 0, 1), (6, Instr.getfield 34, 3), (9, Instr.if_icmp .ge 15, 3), (12, Instr.aload_n 0, 1), (13, Instr.getfield 31, 3), (16, Instr.aload_n 0, 1), (17, Instr.getfield 37, 3), (20, Instr.iaload, 1), (21, Instr.goto 4, 3), (24, Instr.iconst (-1), 1), (25, Instr.putfield 20, 3), (28, Instr.iconst 0, 1), (29, Instr.ireturn, 1)]
set_option maxRecDepth 20000 in
theorem tkX4_faulty : (tbX4_faulty.all fun q => decide (decode cX4_faulty q.1 = .ok q.2)) = true := by decide +kernel
def mX4_faulty : Nat × MethodName × ByteArray × Nat × Option FieldType × List (Nat × Instr × Nat) × Option (Nat × (Nat → Int32)) := (4, yX4_faulty, cX4_faulty, 1, (some .boolean), tbX4_faulty, none)
def tbX4_take : List (Nat × Instr × Nat) := [(0, Instr.aload_n 0, 1), (1, Instr.invokevirtual 58, 3), (4, Instr.iload_n 1, 1), (5, Instr.if_icmp .eq 8, 3), (8, Instr.aload_n 0, 1), (9, Instr.invokevirtual 62, 3), (12, Instr.ireturn, 1), (13, Instr.aload_n 0, 1), (14, Instr.dup, 1), (15, Instr.getfield 37, 3), (18, Instr.iconst 1, 1), (19, Instr.iadd, 1), (20, Instr.putfield 37, 3), (23, Instr.iconst 1, 1), (24, Instr.ireturn, 1)]
set_option maxRecDepth 20000 in
theorem tkX4_take : (tbX4_take.all fun q => decide (decode cX4_take q.1 = .ok q.2)) = true := by decide +kernel
def mX4_take : Nat × MethodName × ByteArray × Nat × Option FieldType × List (Nat × Instr × Nat) × Option (Nat × (Nat → Int32)) := (4, yX4_take, cX4_take, 2, (some .boolean), tbX4_take, none)
def tbX4_clause : List (Nat × Instr × Nat) := [(0, Instr.aload_n 0, 1), (1, Instr.getfield 14, 3), (4, Instr.getfield 105, 3), (7, Instr.istore_n 1, 1), (8, Instr.aload_n 0, 1), (9, Instr.invokevirtual 58, 3), (12, Instr.istore_n 2, 1), (13, Instr.iload_n 1, 1), (14, Instr.bipush 12, 2), (16, Instr.if_icmp .ge 41, 3), (19, Instr.aload_n 0, 1), (20, Instr.getfield 43, 3), (23, Instr.ifCond .eq 20, 3), (26, Instr.iload_n 2, 1), (27, Instr.sipush 263, 3), (30, Instr.if_icmp .lt 27, 3), (33, Instr.iload_n 2, 1), (34, Instr.sipush 266, 3), (37, Instr.if_icmp .le 25, 3), (40, Instr.goto 17, 3), (43, Instr.iload_n 2, 1), (44, Instr.sipush 260, 3), (47, Instr.if_icmp .lt 10, 3), (50, Instr.iload_n 2, 1), (51, Instr.sipush 262, 3), (54, Instr.if_icmp .le 8, 3), (57, Instr.aload_n 0, 1), (58, Instr.invokevirtual 62, 3), (61, Instr.ireturn, 1), (62, Instr.aload_n 0, 1), (63, Instr.dup, 1), (64, Instr.getfield 37, 3), (67, Instr.iconst 1, 1), (68, Instr.iadd, 1), (69, Instr.putfield 37, 3), (72, Instr.aload_n 0, 1), (73, Instr.getfield 14, 3), (76, Instr.getfield 108, 3), (79, Instr.iload_n 1, 1), (80, Instr.iload_n 2, 1), (81, Instr.iastore, 1), (82, Instr.aload_n 0, 1), (83, Instr.getfield 14, 3), (86, Instr.getfield 111, 3), (89, Instr.iload_n 1, 1), (90, Instr.iconst 1, 1), (91, Instr.iastore, 1), (92, Instr.aload_n 0, 1), (93, Instr.getfield 14, 3), (96, Instr.getfield 114, 3), (99, Instr.iconst 4, 1), (100, Instr.iload_n 1, 1), (101, Instr.imul, 1), (102, Instr.aload_n 0, 1), (103, Instr.getfield 14, 3), (106, Instr.getfield 117, 3), (109, Instr.iastore, 1), (110, Instr.iload_n 2, 1), (111, Instr.sipush 262, 3), (114, Instr.if_icmp .eq 20, 3), (117, Instr.iload_n 2, 1), (118, Instr.sipush 266, 3), (121, Instr.if_icmp .eq 13, 3), (124, Instr.aload_n 0, 1), (125, Instr.iconst 0, 1), (126, Instr.invokevirtual 120, 3), (129, Instr.ifCond .ne 5, 3), (132, Instr.iconst 0, 1), (133, Instr.ireturn, 1), (134, Instr.aload_n 0, 1), (135, Instr.getfield 14, 3), (138, Instr.getfield 114, 3), (141, Instr.iconst 4, 1), (142, Instr.iload_n 1, 1), (143, Instr.imul, 1), (144, Instr.iconst 1, 1), (145, Instr.iadd, 1), (146, Instr.aload_n 0, 1), (147, Instr.getfield 14, 3), (150, Instr.getfield 117, 3), (153, Instr.iastore, 1), (154, Instr.iload_n 2, 1), (155, Instr.sipush 263, 3), (158, Instr.if_icmp .ne 21, 3), (161, Instr.aload_n 0, 1), (162, Instr.sipush 268, 3), (165, Instr.invokevirtual 124, 3), (168, Instr.ifCond .eq 36, 3), (171, Instr.aload_n 0, 1), (172, Instr.iconst 0, 1), (173, Instr.invokevirtual 120, 3), (176, Instr.ifCond .eq 28, 3), (179, Instr.iload_n 2, 1), (180, Instr.sipush 265, 3), (183, Instr.if_icmp .ne 23, 3), (186, Instr.aload_n 0, 1), (187, Instr.sipush 269, 3), (190, Instr.invokevirtual 124, 3), (193, Instr.ifCond .eq 11, 3), (196, Instr.aload_n 0, 1), (197, Instr.iconst 0, 1), (198, Instr.invokevirtual 120, 3), (201, Instr.ifCond .ne 5, 3), (204, Instr.iconst 0, 1), (205, Instr.ireturn, 1), (206, Instr.aload_n 0, 1), (207, Instr.getfield 14, 3), (210, Instr.getfield 114, 3), (213, Instr.iconst 4, 1), (214, Instr.iload_n 1, 1), (215, Instr.imul, 1), (216, Instr.iconst 2, 1), (217, Instr.iadd, 1), (218, Instr.aload_n 0, 1), (219, Instr.getfield 14, 3), (222, Instr.getfield 117, 3), (225, Instr.iastore, 1), (226, Instr.aload_n 0, 1), (227, Instr.getfield 43, 3), (230, Instr.ifCond .eq 23, 3), (233, Instr.aload_n 0, 1), (234, Instr.invokevirtual 58, 3), (237, Instr.sipush 270, 3), (240, Instr.if_icmp .ne 13, 3), (243, Instr.aload_n 0, 1), (244, Instr.iload_n 1, 1), (245, Instr.invokevirtual 127, 3), (248, Instr.ifCond .ne 5, 3), (251, Instr.iconst 0, 1), (252, Instr.ireturn, 1), (253, Instr.aload_n 0, 1), (254, Instr.invokevirtual 58, 3), (257, Instr.sipush 267, 3), (260, Instr.if_icmp .ne 26, 3), (263, Instr.aload_n 0, 1), (264, Instr.dup, 1), (265, Instr.getfield 37, 3), (268, Instr.iconst 1, 1), (269, Instr.iadd, 1), (270, Instr.putfield 37, 3), (273, Instr.aload_n 0, 1), (274, Instr.iconst 0, 1), (275, Instr.sipush 271, 3), (278, Instr.invokevirtual 129, 3), (281, Instr.ifCond .ne 5, 3), (284, Instr.iconst 0, 1), (285, Instr.ireturn, 1), (286, Instr.aload_n 0, 1), (287, Instr.getfield 14, 3), (290, Instr.getfield 114, 3), (293, Instr.iconst 4, 1), (294, Instr.iload_n 1, 1), (295, Instr.imul, 1), (296, Instr.iconst 3, 1), (297, Instr.iadd, 1), (298, Instr.aload_n 0, 1), (299, Instr.getfield 14, 3), (302, Instr.getfield 117, 3), (305, Instr.iastore, 1), (306, Instr.aload_n 0, 1), (307, Instr.getfield 14, 3), (310, Instr.dup, 1), (311, Instr.getfield 105, 3), (314, Instr.iconst 1, 1), (315, Instr.iadd, 1), (316, Instr.putfield 105, 3), (319, Instr.iconst 1, 1), (320, Instr.ireturn, 1)]
set_option maxRecDepth 20000 in
theorem tkX4_clause : (tbX4_clause.all fun q => decide (decode cX4_clause q.1 = .ok q.2)) = true := by decide +kernel
def mX4_clause : Nat × MethodName × ByteArray × Nat × Option FieldType × List (Nat × Instr × Nat) × Option (Nat × (Nat → Int32)) := (4, yX4_clause, cX4_clause, 3, (some .boolean), tbX4_clause, none)
def tbX4_times : List (Nat × Instr × Nat) := [(0, Instr.aload_n 0, 1), (1, Instr.dup, 1), (2, Instr.getfield 37, 3), (5, Instr.iconst 1, 1), (6, Instr.iadd, 1), (7, Instr.putfield 37, 3), (10, Instr.aload_n 0, 1), (11, Instr.invokevirtual 58, 3), (14, Instr.sipush 256, 3), (17, Instr.if_icmp .ne 30, 3), (20, Instr.aload_n 0, 1), (21, Instr.getfield 28, 3), (24, Instr.aload_n 0, 1), (25, Instr.getfield 37, 3), (28, Instr.iaload, 1), (29, Instr.iconst 1, 1), (30, Instr.if_icmp .lt 17, 3), (33, Instr.aload_n 0, 1), (34, Instr.getfield 28, 3), (37, Instr.aload_n 0, 1), (38, Instr.getfield 37, 3), (41, Instr.iaload, 1), (42, Instr.bipush 20, 2), (44, Instr.if_icmp .le 8, 3), (47, Instr.aload_n 0, 1), (48, Instr.invokevirtual 62, 3), (51, Instr.ireturn, 1), (52, Instr.aload_n 0, 1), (53, Instr.getfield 14, 3), (56, Instr.getfield 111, 3), (59, Instr.iload_n 1, 1), (60, Instr.aload_n 0, 1), (61, Instr.getfield 28, 3), (64, Instr.aload_n 0, 1), (65, Instr.getfield 37, 3), (68, Instr.iaload, 1), (69, Instr.iastore, 1), (70, Instr.aload_n 0, 1), (71, Instr.dup, 1), (72, Instr.getfield 37, 3), (75, Instr.iconst 1, 1), (76, Instr.iadd, 1), (77, Instr.putfield 37, 3), (80, Instr.iconst 1, 1), (81, Instr.ireturn, 1)]
set_option maxRecDepth 20000 in
theorem tkX4_times : (tbX4_times.all fun q => decide (decode cX4_times q.1 = .ok q.2)) = true := by decide +kernel
def mX4_times : Nat × MethodName × ByteArray × Nat × Option FieldType × List (Nat × Instr × Nat) × Option (Nat × (Nat → Int32)) := (4, yX4_times, cX4_times, 2, (some .boolean), tbX4_times, none)
def tbX4_test : List (Nat × Instr × Nat) := [(0, Instr.iconst (-1), 1), (1, Instr.istore_n 3, 1), (2, Instr.iconst 0, 1), (3, Instr.istore 4, 2), (5, Instr.iload 4, 2), (7, Instr.sipush 400, 3), (10, Instr.if_icmp .gt 78, 3), (13, Instr.iload_n 2, 1), (14, Instr.sipush 271, 3), (17, Instr.if_icmp .ne 17, 3), (20, Instr.aload_n 0, 1), (21, Instr.iload_n 1, 1), (22, Instr.sipush 272, 3), (25, Instr.invokevirtual 129, 3), (28, Instr.ifCond .eq 14, 3), (31, Instr.goto 13, 3), (34, Instr.aload_n 0, 1), (35, Instr.iload_n 1, 1), (36, Instr.invokevirtual 133, 3), (39, Instr.ifCond .ne 5, 3), (42, Instr.iconst 0, 1), (43, Instr.ireturn, 1), (44, Instr.aload_n 0, 1), (45, Instr.getfield 14, 3), (48, Instr.iload_n 3, 1), (49, Instr.invokevirtual 136, 3), (52, Instr.aload_n 0, 1), (53, Instr.invokevirtual 58, 3), (56, Instr.iload_n 2, 1), (57, Instr.if_icmp .eq 5, 3), (60, Instr.iconst 1, 1), (61, Instr.ireturn, 1), (62, Instr.aload_n 0, 1), (63, Instr.getfield 14, 3), (66, Instr.iload_n 2, 1), (67, Instr.iconst 0, 1), (68, Instr.invokevirtual 140, 3), (71, Instr.istore_n 3, 1), (72, Instr.aload_n 0, 1), (73, Instr.dup, 1), (74, Instr.getfield 37, 3), (77, Instr.iconst 1, 1), (78, Instr.iadd, 1), (79, Instr.putfield 37, 3), (82, Instr.iinc 4 1, 3), (85, Instr.goto (-80), 3), (88, Instr.aload_n 0, 1), (89, Instr.invokevirtual 62, 3), (92, Instr.ireturn, 1)]
set_option maxRecDepth 20000 in
theorem tkX4_test : (tbX4_test.all fun q => decide (decode cX4_test q.1 = .ok q.2)) = true := by decide +kernel
def mX4_test : Nat × MethodName × ByteArray × Nat × Option FieldType × List (Nat × Instr × Nat) × Option (Nat × (Nat → Int32)) := (4, yX4_test, cX4_test, 5, (some .boolean), tbX4_test, none)
def tbX4_plain : List (Nat × Instr × Nat) := [(0, Instr.iconst 0, 1), (1, Instr.istore_n 2, 1), (2, Instr.iconst 0, 1), (3, Instr.istore_n 3, 1), (4, Instr.iload_n 3, 1), (5, Instr.sipush 400, 3), (8, Instr.if_icmp .gt 39, 3), (11, Instr.aload_n 0, 1), (12, Instr.invokevirtual 58, 3), (15, Instr.sipush 273, 3), (18, Instr.if_icmp .ne 29, 3), (21, Instr.iload_n 2, 1), (22, Instr.ifCond .ne 7, 3), (25, Instr.iconst 1, 1), (26, Instr.goto 4, 3), (29, Instr.iconst 0, 1), (30, Instr.istore_n 2, 1), (31, Instr.aload_n 0, 1), (32, Instr.dup, 1), (33, Instr.getfield 37, 3), (36, Instr.iconst 1, 1), (37, Instr.iadd, 1), (38, Instr.putfield 37, 3), (41, Instr.iinc 3 1, 3), (44, Instr.goto (-40), 3), (47, Instr.aload_n 0, 1), (48, Instr.invokevirtual 58, 3), (51, Instr.bipush 40, 2), (53, Instr.if_icmp .ne 16, 3), (56, Instr.aload_n 0, 1), (57, Instr.iload_n 1, 1), (58, Instr.bipush 41, 2), (60, Instr.invokevirtual 143, 3), (63, Instr.ifCond .eq 14, 3), (66, Instr.goto 13, 3), (69, Instr.aload_n 0, 1), (70, Instr.iload_n 1, 1), (71, Instr.invokevirtual 146, 3), (74, Instr.ifCond .ne 5, 3), (77, Instr.iconst 0, 1), (78, Instr.ireturn, 1), (79, Instr.iload_n 2, 1), (80, Instr.ifCond .eq 15, 3), (83, Instr.aload_n 0, 1), (84, Instr.getfield 14, 3), (87, Instr.sipush 273, 3), (90, Instr.iconst 0, 1), (91, Instr.invokevirtual 140, 3), (94, Instr.pop, 1), (95, Instr.iconst 1, 1), (96, Instr.ireturn, 1)]
set_option maxRecDepth 20000 in
theorem tkX4_plain : (tbX4_plain.all fun q => decide (decode cX4_plain q.1 = .ok q.2)) = true := by decide +kernel
def mX4_plain : Nat × MethodName × ByteArray × Nat × Option FieldType × List (Nat × Instr × Nat) × Option (Nat × (Nat → Int32)) := (4, yX4_plain, cX4_plain, 4, (some .boolean), tbX4_plain, none)
def tbX4_comparison : List (Nat × Instr × Nat) := [(0, Instr.aload_n 0, 1), (1, Instr.iload_n 1, 1), (2, Instr.invokevirtual 120, 3), (5, Instr.ifCond .ne 5, 3), (8, Instr.iconst 0, 1), (9, Instr.ireturn, 1), (10, Instr.aload_n 0, 1), (11, Instr.invokevirtual 58, 3), (14, Instr.istore_n 2, 1), (15, Instr.iload_n 2, 1), (16, Instr.bipush 60, 2), (18, Instr.if_icmp .eq 20, 3), (21, Instr.iload_n 2, 1), (22, Instr.bipush 62, 2), (24, Instr.if_icmp .eq 14, 3), (27, Instr.iload_n 2, 1), (28, Instr.bipush 61, 2), (30, Instr.if_icmp .eq 8, 3), (33, Instr.aload_n 0, 1), (34, Instr.invokevirtual 62, 3), (37, Instr.ireturn, 1), (38, Instr.aload_n 0, 1), (39, Instr.dup, 1), (40, Instr.getfield 37, 3), (43, Instr.iconst 1, 1), (44, Instr.iadd, 1), (45, Instr.putfield 37, 3), (48, Instr.aload_n 0, 1), (49, Instr.iload_n 1, 1), (50, Instr.invokevirtual 120, 3), (53, Instr.ifCond .ne 5, 3), (56, Instr.iconst 0, 1), (57, Instr.ireturn, 1), (58, Instr.aload_n 0, 1), (59, Instr.getfield 14, 3), (62, Instr.iload_n 2, 1), (63, Instr.iconst 0, 1), (64, Instr.invokevirtual 140, 3), (67, Instr.pop, 1), (68, Instr.iconst 1, 1), (69, Instr.ireturn, 1)]
set_option maxRecDepth 20000 in
theorem tkX4_comparison : (tbX4_comparison.all fun q => decide (decode cX4_comparison q.1 = .ok q.2)) = true := by decide +kernel
def mX4_comparison : Nat × MethodName × ByteArray × Nat × Option FieldType × List (Nat × Instr × Nat) × Option (Nat × (Nat → Int32)) := (4, yX4_comparison, cX4_comparison, 3, (some .boolean), tbX4_comparison, none)
def tbX4_inBrackets : List (Nat × Instr × Nat) := [(0, Instr.iload_n 1, 1), (1, Instr.bipush 8, 2), (3, Instr.if_icmp .lt 8, 3), (6, Instr.aload_n 0, 1), (7, Instr.invokevirtual 62, 3), (10, Instr.ireturn, 1), (11, Instr.aload_n 0, 1), (12, Instr.dup, 1), (13, Instr.getfield 37, 3), (16, Instr.iconst 1, 1), (17, Instr.iadd, 1), (18, Instr.putfield 37, 3), (21, Instr.iload_n 2, 1), (22, Instr.bipush 41, 2), (24, Instr.if_icmp .ne 19, 3), (27, Instr.aload_n 0, 1), (28, Instr.iload_n 1, 1), (29, Instr.iconst 1, 1), (30, Instr.iadd, 1), (31, Instr.sipush 271, 3), (34, Instr.invokevirtual 129, 3), (37, Instr.ifCond .eq 28, 3), (40, Instr.goto 13, 3), (43, Instr.aload_n 0, 1), (44, Instr.iload_n 1, 1), (45, Instr.iconst 1, 1), (46, Instr.iadd, 1), (47, Instr.invokevirtual 120, 3), (50, Instr.ifCond .eq 15, 3), (53, Instr.aload_n 0, 1), (54, Instr.iload_n 2, 1), (55, Instr.invokevirtual 124, 3), (58, Instr.ifCond .eq 7, 3), (61, Instr.iconst 1, 1), (62, Instr.goto 4, 3), (65, Instr.iconst 0, 1), (66, Instr.ireturn, 1)]
set_option maxRecDepth 20000 in
theorem tkX4_inBrackets : (tbX4_inBrackets.all fun q => decide (decode cX4_inBrackets q.1 = .ok q.2)) = true := by decide +kernel
def mX4_inBrackets : Nat × MethodName × ByteArray × Nat × Option FieldType × List (Nat × Instr × Nat) × Option (Nat × (Nat → Int32)) := (4, yX4_inBrackets, cX4_inBrackets, 3, (some .boolean), tbX4_inBrackets, none)
def tbX4_sum : List (Nat × Instr × Nat) := [(0, Instr.aload_n 0, 1), (1, Instr.iload_n 1, 1), (2, Instr.invokevirtual 149, 3), (5, Instr.istore_n 2, 1), (6, Instr.iconst 0, 1), (7, Instr.istore_n 3, 1), (8, Instr.iload_n 3, 1), (9, Instr.sipush 400, 3), (12, Instr.if_icmp .gt 64, 3), (15, Instr.iload_n 2, 1), (16, Instr.ifCond .eq 60, 3), (19, Instr.aload_n 0, 1), (20, Instr.invokevirtual 58, 3), (23, Instr.bipush 43, 2), (25, Instr.if_icmp .eq 12, 3), (28, Instr.aload_n 0, 1), (29, Instr.invokevirtual 58, 3), (32, Instr.bipush 45, 2), (34, Instr.if_icmp .ne 42, 3), (37, Instr.aload_n 0, 1), (38, Instr.invokevirtual 58, 3), (41, Instr.istore 4, 2), (43, Instr.aload_n 0, 1), (44, Instr.dup, 1), (45, Instr.getfield 37, 3), (48, Instr.iconst 1, 1), (49, Instr.iadd, 1), (50, Instr.putfield 37, 3), (53, Instr.aload_n 0, 1), (54, Instr.iload_n 1, 1), (55, Instr.invokevirtual 149, 3), (58, Instr.istore_n 2, 1), (59, Instr.aload_n 0, 1), (60, Instr.getfield 14, 3), (63, Instr.iload 4, 2), (65, Instr.iconst 0, 1), (66, Instr.invokevirtual 140, 3), (69, Instr.pop, 1), (70, Instr.iinc 3 1, 3), (73, Instr.goto (-65), 3), (76, Instr.iload_n 2, 1), (77, Instr.ireturn, 1)]
set_option maxRecDepth 20000 in
theorem tkX4_sum : (tbX4_sum.all fun q => decide (decode cX4_sum q.1 = .ok q.2)) = true := by decide +kernel
def mX4_sum : Nat × MethodName × ByteArray × Nat × Option FieldType × List (Nat × Instr × Nat) × Option (Nat × (Nat → Int32)) := (4, yX4_sum, cX4_sum, 5, (some .boolean), tbX4_sum, none)
def tbX4_term : List (Nat × Instr × Nat) := [(0, Instr.aload_n 0, 1), (1, Instr.iload_n 1, 1), (2, Instr.invokevirtual 152, 3), (5, Instr.istore_n 2, 1), (6, Instr.iconst 0, 1), (7, Instr.istore_n 3, 1), (8, Instr.iload_n 3, 1), (9, Instr.sipush 400, 3), (12, Instr.if_icmp .gt 73, 3), (15, Instr.iload_n 2, 1), (16, Instr.ifCond .eq 69, 3), (19, Instr.aload_n 0, 1), (20, Instr.invokevirtual 58, 3), (23, Instr.bipush 42, 2), (25, Instr.if_icmp .eq 21, 3), (28, Instr.aload_n 0, 1), (29, Instr.invokevirtual 58, 3), (32, Instr.bipush 47, 2), (34, Instr.if_icmp .eq 12, 3), (37, Instr.aload_n 0, 1), (38, Instr.invokevirtual 58, 3), (41, Instr.bipush 37, 2), (43, Instr.if_icmp .ne 42, 3), (46, Instr.aload_n 0, 1), (47, Instr.invokevirtual 58, 3), (50, Instr.istore 4, 2), (52, Instr.aload_n 0, 1), (53, Instr.dup, 1), (54, Instr.getfield 37, 3), (57, Instr.iconst 1, 1), (58, Instr.iadd, 1), (59, Instr.putfield 37, 3), (62, Instr.aload_n 0, 1), (63, Instr.iload_n 1, 1), (64, Instr.invokevirtual 152, 3), (67, Instr.istore_n 2, 1), (68, Instr.aload_n 0, 1), (69, Instr.getfield 14, 3), (72, Instr.iload 4, 2), (74, Instr.iconst 0, 1), (75, Instr.invokevirtual 140, 3), (78, Instr.pop, 1), (79, Instr.iinc 3 1, 3), (82, Instr.goto (-74), 3), (85, Instr.iload_n 2, 1), (86, Instr.ireturn, 1)]
set_option maxRecDepth 20000 in
theorem tkX4_term : (tbX4_term.all fun q => decide (decode cX4_term q.1 = .ok q.2)) = true := by decide +kernel
def mX4_term : Nat × MethodName × ByteArray × Nat × Option FieldType × List (Nat × Instr × Nat) × Option (Nat × (Nat → Int32)) := (4, yX4_term, cX4_term, 5, (some .boolean), tbX4_term, none)
def tbX4_part : List (Nat × Instr × Nat) := [(0, Instr.aload_n 0, 1), (1, Instr.invokevirtual 58, 3), (4, Instr.bipush 91, 2), (6, Instr.if_icmp .ne 11, 3), (9, Instr.aload_n 0, 1), (10, Instr.iload_n 1, 1), (11, Instr.bipush 93, 2), (13, Instr.invokevirtual 143, 3), (16, Instr.ireturn, 1), (17, Instr.aload_n 0, 1), (18, Instr.getfield 40, 3), (21, Instr.bipush 50, 2), (23, Instr.if_icmp .lt 8, 3), (26, Instr.aload_n 0, 1), (27, Instr.invokevirtual 62, 3), (30, Instr.ireturn, 1), (31, Instr.aload_n 0, 1), (32, Instr.dup, 1), (33, Instr.getfield 40, 3), (36, Instr.iconst 1, 1), (37, Instr.iadd, 1), (38, Instr.putfield 40, 3), (41, Instr.aload_n 0, 1), (42, Instr.invokevirtual 58, 3), (45, Instr.sipush 256, 3), (48, Instr.if_icmp .ne 55, 3), (51, Instr.aload_n 0, 1), (52, Instr.getfield 28, 3), (55, Instr.aload_n 0, 1), (56, Instr.getfield 37, 3), (59, Instr.iaload, 1), (60, Instr.sipush 1000, 3), (63, Instr.if_icmp .le 8, 3), (66, Instr.aload_n 0, 1), (67, Instr.invokevirtual 62, 3), (70, Instr.ireturn, 1), (71, Instr.aload_n 0, 1), (72, Instr.getfield 14, 3), (75, Instr.sipush 256, 3), (78, Instr.aload_n 0, 1), (79, Instr.getfield 28, 3), (82, Instr.aload_n 0, 1), (83, Instr.getfield 37, 3), (86, Instr.iaload, 1), (87, Instr.invokevirtual 140, 3), (90, Instr.pop, 1), (91, Instr.aload_n 0, 1), (92, Instr.dup, 1), (93, Instr.getfield 37, 3), (96, Instr.iconst 1, 1), (97, Instr.iadd, 1), (98, Instr.putfield 37, 3), (101, Instr.iconst 1, 1), (102, Instr.ireturn, 1), (103, Instr.aload_n 0, 1), (104, Instr.getfield 43, 3), (107, Instr.ifCond .eq 10, 3), (110, Instr.aload_n 0, 1), (111, Instr.invokevirtual 155, 3), (114, Instr.goto 7, 3), (117, Instr.aload_n 0, 1), (118, Instr.invokevirtual 158, 3), (121, Instr.istore_n 2, 1), (122, Instr.iload_n 2, 1), (123, Instr.iconst (-1), 1), (124, Instr.if_icmp .ne 8, 3), (127, Instr.aload_n 0, 1), (128, Instr.invokevirtual 62, 3), (131, Instr.ireturn, 1), (132, Instr.aload_n 0, 1), (133, Instr.getfield 14, 3), (136, Instr.sipush 259, 3), (139, Instr.iload_n 2, 1), (140, Instr.invokevirtual 140, 3), (143, Instr.pop, 1), (144, Instr.aload_n 0, 1), (145, Instr.dup, 1), (146, Instr.getfield 37, 3), (149, Instr.iconst 1, 1), (150, Instr.iadd, 1), (151, Instr.putfield 37, 3), (154, Instr.iconst 1, 1), (155, Instr.ireturn, 1)]
set_option maxRecDepth 20000 in
theorem tkX4_part : (tbX4_part.all fun q => decide (decode cX4_part q.1 = .ok q.2)) = true := by decide +kernel
def mX4_part : Nat × MethodName × ByteArray × Nat × Option FieldType × List (Nat × Instr × Nat) × Option (Nat × (Nat → Int32)) := (4, yX4_part, cX4_part, 3, (some .boolean), tbX4_part, none)
def tbX4_lawWord : List (Nat × Instr × Nat) := [(0, Instr.aload_n 0, 1), (1, Instr.invokevirtual 58, 3), (4, Instr.istore_n 1, 1), (5, Instr.iload_n 1, 1), (6, Instr.sipush 274, 3), (9, Instr.if_icmp .lt 18, 3), (12, Instr.iload_n 1, 1), (13, Instr.sipush 281, 3), (16, Instr.if_icmp .gt 11, 3), (19, Instr.iload_n 1, 1), (20, Instr.sipush 274, 3), (23, Instr.isub, 1), (24, Instr.goto 4, 3), (27, Instr.iconst (-1), 1), (28, Instr.ireturn, 1)]
set_option maxRecDepth 20000 in
theorem tkX4_lawWord : (tbX4_lawWord.all fun q => decide (decode cX4_lawWord q.1 = .ok q.2)) = true := by decide +kernel
def mX4_lawWord : Nat × MethodName × ByteArray × Nat × Option FieldType × List (Nat × Instr × Nat) × Option (Nat × (Nat → Int32)) := (4, yX4_lawWord, cX4_lawWord, 2, (some .int), tbX4_lawWord, none)
def tbX4_orderWord : List (Nat × Instr × Nat) := [(0, Instr.aload_n 0, 1), (1, Instr.invokevirtual 58, 3), (4, Instr.tableswitch 92 275 285 #[83, 68, 92, 92, 92, 60, 92, 62, 64, 66, 75], 60), (64, Instr.iconst 0, 1), (65, Instr.ireturn, 1), (66, Instr.iconst 1, 1), (67, Instr.ireturn, 1), (68, Instr.iconst 2, 1), (69, Instr.ireturn, 1), (70, Instr.iconst 3, 1), (71, Instr.ireturn, 1), (72, Instr.aload_n 0, 1), (73, Instr.iconst 4, 1), (74, Instr.iconst 5, 1), (75, Instr.invokevirtual 161, 3), (78, Instr.ireturn, 1), (79, Instr.aload_n 0, 1), (80, Instr.bipush 9, 2), (82, Instr.iconst 5, 1), (83, Instr.invokevirtual 161, 3), (86, Instr.ireturn, 1), (87, Instr.aload_n 0, 1), (88, Instr.bipush 14, 2), (90, Instr.bipush 10, 2), (92, Instr.invokevirtual 161, 3), (95, Instr.ireturn, 1), (96, Instr.iconst (-1), 1), (97, Instr.ireturn, 1)]
set_option maxRecDepth 20000 in
theorem tkX4_orderWord : (tbX4_orderWord.all fun q => decide (decode cX4_orderWord q.1 = .ok q.2)) = true := by decide +kernel
def mX4_orderWord : Nat × MethodName × ByteArray × Nat × Option FieldType × List (Nat × Instr × Nat) × Option (Nat × (Nat → Int32)) := (4, yX4_orderWord, cX4_orderWord, 1, (some .int), tbX4_orderWord, none)
def tbX4_numberedWord : List (Nat × Instr × Nat) := [(0, Instr.aload_n 0, 1), (1, Instr.dup, 1), (2, Instr.getfield 37, 3), (5, Instr.iconst 1, 1), (6, Instr.iadd, 1), (7, Instr.putfield 37, 3), (10, Instr.aload_n 0, 1), (11, Instr.invokevirtual 58, 3), (14, Instr.sipush 256, 3), (17, Instr.if_icmp .ne 30, 3), (20, Instr.aload_n 0, 1), (21, Instr.getfield 28, 3), (24, Instr.aload_n 0, 1), (25, Instr.getfield 37, 3), (28, Instr.iaload, 1), (29, Instr.iload_n 2, 1), (30, Instr.if_icmp .ge 17, 3), (33, Instr.iload_n 1, 1), (34, Instr.aload_n 0, 1), (35, Instr.getfield 28, 3), (38, Instr.aload_n 0, 1), (39, Instr.getfield 37, 3), (42, Instr.iaload, 1), (43, Instr.iadd, 1), (44, Instr.goto 4, 3), (47, Instr.iconst (-1), 1), (48, Instr.ireturn, 1)]
set_option maxRecDepth 20000 in
theorem tkX4_numberedWord : (tbX4_numberedWord.all fun q => decide (decode cX4_numberedWord q.1 = .ok q.2)) = true := by decide +kernel
def mX4_numberedWord : Nat × MethodName × ByteArray × Nat × Option FieldType × List (Nat × Instr × Nat) × Option (Nat × (Nat → Int32)) := (4, yX4_numberedWord, cX4_numberedWord, 3, (some .int), tbX4_numberedWord, none)
def tbX5_init : List (Nat × Instr × Nat) := [(0, Instr.aload_n 0, 1), (1, Instr.invokespecial 3, 3), (4, Instr.aload_n 0, 1), (5, Instr.iconst 0, 1), (6, Instr.putfield 9, 3), (9, Instr.aload_n 0, 1), (10, Instr.iconst (-1), 1), (11, Instr.putfield 15, 3), (14, Instr.aload_n 0, 1), (15, Instr.bipush 24, 2), (17, Instr.newarray .int, 2), (19, Instr.putfield 18, 3), (22, Instr.aload_n 0, 1), (23, Instr.bipush 50, 2), (25, Instr.newarray .int, 2), (27, Instr.putfield 22, 3), (30, Instr.aload_n 0, 1), (31, Instr.aload_n 1, 1), (32, Instr.putfield 25, 3), (35, Instr.aload_n 0, 1), (36, Instr.aload_n 2, 1), (37, Instr.putfield 29, 3), (40, Instr.return_, 1)]
set_option maxRecDepth 20000 in
theorem tkX5_init : (tbX5_init.all fun q => decide (decode cX5_init q.1 = .ok q.2)) = true := by decide +kernel
def mX5_init : Nat × MethodName × ByteArray × Nat × Option FieldType × List (Nat × Instr × Nat) × Option (Nat × (Nat → Int32)) := (5, yX5_init, cX5_init, 3, none, tbX5_init, none)
def tbX5_run : List (Nat × Instr × Nat) := [(0, Instr.aload_n 0, 1), (1, Instr.iconst 0, 1), (2, Instr.putfield 9, 3), (5, Instr.aload_n 0, 1), (6, Instr.iconst (-1), 1), (7, Instr.putfield 15, 3), (10, Instr.iconst 0, 1), (11, Instr.istore_n 2, 1), (12, Instr.iload_n 2, 1), (13, Instr.aload_n 1, 1), (14, Instr.getfield 33, 3), (17, Instr.if_icmp .ge 38, 3), (20, Instr.iconst 0, 1), (21, Instr.istore_n 3, 1), (22, Instr.iload_n 3, 1), (23, Instr.aload_n 1, 1), (24, Instr.getfield 38, 3), (27, Instr.iload_n 2, 1), (28, Instr.iaload, 1), (29, Instr.if_icmp .ge 20, 3), (32, Instr.aload_n 0, 1), (33, Instr.aload_n 1, 1), (34, Instr.iload_n 2, 1), (35, Instr.invokevirtual 41, 3), (38, Instr.ifCond .ne 5, 3), (41, Instr.iload_n 2, 1), (42, Instr.ireturn, 1), (43, Instr.iinc 3 1, 3), (46, Instr.goto (-24), 3), (49, Instr.iinc 2 1, 3), (52, Instr.goto (-40), 3), (55, Instr.iconst (-1), 1), (56, Instr.ireturn, 1)]
set_option maxRecDepth 20000 in
theorem tkX5_run : (tbX5_run.all fun q => decide (decode cX5_run q.1 = .ok q.2)) = true := by decide +kernel
def mX5_run : Nat × MethodName × ByteArray × Nat × Option FieldType × List (Nat × Instr × Nat) × Option (Nat × (Nat → Int32)) := (5, yX5_run, cX5_run, 4, (some .int), tbX5_run, none)
def tbX5_runOnce : List (Nat × Instr × Nat) := [(0, Instr.aload_n 0, 1), (1, Instr.invokevirtual 45, 3), (4, Instr.aload_n 1, 1), (5, Instr.iload_n 2, 1), (6, Instr.iconst 2, 1), (7, Instr.invokevirtual 48, 3), (10, Instr.ifCond .eq 23, 3), (13, Instr.aload_n 1, 1), (14, Instr.iload_n 2, 1), (15, Instr.iconst 2, 1), (16, Instr.aload_n 0, 1), (17, Instr.getfield 18, 3), (20, Instr.aload_n 0, 1), (21, Instr.getfield 22, 3), (24, Instr.invokevirtual 52, 3), (27, Instr.iconst 1, 1), (28, Instr.if_icmp .eq 5, 3), (31, Instr.iconst 1, 1), (32, Instr.ireturn, 1), (33, Instr.aload_n 1, 1), (34, Instr.iload_n 2, 1), (35, Instr.iconst 0, 1), (36, Instr.invokevirtual 48, 3), (39, Instr.ifCond .eq 20, 3), (42, Instr.aload_n 1, 1), (43, Instr.iload_n 2, 1), (44, Instr.iconst 0, 1), (45, Instr.aload_n 0, 1), (46, Instr.getfield 18, 3), (49, Instr.aload_n 0, 1), (50, Instr.getfield 22, 3), (53, Instr.invokevirtual 52, 3), (56, Instr.goto 4, 3), (59, Instr.iconst 0, 1), (60, Instr.istore_n 3, 1), (61, Instr.aload_n 1, 1), (62, Instr.iload_n 2, 1), (63, Instr.iconst 1, 1), (64, Instr.invokevirtual 48, 3), (67, Instr.ifCond .eq 20, 3), (70, Instr.aload_n 1, 1), (71, Instr.iload_n 2, 1), (72, Instr.iconst 1, 1), (73, Instr.aload_n 0, 1), (74, Instr.getfield 18, 3), (77, Instr.aload_n 0, 1), (78, Instr.getfield 22, 3), (81, Instr.invokevirtual 52, 3), (84, Instr.goto 4, 3), (87, Instr.iconst 0, 1), (88, Instr.istore 4, 2), (90, Instr.iload_n 3, 1), (91, Instr.ldc 56, 2), (93, Instr.if_icmp .eq 10, 3), (96, Instr.iload 4, 2), (98, Instr.ldc 56, 2), (100, Instr.if_icmp .ne 5, 3), (103, Instr.iconst 0, 1), (104, Instr.ireturn, 1), (105, Instr.aload_n 1, 1), (106, Instr.getfield 57, 3), (109, Instr.iload_n 2, 1), (110, Instr.iaload, 1), (111, Instr.tableswitch 74 263 265 #[25, 46, 59], 25), (136, Instr.aload_n 0, 1), (137, Instr.getfield 29, 3), (140, Instr.iload_n 3, 1), (141, Instr.iload 4, 2), (143, Instr.invokevirtual 60, 3), (146, Instr.istore 5, 2), (148, Instr.aload_n 0, 1), (149, Instr.iload 5, 2), (151, Instr.putfield 15, 3), (154, Instr.goto 40, 3), (157, Instr.aload_n 0, 1), (158, Instr.getfield 29, 3), (161, Instr.iload_n 3, 1), (162, Instr.invokevirtual 66, 3), (165, Instr.istore 5, 2), (167, Instr.goto 27, 3), (170, Instr.aload_n 0, 1), (171, Instr.getfield 29, 3), (174, Instr.iload_n 3, 1), (175, Instr.iload 4, 2), (177, Instr.invokevirtual 70, 3), (180, Instr.istore 5, 2), (182, Instr.goto 12, 3), (185, Instr.aload_n 0, 1), (186, Instr.getfield 29, 3), (189, Instr.invokevirtual 73, 3), (192, Instr.istore 5, 2), (194, Instr.iload 5, 2), (196, Instr.ifCond .ge 5, 3), (199, Instr.iconst 0, 1), (200, Instr.ireturn, 1), (201, Instr.aload_n 0, 1), (202, Instr.dup, 1), (203, Instr.getfield 9, 3), (206, Instr.iconst 1, 1), (207, Instr.iadd, 1), (208, Instr.putfield 9, 3), (211, Instr.iconst 1, 1), (212, Instr.ireturn, 1)]
set_option maxRecDepth 20000 in
theorem tkX5_runOnce : (tbX5_runOnce.all fun q => decide (decode cX5_runOnce q.1 = .ok q.2)) = true := by decide +kernel
def mX5_runOnce : Nat × MethodName × ByteArray × Nat × Option FieldType × List (Nat × Instr × Nat) × Option (Nat × (Nat → Int32)) := (5, yX5_runOnce, cX5_runOnce, 6, (some .boolean), tbX5_runOnce, none)
def tbX5_lookRound : List (Nat × Instr × Nat) := [(0, Instr.aload_n 0, 1), (1, Instr.getfield 18, 3), (4, Instr.iconst 0, 1), (5, Instr.aload_n 0, 1), (6, Instr.getfield 25, 3), (9, Instr.getfield 77, 3), (12, Instr.iconst 0, 1), (13, Instr.iaload, 1), (14, Instr.iastore, 1), (15, Instr.aload_n 0, 1), (16, Instr.getfield 18, 3), (19, Instr.iconst 1, 1), (20, Instr.aload_n 0, 1), (21, Instr.getfield 9, 3), (24, Instr.iastore, 1), (25, Instr.aload_n 0, 1), (26, Instr.getfield 18, 3), (29, Instr.iconst 2, 1), (30, Instr.aload_n 0, 1), (31, Instr.getfield 15, 3), (34, Instr.iastore, 1), (35, Instr.aload_n 0, 1), (36, Instr.getfield 18, 3), (39, Instr.iconst 3, 1), (40, Instr.iconst 0, 1), (41, Instr.iastore, 1), (42, Instr.iconst 0, 1), (43, Instr.istore_n 1, 1), (44, Instr.iload_n 1, 1), (45, Instr.iconst 5, 1), (46, Instr.if_icmp .ge 96, 3), (49, Instr.aload_n 0, 1), (50, Instr.getfield 25, 3), (53, Instr.iload_n 1, 1), (54, Instr.invokevirtual 82, 3), (57, Instr.istore_n 2, 1), (58, Instr.aload_n 0, 1), (59, Instr.getfield 18, 3), (62, Instr.iconst 4, 1), (63, Instr.iload_n 1, 1), (64, Instr.iadd, 1), (65, Instr.iload_n 2, 1), (66, Instr.ifCond .eq 15, 3), (69, Instr.aload_n 0, 1), (70, Instr.getfield 25, 3), (73, Instr.getfield 86, 3), (76, Instr.iload_n 1, 1), (77, Instr.iaload, 1), (78, Instr.goto 4, 3), (81, Instr.iconst (-1), 1), (82, Instr.iastore, 1), (83, Instr.aload_n 0, 1), (84, Instr.getfield 18, 3), (87, Instr.bipush 9, 2), (89, Instr.iload_n 1, 1), (90, Instr.iadd, 1), (91, Instr.iload_n 2, 1), (92, Instr.ifCond .eq 15, 3), (95, Instr.aload_n 0, 1), (96, Instr.getfield 25, 3), (99, Instr.getfield 89, 3), (102, Instr.iload_n 1, 1), (103, Instr.iaload, 1), (104, Instr.goto 4, 3), (107, Instr.iconst (-1), 1), (108, Instr.iastore, 1), (109, Instr.iload_n 2, 1), (110, Instr.ifCond .eq 26, 3), (113, Instr.aload_n 0, 1), (114, Instr.getfield 25, 3), (117, Instr.getfield 86, 3), (120, Instr.iload_n 1, 1), (121, Instr.iaload, 1), (122, Instr.iconst 1, 1), (123, Instr.if_icmp .ne 13, 3), (126, Instr.aload_n 0, 1), (127, Instr.getfield 18, 3), (130, Instr.iconst 3, 1), (131, Instr.dup2, 1), (132, Instr.iaload, 1), (133, Instr.iconst 1, 1), (134, Instr.iadd, 1), (135, Instr.iastore, 1), (136, Instr.iinc 1 1, 3), (139, Instr.goto (-95), 3), (142, Instr.iconst 0, 1), (143, Instr.istore_n 1, 1), (144, Instr.iload_n 1, 1), (145, Instr.bipush 10, 2), (147, Instr.if_icmp .ge 42, 3), (150, Instr.aload_n 0, 1), (151, Instr.getfield 18, 3), (154, Instr.bipush 14, 2), (156, Instr.iload_n 1, 1), (157, Instr.iadd, 1), (158, Instr.aload_n 0, 1), (159, Instr.getfield 25, 3), (162, Instr.iload_n 1, 1), (163, Instr.invokevirtual 92, 3), (166, Instr.ifCond .eq 15, 3), (169, Instr.aload_n 0, 1), (170, Instr.getfield 25, 3), (173, Instr.getfield 95, 3), (176, Instr.iload_n 1, 1), (177, Instr.iaload, 1), (178, Instr.goto 4, 3), (181, Instr.iconst (-1), 1), (182, Instr.iastore, 1), (183, Instr.iinc 1 1, 3), (186, Instr.goto (-42), 3), (189, Instr.return_, 1)]
set_option maxRecDepth 20000 in
theorem tkX5_lookRound : (tbX5_lookRound.all fun q => decide (decode cX5_lookRound q.1 = .ok q.2)) = true := by decide +kernel
def mX5_lookRound : Nat × MethodName × ByteArray × Nat × Option FieldType × List (Nat × Instr × Nat) × Option (Nat × (Nat → Int32)) := (5, yX5_lookRound, cX5_lookRound, 3, none, tbX5_lookRound, none)
def tbX6_init : List (Nat × Instr × Nat) := [(0, Instr.aload_n 0, 1), (1, Instr.invokespecial 3, 3), (4, Instr.aload_n 0, 1), (5, Instr.new 9, 3), (8, Instr.dup, 1), (9, Instr.invokespecial 11, 3), (12, Instr.putfield 12, 3), (15, Instr.aload_n 0, 1), (16, Instr.iconst 0, 1), (17, Instr.putfield 18, 3), (20, Instr.aload_n 0, 1), (21, Instr.sipush 200, 3), (24, Instr.newarray .int, 2), (26, Instr.putfield 22, 3), (29, Instr.aload_n 0, 1), (30, Instr.bipush 120, 2), (32, Instr.newarray .int, 2), (34, Instr.putfield 26, 3), (37, Instr.aload_n 0, 1), (38, Instr.bipush 120, 2), (40, Instr.newarray .int, 2), (42, Instr.putfield 29, 3), (45, Instr.aload_n 0, 1), (46, Instr.bipush 120, 2), (48, Instr.newarray .int, 2), (50, Instr.putfield 32, 3), (53, Instr.aload_n 0, 1), (54, Instr.bipush 120, 2), (56, Instr.newarray .int, 2), (58, Instr.putfield 35, 3), (61, Instr.aload_n 0, 1), (62, Instr.bipush 120, 2), (64, Instr.newarray .int, 2), (66, Instr.putfield 38, 3), (69, Instr.aload_n 0, 1), (70, Instr.bipush 120, 2), (72, Instr.newarray .int, 2), (74, Instr.putfield 41, 3), (77, Instr.aload_n 0, 1), (78, Instr.bipush 120, 2), (80, Instr.newarray .int, 2), (82, Instr.putfield 44, 3), (85, Instr.aload_n 0, 1), (86, Instr.bipush 120, 2), (88, Instr.newarray .long, 2), (90, Instr.putfield 47, 3), (93, Instr.aload_n 0, 1), (94, Instr.bipush 120, 2), (96, Instr.newarray .long, 2), (98, Instr.putfield 51, 3), (101, Instr.aload_n 0, 1), (102, Instr.aload_n 1, 1), (103, Instr.putfield 54, 3), (106, Instr.return_, 1)]
set_option maxRecDepth 20000 in
theorem tkX6_init : (tbX6_init.all fun q => decide (decode cX6_init q.1 = .ok q.2)) = true := by decide +kernel
def mX6_init : Nat × MethodName × ByteArray × Nat × Option FieldType × List (Nat × Instr × Nat) × Option (Nat × (Nat → Int32)) := (6, yX6_init, cX6_init, 2, none, tbX6_init, none)
def tbX6_begin : List (Nat × Instr × Nat) := [(0, Instr.aload_n 0, 1), (1, Instr.getfield 12, 3), (4, Instr.aload_n 1, 1), (5, Instr.invokevirtual 58, 3), (8, Instr.aload_n 0, 1), (9, Instr.iload_n 2, 1), (10, Instr.putfield 18, 3), (13, Instr.aload_n 0, 1), (14, Instr.getfield 22, 3), (17, Instr.bipush (-2), 2), (19, Instr.invokestatic 62, 3), (22, Instr.return_, 1)]
set_option maxRecDepth 20000 in
theorem tkX6_begin : (tbX6_begin.all fun q => decide (decode cX6_begin q.1 = .ok q.2)) = true := by decide +kernel
def mX6_begin : Nat × MethodName × ByteArray × Nat × Option FieldType × List (Nat × Instr × Nat) × Option (Nat × (Nat → Int32)) := (6, yX6_begin, cX6_begin, 3, none, tbX6_begin, none)
def tbX6_tryLaw : List (Nat × Instr × Nat) := [(0, Instr.aload_n 0, 1), (1, Instr.getfield 12, 3), (4, Instr.iload_n 1, 1), (5, Instr.putfield 68, 3), (8, Instr.return_, 1)]
set_option maxRecDepth 20000 in
theorem tkX6_tryLaw : (tbX6_tryLaw.all fun q => decide (decode cX6_tryLaw q.1 = .ok q.2)) = true := by decide +kernel
def mX6_tryLaw : Nat × MethodName × ByteArray × Nat × Option FieldType × List (Nat × Instr × Nat) × Option (Nat × (Nat → Int32)) := (6, yX6_tryLaw, cX6_tryLaw, 2, none, tbX6_tryLaw, none)
def tbX6_tryArm : List (Nat × Instr × Nat) := [(0, Instr.aload_n 0, 1), (1, Instr.getfield 12, 3), (4, Instr.getfield 71, 3), (7, Instr.iload_n 1, 1), (8, Instr.iload_n 2, 1), (9, Instr.iastore, 1), (10, Instr.iconst 0, 1), (11, Instr.istore_n 3, 1), (12, Instr.iload_n 3, 1), (13, Instr.bipush 20, 2), (15, Instr.if_icmp .ge 22, 3), (18, Instr.aload_n 0, 1), (19, Instr.getfield 22, 3), (22, Instr.iload_n 1, 1), (23, Instr.bipush 20, 2), (25, Instr.imul, 1), (26, Instr.iload_n 3, 1), (27, Instr.iadd, 1), (28, Instr.bipush (-2), 2), (30, Instr.iastore, 1), (31, Instr.iinc 3 1, 3), (34, Instr.goto (-22), 3), (37, Instr.return_, 1)]
set_option maxRecDepth 20000 in
theorem tkX6_tryArm : (tbX6_tryArm.all fun q => decide (decode cX6_tryArm q.1 = .ok q.2)) = true := by decide +kernel
def mX6_tryArm : Nat × MethodName × ByteArray × Nat × Option FieldType × List (Nat × Instr × Nat) × Option (Nat × (Nat → Int32)) := (6, yX6_tryArm, cX6_tryArm, 4, none, tbX6_tryArm, none)
def tbX6_start : List (Nat × Instr × Nat) := [(0, Instr.aload_n 0, 1), (1, Instr.getfield 12, 3), (4, Instr.getfield 74, 3), (7, Instr.aload_n 0, 1), (8, Instr.getfield 18, 3), (11, Instr.iaload, 1), (12, Instr.bipush 20, 2), (14, Instr.imul, 1), (15, Instr.aload_n 0, 1), (16, Instr.getfield 12, 3), (19, Instr.getfield 77, 3), (22, Instr.aload_n 0, 1), (23, Instr.getfield 18, 3), (26, Instr.iaload, 1), (27, Instr.iadd, 1), (28, Instr.ireturn, 1)]
set_option maxRecDepth 20000 in
theorem tkX6_start : (tbX6_start.all fun q => decide (decode cX6_start q.1 = .ok q.2)) = true := by decide +kernel
def mX6_start : Nat × MethodName × ByteArray × Nat × Option FieldType × List (Nat × Instr × Nat) × Option (Nat × (Nat → Int32)) := (6, yX6_start, cX6_start, 1, (some .int), tbX6_start, none)
def tbX6_isAt : List (Nat × Instr × Nat) := [(0, Instr.iload_n 0, 1), (1, Instr.bipush 20, 2), (3, Instr.idiv, 1), (4, Instr.iload_n 1, 1), (5, Instr.if_icmp .ne 20, 3), (8, Instr.iload_n 2, 1), (9, Instr.iconst (-1), 1), (10, Instr.if_icmp .eq 11, 3), (13, Instr.iload_n 0, 1), (14, Instr.bipush 20, 2), (16, Instr.irem, 1), (17, Instr.iload_n 2, 1), (18, Instr.if_icmp .ne 7, 3), (21, Instr.iconst 1, 1), (22, Instr.goto 4, 3), (25, Instr.iconst 0, 1), (26, Instr.ireturn, 1)]
set_option maxRecDepth 20000 in
theorem tkX6_isAt : (tbX6_isAt.all fun q => decide (decode cX6_isAt q.1 = .ok q.2)) = true := by decide +kernel
def mX6_isAt : Nat × MethodName × ByteArray × Nat × Option FieldType × List (Nat × Instr × Nat) × Option (Nat × (Nat → Int32)) := (6, yX6_isAt, cX6_isAt, 3, (some .boolean), tbX6_isAt, none)
def tbX6_behind : List (Nat × Instr × Nat) := [(0, Instr.aload_n 0, 1), (1, Instr.getfield 12, 3), (4, Instr.getfield 80, 3), (7, Instr.iload_n 1, 1), (8, Instr.iaload, 1), (9, Instr.iload_n 2, 1), (10, Instr.bipush 20, 2), (12, Instr.idiv, 1), (13, Instr.if_icmp .ne 15, 3), (16, Instr.aload_n 0, 1), (17, Instr.getfield 12, 3), (20, Instr.getfield 83, 3), (23, Instr.iload_n 1, 1), (24, Instr.baload, 1), (25, Instr.ifCond .ne 5, 3), (28, Instr.iconst (-1), 1), (29, Instr.ireturn, 1), (30, Instr.iload_n 2, 1), (31, Instr.bipush 20, 2), (33, Instr.irem, 1), (34, Instr.istore_n 3, 1), (35, Instr.iload_n 1, 1), (36, Instr.bipush 20, 2), (38, Instr.imul, 1), (39, Instr.iload_n 3, 1), (40, Instr.iadd, 1), (41, Instr.istore 4, 2), (43, Instr.aload_n 0, 1), (44, Instr.getfield 22, 3), (47, Instr.iload 4, 2), (49, Instr.iaload, 1), (50, Instr.bipush (-2), 2), (52, Instr.if_icmp .ne 63, 3), (55, Instr.aload_n 0, 1), (56, Instr.getfield 54, 3), (59, Instr.aload_n 0, 1), (60, Instr.getfield 12, 3), (63, Instr.aload_n 0, 1), (64, Instr.getfield 18, 3), (67, Instr.iload_n 1, 1), (68, Instr.iload_n 3, 1), (69, Instr.invokevirtual 87, 3), (72, Instr.aload_n 0, 1), (73, Instr.getfield 22, 3), (76, Instr.iload 4, 2), (78, Instr.aload_n 0, 1), (79, Instr.getfield 54, 3), (82, Instr.aload_n 0, 1), (83, Instr.getfield 12, 3), (86, Instr.sipush 262, 3), (89, Instr.invokevirtual 93, 3), (92, Instr.iconst 1, 1), (93, Instr.if_icmp .ne 7, 3), (96, Instr.iconst (-1), 1), (97, Instr.goto 17, 3), (100, Instr.aload_n 0, 1), (101, Instr.getfield 54, 3), (104, Instr.aload_n 0, 1), (105, Instr.getfield 12, 3), (108, Instr.sipush 260, 3), (111, Instr.invokevirtual 93, 3), (114, Instr.iastore, 1), (115, Instr.aload_n 0, 1), (116, Instr.getfield 22, 3), (119, Instr.iload 4, 2), (121, Instr.iaload, 1), (122, Instr.iconst (-1), 1), (123, Instr.if_icmp .ne 7, 3), (126, Instr.iconst (-1), 1), (127, Instr.goto 23, 3), (130, Instr.aload_n 0, 1), (131, Instr.getfield 12, 3), (134, Instr.getfield 97, 3), (137, Instr.iload_n 1, 1), (138, Instr.iaload, 1), (139, Instr.bipush 20, 2), (141, Instr.imul, 1), (142, Instr.aload_n 0, 1), (143, Instr.getfield 22, 3), (146, Instr.iload 4, 2), (148, Instr.iaload, 1), (149, Instr.iadd, 1), (150, Instr.ireturn, 1)]
set_option maxRecDepth 20000 in
theorem tkX6_behind : (tbX6_behind.all fun q => decide (decode cX6_behind q.1 = .ok q.2)) = true := by decide +kernel
def mX6_behind : Nat × MethodName × ByteArray × Nat × Option FieldType × List (Nat × Instr × Nat) × Option (Nat × (Nat → Int32)) := (6, yX6_behind, cX6_behind, 5, (some .int), tbX6_behind, none)
end TABS
end
section
section TABS
def tbX6_find : List (Nat × Instr × Nat) := [(0, Instr.aload_n 0, 1), (1, Instr.getfield 29, 3), (4, Instr.iconst (-1), 1), (5, Instr.invokestatic 62, 3), (8, Instr.aload_n 0, 1), (9, Instr.getfield 26, 3), (12, Instr.iconst 0, 1), (13, Instr.aload_n 0, 1), (14, Instr.invokevirtual 100, 3), (17, Instr.iastore, 1), (18, Instr.aload_n 0, 1), (19, Instr.getfield 29, 3), (22, Instr.aload_n 0, 1), (23, Instr.getfield 26, 3), (26, Instr.iconst 0, 1), (27, Instr.iaload, 1), (28, Instr.iconst 0, 1), (29, Instr.iastore, 1), (30, Instr.aload_n 0, 1), (31, Instr.getfield 26, 3), (34, Instr.iconst 0, 1), (35, Instr.iaload, 1), (36, Instr.iload_n 1, 1), (37, Instr.iload_n 2, 1), (38, Instr.invokestatic 104, 3), (41, Instr.ifCond .eq 10, 3), (44, Instr.aload_n 0, 1), (45, Instr.getfield 26, 3), (48, Instr.iconst 0, 1), (49, Instr.iaload, 1), (50, Instr.ireturn, 1), (51, Instr.iconst 1, 1), (52, Instr.istore_n 3, 1), (53, Instr.iconst 0, 1), (54, Instr.istore 4, 2), (56, Instr.iload 4, 2), (58, Instr.iload_n 3, 1), (59, Instr.if_icmp .ge 177, 3), (62, Instr.iload 4, 2), (64, Instr.bipush 120, 2), (66, Instr.if_icmp .ge 170, 3), (69, Instr.aload_n 0, 1), (70, Instr.getfield 26, 3), (73, Instr.iload 4, 2), (75, Instr.iaload, 1), (76, Instr.bipush 20, 2), (78, Instr.idiv, 1), (79, Instr.istore 5, 2), (81, Instr.iconst 0, 1), (82, Instr.istore 6, 2), (84, Instr.iload 6, 2), (86, Instr.aload_n 0, 1), (87, Instr.getfield 12, 3), (90, Instr.getfield 108, 3), (93, Instr.if_icmp .ge 137, 3), (96, Instr.aload_n 0, 1), (97, Instr.getfield 12, 3), (100, Instr.getfield 80, 3), (103, Instr.iload 6, 2), (105, Instr.iaload, 1), (106, Instr.iload 5, 2), (108, Instr.if_icmp .ne 19, 3), (111, Instr.aload_n 0, 1), (112, Instr.iload 6, 2), (114, Instr.aload_n 0, 1), (115, Instr.getfield 26, 3), (118, Instr.iload 4, 2), (120, Instr.iaload, 1), (121, Instr.invokevirtual 111, 3), (124, Instr.goto 4, 3), (127, Instr.iconst (-1), 1), (128, Instr.istore 7, 2), (130, Instr.iload 7, 2), (132, Instr.iconst (-1), 1), (133, Instr.if_icmp .eq 91, 3), (136, Instr.aload_n 0, 1), (137, Instr.getfield 29, 3), (140, Instr.iload 7, 2), (142, Instr.iaload, 1), (143, Instr.iconst (-1), 1), (144, Instr.if_icmp .ne 80, 3), (147, Instr.iload_n 3, 1), (148, Instr.bipush 120, 2), (150, Instr.if_icmp .lt 6, 3), (153, Instr.goto 71, 3), (156, Instr.aload_n 0, 1), (157, Instr.getfield 29, 3), (160, Instr.iload 7, 2), (162, Instr.aload_n 0, 1), (163, Instr.getfield 29, 3), (166, Instr.aload_n 0, 1), (167, Instr.getfield 26, 3), (170, Instr.iload 4, 2), (172, Instr.iaload, 1), (173, Instr.iaload, 1), (174, Instr.iconst 1, 1), (175, Instr.iadd, 1), (176, Instr.iastore, 1), (177, Instr.aload_n 0, 1), (178, Instr.getfield 32, 3), (181, Instr.iload 7, 2), (183, Instr.iload 6, 2), (185, Instr.iastore, 1), (186, Instr.aload_n 0, 1), (187, Instr.getfield 35, 3), (190, Instr.iload 7, 2), (192, Instr.aload_n 0, 1), (193, Instr.getfield 26, 3), (196, Instr.iload 4, 2), (198, Instr.iaload, 1), (199, Instr.iastore, 1), (200, Instr.iload 7, 2), (202, Instr.iload_n 1, 1), (203, Instr.iload_n 2, 1), (204, Instr.invokestatic 104, 3), (207, Instr.ifCond .eq 6, 3), (210, Instr.iload 7, 2), (212, Instr.ireturn, 1), (213, Instr.aload_n 0, 1), (214, Instr.getfield 26, 3), (217, Instr.iload_n 3, 1), (218, Instr.iinc 3 1, 3), (221, Instr.iload 7, 2), (223, Instr.iastore, 1), (224, Instr.iinc 6 1, 3), (227, Instr.goto (-143), 3), (230, Instr.iinc 4 1, 3), (233, Instr.goto (-177), 3), (236, Instr.iconst (-1), 1), (237, Instr.ireturn, 1)]
set_option maxRecDepth 20000 in
theorem tkX6_find : (tbX6_find.all fun q => decide (decode cX6_find q.1 = .ok q.2)) = true := by decide +kernel
def mX6_find : Nat × MethodName × ByteArray × Nat × Option FieldType × List (Nat × Instr × Nat) × Option (Nat × (Nat → Int32)) := (6, yX6_find, cX6_find, 8, (some .int), tbX6_find, none)
def tbX6_findAll : List (Nat × Instr × Nat) := [(0, Instr.aload_n 0, 1), (1, Instr.iconst (-1), 1), (2, Instr.iconst (-1), 1), (3, Instr.invokevirtual 115, 3), (6, Instr.pop, 1), (7, Instr.return_, 1)]
set_option maxRecDepth 20000 in
theorem tkX6_findAll : (tbX6_findAll.all fun q => decide (decode cX6_findAll q.1 = .ok q.2)) = true := by decide +kernel
def mX6_findAll : Nat × MethodName × ByteArray × Nat × Option FieldType × List (Nat × Instr × Nat) × Option (Nat × (Nat → Int32)) := (6, yX6_findAll, cX6_findAll, 1, none, tbX6_findAll, none)
def tbX6_wayLength : List (Nat × Instr × Nat) := [(0, Instr.aload_n 0, 1), (1, Instr.iload_n 1, 1), (2, Instr.iload_n 2, 1), (3, Instr.invokevirtual 115, 3), (6, Instr.istore_n 3, 1), (7, Instr.iload_n 3, 1), (8, Instr.iconst (-1), 1), (9, Instr.if_icmp .ne 7, 3), (12, Instr.iconst (-1), 1), (13, Instr.goto 9, 3), (16, Instr.aload_n 0, 1), (17, Instr.getfield 29, 3), (20, Instr.iload_n 3, 1), (21, Instr.iaload, 1), (22, Instr.ireturn, 1)]
set_option maxRecDepth 20000 in
theorem tkX6_wayLength : (tbX6_wayLength.all fun q => decide (decode cX6_wayLength q.1 = .ok q.2)) = true := by decide +kernel
def mX6_wayLength : Nat × MethodName × ByteArray × Nat × Option FieldType × List (Nat × Instr × Nat) × Option (Nat × (Nat → Int32)) := (6, yX6_wayLength, cX6_wayLength, 4, (some .int), tbX6_wayLength, none)
def tbX6_wayGate : List (Nat × Instr × Nat) := [(0, Instr.aload_n 0, 1), (1, Instr.iload_n 1, 1), (2, Instr.iload_n 2, 1), (3, Instr.invokevirtual 115, 3), (6, Instr.istore 4, 2), (8, Instr.iload 4, 2), (10, Instr.iconst (-1), 1), (11, Instr.if_icmp .eq 18, 3), (14, Instr.iload_n 3, 1), (15, Instr.ifCond .lt 14, 3), (18, Instr.iload_n 3, 1), (19, Instr.aload_n 0, 1), (20, Instr.getfield 29, 3), (23, Instr.iload 4, 2), (25, Instr.iaload, 1), (26, Instr.if_icmp .lt 5, 3), (29, Instr.iconst (-1), 1), (30, Instr.ireturn, 1), (31, Instr.aload_n 0, 1), (32, Instr.getfield 29, 3), (35, Instr.iload 4, 2), (37, Instr.iaload, 1), (38, Instr.iconst 1, 1), (39, Instr.isub, 1), (40, Instr.istore 5, 2), (42, Instr.iload 5, 2), (44, Instr.iload_n 3, 1), (45, Instr.if_icmp .le 18, 3), (48, Instr.aload_n 0, 1), (49, Instr.getfield 35, 3), (52, Instr.iload 4, 2), (54, Instr.iaload, 1), (55, Instr.istore 4, 2), (57, Instr.iinc 5 (-1), 3), (60, Instr.goto (-18), 3), (63, Instr.aload_n 0, 1), (64, Instr.getfield 32, 3), (67, Instr.iload 4, 2), (69, Instr.iaload, 1), (70, Instr.ireturn, 1)]
set_option maxRecDepth 20000 in
theorem tkX6_wayGate : (tbX6_wayGate.all fun q => decide (decode cX6_wayGate q.1 = .ok q.2)) = true := by decide +kernel
def mX6_wayGate : Nat × MethodName × ByteArray × Nat × Option FieldType × List (Nat × Instr × Nat) × Option (Nat × (Nat → Int32)) := (6, yX6_wayGate, cX6_wayGate, 6, (some .int), tbX6_wayGate, none)
def tbX6_manyBits : List (Nat × Instr × Nat) := [(0, Instr.aload_n 0, 1), (1, Instr.invokevirtual 118, 3), (4, Instr.iconst 0, 1), (5, Instr.istore_n 2, 1), (6, Instr.iconst 0, 1), (7, Instr.istore_n 3, 1), (8, Instr.iload_n 3, 1), (9, Instr.bipush 20, 2), (11, Instr.if_icmp .ge 30, 3), (14, Instr.aload_n 0, 1), (15, Instr.getfield 29, 3), (18, Instr.iload_n 1, 1), (19, Instr.bipush 20, 2), (21, Instr.imul, 1), (22, Instr.iload_n 3, 1), (23, Instr.iadd, 1), (24, Instr.iaload, 1), (25, Instr.iconst (-1), 1), (26, Instr.if_icmp .eq 9, 3), (29, Instr.iload_n 2, 1), (30, Instr.iconst 1, 1), (31, Instr.iload_n 3, 1), (32, Instr.ishl, 1), (33, Instr.ior, 1), (34, Instr.istore_n 2, 1), (35, Instr.iinc 3 1, 3), (38, Instr.goto (-30), 3), (41, Instr.iload_n 2, 1), (42, Instr.ireturn, 1)]
set_option maxRecDepth 20000 in
theorem tkX6_manyBits : (tbX6_manyBits.all fun q => decide (decode cX6_manyBits q.1 = .ok q.2)) = true := by decide +kernel
def mX6_manyBits : Nat × MethodName × ByteArray × Nat × Option FieldType × List (Nat × Instr × Nat) × Option (Nat × (Nat → Int32)) := (6, yX6_manyBits, cX6_manyBits, 4, (some .int), tbX6_manyBits, none)
def tbX6_parkBits : List (Nat × Instr × Nat) := [(0, Instr.aload_n 0, 1), (1, Instr.invokevirtual 118, 3), (4, Instr.iconst 0, 1), (5, Instr.istore_n 1, 1), (6, Instr.iconst 0, 1), (7, Instr.istore_n 2, 1), (8, Instr.iload_n 2, 1), (9, Instr.bipush 120, 2), (11, Instr.if_icmp .ge 28, 3), (14, Instr.aload_n 0, 1), (15, Instr.getfield 29, 3), (18, Instr.iload_n 2, 1), (19, Instr.iaload, 1), (20, Instr.iconst (-1), 1), (21, Instr.if_icmp .eq 12, 3), (24, Instr.iload_n 1, 1), (25, Instr.iconst 1, 1), (26, Instr.iload_n 2, 1), (27, Instr.bipush 20, 2), (29, Instr.idiv, 1), (30, Instr.ishl, 1), (31, Instr.ior, 1), (32, Instr.istore_n 1, 1), (33, Instr.iinc 2 1, 3), (36, Instr.goto (-28), 3), (39, Instr.iload_n 1, 1), (40, Instr.ireturn, 1)]
set_option maxRecDepth 20000 in
theorem tkX6_parkBits : (tbX6_parkBits.all fun q => decide (decode cX6_parkBits q.1 = .ok q.2)) = true := by decide +kernel
def mX6_parkBits : Nat × MethodName × ByteArray × Nat × Option FieldType × List (Nat × Instr × Nat) × Option (Nat × (Nat → Int32)) := (6, yX6_parkBits, cX6_parkBits, 3, (some .int), tbX6_parkBits, none)
def tbX6_leastToll : List (Nat × Instr × Nat) := [(0, Instr.aload_n 0, 1), (1, Instr.getfield 41, 3), (4, Instr.iconst (-1), 1), (5, Instr.invokestatic 62, 3), (8, Instr.aload_n 0, 1), (9, Instr.getfield 44, 3), (12, Instr.iconst 0, 1), (13, Instr.invokestatic 62, 3), (16, Instr.aload_n 0, 1), (17, Instr.getfield 41, 3), (20, Instr.aload_n 0, 1), (21, Instr.invokevirtual 100, 3), (24, Instr.iconst 0, 1), (25, Instr.iastore, 1), (26, Instr.iconst 0, 1), (27, Instr.istore_n 3, 1), (28, Instr.iload_n 3, 1), (29, Instr.bipush 120, 2), (31, Instr.if_icmp .ge 86, 3), (34, Instr.aload_n 0, 1), (35, Instr.invokevirtual 121, 3), (38, Instr.istore 4, 2), (40, Instr.iload 4, 2), (42, Instr.iconst (-1), 1), (43, Instr.if_icmp .eq 13, 3), (46, Instr.iload 4, 2), (48, Instr.iload_n 1, 1), (49, Instr.iload_n 2, 1), (50, Instr.invokestatic 104, 3), (53, Instr.ifCond .eq 21, 3), (56, Instr.iload 4, 2), (58, Instr.iconst (-1), 1), (59, Instr.if_icmp .ne 7, 3), (62, Instr.iconst (-1), 1), (63, Instr.goto 10, 3), (66, Instr.aload_n 0, 1), (67, Instr.getfield 41, 3), (70, Instr.iload 4, 2), (72, Instr.iaload, 1), (73, Instr.ireturn, 1), (74, Instr.aload_n 0, 1), (75, Instr.getfield 44, 3), (78, Instr.iload 4, 2), (80, Instr.iconst 1, 1), (81, Instr.iastore, 1), (82, Instr.iconst 0, 1), (83, Instr.istore 5, 2), (85, Instr.iload 5, 2), (87, Instr.aload_n 0, 1), (88, Instr.getfield 12, 3), (91, Instr.getfield 108, 3), (94, Instr.if_icmp .ge 17, 3), (97, Instr.aload_n 0, 1), (98, Instr.iload 5, 2), (100, Instr.iload 4, 2), (102, Instr.invokevirtual 124, 3), (105, Instr.iinc 5 1, 3), (108, Instr.goto (-23), 3), (111, Instr.iinc 3 1, 3), (114, Instr.goto (-86), 3), (117, Instr.iconst (-1), 1), (118, Instr.ireturn, 1)]
set_option maxRecDepth 20000 in
theorem tkX6_leastToll : (tbX6_leastToll.all fun q => decide (decode cX6_leastToll q.1 = .ok q.2)) = true := by decide +kernel
def mX6_leastToll : Nat × MethodName × ByteArray × Nat × Option FieldType × List (Nat × Instr × Nat) × Option (Nat × (Nat → Int32)) := (6, yX6_leastToll, cX6_leastToll, 6, (some .int), tbX6_leastToll, none)
def tbX6_cheapestUnsettled : List (Nat × Instr × Nat) := [(0, Instr.iconst (-1), 1), (1, Instr.istore_n 1, 1), (2, Instr.iconst 0, 1), (3, Instr.istore_n 2, 1), (4, Instr.iload_n 2, 1), (5, Instr.bipush 120, 2), (7, Instr.if_icmp .ge 50, 3), (10, Instr.aload_n 0, 1), (11, Instr.getfield 44, 3), (14, Instr.iload_n 2, 1), (15, Instr.iaload, 1), (16, Instr.ifCond .ne 35, 3), (19, Instr.aload_n 0, 1), (20, Instr.getfield 41, 3), (23, Instr.iload_n 2, 1), (24, Instr.iaload, 1), (25, Instr.iconst (-1), 1), (26, Instr.if_icmp .eq 25, 3), (29, Instr.iload_n 1, 1), (30, Instr.iconst (-1), 1), (31, Instr.if_icmp .eq 18, 3), (34, Instr.aload_n 0, 1), (35, Instr.getfield 41, 3), (38, Instr.iload_n 2, 1), (39, Instr.iaload, 1), (40, Instr.aload_n 0, 1), (41, Instr.getfield 41, 3), (44, Instr.iload_n 1, 1), (45, Instr.iaload, 1), (46, Instr.if_icmp .ge 5, 3), (49, Instr.iload_n 2, 1), (50, Instr.istore_n 1, 1), (51, Instr.iinc 2 1, 3), (54, Instr.goto (-50), 3), (57, Instr.iload_n 1, 1), (58, Instr.ireturn, 1)]
set_option maxRecDepth 20000 in
theorem tkX6_cheapestUnsettled : (tbX6_cheapestUnsettled.all fun q => decide (decode cX6_cheapestUnsettled q.1 = .ok q.2)) = true := by decide +kernel
def mX6_cheapestUnsettled : Nat × MethodName × ByteArray × Nat × Option FieldType × List (Nat × Instr × Nat) × Option (Nat × (Nat → Int32)) := (6, yX6_cheapestUnsettled, cX6_cheapestUnsettled, 3, (some .int), tbX6_cheapestUnsettled, none)
def tbX6_payInto : List (Nat × Instr × Nat) := [(0, Instr.aload_n 0, 1), (1, Instr.iload_n 1, 1), (2, Instr.iload_n 2, 1), (3, Instr.invokevirtual 111, 3), (6, Instr.istore_n 3, 1), (7, Instr.iload_n 3, 1), (8, Instr.iconst (-1), 1), (9, Instr.if_icmp .ne 4, 3), (12, Instr.return_, 1), (13, Instr.aload_n 0, 1), (14, Instr.getfield 54, 3), (17, Instr.aload_n 0, 1), (18, Instr.getfield 12, 3), (21, Instr.aload_n 0, 1), (22, Instr.getfield 18, 3), (25, Instr.iload_n 1, 1), (26, Instr.iload_n 2, 1), (27, Instr.bipush 20, 2), (29, Instr.irem, 1), (30, Instr.invokevirtual 87, 3), (33, Instr.aload_n 0, 1), (34, Instr.getfield 41, 3), (37, Instr.iload_n 2, 1), (38, Instr.iaload, 1), (39, Instr.aload_n 0, 1), (40, Instr.getfield 54, 3), (43, Instr.aload_n 0, 1), (44, Instr.getfield 12, 3), (47, Instr.sipush 261, 3), (50, Instr.invokevirtual 93, 3), (53, Instr.iadd, 1), (54, Instr.istore 4, 2), (56, Instr.aload_n 0, 1), (57, Instr.getfield 41, 3), (60, Instr.iload_n 3, 1), (61, Instr.iaload, 1), (62, Instr.iconst (-1), 1), (63, Instr.if_icmp .eq 14, 3), (66, Instr.iload 4, 2), (68, Instr.aload_n 0, 1), (69, Instr.getfield 41, 3), (72, Instr.iload_n 3, 1), (73, Instr.iaload, 1), (74, Instr.if_icmp .ge 11, 3), (77, Instr.aload_n 0, 1), (78, Instr.getfield 41, 3), (81, Instr.iload_n 3, 1), (82, Instr.iload 4, 2), (84, Instr.iastore, 1), (85, Instr.return_, 1)]
set_option maxRecDepth 20000 in
theorem tkX6_payInto : (tbX6_payInto.all fun q => decide (decode cX6_payInto q.1 = .ok q.2)) = true := by decide +kernel
def mX6_payInto : Nat × MethodName × ByteArray × Nat × Option FieldType × List (Nat × Instr × Nat) × Option (Nat × (Nat → Int32)) := (6, yX6_payInto, cX6_payInto, 5, none, tbX6_payInto, none)
def tbX6_flow : List (Nat × Instr × Nat) := [(0, Instr.aload_n 0, 1), (1, Instr.getfield 47, 3), (4, Instr.lconst 0, 1), (5, Instr.invokestatic 128, 3), (8, Instr.aload_n 0, 1), (9, Instr.getfield 47, 3), (12, Instr.aload_n 0, 1), (13, Instr.invokevirtual 100, 3), (16, Instr.lload_n 1, 1), (17, Instr.lastore, 1), (18, Instr.iconst 0, 1), (19, Instr.istore 5, 2), (21, Instr.iload 5, 2), (23, Instr.iload_n 3, 1), (24, Instr.if_icmp .ge 68, 3), (27, Instr.aload_n 0, 1), (28, Instr.getfield 51, 3), (31, Instr.lconst 0, 1), (32, Instr.invokestatic 128, 3), (35, Instr.iconst 0, 1), (36, Instr.istore 6, 2), (38, Instr.iload 6, 2), (40, Instr.bipush 120, 2), (42, Instr.if_icmp .ge 29, 3), (45, Instr.aload_n 0, 1), (46, Instr.getfield 47, 3), (49, Instr.iload 6, 2), (51, Instr.laload, 1), (52, Instr.lconst 0, 1), (53, Instr.lcmp, 1), (54, Instr.ifCond .le 11, 3), (57, Instr.aload_n 0, 1), (58, Instr.iload 6, 2), (60, Instr.iload 4, 2), (62, Instr.invokevirtual 131, 3), (65, Instr.iinc 6 1, 3), (68, Instr.goto (-30), 3), (71, Instr.aload_n 0, 1), (72, Instr.getfield 51, 3), (75, Instr.iconst 0, 1), (76, Instr.aload_n 0, 1), (77, Instr.getfield 47, 3), (80, Instr.iconst 0, 1), (81, Instr.bipush 120, 2), (83, Instr.invokestatic 135, 3), (86, Instr.iinc 5 1, 3), (89, Instr.goto (-68), 3), (92, Instr.return_, 1)]
set_option maxRecDepth 20000 in
theorem tkX6_flow : (tbX6_flow.all fun q => decide (decode cX6_flow q.1 = .ok q.2)) = true := by decide +kernel
def mX6_flow : Nat × MethodName × ByteArray × Nat × Option FieldType × List (Nat × Instr × Nat) × Option (Nat × (Nat → Int32)) := (6, yX6_flow, cX6_flow, 7, none, tbX6_flow, none)
def tbX6_flowFrom : List (Nat × Instr × Nat) := [(0, Instr.iconst 0, 1), (1, Instr.istore_n 3, 1), (2, Instr.iconst 0, 1), (3, Instr.istore 4, 2), (5, Instr.iload 4, 2), (7, Instr.aload_n 0, 1), (8, Instr.getfield 12, 3), (11, Instr.getfield 108, 3), (14, Instr.if_icmp .ge 28, 3), (17, Instr.iload_n 3, 1), (18, Instr.aload_n 0, 1), (19, Instr.iload 4, 2), (21, Instr.iload_n 1, 1), (22, Instr.invokevirtual 111, 3), (25, Instr.iconst (-1), 1), (26, Instr.if_icmp .ne 7, 3), (29, Instr.iconst 0, 1), (30, Instr.goto 4, 3), (33, Instr.iconst 1, 1), (34, Instr.iadd, 1), (35, Instr.istore_n 3, 1), (36, Instr.iinc 4 1, 3), (39, Instr.goto (-34), 3), (42, Instr.iload_n 3, 1), (43, Instr.ifCond .ne 27, 3), (46, Instr.aload_n 0, 1), (47, Instr.getfield 51, 3), (50, Instr.iload_n 1, 1), (51, Instr.dup2, 1), (52, Instr.laload, 1), (53, Instr.iload_n 2, 1), (54, Instr.ifCond .eq 12, 3), (57, Instr.aload_n 0, 1), (58, Instr.getfield 47, 3), (61, Instr.iload_n 1, 1), (62, Instr.laload, 1), (63, Instr.goto 4, 3), (66, Instr.lconst 0, 1), (67, Instr.ladd, 1), (68, Instr.lastore, 1), (69, Instr.return_, 1), (70, Instr.iload_n 2, 1), (71, Instr.ifCond .eq 15, 3), (74, Instr.aload_n 0, 1), (75, Instr.getfield 47, 3), (78, Instr.iload_n 1, 1), (79, Instr.laload, 1), (80, Instr.iload_n 3, 1), (81, Instr.i2l, 1), (82, Instr.ldiv, 1), (83, Instr.goto 9, 3), (86, Instr.aload_n 0, 1), (87, Instr.getfield 47, 3), (90, Instr.iload_n 1, 1), (91, Instr.laload, 1), (92, Instr.lstore 4, 2), (94, Instr.iconst 0, 1), (95, Instr.istore 6, 2), (97, Instr.iload 6, 2), (99, Instr.aload_n 0, 1), (100, Instr.getfield 12, 3), (103, Instr.getfield 108, 3), (106, Instr.if_icmp .ge 36, 3), (109, Instr.aload_n 0, 1), (110, Instr.iload 6, 2), (112, Instr.iload_n 1, 1), (113, Instr.invokevirtual 111, 3), (116, Instr.istore 7, 2), (118, Instr.iload 7, 2), (120, Instr.iconst (-1), 1), (121, Instr.if_icmp .eq 15, 3), (124, Instr.aload_n 0, 1), (125, Instr.getfield 51, 3), (128, Instr.iload 7, 2), (130, Instr.dup2, 1), (131, Instr.laload, 1), (132, Instr.lload 4, 2), (134, Instr.ladd, 1), (135, Instr.lastore, 1), (136, Instr.iinc 6 1, 3), (139, Instr.goto (-42), 3), (142, Instr.return_, 1)]
set_option maxRecDepth 20000 in
theorem tkX6_flowFrom : (tbX6_flowFrom.all fun q => decide (decode cX6_flowFrom q.1 = .ok q.2)) = true := by decide +kernel
def mX6_flowFrom : Nat × MethodName × ByteArray × Nat × Option FieldType × List (Nat × Instr × Nat) × Option (Nat × (Nat → Int32)) := (6, yX6_flowFrom, cX6_flowFrom, 8, none, tbX6_flowFrom, none)
def tbX6_flowed : List (Nat × Instr × Nat) := [(0, Instr.lconst 0, 1), (1, Instr.lstore_n 3, 1), (2, Instr.iconst 0, 1), (3, Instr.istore 5, 2), (5, Instr.iload 5, 2), (7, Instr.bipush 120, 2), (9, Instr.if_icmp .ge 33, 3), (12, Instr.lload_n 3, 1), (13, Instr.iload 5, 2), (15, Instr.iload_n 1, 1), (16, Instr.iload_n 2, 1), (17, Instr.invokestatic 104, 3), (20, Instr.ifCond .eq 13, 3), (23, Instr.aload_n 0, 1), (24, Instr.getfield 47, 3), (27, Instr.iload 5, 2), (29, Instr.laload, 1), (30, Instr.goto 4, 3), (33, Instr.lconst 0, 1), (34, Instr.ladd, 1), (35, Instr.lstore_n 3, 1), (36, Instr.iinc 5 1, 3), (39, Instr.goto (-34), 3), (42, Instr.lload_n 3, 1), (43, Instr.lreturn, 1)]
set_option maxRecDepth 20000 in
theorem tkX6_flowed : (tbX6_flowed.all fun q => decide (decode cX6_flowed q.1 = .ok q.2)) = true := by decide +kernel
def mX6_flowed : Nat × MethodName × ByteArray × Nat × Option FieldType × List (Nat × Instr × Nat) × Option (Nat × (Nat → Int32)) := (6, yX6_flowed, cX6_flowed, 6, (some .long), tbX6_flowed, none)
def tbX6_firstFix : List (Nat × Instr × Nat) := [(0, Instr.aload_n 0, 1), (1, Instr.iload_n 1, 1), (2, Instr.iload_n 2, 1), (3, Instr.invokevirtual 115, 3), (6, Instr.iconst (-1), 1), (7, Instr.if_icmp .eq 6, 3), (10, Instr.bipush 100, 2), (12, Instr.ireturn, 1), (13, Instr.iconst 0, 1), (14, Instr.istore_n 3, 1), (15, Instr.iload_n 3, 1), (16, Instr.aload_n 0, 1), (17, Instr.getfield 12, 3), (20, Instr.getfield 108, 3), (23, Instr.if_icmp .ge 75, 3), (26, Instr.aload_n 0, 1), (27, Instr.getfield 12, 3), (30, Instr.getfield 71, 3), (33, Instr.iload_n 3, 1), (34, Instr.iaload, 1), (35, Instr.istore 4, 2), (37, Instr.iconst 0, 1), (38, Instr.istore 5, 2), (40, Instr.iload 5, 2), (42, Instr.bipush 10, 2), (44, Instr.if_icmp .ge 41, 3), (47, Instr.aload_n 0, 1), (48, Instr.iload_n 3, 1), (49, Instr.iload 5, 2), (51, Instr.invokevirtual 141, 3), (54, Instr.iload 5, 2), (56, Instr.iload 4, 2), (58, Instr.if_icmp .eq 21, 3), (61, Instr.aload_n 0, 1), (62, Instr.iload_n 1, 1), (63, Instr.iload_n 2, 1), (64, Instr.invokevirtual 115, 3), (67, Instr.iconst (-1), 1), (68, Instr.if_icmp .eq 11, 3), (71, Instr.bipush 10, 2), (73, Instr.iload_n 3, 1), (74, Instr.imul, 1), (75, Instr.iload 5, 2), (77, Instr.iadd, 1), (78, Instr.ireturn, 1), (79, Instr.iinc 5 1, 3), (82, Instr.goto (-42), 3), (85, Instr.aload_n 0, 1), (86, Instr.iload_n 3, 1), (87, Instr.iload 4, 2), (89, Instr.invokevirtual 141, 3), (92, Instr.iinc 3 1, 3), (95, Instr.goto (-80), 3), (98, Instr.iconst (-1), 1), (99, Instr.ireturn, 1)]
set_option maxRecDepth 20000 in
theorem tkX6_firstFix : (tbX6_firstFix.all fun q => decide (decode cX6_firstFix q.1 = .ok q.2)) = true := by decide +kernel
def mX6_firstFix : Nat × MethodName × ByteArray × Nat × Option FieldType × List (Nat × Instr × Nat) × Option (Nat × (Nat → Int32)) := (6, yX6_firstFix, cX6_firstFix, 6, (some .int), tbX6_firstFix, none)
def tbX6_fewestShut : List (Nat × Instr × Nat) := [(0, Instr.iconst 0, 1), (1, Instr.istore_n 2, 1), (2, Instr.iconst 0, 1), (3, Instr.istore_n 3, 1), (4, Instr.iload_n 3, 1), (5, Instr.aload_n 0, 1), (6, Instr.getfield 12, 3), (9, Instr.getfield 108, 3), (12, Instr.if_icmp .ge 31, 3), (15, Instr.iload_n 2, 1), (16, Instr.aload_n 0, 1), (17, Instr.getfield 12, 3), (20, Instr.getfield 83, 3), (23, Instr.iload_n 3, 1), (24, Instr.baload, 1), (25, Instr.ifCond .eq 9, 3), (28, Instr.iconst 1, 1), (29, Instr.iload_n 3, 1), (30, Instr.ishl, 1), (31, Instr.goto 4, 3), (34, Instr.iconst 0, 1), (35, Instr.ior, 1), (36, Instr.istore_n 2, 1), (37, Instr.iinc 3 1, 3), (40, Instr.goto (-36), 3), (43, Instr.iconst 0, 1), (44, Instr.istore_n 3, 1), (45, Instr.iload_n 3, 1), (46, Instr.bipush 10, 2), (48, Instr.if_icmp .ge 59, 3), (51, Instr.iconst 0, 1), (52, Instr.istore 4, 2), (54, Instr.iload 4, 2), (56, Instr.iload_n 2, 1), (57, Instr.if_icmp .gt 44, 3), (60, Instr.iload 4, 2), (62, Instr.iload_n 2, 1), (63, Instr.iand, 1), (64, Instr.iload 4, 2), (66, Instr.if_icmp .ne 29, 3), (69, Instr.iload 4, 2), (71, Instr.invokestatic 144, 3), (74, Instr.iload_n 3, 1), (75, Instr.if_icmp .ne 20, 3), (78, Instr.aload_n 0, 1), (79, Instr.iload_n 2, 1), (80, Instr.iload 4, 2), (82, Instr.iconst (-1), 1), (83, Instr.ixor, 1), (84, Instr.iand, 1), (85, Instr.iload_n 1, 1), (86, Instr.invokevirtual 150, 3), (89, Instr.ifCond .eq 6, 3), (92, Instr.iload 4, 2), (94, Instr.ireturn, 1), (95, Instr.iinc 4 1, 3), (98, Instr.goto (-44), 3), (101, Instr.iinc 3 1, 3), (104, Instr.goto (-59), 3), (107, Instr.iload_n 2, 1), (108, Instr.ireturn, 1)]
set_option maxRecDepth 20000 in
theorem tkX6_fewestShut : (tbX6_fewestShut.all fun q => decide (decode cX6_fewestShut q.1 = .ok q.2)) = true := by decide +kernel
def mX6_fewestShut : Nat × MethodName × ByteArray × Nat × Option FieldType × List (Nat × Instr × Nat) × Option (Nat × (Nat → Int32)) := (6, yX6_fewestShut, cX6_fewestShut, 5, (some .int), tbX6_fewestShut, none)
def tbX6_shuts : List (Nat × Instr × Nat) := [(0, Instr.iconst 0, 1), (1, Instr.istore_n 3, 1), (2, Instr.iload_n 3, 1), (3, Instr.aload_n 0, 1), (4, Instr.getfield 12, 3), (7, Instr.getfield 108, 3), (10, Instr.if_icmp .ge 32, 3), (13, Instr.aload_n 0, 1), (14, Instr.getfield 12, 3), (17, Instr.getfield 83, 3), (20, Instr.iload_n 3, 1), (21, Instr.iload_n 1, 1), (22, Instr.iload_n 3, 1), (23, Instr.ishr, 1), (24, Instr.iconst 1, 1), (25, Instr.iand, 1), (26, Instr.iconst 1, 1), (27, Instr.if_icmp .ne 7, 3), (30, Instr.iconst 1, 1), (31, Instr.goto 4, 3), (34, Instr.iconst 0, 1), (35, Instr.bastore, 1), (36, Instr.iinc 3 1, 3), (39, Instr.goto (-37), 3), (42, Instr.aload_n 0, 1), (43, Instr.iload_n 2, 1), (44, Instr.iconst (-1), 1), (45, Instr.invokevirtual 115, 3), (48, Instr.iconst (-1), 1), (49, Instr.if_icmp .ne 7, 3), (52, Instr.iconst 1, 1), (53, Instr.goto 4, 3), (56, Instr.iconst 0, 1), (57, Instr.ireturn, 1)]
set_option maxRecDepth 20000 in
theorem tkX6_shuts : (tbX6_shuts.all fun q => decide (decode cX6_shuts q.1 = .ok q.2)) = true := by decide +kernel
def mX6_shuts : Nat × MethodName × ByteArray × Nat × Option FieldType × List (Nat × Instr × Nat) × Option (Nat × (Nat → Int32)) := (6, yX6_shuts, cX6_shuts, 4, (some .boolean), tbX6_shuts, none)
def tbX6_keepSteps : List (Nat × Instr × Nat) := [(0, Instr.aload_n 0, 1), (1, Instr.invokevirtual 118, 3), (4, Instr.aload_n 0, 1), (5, Instr.getfield 29, 3), (8, Instr.iconst 0, 1), (9, Instr.aload_n 0, 1), (10, Instr.getfield 38, 3), (13, Instr.iconst 0, 1), (14, Instr.bipush 120, 2), (16, Instr.invokestatic 135, 3), (19, Instr.return_, 1)]
set_option maxRecDepth 20000 in
theorem tkX6_keepSteps : (tbX6_keepSteps.all fun q => decide (decode cX6_keepSteps q.1 = .ok q.2)) = true := by decide +kernel
def mX6_keepSteps : Nat × MethodName × ByteArray × Nat × Option FieldType × List (Nat × Instr × Nat) × Option (Nat × (Nat → Int32)) := (6, yX6_keepSteps, cX6_keepSteps, 1, none, tbX6_keepSteps, none)
def tbX6_meetingPlace : List (Nat × Instr × Nat) := [(0, Instr.aload_n 0, 1), (1, Instr.invokevirtual 118, 3), (4, Instr.iconst (-1), 1), (5, Instr.istore_n 1, 1), (6, Instr.iconst 0, 1), (7, Instr.istore_n 2, 1), (8, Instr.iload_n 2, 1), (9, Instr.bipush 120, 2), (11, Instr.if_icmp .ge 49, 3), (14, Instr.aload_n 0, 1), (15, Instr.getfield 29, 3), (18, Instr.iload_n 2, 1), (19, Instr.iaload, 1), (20, Instr.iconst (-1), 1), (21, Instr.if_icmp .eq 33, 3), (24, Instr.aload_n 0, 1), (25, Instr.getfield 38, 3), (28, Instr.iload_n 2, 1), (29, Instr.iaload, 1), (30, Instr.iconst (-1), 1), (31, Instr.if_icmp .eq 23, 3), (34, Instr.iload_n 1, 1), (35, Instr.iconst (-1), 1), (36, Instr.if_icmp .eq 16, 3), (39, Instr.aload_n 0, 1), (40, Instr.iload_n 2, 1), (41, Instr.invokevirtual 154, 3), (44, Instr.aload_n 0, 1), (45, Instr.iload_n 1, 1), (46, Instr.invokevirtual 154, 3), (49, Instr.if_icmp .ge 5, 3), (52, Instr.iload_n 2, 1), (53, Instr.istore_n 1, 1), (54, Instr.iinc 2 1, 3), (57, Instr.goto (-49), 3), (60, Instr.iload_n 1, 1), (61, Instr.ireturn, 1)]
set_option maxRecDepth 20000 in
theorem tkX6_meetingPlace : (tbX6_meetingPlace.all fun q => decide (decode cX6_meetingPlace q.1 = .ok q.2)) = true := by decide +kernel
def mX6_meetingPlace : Nat × MethodName × ByteArray × Nat × Option FieldType × List (Nat × Instr × Nat) × Option (Nat × (Nat → Int32)) := (6, yX6_meetingPlace, cX6_meetingPlace, 3, (some .int), tbX6_meetingPlace, none)
def tbX6_longerSteps : List (Nat × Instr × Nat) := [(0, Instr.iload_n 1, 1), (1, Instr.bipush 120, 2), (3, Instr.invokestatic 157, 3), (6, Instr.ifCond .eq 21, 3), (9, Instr.aload_n 0, 1), (10, Instr.getfield 29, 3), (13, Instr.iload_n 1, 1), (14, Instr.iaload, 1), (15, Instr.aload_n 0, 1), (16, Instr.getfield 38, 3), (19, Instr.iload_n 1, 1), (20, Instr.iaload, 1), (21, Instr.invokestatic 160, 3), (24, Instr.goto 4, 3), (27, Instr.iconst (-1), 1), (28, Instr.ireturn, 1)]
set_option maxRecDepth 20000 in
theorem tkX6_longerSteps : (tbX6_longerSteps.all fun q => decide (decode cX6_longerSteps q.1 = .ok q.2)) = true := by decide +kernel
def mX6_longerSteps : Nat × MethodName × ByteArray × Nat × Option FieldType × List (Nat × Instr × Nat) × Option (Nat × (Nat → Int32)) := (6, yX6_longerSteps, cX6_longerSteps, 2, (some .int), tbX6_longerSteps, none)
def tbX7_init : List (Nat × Instr × Nat) := [(0, Instr.aload_n 0, 1), (1, Instr.invokespecial 3, 3), (4, Instr.aload_n 0, 1), (5, Instr.iconst 0, 1), (6, Instr.putfield 9, 3), (9, Instr.aload_n 0, 1), (10, Instr.bipush 10, 2), (12, Instr.newarray .int, 2), (14, Instr.putfield 15, 3), (17, Instr.aload_n 0, 1), (18, Instr.bipush 10, 2), (20, Instr.newarray .int, 2), (22, Instr.putfield 19, 3), (25, Instr.aload_n 0, 1), (26, Instr.bipush 10, 2), (28, Instr.newarray .int, 2), (30, Instr.putfield 22, 3), (33, Instr.aload_n 0, 1), (34, Instr.bipush 10, 2), (36, Instr.newarray .int, 2), (38, Instr.putfield 25, 3), (41, Instr.aload_n 0, 1), (42, Instr.bipush 10, 2), (44, Instr.newarray .boolean, 2), (46, Instr.putfield 28, 3), (49, Instr.aload_n 0, 1), (50, Instr.iconst 0, 1), (51, Instr.putfield 32, 3), (54, Instr.aload_n 0, 1), (55, Instr.iconst 5, 1), (56, Instr.newarray .int, 2), (58, Instr.putfield 35, 3), (61, Instr.aload_n 0, 1), (62, Instr.iconst 5, 1), (63, Instr.newarray .int, 2), (65, Instr.putfield 38, 3), (68, Instr.aload_n 0, 1), (69, Instr.iconst 5, 1), (70, Instr.newarray .int, 2), (72, Instr.putfield 41, 3), (75, Instr.aload_n 0, 1), (76, Instr.iconst 5, 1), (77, Instr.newarray .int, 2), (79, Instr.putfield 44, 3), (82, Instr.aload_n 0, 1), (83, Instr.iconst 0, 1), (84, Instr.putfield 47, 3), (87, Instr.aload_n 0, 1), (88, Instr.bipush 6, 2), (90, Instr.newarray .int, 2), (92, Instr.putfield 50, 3), (95, Instr.aload_n 0, 1), (96, Instr.bipush 6, 2), (98, Instr.newarray .int, 2), (100, Instr.putfield 53, 3), (103, Instr.aload_n 0, 1), (104, Instr.bipush 6, 2), (106, Instr.newarray .int, 2), (108, Instr.putfield 56, 3), (111, Instr.aload_n 0, 1), (112, Instr.iconst 3, 1), (113, Instr.newarray .int, 2), (115, Instr.dup, 1), (116, Instr.iconst 0, 1), (117, Instr.iconst 0, 1), (118, Instr.iastore, 1), (119, Instr.dup, 1), (120, Instr.iconst 1, 1), (121, Instr.iconst 1, 1), (122, Instr.iastore, 1), (123, Instr.dup, 1), (124, Instr.iconst 2, 1), (125, Instr.iconst 0, 1), (126, Instr.iastore, 1), (127, Instr.putfield 59, 3), (130, Instr.aload_n 0, 1), (131, Instr.iconst 0, 1), (132, Instr.putfield 62, 3), (135, Instr.aload_n 0, 1), (136, Instr.bipush 6, 2), (138, Instr.anewarray 65, 3), (141, Instr.putfield 67, 3), (144, Instr.aload_n 0, 1), (145, Instr.iconst (-1), 1), (146, Instr.putfield 71, 3), (149, Instr.return_, 1)]
set_option maxRecDepth 20000 in
theorem tkX7_init : (tbX7_init.all fun q => decide (decode cX7_init q.1 = .ok q.2)) = true := by decide +kernel
def mX7_init : Nat × MethodName × ByteArray × Nat × Option FieldType × List (Nat × Instr × Nat) × Option (Nat × (Nat → Int32)) := (7, yX7_init, cX7_init, 1, none, tbX7_init, none)
def tbX7_hasGate : List (Nat × Instr × Nat) := [(0, Instr.iload_n 1, 1), (1, Instr.ifCond .lt 15, 3), (4, Instr.iload_n 1, 1), (5, Instr.aload_n 0, 1), (6, Instr.getfield 9, 3), (9, Instr.if_icmp .ge 7, 3), (12, Instr.iconst 1, 1), (13, Instr.goto 4, 3), (16, Instr.iconst 0, 1), (17, Instr.ireturn, 1)]
set_option maxRecDepth 20000 in
theorem tkX7_hasGate : (tbX7_hasGate.all fun q => decide (decode cX7_hasGate q.1 = .ok q.2)) = true := by decide +kernel
def mX7_hasGate : Nat × MethodName × ByteArray × Nat × Option FieldType × List (Nat × Instr × Nat) × Option (Nat × (Nat → Int32)) := (7, yX7_hasGate, cX7_hasGate, 2, (some .boolean), tbX7_hasGate, none)
def tbX7_hasGoer : List (Nat × Instr × Nat) := [(0, Instr.iload_n 1, 1), (1, Instr.ifCond .lt 15, 3), (4, Instr.iload_n 1, 1), (5, Instr.aload_n 0, 1), (6, Instr.getfield 32, 3), (9, Instr.if_icmp .ge 7, 3), (12, Instr.iconst 1, 1), (13, Instr.goto 4, 3), (16, Instr.iconst 0, 1), (17, Instr.ireturn, 1)]
set_option maxRecDepth 20000 in
theorem tkX7_hasGoer : (tbX7_hasGoer.all fun q => decide (decode cX7_hasGoer q.1 = .ok q.2)) = true := by decide +kernel
def mX7_hasGoer : Nat × MethodName × ByteArray × Nat × Option FieldType × List (Nat × Instr × Nat) × Option (Nat × (Nat → Int32)) := (7, yX7_hasGoer, cX7_hasGoer, 2, (some .boolean), tbX7_hasGoer, none)
def tbX7_hasLaw : List (Nat × Instr × Nat) := [(0, Instr.iload_n 1, 1), (1, Instr.ifCond .lt 15, 3), (4, Instr.iload_n 1, 1), (5, Instr.aload_n 0, 1), (6, Instr.getfield 62, 3), (9, Instr.if_icmp .ge 7, 3), (12, Instr.iconst 1, 1), (13, Instr.goto 4, 3), (16, Instr.iconst 0, 1), (17, Instr.ireturn, 1)]
set_option maxRecDepth 20000 in
theorem tkX7_hasLaw : (tbX7_hasLaw.all fun q => decide (decode cX7_hasLaw q.1 = .ok q.2)) = true := by decide +kernel
def mX7_hasLaw : Nat × MethodName × ByteArray × Nat × Option FieldType × List (Nat × Instr × Nat) × Option (Nat × (Nat → Int32)) := (7, yX7_hasLaw, cX7_hasLaw, 2, (some .boolean), tbX7_hasLaw, none)
def tbX7_inForce : List (Nat × Instr × Nat) := [(0, Instr.aload_n 0, 1), (1, Instr.aload_n 0, 1), (2, Instr.getfield 71, 3), (5, Instr.invokevirtual 74, 3), (8, Instr.ifCond .eq 15, 3), (11, Instr.aload_n 0, 1), (12, Instr.getfield 67, 3), (15, Instr.aload_n 0, 1), (16, Instr.getfield 71, 3), (19, Instr.aaload, 1), (20, Instr.goto 4, 3), (23, Instr.aconst_null, 1), (24, Instr.areturn, 1)]
set_option maxRecDepth 20000 in
theorem tkX7_inForce : (tbX7_inForce.all fun q => decide (decode cX7_inForce q.1 = .ok q.2)) = true := by decide +kernel
def mX7_inForce : Nat × MethodName × ByteArray × Nat × Option FieldType × List (Nat × Instr × Nat) × Option (Nat × (Nat → Int32)) := (7, yX7_inForce, cX7_inForce, 1, (some (.object "CountGates$Text")), tbX7_inForce, none)
def tbX7_addGate : List (Nat × Instr × Nat) := [(0, Instr.iload_n 1, 1), (1, Instr.bipush 6, 2), (3, Instr.invokestatic 78, 3), (6, Instr.ifCond .eq 31, 3), (9, Instr.iload_n 2, 1), (10, Instr.bipush 6, 2), (12, Instr.invokestatic 78, 3), (15, Instr.ifCond .eq 22, 3), (18, Instr.iload_n 3, 1), (19, Instr.bipush 8, 2), (21, Instr.invokestatic 78, 3), (24, Instr.ifCond .eq 13, 3), (27, Instr.iload 4, 2), (29, Instr.bipush 10, 2), (31, Instr.invokestatic 78, 3), (34, Instr.ifCond .ne 5, 3), (37, Instr.iconst (-1), 1), (38, Instr.ireturn, 1), (39, Instr.aload_n 0, 1), (40, Instr.getfield 9, 3), (43, Instr.bipush 10, 2), (45, Instr.if_icmp .lt 6, 3), (48, Instr.bipush (-5), 2), (50, Instr.ireturn, 1), (51, Instr.aload_n 0, 1), (52, Instr.getfield 15, 3), (55, Instr.aload_n 0, 1), (56, Instr.getfield 9, 3), (59, Instr.iload_n 1, 1), (60, Instr.iastore, 1), (61, Instr.aload_n 0, 1), (62, Instr.getfield 19, 3), (65, Instr.aload_n 0, 1), (66, Instr.getfield 9, 3), (69, Instr.iload_n 2, 1), (70, Instr.iastore, 1), (71, Instr.aload_n 0, 1), (72, Instr.getfield 22, 3), (75, Instr.aload_n 0, 1), (76, Instr.getfield 9, 3), (79, Instr.iload_n 3, 1), (80, Instr.iastore, 1), (81, Instr.aload_n 0, 1), (82, Instr.getfield 25, 3), (85, Instr.aload_n 0, 1), (86, Instr.getfield 9, 3), (89, Instr.iload 4, 2), (91, Instr.iastore, 1), (92, Instr.aload_n 0, 1), (93, Instr.getfield 28, 3), (96, Instr.aload_n 0, 1), (97, Instr.getfield 9, 3), (100, Instr.iconst 1, 1), (101, Instr.bastore, 1), (102, Instr.aload_n 0, 1), (103, Instr.dup, 1), (104, Instr.getfield 9, 3), (107, Instr.dup_x1, 1), (108, Instr.iconst 1, 1), (109, Instr.iadd, 1), (110, Instr.putfield 9, 3), (113, Instr.ireturn, 1)]
set_option maxRecDepth 20000 in
theorem tkX7_addGate : (tbX7_addGate.all fun q => decide (decode cX7_addGate q.1 = .ok q.2)) = true := by decide +kernel
def mX7_addGate : Nat × MethodName × ByteArray × Nat × Option FieldType × List (Nat × Instr × Nat) × Option (Nat × (Nat → Int32)) := (7, yX7_addGate, cX7_addGate, 5, (some .int), tbX7_addGate, none)
def tbX7_addGoer : List (Nat × Instr × Nat) := [(0, Instr.iload_n 1, 1), (1, Instr.bipush 6, 2), (3, Instr.invokestatic 78, 3), (6, Instr.ifCond .eq 20, 3), (9, Instr.iload_n 2, 1), (10, Instr.bipush 20, 2), (12, Instr.invokestatic 78, 3), (15, Instr.ifCond .eq 11, 3), (18, Instr.iload_n 3, 1), (19, Instr.iconst 4, 1), (20, Instr.invokestatic 78, 3), (23, Instr.ifCond .ne 5, 3), (26, Instr.iconst (-1), 1), (27, Instr.ireturn, 1), (28, Instr.aload_n 0, 1), (29, Instr.getfield 32, 3), (32, Instr.iconst 5, 1), (33, Instr.if_icmp .lt 6, 3), (36, Instr.bipush (-5), 2), (38, Instr.ireturn, 1), (39, Instr.aload_n 0, 1), (40, Instr.getfield 35, 3), (43, Instr.aload_n 0, 1), (44, Instr.getfield 32, 3), (47, Instr.iload_n 1, 1), (48, Instr.iastore, 1), (49, Instr.aload_n 0, 1), (50, Instr.getfield 38, 3), (53, Instr.aload_n 0, 1), (54, Instr.getfield 32, 3), (57, Instr.iload_n 2, 1), (58, Instr.iastore, 1), (59, Instr.aload_n 0, 1), (60, Instr.getfield 41, 3), (63, Instr.aload_n 0, 1), (64, Instr.getfield 32, 3), (67, Instr.iload_n 3, 1), (68, Instr.iastore, 1), (69, Instr.aload_n 0, 1), (70, Instr.getfield 44, 3), (73, Instr.aload_n 0, 1), (74, Instr.getfield 32, 3), (77, Instr.iconst 0, 1), (78, Instr.iastore, 1), (79, Instr.aload_n 0, 1), (80, Instr.dup, 1), (81, Instr.getfield 32, 3), (84, Instr.dup_x1, 1), (85, Instr.iconst 1, 1), (86, Instr.iadd, 1), (87, Instr.putfield 32, 3), (90, Instr.ireturn, 1)]
set_option maxRecDepth 20000 in
theorem tkX7_addGoer : (tbX7_addGoer.all fun q => decide (decode cX7_addGoer q.1 = .ok q.2)) = true := by decide +kernel
def mX7_addGoer : Nat × MethodName × ByteArray × Nat × Option FieldType × List (Nat × Instr × Nat) × Option (Nat × (Nat → Int32)) := (7, yX7_addGoer, cX7_addGoer, 4, (some .int), tbX7_addGoer, none)
def tbX7_addSight : List (Nat × Instr × Nat) := [(0, Instr.iload_n 1, 1), (1, Instr.bipush 10, 2), (3, Instr.invokestatic 78, 3), (6, Instr.ifCond .eq 21, 3), (9, Instr.iload_n 2, 1), (10, Instr.bipush 20, 2), (12, Instr.invokestatic 78, 3), (15, Instr.ifCond .eq 12, 3), (18, Instr.iload_n 3, 1), (19, Instr.bipush 20, 2), (21, Instr.invokestatic 78, 3), (24, Instr.ifCond .ne 5, 3), (27, Instr.iconst (-1), 1), (28, Instr.ireturn, 1), (29, Instr.aload_n 0, 1), (30, Instr.getfield 47, 3), (33, Instr.bipush 6, 2), (35, Instr.if_icmp .lt 6, 3), (38, Instr.bipush (-5), 2), (40, Instr.ireturn, 1), (41, Instr.aload_n 0, 1), (42, Instr.getfield 50, 3), (45, Instr.aload_n 0, 1), (46, Instr.getfield 47, 3), (49, Instr.iload_n 1, 1), (50, Instr.iastore, 1), (51, Instr.aload_n 0, 1), (52, Instr.getfield 53, 3), (55, Instr.aload_n 0, 1), (56, Instr.getfield 47, 3), (59, Instr.iload_n 2, 1), (60, Instr.iastore, 1), (61, Instr.aload_n 0, 1), (62, Instr.getfield 56, 3), (65, Instr.aload_n 0, 1), (66, Instr.getfield 47, 3), (69, Instr.iload_n 3, 1), (70, Instr.iastore, 1), (71, Instr.aload_n 0, 1), (72, Instr.dup, 1), (73, Instr.getfield 47, 3), (76, Instr.iconst 1, 1), (77, Instr.iadd, 1), (78, Instr.putfield 47, 3), (81, Instr.aload_n 0, 1), (82, Instr.getfield 47, 3), (85, Instr.ireturn, 1)]
set_option maxRecDepth 20000 in
theorem tkX7_addSight : (tbX7_addSight.all fun q => decide (decode cX7_addSight q.1 = .ok q.2)) = true := by decide +kernel
def mX7_addSight : Nat × MethodName × ByteArray × Nat × Option FieldType × List (Nat × Instr × Nat) × Option (Nat × (Nat → Int32)) := (7, yX7_addSight, cX7_addSight, 4, (some .int), tbX7_addSight, none)
def tbX7_addLaw : List (Nat × Instr × Nat) := [(0, Instr.aload_n 0, 1), (1, Instr.getfield 62, 3), (4, Instr.bipush 6, 2), (6, Instr.if_icmp .lt 6, 3), (9, Instr.bipush (-5), 2), (11, Instr.ireturn, 1), (12, Instr.aload_n 0, 1), (13, Instr.getfield 67, 3), (16, Instr.aload_n 0, 1), (17, Instr.getfield 62, 3), (20, Instr.aload_n 1, 1), (21, Instr.aastore, 1), (22, Instr.aload_n 0, 1), (23, Instr.dup, 1), (24, Instr.getfield 62, 3), (27, Instr.dup_x1, 1), (28, Instr.iconst 1, 1), (29, Instr.iadd, 1), (30, Instr.putfield 62, 3), (33, Instr.ireturn, 1)]
set_option maxRecDepth 20000 in
theorem tkX7_addLaw : (tbX7_addLaw.all fun q => decide (decode cX7_addLaw q.1 = .ok q.2)) = true := by decide +kernel
def mX7_addLaw : Nat × MethodName × ByteArray × Nat × Option FieldType × List (Nat × Instr × Nat) × Option (Nat × (Nat → Int32)) := (7, yX7_addLaw, cX7_addLaw, 2, (some .int), tbX7_addLaw, none)
def tbX7_changeTerm : List (Nat × Instr × Nat) := [(0, Instr.iload_n 1, 1), (1, Instr.iconst 3, 1), (2, Instr.invokestatic 78, 3), (5, Instr.ifCond .ne 5, 3), (8, Instr.iconst (-1), 1), (9, Instr.ireturn, 1), (10, Instr.iload_n 1, 1), (11, Instr.ifCond .ne 9, 3), (14, Instr.sipush 999, 3), (17, Instr.goto 15, 3), (20, Instr.iload_n 1, 1), (21, Instr.iconst 1, 1), (22, Instr.if_icmp .ne 8, 3), (25, Instr.bipush 10, 2), (27, Instr.goto 5, 3), (30, Instr.bipush 9, 2), (32, Instr.istore_n 3, 1), (33, Instr.iload_n 2, 1), (34, Instr.ifCond .lt 8, 3), (37, Instr.iload_n 2, 1), (38, Instr.iload_n 3, 1), (39, Instr.if_icmp .le 5, 3), (42, Instr.iconst (-1), 1), (43, Instr.ireturn, 1), (44, Instr.aload_n 0, 1), (45, Instr.getfield 59, 3), (48, Instr.iload_n 1, 1), (49, Instr.iaload, 1), (50, Instr.istore 4, 2), (52, Instr.aload_n 0, 1), (53, Instr.getfield 59, 3), (56, Instr.iload_n 1, 1), (57, Instr.iload_n 2, 1), (58, Instr.iastore, 1), (59, Instr.iload 4, 2), (61, Instr.ireturn, 1)]
set_option maxRecDepth 20000 in
theorem tkX7_changeTerm : (tbX7_changeTerm.all fun q => decide (decode cX7_changeTerm q.1 = .ok q.2)) = true := by decide +kernel
def mX7_changeTerm : Nat × MethodName × ByteArray × Nat × Option FieldType × List (Nat × Instr × Nat) × Option (Nat × (Nat → Int32)) := (7, yX7_changeTerm, cX7_changeTerm, 5, (some .int), tbX7_changeTerm, none)
def tbX7_allMany : List (Nat × Instr × Nat) := [(0, Instr.iconst 0, 1), (1, Instr.istore_n 1, 1), (2, Instr.iconst 0, 1), (3, Instr.istore_n 2, 1), (4, Instr.iload_n 2, 1), (5, Instr.aload_n 0, 1), (6, Instr.getfield 32, 3), (9, Instr.if_icmp .ge 18, 3), (12, Instr.iload_n 1, 1), (13, Instr.aload_n 0, 1), (14, Instr.getfield 38, 3), (17, Instr.iload_n 2, 1), (18, Instr.iaload, 1), (19, Instr.iadd, 1), (20, Instr.istore_n 1, 1), (21, Instr.iinc 2 1, 3), (24, Instr.goto (-20), 3), (27, Instr.iload_n 1, 1), (28, Instr.ireturn, 1)]
set_option maxRecDepth 20000 in
theorem tkX7_allMany : (tbX7_allMany.all fun q => decide (decode cX7_allMany q.1 = .ok q.2)) = true := by decide +kernel
def mX7_allMany : Nat × MethodName × ByteArray × Nat × Option FieldType × List (Nat × Instr × Nat) × Option (Nat × (Nat → Int32)) := (7, yX7_allMany, cX7_allMany, 3, (some .int), tbX7_allMany, none)
def tbX7_copyFrom : List (Nat × Instr × Nat) := [(0, Instr.aload_n 0, 1), (1, Instr.aload_n 1, 1), (2, Instr.getfield 9, 3), (5, Instr.putfield 9, 3), (8, Instr.aload_n 0, 1), (9, Instr.aload_n 1, 1), (10, Instr.getfield 32, 3), (13, Instr.putfield 32, 3), (16, Instr.aload_n 0, 1), (17, Instr.aload_n 1, 1), (18, Instr.getfield 47, 3), (21, Instr.putfield 47, 3), (24, Instr.aload_n 0, 1), (25, Instr.aload_n 1, 1), (26, Instr.getfield 62, 3), (29, Instr.putfield 62, 3), (32, Instr.aload_n 0, 1), (33, Instr.aload_n 1, 1), (34, Instr.getfield 71, 3), (37, Instr.putfield 71, 3), (40, Instr.iconst 0, 1), (41, Instr.istore_n 2, 1), (42, Instr.iload_n 2, 1), (43, Instr.bipush 10, 2), (45, Instr.if_icmp .ge 69, 3), (48, Instr.aload_n 0, 1), (49, Instr.getfield 15, 3), (52, Instr.iload_n 2, 1), (53, Instr.aload_n 1, 1), (54, Instr.getfield 15, 3), (57, Instr.iload_n 2, 1), (58, Instr.iaload, 1), (59, Instr.iastore, 1), (60, Instr.aload_n 0, 1), (61, Instr.getfield 19, 3), (64, Instr.iload_n 2, 1), (65, Instr.aload_n 1, 1), (66, Instr.getfield 19, 3), (69, Instr.iload_n 2, 1), (70, Instr.iaload, 1), (71, Instr.iastore, 1), (72, Instr.aload_n 0, 1), (73, Instr.getfield 22, 3), (76, Instr.iload_n 2, 1), (77, Instr.aload_n 1, 1), (78, Instr.getfield 22, 3), (81, Instr.iload_n 2, 1), (82, Instr.iaload, 1), (83, Instr.iastore, 1), (84, Instr.aload_n 0, 1), (85, Instr.getfield 25, 3), (88, Instr.iload_n 2, 1), (89, Instr.aload_n 1, 1), (90, Instr.getfield 25, 3), (93, Instr.iload_n 2, 1), (94, Instr.iaload, 1), (95, Instr.iastore, 1), (96, Instr.aload_n 0, 1), (97, Instr.getfield 28, 3), (100, Instr.iload_n 2, 1), (101, Instr.aload_n 1, 1), (102, Instr.getfield 28, 3), (105, Instr.iload_n 2, 1), (106, Instr.baload, 1), (107, Instr.bastore, 1), (108, Instr.iinc 2 1, 3), (111, Instr.goto (-69), 3), (114, Instr.iconst 0, 1), (115, Instr.istore_n 2, 1), (116, Instr.iload_n 2, 1), (117, Instr.iconst 5, 1), (118, Instr.if_icmp .ge 57, 3), (121, Instr.aload_n 0, 1), (122, Instr.getfield 35, 3), (125, Instr.iload_n 2, 1), (126, Instr.aload_n 1, 1), (127, Instr.getfield 35, 3), (130, Instr.iload_n 2, 1), (131, Instr.iaload, 1), (132, Instr.iastore, 1), (133, Instr.aload_n 0, 1), (134, Instr.getfield 38, 3), (137, Instr.iload_n 2, 1), (138, Instr.aload_n 1, 1), (139, Instr.getfield 38, 3), (142, Instr.iload_n 2, 1), (143, Instr.iaload, 1), (144, Instr.iastore, 1), (145, Instr.aload_n 0, 1), (146, Instr.getfield 41, 3), (149, Instr.iload_n 2, 1), (150, Instr.aload_n 1, 1), (151, Instr.getfield 41, 3), (154, Instr.iload_n 2, 1), (155, Instr.iaload, 1), (156, Instr.iastore, 1), (157, Instr.aload_n 0, 1), (158, Instr.getfield 44, 3), (161, Instr.iload_n 2, 1), (162, Instr.aload_n 1, 1), (163, Instr.getfield 44, 3), (166, Instr.iload_n 2, 1), (167, Instr.iaload, 1), (168, Instr.iastore, 1), (169, Instr.iinc 2 1, 3), (172, Instr.goto (-56), 3), (175, Instr.iconst 0, 1), (176, Instr.istore_n 2, 1), (177, Instr.iload_n 2, 1), (178, Instr.bipush 6, 2), (180, Instr.if_icmp .ge 45, 3), (183, Instr.aload_n 0, 1), (184, Instr.getfield 50, 3), (187, Instr.iload_n 2, 1), (188, Instr.aload_n 1, 1), (189, Instr.getfield 50, 3), (192, Instr.iload_n 2, 1), (193, Instr.iaload, 1), (194, Instr.iastore, 1), (195, Instr.aload_n 0, 1), (196, Instr.getfield 53, 3), (199, Instr.iload_n 2, 1), (200, Instr.aload_n 1, 1), (201, Instr.getfield 53, 3), (204, Instr.iload_n 2, 1), (205, Instr.iaload, 1), (206, Instr.iastore, 1), (207, Instr.aload_n 0, 1), (208, Instr.getfield 56, 3), (211, Instr.iload_n 2, 1), (212, Instr.aload_n 1, 1), (213, Instr.getfield 56, 3), (216, Instr.iload_n 2, 1), (217, Instr.iaload, 1), (218, Instr.iastore, 1), (219, Instr.iinc 2 1, 3), (222, Instr.goto (-45), 3), (225, Instr.iconst 0, 1), (226, Instr.istore_n 2, 1), (227, Instr.iload_n 2, 1), (228, Instr.iconst 3, 1), (229, Instr.if_icmp .ge 21, 3), (232, Instr.aload_n 0, 1), (233, Instr.getfield 59, 3), (236, Instr.iload_n 2, 1), (237, Instr.aload_n 1, 1), (238, Instr.getfield 59, 3), (241, Instr.iload_n 2, 1), (242, Instr.iaload, 1), (243, Instr.iastore, 1), (244, Instr.iinc 2 1, 3), (247, Instr.goto (-20), 3), (250, Instr.iconst 0, 1), (251, Instr.istore_n 2, 1), (252, Instr.iload_n 2, 1), (253, Instr.bipush 6, 2), (255, Instr.if_icmp .ge 21, 3), (258, Instr.aload_n 0, 1), (259, Instr.getfield 67, 3), (262, Instr.iload_n 2, 1), (263, Instr.aload_n 1, 1), (264, Instr.getfield 67, 3), (267, Instr.iload_n 2, 1), (268, Instr.aaload, 1), (269, Instr.aastore, 1), (270, Instr.iinc 2 1, 3), (273, Instr.goto (-21), 3), (276, Instr.return_, 1)]
set_option maxRecDepth 20000 in
theorem tkX7_copyFrom : (tbX7_copyFrom.all fun q => decide (decode cX7_copyFrom q.1 = .ok q.2)) = true := by decide +kernel
def mX7_copyFrom : Nat × MethodName × ByteArray × Nat × Option FieldType × List (Nat × Instr × Nat) × Option (Nat × (Nat → Int32)) := (7, yX7_copyFrom, cX7_copyFrom, 3, none, tbX7_copyFrom, none)
def tbX8_init : List (Nat × Instr × Nat) := [(0, Instr.aload_n 0, 1), (1, Instr.invokespecial 3, 3), (4, Instr.aload_n 0, 1), (5, Instr.sipush 400, 3), (8, Instr.newarray .int, 2), (10, Instr.putfield 9, 3), (13, Instr.aload_n 0, 1), (14, Instr.iconst 0, 1), (15, Instr.putfield 15, 3), (18, Instr.return_, 1)]
set_option maxRecDepth 20000 in
theorem tkX8_init : (tbX8_init.all fun q => decide (decode cX8_init q.1 = .ok q.2)) = true := by decide +kernel
def mX8_init : Nat × MethodName × ByteArray × Nat × Option FieldType × List (Nat × Instr × Nat) × Option (Nat × (Nat → Int32)) := (8, yX8_init, cX8_init, 1, none, tbX8_init, none)
end TABS
end
section
section TABS
def tbX8_take : List (Nat × Instr × Nat) := [(0, Instr.aload_n 0, 1), (1, Instr.getfield 15, 3), (4, Instr.sipush 380, 3), (7, Instr.if_icmp .le 5, 3), (10, Instr.iconst (-1), 1), (11, Instr.ireturn, 1), (12, Instr.aload_n 0, 1), (13, Instr.iload_n 1, 1), (14, Instr.invokevirtual 19, 3), (17, Instr.aload_n 0, 1), (18, Instr.iload_n 2, 1), (19, Instr.invokevirtual 19, 3), (22, Instr.aload_n 0, 1), (23, Instr.iload_n 3, 1), (24, Instr.invokevirtual 19, 3), (27, Instr.aload_n 0, 1), (28, Instr.iload 4, 2), (30, Instr.invokevirtual 19, 3), (33, Instr.aload_n 0, 1), (34, Instr.iload 5, 2), (36, Instr.invokevirtual 19, 3), (39, Instr.aload_n 0, 1), (40, Instr.getfield 15, 3), (43, Instr.ireturn, 1)]
set_option maxRecDepth 20000 in
theorem tkX8_take : (tbX8_take.all fun q => decide (decode cX8_take q.1 = .ok q.2)) = true := by decide +kernel
def mX8_take : Nat × MethodName × ByteArray × Nat × Option FieldType × List (Nat × Instr × Nat) × Option (Nat × (Nat → Int32)) := (8, yX8_take, cX8_take, 6, (some .int), tbX8_take, none)
def tbX8_takeFour : List (Nat × Instr × Nat) := [(0, Instr.bipush 24, 2), (2, Instr.istore_n 2, 1), (3, Instr.iload_n 2, 1), (4, Instr.ifCond .lt 42, 3), (7, Instr.aload_n 0, 1), (8, Instr.getfield 15, 3), (11, Instr.sipush 400, 3), (14, Instr.if_icmp .ge 32, 3), (17, Instr.aload_n 0, 1), (18, Instr.getfield 9, 3), (21, Instr.aload_n 0, 1), (22, Instr.dup, 1), (23, Instr.getfield 15, 3), (26, Instr.dup_x1, 1), (27, Instr.iconst 1, 1), (28, Instr.iadd, 1), (29, Instr.putfield 15, 3), (32, Instr.iload_n 1, 1), (33, Instr.iload_n 2, 1), (34, Instr.iushr, 1), (35, Instr.sipush 255, 3), (38, Instr.iand, 1), (39, Instr.iastore, 1), (40, Instr.iinc 2 (-8), 3), (43, Instr.goto (-40), 3), (46, Instr.return_, 1)]
set_option maxRecDepth 20000 in
theorem tkX8_takeFour : (tbX8_takeFour.all fun q => decide (decode cX8_takeFour q.1 = .ok q.2)) = true := by decide +kernel
def mX8_takeFour : Nat × MethodName × ByteArray × Nat × Option FieldType × List (Nat × Instr × Nat) × Option (Nat × (Nat → Int32)) := (8, yX8_takeFour, cX8_takeFour, 3, none, tbX8_takeFour, none)
def tbX8_shorten : List (Nat × Instr × Nat) := [(0, Instr.iload_n 1, 1), (1, Instr.ifCond .lt 11, 3), (4, Instr.iload_n 1, 1), (5, Instr.aload_n 0, 1), (6, Instr.getfield 15, 3), (9, Instr.if_icmp .le 5, 3), (12, Instr.iconst (-1), 1), (13, Instr.ireturn, 1), (14, Instr.aload_n 0, 1), (15, Instr.iload_n 1, 1), (16, Instr.putfield 15, 3), (19, Instr.iload_n 1, 1), (20, Instr.ireturn, 1)]
set_option maxRecDepth 20000 in
theorem tkX8_shorten : (tbX8_shorten.all fun q => decide (decode cX8_shorten q.1 = .ok q.2)) = true := by decide +kernel
def mX8_shorten : Nat × MethodName × ByteArray × Nat × Option FieldType × List (Nat × Instr × Nat) × Option (Nat × (Nat → Int32)) := (8, yX8_shorten, cX8_shorten, 2, (some .int), tbX8_shorten, none)
def tbX8_clear : List (Nat × Instr × Nat) := [(0, Instr.aload_n 0, 1), (1, Instr.iconst 0, 1), (2, Instr.putfield 15, 3), (5, Instr.return_, 1)]
set_option maxRecDepth 20000 in
theorem tkX8_clear : (tbX8_clear.all fun q => decide (decode cX8_clear q.1 = .ok q.2)) = true := by decide +kernel
def mX8_clear : Nat × MethodName × ByteArray × Nat × Option FieldType × List (Nat × Instr × Nat) × Option (Nat × (Nat → Int32)) := (8, yX8_clear, cX8_clear, 1, none, tbX8_clear, none)
def tbX8_byteAt : List (Nat × Instr × Nat) := [(0, Instr.iload_n 1, 1), (1, Instr.ifCond .lt 20, 3), (4, Instr.iload_n 1, 1), (5, Instr.aload_n 0, 1), (6, Instr.getfield 15, 3), (9, Instr.if_icmp .ge 12, 3), (12, Instr.aload_n 0, 1), (13, Instr.getfield 9, 3), (16, Instr.iload_n 1, 1), (17, Instr.iaload, 1), (18, Instr.goto 4, 3), (21, Instr.iconst (-1), 1), (22, Instr.ireturn, 1)]
set_option maxRecDepth 20000 in
theorem tkX8_byteAt : (tbX8_byteAt.all fun q => decide (decode cX8_byteAt q.1 = .ok q.2)) = true := by decide +kernel
def mX8_byteAt : Nat × MethodName × ByteArray × Nat × Option FieldType × List (Nat × Instr × Nat) × Option (Nat × (Nat → Int32)) := (8, yX8_byteAt, cX8_byteAt, 2, (some .int), tbX8_byteAt, none)
def tbX9_init : List (Nat × Instr × Nat) := [(0, Instr.aload_n 0, 1), (1, Instr.invokespecial 3, 3), (4, Instr.aload_n 0, 1), (5, Instr.iconst 0, 1), (6, Instr.putfield 9, 3), (9, Instr.aload_n 0, 1), (10, Instr.iconst 0, 1), (11, Instr.putfield 15, 3), (14, Instr.aload_n 0, 1), (15, Instr.iload_n 1, 1), (16, Instr.newarray .int, 2), (18, Instr.putfield 18, 3), (21, Instr.aload_n 0, 1), (22, Instr.iload_n 1, 1), (23, Instr.newarray .int, 2), (25, Instr.putfield 22, 3), (28, Instr.aload_n 0, 1), (29, Instr.iconst 4, 1), (30, Instr.iload_n 1, 1), (31, Instr.imul, 1), (32, Instr.newarray .int, 2), (34, Instr.putfield 25, 3), (37, Instr.aload_n 0, 1), (38, Instr.iload_n 2, 1), (39, Instr.newarray .int, 2), (41, Instr.putfield 28, 3), (44, Instr.return_, 1)]
set_option maxRecDepth 20000 in
theorem tkX9_init : (tbX9_init.all fun q => decide (decode cX9_init q.1 = .ok q.2)) = true := by decide +kernel
def mX9_init : Nat × MethodName × ByteArray × Nat × Option FieldType × List (Nat × Instr × Nat) × Option (Nat × (Nat → Int32)) := (9, yX9_init, cX9_init, 3, none, tbX9_init, none)
def tbX9_copy : List (Nat × Instr × Nat) := [(0, Instr.new 10, 3), (3, Instr.dup, 1), (4, Instr.aload_n 0, 1), (5, Instr.getfield 9, 3), (8, Instr.aload_n 0, 1), (9, Instr.getfield 15, 3), (12, Instr.invokespecial 31, 3), (15, Instr.astore_n 1, 1), (16, Instr.aload_n 1, 1), (17, Instr.aload_n 0, 1), (18, Instr.getfield 9, 3), (21, Instr.putfield 9, 3), (24, Instr.aload_n 1, 1), (25, Instr.aload_n 0, 1), (26, Instr.getfield 15, 3), (29, Instr.putfield 15, 3), (32, Instr.aload_n 0, 1), (33, Instr.getfield 18, 3), (36, Instr.iconst 0, 1), (37, Instr.aload_n 1, 1), (38, Instr.getfield 18, 3), (41, Instr.iconst 0, 1), (42, Instr.aload_n 0, 1), (43, Instr.getfield 9, 3), (46, Instr.invokestatic 34, 3), (49, Instr.aload_n 0, 1), (50, Instr.getfield 22, 3), (53, Instr.iconst 0, 1), (54, Instr.aload_n 1, 1), (55, Instr.getfield 22, 3), (58, Instr.iconst 0, 1), (59, Instr.aload_n 0, 1), (60, Instr.getfield 9, 3), (63, Instr.invokestatic 34, 3), (66, Instr.aload_n 0, 1), (67, Instr.getfield 25, 3), (70, Instr.iconst 0, 1), (71, Instr.aload_n 1, 1), (72, Instr.getfield 25, 3), (75, Instr.iconst 0, 1), (76, Instr.iconst 4, 1), (77, Instr.aload_n 0, 1), (78, Instr.getfield 9, 3), (81, Instr.imul, 1), (82, Instr.invokestatic 34, 3), (85, Instr.aload_n 0, 1), (86, Instr.getfield 28, 3), (89, Instr.iconst 0, 1), (90, Instr.aload_n 1, 1), (91, Instr.getfield 28, 3), (94, Instr.iconst 0, 1), (95, Instr.aload_n 0, 1), (96, Instr.getfield 15, 3), (99, Instr.invokestatic 34, 3), (102, Instr.aload_n 1, 1), (103, Instr.areturn, 1)]
set_option maxRecDepth 20000 in
theorem tkX9_copy : (tbX9_copy.all fun q => decide (decode cX9_copy q.1 = .ok q.2)) = true := by decide +kernel
def mX9_copy : Nat × MethodName × ByteArray × Nat × Option FieldType × List (Nat × Instr × Nat) × Option (Nat × (Nat → Int32)) := (9, yX9_copy, cX9_copy, 2, (some (.object "CountGates$Text")), tbX9_copy, none)
def tbX9_clear : List (Nat × Instr × Nat) := [(0, Instr.aload_n 0, 1), (1, Instr.iconst 0, 1), (2, Instr.putfield 9, 3), (5, Instr.aload_n 0, 1), (6, Instr.iconst 0, 1), (7, Instr.putfield 15, 3), (10, Instr.return_, 1)]
set_option maxRecDepth 20000 in
theorem tkX9_clear : (tbX9_clear.all fun q => decide (decode cX9_clear q.1 = .ok q.2)) = true := by decide +kernel
def mX9_clear : Nat × MethodName × ByteArray × Nat × Option FieldType × List (Nat × Instr × Nat) × Option (Nat × (Nat → Int32)) := (9, yX9_clear, cX9_clear, 1, none, tbX9_clear, none)
def tbX9_add : List (Nat × Instr × Nat) := [(0, Instr.aload_n 0, 1), (1, Instr.getfield 15, 3), (4, Instr.aload_n 0, 1), (5, Instr.getfield 28, 3), (8, Instr.arraylength, 1), (9, Instr.if_icmp .lt 5, 3), (12, Instr.iconst (-1), 1), (13, Instr.ireturn, 1), (14, Instr.aload_n 0, 1), (15, Instr.getfield 28, 3), (18, Instr.aload_n 0, 1), (19, Instr.getfield 15, 3), (22, Instr.iload_n 1, 1), (23, Instr.sipush 512, 3), (26, Instr.iload_n 2, 1), (27, Instr.imul, 1), (28, Instr.iadd, 1), (29, Instr.iastore, 1), (30, Instr.aload_n 0, 1), (31, Instr.dup, 1), (32, Instr.getfield 15, 3), (35, Instr.dup_x1, 1), (36, Instr.iconst 1, 1), (37, Instr.iadd, 1), (38, Instr.putfield 15, 3), (41, Instr.ireturn, 1)]
set_option maxRecDepth 20000 in
theorem tkX9_add : (tbX9_add.all fun q => decide (decode cX9_add q.1 = .ok q.2)) = true := by decide +kernel
def mX9_add : Nat × MethodName × ByteArray × Nat × Option FieldType × List (Nat × Instr × Nat) × Option (Nat × (Nat → Int32)) := (9, yX9_add, cX9_add, 3, (some .int), tbX9_add, none)
def tbX9_aim : List (Nat × Instr × Nat) := [(0, Instr.iload_n 1, 1), (1, Instr.ifCond .lt 36, 3), (4, Instr.iload_n 1, 1), (5, Instr.aload_n 0, 1), (6, Instr.getfield 15, 3), (9, Instr.if_icmp .ge 28, 3), (12, Instr.aload_n 0, 1), (13, Instr.getfield 28, 3), (16, Instr.iload_n 1, 1), (17, Instr.aload_n 0, 1), (18, Instr.getfield 28, 3), (21, Instr.iload_n 1, 1), (22, Instr.iaload, 1), (23, Instr.sipush 512, 3), (26, Instr.irem, 1), (27, Instr.sipush 512, 3), (30, Instr.aload_n 0, 1), (31, Instr.getfield 15, 3), (34, Instr.imul, 1), (35, Instr.iadd, 1), (36, Instr.iastore, 1), (37, Instr.return_, 1)]
set_option maxRecDepth 20000 in
theorem tkX9_aim : (tbX9_aim.all fun q => decide (decode cX9_aim q.1 = .ok q.2)) = true := by decide +kernel
def mX9_aim : Nat × MethodName × ByteArray × Nat × Option FieldType × List (Nat × Instr × Nat) × Option (Nat × (Nat → Int32)) := (9, yX9_aim, cX9_aim, 2, none, tbX9_aim, none)
def tbX9_has : List (Nat × Instr × Nat) := [(0, Instr.aload_n 0, 1), (1, Instr.getfield 25, 3), (4, Instr.iconst 4, 1), (5, Instr.iload_n 1, 1), (6, Instr.imul, 1), (7, Instr.iload_n 2, 1), (8, Instr.iadd, 1), (9, Instr.iaload, 1), (10, Instr.aload_n 0, 1), (11, Instr.getfield 25, 3), (14, Instr.iconst 4, 1), (15, Instr.iload_n 1, 1), (16, Instr.imul, 1), (17, Instr.iload_n 2, 1), (18, Instr.iadd, 1), (19, Instr.iconst 1, 1), (20, Instr.iadd, 1), (21, Instr.iaload, 1), (22, Instr.if_icmp .ge 7, 3), (25, Instr.iconst 1, 1), (26, Instr.goto 4, 3), (29, Instr.iconst 0, 1), (30, Instr.ireturn, 1)]
set_option maxRecDepth 20000 in
theorem tkX9_has : (tbX9_has.all fun q => decide (decode cX9_has q.1 = .ok q.2)) = true := by decide +kernel
def mX9_has : Nat × MethodName × ByteArray × Nat × Option FieldType × List (Nat × Instr × Nat) × Option (Nat × (Nat → Int32)) := (9, yX9_has, cX9_has, 3, (some .boolean), tbX9_has, none)
def tbX9_reckon : List (Nat × Instr × Nat) := [(0, Instr.aload_n 0, 1), (1, Instr.getfield 25, 3), (4, Instr.iconst 4, 1), (5, Instr.iload_n 1, 1), (6, Instr.imul, 1), (7, Instr.iload_n 2, 1), (8, Instr.iadd, 1), (9, Instr.iconst 1, 1), (10, Instr.iadd, 1), (11, Instr.iaload, 1), (12, Instr.aload_n 0, 1), (13, Instr.getfield 15, 3), (16, Instr.invokestatic 40, 3), (19, Instr.istore 5, 2), (21, Instr.iconst (-1), 1), (22, Instr.istore 6, 2), (24, Instr.aload_n 0, 1), (25, Instr.getfield 25, 3), (28, Instr.iconst 4, 1), (29, Instr.iload_n 1, 1), (30, Instr.imul, 1), (31, Instr.iload_n 2, 1), (32, Instr.iadd, 1), (33, Instr.iaload, 1), (34, Instr.istore 7, 2), (36, Instr.iload 7, 2), (38, Instr.iload 5, 2), (40, Instr.if_icmp .ge 244, 3), (43, Instr.aload_n 0, 1), (44, Instr.getfield 28, 3), (47, Instr.iload 7, 2), (49, Instr.iaload, 1), (50, Instr.sipush 512, 3), (53, Instr.irem, 1), (54, Instr.istore 8, 2), (56, Instr.aload_n 0, 1), (57, Instr.getfield 28, 3), (60, Instr.iload 7, 2), (62, Instr.iaload, 1), (63, Instr.sipush 512, 3), (66, Instr.idiv, 1), (67, Instr.istore 9, 2), (69, Instr.iload 8, 2), (71, Instr.sipush 256, 3), (74, Instr.if_icmp .eq 11, 3), (77, Instr.iload 8, 2), (79, Instr.sipush 259, 3), (82, Instr.if_icmp .ne 57, 3), (85, Instr.iinc 6 1, 3), (88, Instr.iload 6, 2), (90, Instr.aload 4, 2), (92, Instr.arraylength, 1), (93, Instr.if_icmp .ge 18, 3), (96, Instr.iload 9, 2), (98, Instr.aload_n 3, 1), (99, Instr.arraylength, 1), (100, Instr.if_icmp .lt 14, 3), (103, Instr.iload 8, 2), (105, Instr.sipush 259, 3), (108, Instr.if_icmp .ne 6, 3), (111, Instr.ldc 46, 2), (113, Instr.ireturn, 1), (114, Instr.aload 4, 2), (116, Instr.iload 6, 2), (118, Instr.iload 8, 2), (120, Instr.sipush 256, 3), (123, Instr.if_icmp .ne 8, 3), (126, Instr.iload 9, 2), (128, Instr.goto 7, 3), (131, Instr.aload_n 3, 1), (132, Instr.iload 9, 2), (134, Instr.iaload, 1), (135, Instr.iastore, 1), (136, Instr.goto 142, 3), (139, Instr.iload 6, 2), (141, Instr.ifCond .ge 6, 3), (144, Instr.ldc 46, 2), (146, Instr.ireturn, 1), (147, Instr.iload 8, 2), (149, Instr.sipush 273, 3), (152, Instr.if_icmp .ne 18, 3), (155, Instr.aload 4, 2), (157, Instr.iload 6, 2), (159, Instr.iconst 1, 1), (160, Instr.aload 4, 2), (162, Instr.iload 6, 2), (164, Instr.iaload, 1), (165, Instr.isub, 1), (166, Instr.iastore, 1), (167, Instr.goto 111, 3), (170, Instr.iload 8, 2), (172, Instr.sipush 271, 3), (175, Instr.if_icmp .eq 11, 3), (178, Instr.iload 8, 2), (180, Instr.sipush 272, 3), (183, Instr.if_icmp .ne 44, 3), (186, Instr.aload 4, 2), (188, Instr.iload 6, 2), (190, Instr.iaload, 1), (191, Instr.iload 8, 2), (193, Instr.sipush 271, 3), (196, Instr.if_icmp .ne 7, 3), (199, Instr.iconst 1, 1), (200, Instr.goto 4, 3), (203, Instr.iconst 0, 1), (204, Instr.if_icmp .ne 17, 3), (207, Instr.iload 7, 2), (209, Instr.iload 9, 2), (211, Instr.iconst 1, 1), (212, Instr.isub, 1), (213, Instr.invokestatic 47, 3), (216, Instr.istore 7, 2), (218, Instr.goto 60, 3), (221, Instr.iinc 6 (-1), 3), (224, Instr.goto 54, 3), (227, Instr.iinc 6 (-1), 3), (230, Instr.iload 6, 2), (232, Instr.ifCond .ge 8, 3), (235, Instr.ldc 46, 2), (237, Instr.goto 22, 3), (240, Instr.iload 8, 2), (242, Instr.aload 4, 2), (244, Instr.iload 6, 2), (246, Instr.iaload, 1), (247, Instr.i2l, 1), (248, Instr.aload 4, 2), (250, Instr.iload 6, 2), (252, Instr.iconst 1, 1), (253, Instr.iadd, 1), (254, Instr.iaload, 1), (255, Instr.i2l, 1), (256, Instr.invokestatic 50, 3), (259, Instr.istore 10, 2), (261, Instr.iload 10, 2), (263, Instr.ldc 46, 2), (265, Instr.if_icmp .ne 6, 3), (268, Instr.ldc 46, 2), (270, Instr.ireturn, 1), (271, Instr.aload 4, 2), (273, Instr.iload 6, 2), (275, Instr.iload 10, 2), (277, Instr.iastore, 1), (278, Instr.iinc 7 1, 3), (281, Instr.goto (-245), 3), (284, Instr.iload 6, 2), (286, Instr.ifCond .ne 10, 3), (289, Instr.aload 4, 2), (291, Instr.iconst 0, 1), (292, Instr.iaload, 1), (293, Instr.goto 5, 3), (296, Instr.ldc 46, 2), (298, Instr.ireturn, 1)]
set_option maxRecDepth 20000 in
theorem tkX9_reckon : (tbX9_reckon.all fun q => decide (decode cX9_reckon q.1 = .ok q.2)) = true := by decide +kernel
def mX9_reckon : Nat × MethodName × ByteArray × Nat × Option FieldType × List (Nat × Instr × Nat) × Option (Nat × (Nat → Int32)) := (9, yX9_reckon, cX9_reckon, 11, (some .int), tbX9_reckon, none)
def tbX9_join : List (Nat × Instr × Nat) := [(0, Instr.iload_n 0, 1), (1, Instr.bipush 47, 2), (3, Instr.if_icmp .eq 9, 3), (6, Instr.iload_n 0, 1), (7, Instr.bipush 37, 2), (9, Instr.if_icmp .ne 12, 3), (12, Instr.lload_n 3, 1), (13, Instr.lconst 0, 1), (14, Instr.lcmp, 1), (15, Instr.ifCond .ne 6, 3), (18, Instr.ldc 46, 2), (20, Instr.ireturn, 1), (21, Instr.iload_n 0, 1), (22, Instr.lookupswitch 138 #[(37, 98), (42, 82), (43, 66), (45, 74), (47, 90), (60, 106), (62, 122)], 66), (88, Instr.lload_n 1, 1), (89, Instr.lload_n 3, 1), (90, Instr.ladd, 1), (91, Instr.lstore 5, 2), (93, Instr.goto 80, 3), (96, Instr.lload_n 1, 1), (97, Instr.lload_n 3, 1), (98, Instr.lsub, 1), (99, Instr.lstore 5, 2), (101, Instr.goto 72, 3), (104, Instr.lload_n 1, 1), (105, Instr.lload_n 3, 1), (106, Instr.lmul, 1), (107, Instr.lstore 5, 2), (109, Instr.goto 64, 3), (112, Instr.lload_n 1, 1), (113, Instr.lload_n 3, 1), (114, Instr.ldiv, 1), (115, Instr.lstore 5, 2), (117, Instr.goto 56, 3), (120, Instr.lload_n 1, 1), (121, Instr.lload_n 3, 1), (122, Instr.lrem, 1), (123, Instr.lstore 5, 2), (125, Instr.goto 48, 3), (128, Instr.lload_n 1, 1), (129, Instr.lload_n 3, 1), (130, Instr.lcmp, 1), (131, Instr.ifCond .ge 7, 3), (134, Instr.lconst 1, 1), (135, Instr.goto 4, 3), (138, Instr.lconst 0, 1), (139, Instr.lstore 5, 2), (141, Instr.goto 32, 3), (144, Instr.lload_n 1, 1), (145, Instr.lload_n 3, 1), (146, Instr.lcmp, 1), (147, Instr.ifCond .le 7, 3), (150, Instr.lconst 1, 1), (151, Instr.goto 4, 3), (154, Instr.lconst 0, 1), (155, Instr.lstore 5, 2), (157, Instr.goto 16, 3), (160, Instr.lload_n 1, 1), (161, Instr.lload_n 3, 1), (162, Instr.lcmp, 1), (163, Instr.ifCond .ne 7, 3), (166, Instr.lconst 1, 1), (167, Instr.goto 4, 3), (170, Instr.lconst 0, 1), (171, Instr.lstore 5, 2), (173, Instr.lload 5, 2), (175, Instr.ldc2_w 54, 3), (178, Instr.lcmp, 1), (179, Instr.ifCond .lt 12, 3), (182, Instr.lload 5, 2), (184, Instr.ldc2_w 56, 3), (187, Instr.lcmp, 1), (188, Instr.ifCond .le 8, 3), (191, Instr.ldc 46, 2), (193, Instr.goto 6, 3), (196, Instr.lload 5, 2), (198, Instr.l2i, 1), (199, Instr.ireturn, 1)]
set_option maxRecDepth 20000 in
theorem tkX9_join : (tbX9_join.all fun q => decide (decode cX9_join q.1 = .ok q.2)) = true := by decide +kernel
def mX9_join : Nat × MethodName × ByteArray × Nat × Option FieldType × List (Nat × Instr × Nat) × Option (Nat × (Nat → Int32)) := (9, yX9_join, cX9_join, 7, (some .int), tbX9_join, none)
def tbX10_init : List (Nat × Instr × Nat) := [(0, Instr.aload_n 0, 1), (1, Instr.invokespecial 3, 3), (4, Instr.aload_n 0, 1), (5, Instr.new 9, 3), (8, Instr.dup, 1), (9, Instr.invokespecial 11, 3), (12, Instr.putfield 12, 3), (15, Instr.aload_n 0, 1), (16, Instr.iconst 2, 1), (17, Instr.anewarray 9, 3), (20, Instr.putfield 16, 3), (23, Instr.aload_n 0, 1), (24, Instr.iconst 2, 1), (25, Instr.newarray .boolean, 2), (27, Instr.putfield 20, 3), (30, Instr.aload_n 0, 1), (31, Instr.new 24, 3), (34, Instr.dup, 1), (35, Instr.invokespecial 26, 3), (38, Instr.putfield 27, 3), (41, Instr.aload_n 0, 1), (42, Instr.new 31, 3), (45, Instr.dup, 1), (46, Instr.invokespecial 33, 3), (49, Instr.putfield 34, 3), (52, Instr.aload_n 0, 1), (53, Instr.new 38, 3), (56, Instr.dup, 1), (57, Instr.invokespecial 40, 3), (60, Instr.putfield 41, 3), (63, Instr.aload_n 0, 1), (64, Instr.new 45, 3), (67, Instr.dup, 1), (68, Instr.aload_n 0, 1), (69, Instr.getfield 12, 3), (72, Instr.aload_n 0, 1), (73, Instr.getfield 34, 3), (76, Instr.invokespecial 47, 3), (79, Instr.putfield 50, 3), (82, Instr.aload_n 0, 1), (83, Instr.new 54, 3), (86, Instr.dup, 1), (87, Instr.aload_n 0, 1), (88, Instr.getfield 12, 3), (91, Instr.aload_n 0, 1), (92, Instr.getfield 50, 3), (95, Instr.invokespecial 56, 3), (98, Instr.putfield 59, 3), (101, Instr.aload_n 0, 1), (102, Instr.new 63, 3), (105, Instr.dup, 1), (106, Instr.aload_n 0, 1), (107, Instr.getfield 34, 3), (110, Instr.invokespecial 65, 3), (113, Instr.putfield 68, 3), (116, Instr.aload_n 0, 1), (117, Instr.new 72, 3), (120, Instr.dup, 1), (121, Instr.aload_n 0, 1), (122, Instr.getfield 34, 3), (125, Instr.invokespecial 74, 3), (128, Instr.putfield 75, 3), (131, Instr.aload_n 0, 1), (132, Instr.new 79, 3), (135, Instr.dup, 1), (136, Instr.aload_n 0, 1), (137, Instr.getfield 34, 3), (140, Instr.invokespecial 81, 3), (143, Instr.putfield 82, 3), (146, Instr.aload_n 0, 1), (147, Instr.bipush 7, 2), (149, Instr.newarray .int, 2), (151, Instr.putfield 86, 3), (154, Instr.aload_n 0, 1), (155, Instr.iconst 0, 1), (156, Instr.putfield 90, 3), (159, Instr.aload_n 0, 1), (160, Instr.iconst (-1), 1), (161, Instr.putfield 94, 3), (164, Instr.aload_n 0, 1), (165, Instr.iconst (-1), 1), (166, Instr.putfield 97, 3), (169, Instr.aload_n 0, 1), (170, Instr.iconst 0, 1), (171, Instr.putfield 100, 3), (174, Instr.iconst 0, 1), (175, Instr.istore_n 1, 1), (176, Instr.iload_n 1, 1), (177, Instr.iconst 2, 1), (178, Instr.if_icmp .ge 22, 3), (181, Instr.aload_n 0, 1), (182, Instr.getfield 16, 3), (185, Instr.iload_n 1, 1), (186, Instr.new 9, 3), (189, Instr.dup, 1), (190, Instr.invokespecial 11, 3), (193, Instr.aastore, 1), (194, Instr.iinc 1 1, 3), (197, Instr.goto (-21), 3), (200, Instr.return_, 1)]
set_option maxRecDepth 20000 in
theorem tkX10_init : (tbX10_init.all fun q => decide (decode cX10_init q.1 = .ok q.2)) = true := by decide +kernel
def mX10_init : Nat × MethodName × ByteArray × Nat × Option FieldType × List (Nat × Instr × Nat) × Option (Nat × (Nat → Int32)) := (10, yX10_init, cX10_init, 2, none, tbX10_init, none)
def tbX10_gate : List (Nat × Instr × Nat) := [(0, Instr.aload_n 0, 1), (1, Instr.aload_n 0, 1), (2, Instr.getfield 12, 3), (5, Instr.iload_n 1, 1), (6, Instr.iload_n 2, 1), (7, Instr.iload_n 3, 1), (8, Instr.iload 4, 2), (10, Instr.invokevirtual 103, 3), (13, Instr.invokevirtual 107, 3), (16, Instr.ireturn, 1)]
set_option maxRecDepth 20000 in
theorem tkX10_gate : (tbX10_gate.all fun q => decide (decode cX10_gate q.1 = .ok q.2)) = true := by decide +kernel
def mX10_gate : Nat × MethodName × ByteArray × Nat × Option FieldType × List (Nat × Instr × Nat) × Option (Nat × (Nat → Int32)) := (10, yX10_gate, cX10_gate, 5, (some .int), tbX10_gate, none)
def tbX10_at : List (Nat × Instr × Nat) := [(0, Instr.aload_n 0, 1), (1, Instr.getfield 12, 3), (4, Instr.iload_n 1, 1), (5, Instr.invokevirtual 111, 3), (8, Instr.ifCond .ne 5, 3), (11, Instr.iconst (-1), 1), (12, Instr.ireturn, 1), (13, Instr.iload_n 2, 1), (14, Instr.tableswitch 92 0 4 #[34, 44, 54, 64, 74], 34), (48, Instr.aload_n 0, 1), (49, Instr.getfield 12, 3), (52, Instr.getfield 115, 3), (55, Instr.iload_n 1, 1), (56, Instr.iaload, 1), (57, Instr.ireturn, 1), (58, Instr.aload_n 0, 1), (59, Instr.getfield 12, 3), (62, Instr.getfield 118, 3), (65, Instr.iload_n 1, 1), (66, Instr.iaload, 1), (67, Instr.ireturn, 1), (68, Instr.aload_n 0, 1), (69, Instr.getfield 12, 3), (72, Instr.getfield 121, 3), (75, Instr.iload_n 1, 1), (76, Instr.iaload, 1), (77, Instr.ireturn, 1), (78, Instr.aload_n 0, 1), (79, Instr.getfield 12, 3), (82, Instr.getfield 124, 3), (85, Instr.iload_n 1, 1), (86, Instr.iaload, 1), (87, Instr.ireturn, 1), (88, Instr.aload_n 0, 1), (89, Instr.getfield 12, 3), (92, Instr.getfield 127, 3), (95, Instr.iload_n 1, 1), (96, Instr.baload, 1), (97, Instr.ifCond .eq 7, 3), (100, Instr.iconst 1, 1), (101, Instr.goto 4, 3), (104, Instr.iconst 0, 1), (105, Instr.ireturn, 1), (106, Instr.iconst (-1), 1), (107, Instr.ireturn, 1)]
set_option maxRecDepth 20000 in
theorem tkX10_at : (tbX10_at.all fun q => decide (decode cX10_at q.1 = .ok q.2)) = true := by decide +kernel
def mX10_at : Nat × MethodName × ByteArray × Nat × Option FieldType × List (Nat × Instr × Nat) × Option (Nat × (Nat → Int32)) := (10, yX10_at, cX10_at, 3, (some .int), tbX10_at, none)
def tbX10_goer : List (Nat × Instr × Nat) := [(0, Instr.aload_n 0, 1), (1, Instr.aload_n 0, 1), (2, Instr.getfield 12, 3), (5, Instr.iload_n 1, 1), (6, Instr.iload_n 2, 1), (7, Instr.iload_n 3, 1), (8, Instr.invokevirtual 130, 3), (11, Instr.invokevirtual 107, 3), (14, Instr.ireturn, 1)]
set_option maxRecDepth 20000 in
theorem tkX10_goer : (tbX10_goer.all fun q => decide (decode cX10_goer q.1 = .ok q.2)) = true := by decide +kernel
def mX10_goer : Nat × MethodName × ByteArray × Nat × Option FieldType × List (Nat × Instr × Nat) × Option (Nat × (Nat → Int32)) := (10, yX10_goer, cX10_goer, 4, (some .int), tbX10_goer, none)
def tbX10_of : List (Nat × Instr × Nat) := [(0, Instr.aload_n 0, 1), (1, Instr.getfield 12, 3), (4, Instr.iload_n 1, 1), (5, Instr.invokevirtual 134, 3), (8, Instr.ifCond .ne 5, 3), (11, Instr.iconst (-1), 1), (12, Instr.ireturn, 1), (13, Instr.iload_n 2, 1), (14, Instr.tableswitch 87 0 4 #[34, 44, 54, 64, 74], 34), (48, Instr.aload_n 0, 1), (49, Instr.getfield 12, 3), (52, Instr.getfield 137, 3), (55, Instr.iload_n 1, 1), (56, Instr.iaload, 1), (57, Instr.ireturn, 1), (58, Instr.aload_n 0, 1), (59, Instr.getfield 12, 3), (62, Instr.getfield 140, 3), (65, Instr.iload_n 1, 1), (66, Instr.iaload, 1), (67, Instr.ireturn, 1), (68, Instr.aload_n 0, 1), (69, Instr.getfield 12, 3), (72, Instr.getfield 143, 3), (75, Instr.iload_n 1, 1), (76, Instr.iaload, 1), (77, Instr.ireturn, 1), (78, Instr.aload_n 0, 1), (79, Instr.getfield 12, 3), (82, Instr.getfield 146, 3), (85, Instr.iload_n 1, 1), (86, Instr.iaload, 1), (87, Instr.ireturn, 1), (88, Instr.aload_n 0, 1), (89, Instr.getfield 34, 3), (92, Instr.aload_n 0, 1), (93, Instr.getfield 12, 3), (96, Instr.iload_n 1, 1), (97, Instr.invokevirtual 149, 3), (100, Instr.ireturn, 1), (101, Instr.iconst (-1), 1), (102, Instr.ireturn, 1)]
set_option maxRecDepth 20000 in
theorem tkX10_of : (tbX10_of.all fun q => decide (decode cX10_of q.1 = .ok q.2)) = true := by decide +kernel
def mX10_of : Nat × MethodName × ByteArray × Nat × Option FieldType × List (Nat × Instr × Nat) × Option (Nat × (Nat → Int32)) := (10, yX10_of, cX10_of, 3, (some .int), tbX10_of, none)
def tbX10_asks : List (Nat × Instr × Nat) := [(0, Instr.aload_n 0, 1), (1, Instr.getfield 12, 3), (4, Instr.iload_n 1, 1), (5, Instr.invokevirtual 134, 3), (8, Instr.ifCond .eq 23, 3), (11, Instr.aload_n 0, 1), (12, Instr.getfield 12, 3), (15, Instr.iload_n 2, 1), (16, Instr.invokevirtual 111, 3), (19, Instr.ifCond .eq 12, 3), (22, Instr.iload_n 3, 1), (23, Instr.bipush 20, 2), (25, Instr.invokestatic 153, 3), (28, Instr.ifCond .ne 5, 3), (31, Instr.iconst (-1), 1), (32, Instr.ireturn, 1), (33, Instr.aload_n 0, 1), (34, Instr.getfield 34, 3), (37, Instr.aload_n 0, 1), (38, Instr.getfield 12, 3), (41, Instr.iload_n 1, 1), (42, Instr.iload_n 2, 1), (43, Instr.iload_n 3, 1), (44, Instr.invokevirtual 157, 3), (47, Instr.iload 4, 2), (49, Instr.tableswitch 72 0 2 #[27, 42, 57], 27), (76, Instr.aload_n 0, 1), (77, Instr.getfield 34, 3), (80, Instr.aload_n 0, 1), (81, Instr.getfield 12, 3), (84, Instr.sipush 260, 3), (87, Instr.invokevirtual 161, 3), (90, Instr.ireturn, 1), (91, Instr.aload_n 0, 1), (92, Instr.getfield 34, 3), (95, Instr.aload_n 0, 1), (96, Instr.getfield 12, 3), (99, Instr.sipush 261, 3), (102, Instr.invokevirtual 161, 3), (105, Instr.ireturn, 1), (106, Instr.aload_n 0, 1), (107, Instr.getfield 34, 3), (110, Instr.aload_n 0, 1), (111, Instr.getfield 12, 3), (114, Instr.sipush 262, 3), (117, Instr.invokevirtual 161, 3), (120, Instr.ireturn, 1), (121, Instr.iconst (-1), 1), (122, Instr.ireturn, 1)]
set_option maxRecDepth 20000 in
theorem tkX10_asks : (tbX10_asks.all fun q => decide (decode cX10_asks q.1 = .ok q.2)) = true := by decide +kernel
def mX10_asks : Nat × MethodName × ByteArray × Nat × Option FieldType × List (Nat × Instr × Nat) × Option (Nat × (Nat → Int32)) := (10, yX10_asks, cX10_asks, 5, (some .int), tbX10_asks, none)
def tbX10_terms : List (Nat × Instr × Nat) := [(0, Instr.aload_n 0, 1), (1, Instr.aload_n 0, 1), (2, Instr.getfield 12, 3), (5, Instr.iload_n 1, 1), (6, Instr.iload_n 2, 1), (7, Instr.invokevirtual 164, 3), (10, Instr.invokevirtual 107, 3), (13, Instr.ireturn, 1)]
set_option maxRecDepth 20000 in
theorem tkX10_terms : (tbX10_terms.all fun q => decide (decode cX10_terms q.1 = .ok q.2)) = true := by decide +kernel
def mX10_terms : Nat × MethodName × ByteArray × Nat × Option FieldType × List (Nat × Instr × Nat) × Option (Nat × (Nat → Int32)) := (10, yX10_terms, cX10_terms, 3, (some .int), tbX10_terms, none)
def tbX10_feed : List (Nat × Instr × Nat) := [(0, Instr.aload_n 0, 1), (1, Instr.getfield 27, 3), (4, Instr.iload_n 1, 1), (5, Instr.iload_n 2, 1), (6, Instr.iload_n 3, 1), (7, Instr.iload 4, 2), (9, Instr.iload 5, 2), (11, Instr.invokevirtual 168, 3), (14, Instr.ireturn, 1)]
set_option maxRecDepth 20000 in
theorem tkX10_feed : (tbX10_feed.all fun q => decide (decode cX10_feed q.1 = .ok q.2)) = true := by decide +kernel
def mX10_feed : Nat × MethodName × ByteArray × Nat × Option FieldType × List (Nat × Instr × Nat) × Option (Nat × (Nat → Int32)) := (10, yX10_feed, cX10_feed, 6, (some .int), tbX10_feed, none)
def tbX10_end : List (Nat × Instr × Nat) := [(0, Instr.aload_n 0, 1), (1, Instr.getfield 27, 3), (4, Instr.iload_n 1, 1), (5, Instr.invokevirtual 172, 3), (8, Instr.ireturn, 1)]
set_option maxRecDepth 20000 in
theorem tkX10_end : (tbX10_end.all fun q => decide (decode cX10_end q.1 = .ok q.2)) = true := by decide +kernel
def mX10_end : Nat × MethodName × ByteArray × Nat × Option FieldType × List (Nat × Instr × Nat) × Option (Nat × (Nat → Int32)) := (10, yX10_end, cX10_end, 2, (some .int), tbX10_end, none)
def tbX10_row : List (Nat × Instr × Nat) := [(0, Instr.aload_n 0, 1), (1, Instr.getfield 27, 3), (4, Instr.getfield 175, 3), (7, Instr.ifCond .ne 10, 3), (10, Instr.aload_n 0, 1), (11, Instr.bipush (-6), 2), (13, Instr.invokevirtual 178, 3), (16, Instr.ireturn, 1), (17, Instr.iconst 0, 1), (18, Instr.istore_n 1, 1), (19, Instr.aload_n 0, 1), (20, Instr.iconst 0, 1), (21, Instr.putfield 100, 3), (24, Instr.iconst 0, 1), (25, Instr.istore_n 2, 1), (26, Instr.iload_n 2, 1), (27, Instr.aload_n 0, 1), (28, Instr.getfield 27, 3), (31, Instr.getfield 175, 3), (34, Instr.if_icmp .ge 73, 3), (37, Instr.aload_n 0, 1), (38, Instr.getfield 12, 3), (41, Instr.aload_n 0, 1), (42, Instr.getfield 27, 3), (45, Instr.iload_n 2, 1), (46, Instr.invokevirtual 180, 3), (49, Instr.aload_n 0, 1), (50, Instr.getfield 27, 3), (53, Instr.iload_n 2, 1), (54, Instr.iconst 1, 1), (55, Instr.iadd, 1), (56, Instr.invokevirtual 180, 3), (59, Instr.aload_n 0, 1), (60, Instr.getfield 27, 3), (63, Instr.iload_n 2, 1), (64, Instr.iconst 2, 1), (65, Instr.iadd, 1), (66, Instr.invokevirtual 180, 3), (69, Instr.aload_n 0, 1), (70, Instr.getfield 27, 3), (73, Instr.iload_n 2, 1), (74, Instr.iconst 3, 1), (75, Instr.iadd, 1), (76, Instr.invokevirtual 180, 3), (79, Instr.invokevirtual 103, 3), (82, Instr.ifCond .ge 16, 3), (85, Instr.aload_n 0, 1), (86, Instr.dup, 1), (87, Instr.getfield 100, 3), (90, Instr.iconst 1, 1), (91, Instr.iadd, 1), (92, Instr.putfield 100, 3), (95, Instr.goto 6, 3), (98, Instr.iinc 1 1, 3), (101, Instr.iinc 2 4, 3), (104, Instr.goto (-78), 3), (107, Instr.aload_n 0, 1), (108, Instr.getfield 27, 3), (111, Instr.invokevirtual 183, 3), (114, Instr.aload_n 0, 1), (115, Instr.iload_n 1, 1), (116, Instr.invokevirtual 107, 3), (119, Instr.ireturn, 1)]
set_option maxRecDepth 20000 in
theorem tkX10_row : (tbX10_row.all fun q => decide (decode cX10_row q.1 = .ok q.2)) = true := by decide +kernel
def mX10_row : Nat × MethodName × ByteArray × Nat × Option FieldType × List (Nat × Instr × Nat) × Option (Nat × (Nat → Int32)) := (10, yX10_row, cX10_row, 3, (some .int), tbX10_row, none)
def tbX10_rust : List (Nat × Instr × Nat) := [(0, Instr.aload_n 0, 1), (1, Instr.getfield 100, 3), (4, Instr.ireturn, 1)]
set_option maxRecDepth 20000 in
theorem tkX10_rust : (tbX10_rust.all fun q => decide (decode cX10_rust q.1 = .ok q.2)) = true := by decide +kernel
def mX10_rust : Nat × MethodName × ByteArray × Nat × Option FieldType × List (Nat × Instr × Nat) × Option (Nat × (Nat → Int32)) := (10, yX10_rust, cX10_rust, 1, (some .int), tbX10_rust, none)
def tbX10_law : List (Nat × Instr × Nat) := [(0, Instr.aload_n 0, 1), (1, Instr.getfield 12, 3), (4, Instr.getfield 186, 3), (7, Instr.bipush 6, 2), (9, Instr.if_icmp .lt 17, 3), (12, Instr.aload_n 0, 1), (13, Instr.getfield 27, 3), (16, Instr.invokevirtual 183, 3), (19, Instr.aload_n 0, 1), (20, Instr.bipush (-5), 2), (22, Instr.invokevirtual 178, 3), (25, Instr.ireturn, 1), (26, Instr.aload_n 0, 1), (27, Instr.iconst 0, 1), (28, Instr.invokevirtual 189, 3), (31, Instr.ifCond .eq 27, 3), (34, Instr.aload_n 0, 1), (35, Instr.aload_n 0, 1), (36, Instr.getfield 12, 3), (39, Instr.aload_n 0, 1), (40, Instr.getfield 41, 3), (43, Instr.getfield 193, 3), (46, Instr.invokevirtual 197, 3), (49, Instr.invokevirtual 203, 3), (52, Instr.invokevirtual 178, 3), (55, Instr.goto 9, 3), (58, Instr.aload_n 0, 1), (59, Instr.bipush (-6), 2), (61, Instr.invokevirtual 178, 3), (64, Instr.ireturn, 1)]
set_option maxRecDepth 20000 in
theorem tkX10_law : (tbX10_law.all fun q => decide (decode cX10_law q.1 = .ok q.2)) = true := by decide +kernel
def mX10_law : Nat × MethodName × ByteArray × Nat × Option FieldType × List (Nat × Instr × Nat) × Option (Nat × (Nat → Int32)) := (10, yX10_law, cX10_law, 1, (some .int), tbX10_law, none)
def tbX10_orders : List (Nat × Instr × Nat) := [(0, Instr.aload_n 0, 1), (1, Instr.iconst (-1), 1), (2, Instr.putfield 97, 3), (5, Instr.aload_n 0, 1), (6, Instr.iconst 1, 1), (7, Instr.invokevirtual 189, 3), (10, Instr.ifCond .ne 10, 3), (13, Instr.aload_n 0, 1), (14, Instr.bipush (-6), 2), (16, Instr.invokevirtual 178, 3), (19, Instr.ireturn, 1), (20, Instr.aload_n 0, 1), (21, Instr.getfield 50, 3), (24, Instr.invokevirtual 207, 3), (27, Instr.aload_n 0, 1), (28, Instr.aload_n 0, 1), (29, Instr.getfield 59, 3), (32, Instr.aload_n 0, 1), (33, Instr.getfield 41, 3), (36, Instr.getfield 193, 3), (39, Instr.invokevirtual 210, 3), (42, Instr.putfield 97, 3), (45, Instr.aload_n 0, 1), (46, Instr.getfield 97, 3), (49, Instr.iconst (-1), 1), (50, Instr.if_icmp .eq 17, 3), (53, Instr.aload_n 0, 1), (54, Instr.getfield 50, 3), (57, Instr.invokevirtual 213, 3), (60, Instr.aload_n 0, 1), (61, Instr.bipush (-3), 2), (63, Instr.invokevirtual 178, 3), (66, Instr.ireturn, 1), (67, Instr.aload_n 0, 1), (68, Instr.aload_n 0, 1), (69, Instr.getfield 59, 3), (72, Instr.getfield 216, 3), (75, Instr.invokevirtual 178, 3), (78, Instr.ireturn, 1)]
set_option maxRecDepth 20000 in
theorem tkX10_orders : (tbX10_orders.all fun q => decide (decode cX10_orders q.1 = .ok q.2)) = true := by decide +kernel
def mX10_orders : Nat × MethodName × ByteArray × Nat × Option FieldType × List (Nat × Instr × Nat) × Option (Nat × (Nat → Int32)) := (10, yX10_orders, cX10_orders, 1, (some .int), tbX10_orders, none)
def tbX10_fault : List (Nat × Instr × Nat) := [(0, Instr.aload_n 0, 1), (1, Instr.getfield 94, 3), (4, Instr.ireturn, 1)]
set_option maxRecDepth 20000 in
theorem tkX10_fault : (tbX10_fault.all fun q => decide (decode cX10_fault q.1 = .ok q.2)) = true := by decide +kernel
def mX10_fault : Nat × MethodName × ByteArray × Nat × Option FieldType × List (Nat × Instr × Nat) × Option (Nat × (Nat → Int32)) := (10, yX10_fault, cX10_fault, 1, (some .int), tbX10_fault, none)
def tbX10_stopped : List (Nat × Instr × Nat) := [(0, Instr.aload_n 0, 1), (1, Instr.getfield 97, 3), (4, Instr.ireturn, 1)]
set_option maxRecDepth 20000 in
theorem tkX10_stopped : (tbX10_stopped.all fun q => decide (decode cX10_stopped q.1 = .ok q.2)) = true := by decide +kernel
def mX10_stopped : Nat × MethodName × ByteArray × Nat × Option FieldType × List (Nat × Instr × Nat) × Option (Nat × (Nat → Int32)) := (10, yX10_stopped, cX10_stopped, 1, (some .int), tbX10_stopped, none)
def tbX10_force : List (Nat × Instr × Nat) := [(0, Instr.iload_n 1, 1), (1, Instr.iconst (-1), 1), (2, Instr.if_icmp .eq 21, 3), (5, Instr.aload_n 0, 1), (6, Instr.getfield 12, 3), (9, Instr.iload_n 1, 1), (10, Instr.invokevirtual 219, 3), (13, Instr.ifCond .ne 10, 3), (16, Instr.aload_n 0, 1), (17, Instr.bipush (-2), 2), (19, Instr.invokevirtual 178, 3), (22, Instr.ireturn, 1), (23, Instr.aload_n 0, 1), (24, Instr.iconst 0, 1), (25, Instr.invokevirtual 178, 3), (28, Instr.pop, 1), (29, Instr.aload_n 0, 1), (30, Instr.getfield 12, 3), (33, Instr.getfield 222, 3), (36, Instr.istore_n 2, 1), (37, Instr.aload_n 0, 1), (38, Instr.getfield 12, 3), (41, Instr.iload_n 1, 1), (42, Instr.putfield 222, 3), (45, Instr.iload_n 2, 1), (46, Instr.ireturn, 1)]
set_option maxRecDepth 20000 in
theorem tkX10_force : (tbX10_force.all fun q => decide (decode cX10_force q.1 = .ok q.2)) = true := by decide +kernel
def mX10_force : Nat × MethodName × ByteArray × Nat × Option FieldType × List (Nat × Instr × Nat) × Option (Nat × (Nat → Int32)) := (10, yX10_force, cX10_force, 3, (some .int), tbX10_force, none)
def tbX10_go : List (Nat × Instr × Nat) := [(0, Instr.aload_n 0, 1), (1, Instr.aload_n 0, 1), (2, Instr.getfield 50, 3), (5, Instr.iload_n 1, 1), (6, Instr.iload_n 2, 1), (7, Instr.invokevirtual 225, 3), (10, Instr.invokevirtual 178, 3), (13, Instr.ireturn, 1)]
set_option maxRecDepth 20000 in
theorem tkX10_go : (tbX10_go.all fun q => decide (decode cX10_go q.1 = .ok q.2)) = true := by decide +kernel
def mX10_go : Nat × MethodName × ByteArray × Nat × Option FieldType × List (Nat × Instr × Nat) × Option (Nat × (Nat → Int32)) := (10, yX10_go, cX10_go, 3, (some .int), tbX10_go, none)
def tbX10_latch : List (Nat × Instr × Nat) := [(0, Instr.aload_n 0, 1), (1, Instr.aload_n 0, 1), (2, Instr.getfield 50, 3), (5, Instr.iload_n 1, 1), (6, Instr.invokevirtual 228, 3), (9, Instr.invokevirtual 178, 3), (12, Instr.ireturn, 1)]
set_option maxRecDepth 20000 in
theorem tkX10_latch : (tbX10_latch.all fun q => decide (decode cX10_latch q.1 = .ok q.2)) = true := by decide +kernel
def mX10_latch : Nat × MethodName × ByteArray × Nat × Option FieldType × List (Nat × Instr × Nat) × Option (Nat × (Nat → Int32)) := (10, yX10_latch, cX10_latch, 2, (some .int), tbX10_latch, none)
def tbX10_set : List (Nat × Instr × Nat) := [(0, Instr.aload_n 0, 1), (1, Instr.aload_n 0, 1), (2, Instr.getfield 50, 3), (5, Instr.iload_n 1, 1), (6, Instr.iload_n 2, 1), (7, Instr.invokevirtual 231, 3), (10, Instr.invokevirtual 178, 3), (13, Instr.ireturn, 1)]
set_option maxRecDepth 20000 in
theorem tkX10_set : (tbX10_set.all fun q => decide (decode cX10_set q.1 = .ok q.2)) = true := by decide +kernel
def mX10_set : Nat × MethodName × ByteArray × Nat × Option FieldType × List (Nat × Instr × Nat) × Option (Nat × (Nat → Int32)) := (10, yX10_set, cX10_set, 3, (some .int), tbX10_set, none)
def tbX10_pass : List (Nat × Instr × Nat) := [(0, Instr.aload_n 0, 1), (1, Instr.aload_n 0, 1), (2, Instr.getfield 50, 3), (5, Instr.invokevirtual 234, 3), (8, Instr.invokevirtual 178, 3), (11, Instr.ireturn, 1)]
set_option maxRecDepth 20000 in
theorem tkX10_pass : (tbX10_pass.all fun q => decide (decode cX10_pass q.1 = .ok q.2)) = true := by decide +kernel
def mX10_pass : Nat × MethodName × ByteArray × Nat × Option FieldType × List (Nat × Instr × Nat) × Option (Nat × (Nat → Int32)) := (10, yX10_pass, cX10_pass, 1, (some .int), tbX10_pass, none)
def tbX10_undo : List (Nat × Instr × Nat) := [(0, Instr.aload_n 0, 1), (1, Instr.aload_n 0, 1), (2, Instr.getfield 50, 3), (5, Instr.invokevirtual 238, 3), (8, Instr.invokevirtual 178, 3), (11, Instr.ireturn, 1)]
set_option maxRecDepth 20000 in
theorem tkX10_undo : (tbX10_undo.all fun q => decide (decode cX10_undo q.1 = .ok q.2)) = true := by decide +kernel
def mX10_undo : Nat × MethodName × ByteArray × Nat × Option FieldType × List (Nat × Instr × Nat) × Option (Nat × (Nat → Int32)) := (10, yX10_undo, cX10_undo, 1, (some .int), tbX10_undo, none)
def tbX10_way : List (Nat × Instr × Nat) := [(0, Instr.aload_n 0, 1), (1, Instr.iload_n 1, 1), (2, Instr.iload_n 2, 1), (3, Instr.iload_n 3, 1), (4, Instr.invokevirtual 241, 3), (7, Instr.ifCond .ne 5, 3), (10, Instr.iconst (-1), 1), (11, Instr.ireturn, 1), (12, Instr.aload_n 0, 1), (13, Instr.getfield 68, 3), (16, Instr.aload_n 0, 1), (17, Instr.getfield 12, 3), (20, Instr.iload_n 1, 1), (21, Instr.invokevirtual 245, 3), (24, Instr.iload 4, 2), (26, Instr.iconst (-1), 1), (27, Instr.if_icmp .ne 15, 3), (30, Instr.aload_n 0, 1), (31, Instr.getfield 68, 3), (34, Instr.iload_n 2, 1), (35, Instr.iload_n 3, 1), (36, Instr.invokevirtual 249, 3), (39, Instr.goto 14, 3), (42, Instr.aload_n 0, 1), (43, Instr.getfield 68, 3), (46, Instr.iload_n 2, 1), (47, Instr.iload_n 3, 1), (48, Instr.iload 4, 2), (50, Instr.invokevirtual 252, 3), (53, Instr.ireturn, 1)]
set_option maxRecDepth 20000 in
theorem tkX10_way : (tbX10_way.all fun q => decide (decode cX10_way q.1 = .ok q.2)) = true := by decide +kernel
def mX10_way : Nat × MethodName × ByteArray × Nat × Option FieldType × List (Nat × Instr × Nat) × Option (Nat × (Nat → Int32)) := (10, yX10_way, cX10_way, 5, (some .int), tbX10_way, none)
def tbX10_cheap : List (Nat × Instr × Nat) := [(0, Instr.aload_n 0, 1), (1, Instr.iload_n 1, 1), (2, Instr.iload_n 2, 1), (3, Instr.iload_n 3, 1), (4, Instr.invokevirtual 241, 3), (7, Instr.ifCond .ne 5, 3), (10, Instr.iconst (-1), 1), (11, Instr.ireturn, 1), (12, Instr.aload_n 0, 1), (13, Instr.getfield 68, 3), (16, Instr.aload_n 0, 1), (17, Instr.getfield 12, 3), (20, Instr.iload_n 1, 1), (21, Instr.invokevirtual 245, 3), (24, Instr.aload_n 0, 1), (25, Instr.getfield 68, 3), (28, Instr.iload_n 2, 1), (29, Instr.iload_n 3, 1), (30, Instr.invokevirtual 255, 3), (33, Instr.ireturn, 1)]
set_option maxRecDepth 20000 in
theorem tkX10_cheap : (tbX10_cheap.all fun q => decide (decode cX10_cheap q.1 = .ok q.2)) = true := by decide +kernel
def mX10_cheap : Nat × MethodName × ByteArray × Nat × Option FieldType × List (Nat × Instr × Nat) × Option (Nat × (Nat → Int32)) := (10, yX10_cheap, cX10_cheap, 4, (some .int), tbX10_cheap, none)
def tbX10_manys : List (Nat × Instr × Nat) := [(0, Instr.aload_n 0, 1), (1, Instr.iload_n 1, 1), (2, Instr.iload_n 2, 1), (3, Instr.iconst (-1), 1), (4, Instr.invokevirtual 241, 3), (7, Instr.ifCond .ne 5, 3), (10, Instr.iconst (-1), 1), (11, Instr.ireturn, 1), (12, Instr.aload_n 0, 1), (13, Instr.getfield 68, 3), (16, Instr.aload_n 0, 1), (17, Instr.getfield 12, 3), (20, Instr.iload_n 1, 1), (21, Instr.invokevirtual 245, 3), (24, Instr.aload_n 0, 1), (25, Instr.getfield 68, 3), (28, Instr.iload_n 2, 1), (29, Instr.invokevirtual 258, 3), (32, Instr.ireturn, 1)]
set_option maxRecDepth 20000 in
theorem tkX10_manys : (tbX10_manys.all fun q => decide (decode cX10_manys q.1 = .ok q.2)) = true := by decide +kernel
def mX10_manys : Nat × MethodName × ByteArray × Nat × Option FieldType × List (Nat × Instr × Nat) × Option (Nat × (Nat → Int32)) := (10, yX10_manys, cX10_manys, 3, (some .int), tbX10_manys, none)
def tbX10_reach : List (Nat × Instr × Nat) := [(0, Instr.aload_n 0, 1), (1, Instr.getfield 12, 3), (4, Instr.iload_n 1, 1), (5, Instr.invokevirtual 134, 3), (8, Instr.ifCond .ne 5, 3), (11, Instr.iconst (-1), 1), (12, Instr.ireturn, 1), (13, Instr.aload_n 0, 1), (14, Instr.getfield 68, 3), (17, Instr.aload_n 0, 1), (18, Instr.getfield 12, 3), (21, Instr.iload_n 1, 1), (22, Instr.invokevirtual 245, 3), (25, Instr.aload_n 0, 1), (26, Instr.getfield 68, 3), (29, Instr.invokevirtual 261, 3), (32, Instr.ireturn, 1)]
set_option maxRecDepth 20000 in
theorem tkX10_reach : (tbX10_reach.all fun q => decide (decode cX10_reach q.1 = .ok q.2)) = true := by decide +kernel
def mX10_reach : Nat × MethodName × ByteArray × Nat × Option FieldType × List (Nat × Instr × Nat) × Option (Nat × (Nat → Int32)) := (10, yX10_reach, cX10_reach, 2, (some .int), tbX10_reach, none)
def tbX10_ways : List (Nat × Instr × Nat) := [(0, Instr.aload_n 0, 1), (1, Instr.iload_n 1, 1), (2, Instr.iload_n 2, 1), (3, Instr.iload_n 3, 1), (4, Instr.invokevirtual 241, 3), (7, Instr.ifCond .eq 15, 3), (10, Instr.iload 4, 2), (12, Instr.ifCond .lt 10, 3), (15, Instr.iload 4, 2), (17, Instr.bipush 12, 2), (19, Instr.if_icmp .le 7, 3), (22, Instr.ldc2_w 264, 3), (25, Instr.lreturn, 1), (26, Instr.aload_n 0, 1), (27, Instr.getfield 68, 3), (30, Instr.aload_n 0, 1), (31, Instr.getfield 12, 3), (34, Instr.iload_n 1, 1), (35, Instr.invokevirtual 245, 3), (38, Instr.aload_n 0, 1), (39, Instr.getfield 68, 3), (42, Instr.lconst 1, 1), (43, Instr.iload 4, 2), (45, Instr.iconst 0, 1), (46, Instr.invokevirtual 266, 3), (49, Instr.aload_n 0, 1), (50, Instr.getfield 68, 3), (53, Instr.iload_n 2, 1), (54, Instr.iload_n 3, 1), (55, Instr.invokevirtual 270, 3), (58, Instr.lreturn, 1)]
set_option maxRecDepth 20000 in
theorem tkX10_ways : (tbX10_ways.all fun q => decide (decode cX10_ways q.1 = .ok q.2)) = true := by decide +kernel
def mX10_ways : Nat × MethodName × ByteArray × Nat × Option FieldType × List (Nat × Instr × Nat) × Option (Nat × (Nat → Int32)) := (10, yX10_ways, cX10_ways, 5, (some .long), tbX10_ways, none)
def tbX10_likely : List (Nat × Instr × Nat) := [(0, Instr.aload_n 0, 1), (1, Instr.iload_n 1, 1), (2, Instr.iload_n 2, 1), (3, Instr.iload_n 3, 1), (4, Instr.invokevirtual 241, 3), (7, Instr.ifCond .eq 15, 3), (10, Instr.iload 4, 2), (12, Instr.ifCond .lt 10, 3), (15, Instr.iload 4, 2), (17, Instr.bipush 30, 2), (19, Instr.if_icmp .le 7, 3), (22, Instr.ldc2_w 264, 3), (25, Instr.lreturn, 1), (26, Instr.aload_n 0, 1), (27, Instr.getfield 68, 3), (30, Instr.aload_n 0, 1), (31, Instr.getfield 12, 3), (34, Instr.iload_n 1, 1), (35, Instr.invokevirtual 245, 3), (38, Instr.aload_n 0, 1), (39, Instr.getfield 68, 3), (42, Instr.ldc2_w 274, 3), (45, Instr.iload 4, 2), (47, Instr.iconst 1, 1), (48, Instr.invokevirtual 266, 3), (51, Instr.aload_n 0, 1), (52, Instr.getfield 68, 3), (55, Instr.iload_n 2, 1), (56, Instr.iload_n 3, 1), (57, Instr.invokevirtual 270, 3), (60, Instr.lreturn, 1)]
set_option maxRecDepth 20000 in
theorem tkX10_likely : (tbX10_likely.all fun q => decide (decode cX10_likely q.1 = .ok q.2)) = true := by decide +kernel
def mX10_likely : Nat × MethodName × ByteArray × Nat × Option FieldType × List (Nat × Instr × Nat) × Option (Nat × (Nat → Int32)) := (10, yX10_likely, cX10_likely, 5, (some .long), tbX10_likely, none)
def tbX10_again : List (Nat × Instr × Nat) := [(0, Instr.aload_n 0, 1), (1, Instr.getfield 12, 3), (4, Instr.iload_n 1, 1), (5, Instr.invokevirtual 134, 3), (8, Instr.ifCond .eq 22, 3), (11, Instr.aload_n 0, 1), (12, Instr.getfield 12, 3), (15, Instr.iload_n 2, 1), (16, Instr.invokevirtual 111, 3), (19, Instr.ifCond .eq 11, 3), (22, Instr.iload_n 3, 1), (23, Instr.iconst 2, 1), (24, Instr.invokestatic 153, 3), (27, Instr.ifCond .ne 5, 3), (30, Instr.iconst (-1), 1), (31, Instr.ireturn, 1), (32, Instr.aload_n 0, 1), (33, Instr.getfield 34, 3), (36, Instr.aload_n 0, 1), (37, Instr.getfield 12, 3), (40, Instr.iload_n 1, 1), (41, Instr.iload_n 2, 1), (42, Instr.iload_n 3, 1), (43, Instr.ifCond .ne 7, 3), (46, Instr.iconst 1, 1), (47, Instr.goto 4, 3), (50, Instr.iconst 0, 1), (51, Instr.invokevirtual 276, 3), (54, Instr.ireturn, 1)]
set_option maxRecDepth 20000 in
theorem tkX10_again : (tbX10_again.all fun q => decide (decode cX10_again q.1 = .ok q.2)) = true := by decide +kernel
def mX10_again : Nat × MethodName × ByteArray × Nat × Option FieldType × List (Nat × Instr × Nat) × Option (Nat × (Nat → Int32)) := (10, yX10_again, cX10_again, 4, (some .int), tbX10_again, none)
def tbX10_fixed : List (Nat × Instr × Nat) := [(0, Instr.aload_n 0, 1), (1, Instr.iload_n 1, 1), (2, Instr.iload_n 2, 1), (3, Instr.iload_n 3, 1), (4, Instr.invokevirtual 241, 3), (7, Instr.ifCond .ne 5, 3), (10, Instr.iconst (-1), 1), (11, Instr.ireturn, 1), (12, Instr.aload_n 0, 1), (13, Instr.getfield 68, 3), (16, Instr.aload_n 0, 1), (17, Instr.getfield 12, 3), (20, Instr.iload_n 1, 1), (21, Instr.invokevirtual 245, 3), (24, Instr.aload_n 0, 1), (25, Instr.getfield 68, 3), (28, Instr.iload_n 2, 1), (29, Instr.iload_n 3, 1), (30, Instr.invokevirtual 280, 3), (33, Instr.ireturn, 1)]
set_option maxRecDepth 20000 in
theorem tkX10_fixed : (tbX10_fixed.all fun q => decide (decode cX10_fixed q.1 = .ok q.2)) = true := by decide +kernel
def mX10_fixed : Nat × MethodName × ByteArray × Nat × Option FieldType × List (Nat × Instr × Nat) × Option (Nat × (Nat → Int32)) := (10, yX10_fixed, cX10_fixed, 4, (some .int), tbX10_fixed, none)
def tbX10_cut : List (Nat × Instr × Nat) := [(0, Instr.aload_n 0, 1), (1, Instr.iload_n 1, 1), (2, Instr.iload_n 2, 1), (3, Instr.iconst (-1), 1), (4, Instr.invokevirtual 241, 3), (7, Instr.ifCond .eq 24, 3), (10, Instr.iload_n 3, 1), (11, Instr.iconst 2, 1), (12, Instr.invokestatic 153, 3), (15, Instr.ifCond .eq 16, 3), (18, Instr.aload_n 0, 1), (19, Instr.getfield 12, 3), (22, Instr.getfield 137, 3), (25, Instr.iload_n 1, 1), (26, Instr.iaload, 1), (27, Instr.iload_n 2, 1), (28, Instr.if_icmp .ne 5, 3), (31, Instr.iconst (-1), 1), (32, Instr.ireturn, 1), (33, Instr.aload_n 0, 1), (34, Instr.getfield 68, 3), (37, Instr.aload_n 0, 1), (38, Instr.getfield 12, 3), (41, Instr.iload_n 1, 1), (42, Instr.invokevirtual 245, 3), (45, Instr.aload_n 0, 1), (46, Instr.getfield 68, 3), (49, Instr.iload_n 2, 1), (50, Instr.invokevirtual 283, 3), (53, Instr.istore 4, 2), (55, Instr.iload_n 3, 1), (56, Instr.ifCond .ne 11, 3), (59, Instr.iload 4, 2), (61, Instr.invokestatic 286, 3), (64, Instr.goto 5, 3), (67, Instr.iload 4, 2), (69, Instr.ireturn, 1)]
set_option maxRecDepth 20000 in
theorem tkX10_cut : (tbX10_cut.all fun q => decide (decode cX10_cut q.1 = .ok q.2)) = true := by decide +kernel
def mX10_cut : Nat × MethodName × ByteArray × Nat × Option FieldType × List (Nat × Instr × Nat) × Option (Nat × (Nat → Int32)) := (10, yX10_cut, cX10_cut, 5, (some .int), tbX10_cut, none)
def tbX10_meet : List (Nat × Instr × Nat) := [(0, Instr.aload_n 0, 1), (1, Instr.getfield 12, 3), (4, Instr.iload_n 1, 1), (5, Instr.invokevirtual 134, 3), (8, Instr.ifCond .eq 27, 3), (11, Instr.aload_n 0, 1), (12, Instr.getfield 12, 3), (15, Instr.iload_n 2, 1), (16, Instr.invokevirtual 134, 3), (19, Instr.ifCond .eq 16, 3), (22, Instr.iload_n 1, 1), (23, Instr.iload_n 2, 1), (24, Instr.if_icmp .eq 11, 3), (27, Instr.iload_n 3, 1), (28, Instr.iconst 2, 1), (29, Instr.invokestatic 153, 3), (32, Instr.ifCond .ne 5, 3), (35, Instr.iconst (-1), 1), (36, Instr.ireturn, 1), (37, Instr.aload_n 0, 1), (38, Instr.getfield 68, 3), (41, Instr.aload_n 0, 1), (42, Instr.getfield 12, 3), (45, Instr.iload_n 1, 1), (46, Instr.invokevirtual 245, 3), (49, Instr.aload_n 0, 1), (50, Instr.getfield 68, 3), (53, Instr.invokevirtual 291, 3), (56, Instr.aload_n 0, 1), (57, Instr.getfield 68, 3), (60, Instr.aload_n 0, 1), (61, Instr.getfield 12, 3), (64, Instr.iload_n 2, 1), (65, Instr.invokevirtual 245, 3), (68, Instr.aload_n 0, 1), (69, Instr.getfield 68, 3), (72, Instr.invokevirtual 294, 3), (75, Instr.istore 4, 2), (77, Instr.iload_n 3, 1), (78, Instr.ifCond .eq 9, 3), (81, Instr.iload 4, 2), (83, Instr.iconst (-1), 1), (84, Instr.if_icmp .ne 8, 3), (87, Instr.iload 4, 2), (89, Instr.goto 12, 3), (92, Instr.aload_n 0, 1), (93, Instr.getfield 68, 3), (96, Instr.iload 4, 2), (98, Instr.invokevirtual 297, 3), (101, Instr.ireturn, 1)]
set_option maxRecDepth 20000 in
theorem tkX10_meet : (tbX10_meet.all fun q => decide (decode cX10_meet q.1 = .ok q.2)) = true := by decide +kernel
def mX10_meet : Nat × MethodName × ByteArray × Nat × Option FieldType × List (Nat × Instr × Nat) × Option (Nat × (Nat → Int32)) := (10, yX10_meet, cX10_meet, 5, (some .int), tbX10_meet, none)
def tbX10_seen : List (Nat × Instr × Nat) := [(0, Instr.aload_n 0, 1), (1, Instr.aload_n 0, 1), (2, Instr.getfield 12, 3), (5, Instr.iload_n 1, 1), (6, Instr.iload_n 2, 1), (7, Instr.iload_n 3, 1), (8, Instr.invokevirtual 300, 3), (11, Instr.invokevirtual 178, 3), (14, Instr.ireturn, 1)]
set_option maxRecDepth 20000 in
theorem tkX10_seen : (tbX10_seen.all fun q => decide (decode cX10_seen q.1 = .ok q.2)) = true := by decide +kernel
def mX10_seen : Nat × MethodName × ByteArray × Nat × Option FieldType × List (Nat × Instr × Nat) × Option (Nat × (Nat → Int32)) := (10, yX10_seen, cX10_seen, 4, (some .int), tbX10_seen, none)
def tbX10_forget : List (Nat × Instr × Nat) := [(0, Instr.aload_n 0, 1), (1, Instr.getfield 12, 3), (4, Instr.getfield 303, 3), (7, Instr.istore_n 1, 1), (8, Instr.aload_n 0, 1), (9, Instr.getfield 12, 3), (12, Instr.iconst 0, 1), (13, Instr.putfield 303, 3), (16, Instr.iload_n 1, 1), (17, Instr.ireturn, 1)]
set_option maxRecDepth 20000 in
theorem tkX10_forget : (tbX10_forget.all fun q => decide (decode cX10_forget q.1 = .ok q.2)) = true := by decide +kernel
def mX10_forget : Nat × MethodName × ByteArray × Nat × Option FieldType × List (Nat × Instr × Nat) × Option (Nat × (Nat → Int32)) := (10, yX10_forget, cX10_forget, 2, (some .int), tbX10_forget, none)
def tbX10_kinds : List (Nat × Instr × Nat) := [(0, Instr.aload_n 0, 1), (1, Instr.getfield 75, 3), (4, Instr.aload_n 0, 1), (5, Instr.getfield 12, 3), (8, Instr.invokevirtual 306, 3), (11, Instr.ireturn, 1)]
set_option maxRecDepth 20000 in
theorem tkX10_kinds : (tbX10_kinds.all fun q => decide (decode cX10_kinds q.1 = .ok q.2)) = true := by decide +kernel
def mX10_kinds : Nat × MethodName × ByteArray × Nat × Option FieldType × List (Nat × Instr × Nat) × Option (Nat × (Nat → Int32)) := (10, yX10_kinds, cX10_kinds, 1, (some .int), tbX10_kinds, none)
def tbX10_ask : List (Nat × Instr × Nat) := [(0, Instr.iload_n 1, 1), (1, Instr.bipush 10, 2), (3, Instr.invokestatic 153, 3), (6, Instr.ifCond .eq 11, 3), (9, Instr.iload_n 2, 1), (10, Instr.iconst 2, 1), (11, Instr.invokestatic 153, 3), (14, Instr.ifCond .ne 5, 3), (17, Instr.iconst (-1), 1), (18, Instr.ireturn, 1), (19, Instr.aload_n 0, 1), (20, Instr.getfield 75, 3), (23, Instr.aload_n 0, 1), (24, Instr.getfield 12, 3), (27, Instr.iload_n 1, 1), (28, Instr.iload_n 2, 1), (29, Instr.ifCond .ne 7, 3), (32, Instr.iconst 1, 1), (33, Instr.goto 4, 3), (36, Instr.iconst 0, 1), (37, Instr.invokevirtual 310, 3), (40, Instr.ireturn, 1)]
set_option maxRecDepth 20000 in
theorem tkX10_ask : (tbX10_ask.all fun q => decide (decode cX10_ask q.1 = .ok q.2)) = true := by decide +kernel
def mX10_ask : Nat × MethodName × ByteArray × Nat × Option FieldType × List (Nat × Instr × Nat) × Option (Nat × (Nat → Int32)) := (10, yX10_ask, cX10_ask, 3, (some .int), tbX10_ask, none)
def tbX10_few : List (Nat × Instr × Nat) := [(0, Instr.iload_n 1, 1), (1, Instr.iconst 1, 1), (2, Instr.if_icmp .lt 19, 3), (5, Instr.iload_n 1, 1), (6, Instr.bipush 20, 2), (8, Instr.if_icmp .gt 13, 3), (11, Instr.iload_n 2, 1), (12, Instr.ifCond .lt 9, 3), (15, Instr.iload_n 2, 1), (16, Instr.bipush 99, 2), (18, Instr.if_icmp .le 7, 3), (21, Instr.ldc2_w 264, 3), (24, Instr.lreturn, 1), (25, Instr.aload_n 0, 1), (26, Instr.getfield 75, 3), (29, Instr.aload_n 0, 1), (30, Instr.getfield 12, 3), (33, Instr.getfield 314, 3), (36, Instr.iconst 1, 1), (37, Instr.iaload, 1), (38, Instr.iload_n 1, 1), (39, Instr.iload_n 2, 1), (40, Instr.invokevirtual 317, 3), (43, Instr.lreturn, 1)]
set_option maxRecDepth 20000 in
theorem tkX10_few : (tbX10_few.all fun q => decide (decode cX10_few q.1 = .ok q.2)) = true := by decide +kernel
def mX10_few : Nat × MethodName × ByteArray × Nat × Option FieldType × List (Nat × Instr × Nat) × Option (Nat × (Nat → Int32)) := (10, yX10_few, cX10_few, 3, (some .long), tbX10_few, none)
end TABS
end
section
section TABS
def tbX10_compare : List (Nat × Instr × Nat) := [(0, Instr.iload_n 1, 1), (1, Instr.iconst (-1), 1), (2, Instr.if_icmp .eq 14, 3), (5, Instr.aload_n 0, 1), (6, Instr.getfield 12, 3), (9, Instr.iload_n 1, 1), (10, Instr.invokevirtual 219, 3), (13, Instr.ifCond .eq 14, 3), (16, Instr.aload_n 0, 1), (17, Instr.iload_n 2, 1), (18, Instr.iload_n 3, 1), (19, Instr.iload 4, 2), (21, Instr.invokevirtual 241, 3), (24, Instr.ifCond .ne 5, 3), (27, Instr.iconst (-1), 1), (28, Instr.ireturn, 1), (29, Instr.aload_n 0, 1), (30, Instr.getfield 68, 3), (33, Instr.aload_n 0, 1), (34, Instr.getfield 12, 3), (37, Instr.iload_n 2, 1), (38, Instr.invokevirtual 245, 3), (41, Instr.aload_n 0, 1), (42, Instr.getfield 68, 3), (45, Instr.iload_n 1, 1), (46, Instr.invokevirtual 321, 3), (49, Instr.aload_n 0, 1), (50, Instr.getfield 68, 3), (53, Instr.iload_n 3, 1), (54, Instr.iload 4, 2), (56, Instr.invokevirtual 249, 3), (59, Instr.ireturn, 1)]
set_option maxRecDepth 20000 in
theorem tkX10_compare : (tbX10_compare.all fun q => decide (decode cX10_compare q.1 = .ok q.2)) = true := by decide +kernel
def mX10_compare : Nat × MethodName × ByteArray × Nat × Option FieldType × List (Nat × Instr × Nat) × Option (Nat × (Nat → Int32)) := (10, yX10_compare, cX10_compare, 5, (some .int), tbX10_compare, none)
def tbX10_days : List (Nat × Instr × Nat) := [(0, Instr.iload_n 1, 1), (1, Instr.ldc_w 325, 3), (4, Instr.invokestatic 153, 3), (7, Instr.ifCond .eq 14, 3), (10, Instr.iload_n 2, 1), (11, Instr.iconst 1, 1), (12, Instr.if_icmp .lt 9, 3), (15, Instr.iload_n 2, 1), (16, Instr.bipush 60, 2), (18, Instr.if_icmp .le 9, 3), (21, Instr.aload_n 0, 1), (22, Instr.iconst (-1), 1), (23, Instr.invokevirtual 178, 3), (26, Instr.ireturn, 1), (27, Instr.aload_n 0, 1), (28, Instr.getfield 12, 3), (31, Instr.getfield 326, 3), (34, Instr.ifCond .eq 13, 3), (37, Instr.aload_n 0, 1), (38, Instr.getfield 12, 3), (41, Instr.getfield 329, 3), (44, Instr.ifCond .ne 10, 3), (47, Instr.aload_n 0, 1), (48, Instr.bipush (-3), 2), (50, Instr.invokevirtual 178, 3), (53, Instr.ireturn, 1), (54, Instr.aload_n 0, 1), (55, Instr.aload_n 0, 1), (56, Instr.getfield 82, 3), (59, Instr.aload_n 0, 1), (60, Instr.getfield 12, 3), (63, Instr.iload_n 1, 1), (64, Instr.iload_n 2, 1), (65, Instr.invokevirtual 332, 3), (68, Instr.invokevirtual 178, 3), (71, Instr.ireturn, 1)]
set_option maxRecDepth 20000 in
theorem tkX10_days : (tbX10_days.all fun q => decide (decode cX10_days q.1 = .ok q.2)) = true := by decide +kernel
def mX10_days : Nat × MethodName × ByteArray × Nat × Option FieldType × List (Nat × Instr × Nat) × Option (Nat × (Nat → Int32)) := (10, yX10_days, cX10_days, 3, (some .int), tbX10_days, none)
def tbX10_drawn : List (Nat × Instr × Nat) := [(0, Instr.aload_n 0, 1), (1, Instr.getfield 82, 3), (4, Instr.iload_n 1, 1), (5, Instr.iload_n 2, 1), (6, Instr.invokevirtual 335, 3), (9, Instr.ireturn, 1)]
set_option maxRecDepth 20000 in
theorem tkX10_drawn : (tbX10_drawn.all fun q => decide (decode cX10_drawn q.1 = .ok q.2)) = true := by decide +kernel
def mX10_drawn : Nat × MethodName × ByteArray × Nat × Option FieldType × List (Nat × Instr × Nat) × Option (Nat × (Nat → Int32)) := (10, yX10_drawn, cX10_drawn, 3, (some .int), tbX10_drawn, none)
def tbX10_image : List (Nat × Instr × Nat) := [(0, Instr.iload_n 1, 1), (1, Instr.iconst 2, 1), (2, Instr.invokestatic 153, 3), (5, Instr.ifCond .ne 9, 3), (8, Instr.aload_n 0, 1), (9, Instr.iconst (-1), 1), (10, Instr.invokevirtual 178, 3), (13, Instr.ireturn, 1), (14, Instr.aload_n 0, 1), (15, Instr.getfield 16, 3), (18, Instr.iload_n 1, 1), (19, Instr.aaload, 1), (20, Instr.aload_n 0, 1), (21, Instr.getfield 12, 3), (24, Instr.invokevirtual 338, 3), (27, Instr.aload_n 0, 1), (28, Instr.getfield 20, 3), (31, Instr.iload_n 1, 1), (32, Instr.iconst 1, 1), (33, Instr.bastore, 1), (34, Instr.aload_n 0, 1), (35, Instr.iconst 0, 1), (36, Instr.invokevirtual 178, 3), (39, Instr.ireturn, 1)]
set_option maxRecDepth 20000 in
theorem tkX10_image : (tbX10_image.all fun q => decide (decode cX10_image q.1 = .ok q.2)) = true := by decide +kernel
def mX10_image : Nat × MethodName × ByteArray × Nat × Option FieldType × List (Nat × Instr × Nat) × Option (Nat × (Nat → Int32)) := (10, yX10_image, cX10_image, 2, (some .int), tbX10_image, none)
def tbX10_back : List (Nat × Instr × Nat) := [(0, Instr.iload_n 1, 1), (1, Instr.iconst 2, 1), (2, Instr.invokestatic 153, 3), (5, Instr.ifCond .ne 9, 3), (8, Instr.aload_n 0, 1), (9, Instr.iconst (-1), 1), (10, Instr.invokevirtual 178, 3), (13, Instr.ireturn, 1), (14, Instr.aload_n 0, 1), (15, Instr.getfield 20, 3), (18, Instr.iload_n 1, 1), (19, Instr.baload, 1), (20, Instr.ifCond .ne 10, 3), (23, Instr.aload_n 0, 1), (24, Instr.bipush (-2), 2), (26, Instr.invokevirtual 178, 3), (29, Instr.ireturn, 1), (30, Instr.aload_n 0, 1), (31, Instr.getfield 12, 3), (34, Instr.aload_n 0, 1), (35, Instr.getfield 16, 3), (38, Instr.iload_n 1, 1), (39, Instr.aaload, 1), (40, Instr.invokevirtual 338, 3), (43, Instr.aload_n 0, 1), (44, Instr.iconst 0, 1), (45, Instr.invokevirtual 107, 3), (48, Instr.ireturn, 1)]
set_option maxRecDepth 20000 in
theorem tkX10_back : (tbX10_back.all fun q => decide (decode cX10_back q.1 = .ok q.2)) = true := by decide +kernel
def mX10_back : Nat × MethodName × ByteArray × Nat × Option FieldType × List (Nat × Instr × Nat) × Option (Nat × (Nat → Int32)) := (10, yX10_back, cX10_back, 2, (some .int), tbX10_back, none)
def tbX10_count : List (Nat × Instr × Nat) := [(0, Instr.iload_n 1, 1), (1, Instr.tableswitch 209 0 15 #[79, 87, 95, 103, 111, 119, 127, 135, 142, 149, 156, 163, 171, 179, 189, 199], 79), (80, Instr.aload_n 0, 1), (81, Instr.getfield 12, 3), (84, Instr.getfield 329, 3), (87, Instr.ireturn, 1), (88, Instr.aload_n 0, 1), (89, Instr.getfield 12, 3), (92, Instr.getfield 326, 3), (95, Instr.ireturn, 1), (96, Instr.aload_n 0, 1), (97, Instr.getfield 12, 3), (100, Instr.invokevirtual 342, 3), (103, Instr.ireturn, 1), (104, Instr.aload_n 0, 1), (105, Instr.getfield 12, 3), (108, Instr.getfield 303, 3), (111, Instr.ireturn, 1), (112, Instr.aload_n 0, 1), (113, Instr.getfield 12, 3), (116, Instr.getfield 186, 3), (119, Instr.ireturn, 1), (120, Instr.aload_n 0, 1), (121, Instr.getfield 50, 3), (124, Instr.getfield 345, 3), (127, Instr.ireturn, 1), (128, Instr.aload_n 0, 1), (129, Instr.getfield 27, 3), (132, Instr.getfield 175, 3), (135, Instr.ireturn, 1), (136, Instr.aload_n 0, 1), (137, Instr.getfield 86, 3), (140, Instr.iconst 1, 1), (141, Instr.iaload, 1), (142, Instr.ireturn, 1), (143, Instr.aload_n 0, 1), (144, Instr.getfield 86, 3), (147, Instr.iconst 2, 1), (148, Instr.iaload, 1), (149, Instr.ireturn, 1), (150, Instr.aload_n 0, 1), (151, Instr.getfield 86, 3), (154, Instr.iconst 3, 1), (155, Instr.iaload, 1), (156, Instr.ireturn, 1), (157, Instr.aload_n 0, 1), (158, Instr.getfield 86, 3), (161, Instr.iconst 5, 1), (162, Instr.iaload, 1), (163, Instr.ireturn, 1), (164, Instr.aload_n 0, 1), (165, Instr.getfield 86, 3), (168, Instr.bipush 6, 2), (170, Instr.iaload, 1), (171, Instr.ireturn, 1), (172, Instr.aload_n 0, 1), (173, Instr.getfield 12, 3), (176, Instr.getfield 222, 3), (179, Instr.ireturn, 1), (180, Instr.aload_n 0, 1), (181, Instr.getfield 12, 3), (184, Instr.getfield 314, 3), (187, Instr.iconst 0, 1), (188, Instr.iaload, 1), (189, Instr.ireturn, 1), (190, Instr.aload_n 0, 1), (191, Instr.getfield 12, 3), (194, Instr.getfield 314, 3), (197, Instr.iconst 1, 1), (198, Instr.iaload, 1), (199, Instr.ireturn, 1), (200, Instr.aload_n 0, 1), (201, Instr.getfield 12, 3), (204, Instr.getfield 314, 3), (207, Instr.iconst 2, 1), (208, Instr.iaload, 1), (209, Instr.ireturn, 1), (210, Instr.iconst (-1), 1), (211, Instr.ireturn, 1)]
set_option maxRecDepth 20000 in
theorem tkX10_count : (tbX10_count.all fun q => decide (decode cX10_count q.1 = .ok q.2)) = true := by decide +kernel
def mX10_count : Nat × MethodName × ByteArray × Nat × Option FieldType × List (Nat × Instr × Nat) × Option (Nat × (Nat → Int32)) := (10, yX10_count, cX10_count, 2, (some .int), tbX10_count, none)
def tbX10_status : List (Nat × Instr × Nat) := [(0, Instr.aload_n 0, 1), (1, Instr.getfield 90, 3), (4, Instr.ireturn, 1)]
set_option maxRecDepth 20000 in
theorem tkX10_status : (tbX10_status.all fun q => decide (decode cX10_status q.1 = .ok q.2)) = true := by decide +kernel
def mX10_status : Nat × MethodName × ByteArray × Nat × Option FieldType × List (Nat × Instr × Nat) × Option (Nat × (Nat → Int32)) := (10, yX10_status, cX10_status, 1, (some .int), tbX10_status, none)
def tbX10_told : List (Nat × Instr × Nat) := [(0, Instr.aload_n 0, 1), (1, Instr.iload_n 1, 1), (2, Instr.iconst 0, 1), (3, Instr.invokestatic 348, 3), (6, Instr.putfield 90, 3), (9, Instr.iload_n 1, 1), (10, Instr.ifCond .ge 20, 3), (13, Instr.iload_n 1, 1), (14, Instr.bipush (-7), 2), (16, Instr.if_icmp .le 14, 3), (19, Instr.aload_n 0, 1), (20, Instr.getfield 86, 3), (23, Instr.iload_n 1, 1), (24, Instr.ineg, 1), (25, Instr.dup2, 1), (26, Instr.iaload, 1), (27, Instr.iconst 1, 1), (28, Instr.iadd, 1), (29, Instr.iastore, 1), (30, Instr.iload_n 1, 1), (31, Instr.ireturn, 1)]
set_option maxRecDepth 20000 in
theorem tkX10_told : (tbX10_told.all fun q => decide (decode cX10_told q.1 = .ok q.2)) = true := by decide +kernel
def mX10_told : Nat × MethodName × ByteArray × Nat × Option FieldType × List (Nat × Instr × Nat) × Option (Nat × (Nat → Int32)) := (10, yX10_told, cX10_told, 2, (some .int), tbX10_told, none)
def tbX10_toldAnew : List (Nat × Instr × Nat) := [(0, Instr.iload_n 1, 1), (1, Instr.ifCond .lt 11, 3), (4, Instr.aload_n 0, 1), (5, Instr.getfield 50, 3), (8, Instr.iconst 0, 1), (9, Instr.putfield 345, 3), (12, Instr.aload_n 0, 1), (13, Instr.iload_n 1, 1), (14, Instr.invokevirtual 178, 3), (17, Instr.ireturn, 1)]
set_option maxRecDepth 20000 in
theorem tkX10_toldAnew : (tbX10_toldAnew.all fun q => decide (decode cX10_toldAnew q.1 = .ok q.2)) = true := by decide +kernel
def mX10_toldAnew : Nat × MethodName × ByteArray × Nat × Option FieldType × List (Nat × Instr × Nat) × Option (Nat × (Nat → Int32)) := (10, yX10_toldAnew, cX10_toldAnew, 2, (some .int), tbX10_toldAnew, none)
def tbX10_readTape : List (Nat × Instr × Nat) := [(0, Instr.aload_n 0, 1), (1, Instr.getfield 41, 3), (4, Instr.aload_n 0, 1), (5, Instr.getfield 27, 3), (8, Instr.iload_n 1, 1), (9, Instr.invokevirtual 353, 3), (12, Instr.istore_n 2, 1), (13, Instr.aload_n 0, 1), (14, Instr.aload_n 0, 1), (15, Instr.getfield 41, 3), (18, Instr.getfield 357, 3), (21, Instr.putfield 94, 3), (24, Instr.aload_n 0, 1), (25, Instr.getfield 27, 3), (28, Instr.invokevirtual 183, 3), (31, Instr.iload_n 2, 1), (32, Instr.ireturn, 1)]
set_option maxRecDepth 20000 in
theorem tkX10_readTape : (tbX10_readTape.all fun q => decide (decode cX10_readTape q.1 = .ok q.2)) = true := by decide +kernel
def mX10_readTape : Nat × MethodName × ByteArray × Nat × Option FieldType × List (Nat × Instr × Nat) × Option (Nat × (Nat → Int32)) := (10, yX10_readTape, cX10_readTape, 3, (some .boolean), tbX10_readTape, none)
def tbX10_canSeek : List (Nat × Instr × Nat) := [(0, Instr.aload_n 0, 1), (1, Instr.getfield 12, 3), (4, Instr.iload_n 1, 1), (5, Instr.invokevirtual 134, 3), (8, Instr.ifCond .eq 30, 3), (11, Instr.iload_n 2, 1), (12, Instr.bipush 6, 2), (14, Instr.invokestatic 153, 3), (17, Instr.ifCond .eq 21, 3), (20, Instr.iload_n 3, 1), (21, Instr.iconst (-1), 1), (22, Instr.if_icmp .eq 12, 3), (25, Instr.iload_n 3, 1), (26, Instr.bipush 20, 2), (28, Instr.invokestatic 153, 3), (31, Instr.ifCond .eq 7, 3), (34, Instr.iconst 1, 1), (35, Instr.goto 4, 3), (38, Instr.iconst 0, 1), (39, Instr.ireturn, 1)]
set_option maxRecDepth 20000 in
theorem tkX10_canSeek : (tbX10_canSeek.all fun q => decide (decode cX10_canSeek q.1 = .ok q.2)) = true := by decide +kernel
def mX10_canSeek : Nat × MethodName × ByteArray × Nat × Option FieldType × List (Nat × Instr × Nat) × Option (Nat × (Nat → Int32)) := (10, yX10_canSeek, cX10_canSeek, 4, (some .boolean), tbX10_canSeek, none)
def tbX10_within : List (Nat × Instr × Nat) := [(0, Instr.iload_n 0, 1), (1, Instr.ifCond .lt 12, 3), (4, Instr.iload_n 0, 1), (5, Instr.iload_n 1, 1), (6, Instr.if_icmp .ge 7, 3), (9, Instr.iconst 1, 1), (10, Instr.goto 4, 3), (13, Instr.iconst 0, 1), (14, Instr.ireturn, 1)]
set_option maxRecDepth 20000 in
theorem tkX10_within : (tbX10_within.all fun q => decide (decode cX10_within q.1 = .ok q.2)) = true := by decide +kernel
def mX10_within : Nat × MethodName × ByteArray × Nat × Option FieldType × List (Nat × Instr × Nat) × Option (Nat × (Nat → Int32)) := (10, yX10_within, cX10_within, 2, (some .boolean), tbX10_within, none)
def tbX11_lies : List (Nat × Instr × Nat) := [(0, Instr.iload_n 0, 1), (1, Instr.iload_n 1, 1), (2, Instr.if_icmp .lt 12, 3), (5, Instr.iload_n 0, 1), (6, Instr.iload_n 2, 1), (7, Instr.if_icmp .gt 7, 3), (10, Instr.iconst 1, 1), (11, Instr.goto 4, 3), (14, Instr.iconst 0, 1), (15, Instr.ireturn, 1)]
set_option maxRecDepth 20000 in
theorem tkX11_lies : (tbX11_lies.all fun q => decide (decode cX11_lies q.1 = .ok q.2)) = true := by decide +kernel
def mX11_lies : Nat × MethodName × ByteArray × Nat × Option FieldType × List (Nat × Instr × Nat) × Option (Nat × (Nat → Int32)) := (11, yX11_lies, cX11_lies, 3, (some .boolean), tbX11_lies, none)
def tbX11_lesser : List (Nat × Instr × Nat) := [(0, Instr.iload_n 0, 1), (1, Instr.iload_n 1, 1), (2, Instr.if_icmp .ge 7, 3), (5, Instr.iload_n 0, 1), (6, Instr.goto 4, 3), (9, Instr.iload_n 1, 1), (10, Instr.ireturn, 1)]
set_option maxRecDepth 20000 in
theorem tkX11_lesser : (tbX11_lesser.all fun q => decide (decode cX11_lesser q.1 = .ok q.2)) = true := by decide +kernel
def mX11_lesser : Nat × MethodName × ByteArray × Nat × Option FieldType × List (Nat × Instr × Nat) × Option (Nat × (Nat → Int32)) := (11, yX11_lesser, cX11_lesser, 2, (some .int), tbX11_lesser, none)
def tbX11_greater : List (Nat × Instr × Nat) := [(0, Instr.iload_n 0, 1), (1, Instr.iload_n 1, 1), (2, Instr.if_icmp .le 7, 3), (5, Instr.iload_n 0, 1), (6, Instr.goto 4, 3), (9, Instr.iload_n 1, 1), (10, Instr.ireturn, 1)]
set_option maxRecDepth 20000 in
theorem tkX11_greater : (tbX11_greater.all fun q => decide (decode cX11_greater q.1 = .ok q.2)) = true := by decide +kernel
def mX11_greater : Nat × MethodName × ByteArray × Nat × Option FieldType × List (Nat × Instr × Nat) × Option (Nat × (Nat → Int32)) := (11, yX11_greater, cX11_greater, 2, (some .int), tbX11_greater, none)
def tbX11_refuses : List (Nat × Instr × Nat) := [(0, Instr.aload_n 0, 1), (1, Instr.iload_n 1, 1), (2, Instr.putfield 3, 3), (5, Instr.aload_n 0, 1), (6, Instr.getfield 7, 3), (9, Instr.iload_n 1, 1), (10, Instr.ineg, 1), (11, Instr.dup2, 1), (12, Instr.iaload, 1), (13, Instr.iconst 1, 1), (14, Instr.iadd, 1), (15, Instr.iastore, 1), (16, Instr.iload_n 1, 1), (17, Instr.ireturn, 1)]
set_option maxRecDepth 20000 in
theorem tkX11_refuses : (tbX11_refuses.all fun q => decide (decode cX11_refuses q.1 = .ok q.2)) = true := by decide +kernel
def mX11_refuses : Nat × MethodName × ByteArray × Nat × Option FieldType × List (Nat × Instr × Nat) × Option (Nat × (Nat → Int32)) := (11, yX11_refuses, cX11_refuses, 2, (some .int), tbX11_refuses, none)
def tbX11_good : List (Nat × Instr × Nat) := [(0, Instr.aload_n 0, 1), (1, Instr.iconst 0, 1), (2, Instr.putfield 3, 3), (5, Instr.iload_n 1, 1), (6, Instr.ireturn, 1)]
set_option maxRecDepth 20000 in
theorem tkX11_good : (tbX11_good.all fun q => decide (decode cX11_good q.1 = .ok q.2)) = true := by decide +kernel
def mX11_good : Nat × MethodName × ByteArray × Nat × Option FieldType × List (Nat × Instr × Nat) × Option (Nat × (Nat → Int32)) := (11, yX11_good, cX11_good, 2, (some .int), tbX11_good, none)
def tbX11_settled : List (Nat × Instr × Nat) := [(0, Instr.aload_n 0, 1), (1, Instr.iconst 0, 1), (2, Instr.putfield 11, 3), (5, Instr.aload_n 0, 1), (6, Instr.iload_n 1, 1), (7, Instr.invokevirtual 14, 3), (10, Instr.ireturn, 1)]
set_option maxRecDepth 20000 in
theorem tkX11_settled : (tbX11_settled.all fun q => decide (decode cX11_settled q.1 = .ok q.2)) = true := by decide +kernel
def mX11_settled : Nat × MethodName × ByteArray × Nat × Option FieldType × List (Nat × Instr × Nat) × Option (Nat × (Nat → Int32)) := (11, yX11_settled, cX11_settled, 2, (some .int), tbX11_settled, none)
def tbX11_isIn : List (Nat × Instr × Nat) := [(0, Instr.iload_n 0, 1), (1, Instr.iload_n 1, 1), (2, Instr.ishr, 1), (3, Instr.iconst 1, 1), (4, Instr.iand, 1), (5, Instr.iconst 1, 1), (6, Instr.if_icmp .ne 7, 3), (9, Instr.iconst 1, 1), (10, Instr.goto 4, 3), (13, Instr.iconst 0, 1), (14, Instr.ireturn, 1)]
set_option maxRecDepth 20000 in
theorem tkX11_isIn : (tbX11_isIn.all fun q => decide (decode cX11_isIn q.1 = .ok q.2)) = true := by decide +kernel
def mX11_isIn : Nat × MethodName × ByteArray × Nat × Option FieldType × List (Nat × Instr × Nat) × Option (Nat × (Nat → Int32)) := (11, yX11_isIn, cX11_isIn, 2, (some .boolean), tbX11_isIn, none)
def tbX11_ones : List (Nat × Instr × Nat) := [(0, Instr.iconst 0, 1), (1, Instr.istore_n 1, 1), (2, Instr.iconst 0, 1), (3, Instr.istore_n 2, 1), (4, Instr.iload_n 2, 1), (5, Instr.bipush 10, 2), (7, Instr.if_icmp .ge 17, 3), (10, Instr.iload_n 1, 1), (11, Instr.iload_n 0, 1), (12, Instr.iload_n 2, 1), (13, Instr.ishr, 1), (14, Instr.iconst 1, 1), (15, Instr.iand, 1), (16, Instr.iadd, 1), (17, Instr.istore_n 1, 1), (18, Instr.iinc 2 1, 3), (21, Instr.goto (-17), 3), (24, Instr.iload_n 1, 1), (25, Instr.ireturn, 1)]
set_option maxRecDepth 20000 in
theorem tkX11_ones : (tbX11_ones.all fun q => decide (decode cX11_ones q.1 = .ok q.2)) = true := by decide +kernel
def mX11_ones : Nat × MethodName × ByteArray × Nat × Option FieldType × List (Nat × Instr × Nat) × Option (Nat × (Nat → Int32)) := (11, yX11_ones, cX11_ones, 3, (some .int), tbX11_ones, none)
def tbX11_isPark : List (Nat × Instr × Nat) := [(0, Instr.iload_n 0, 1), (1, Instr.iconst 0, 1), (2, Instr.iconst 5, 1), (3, Instr.invokestatic 18, 3), (6, Instr.ireturn, 1)]
set_option maxRecDepth 20000 in
theorem tkX11_isPark : (tbX11_isPark.all fun q => decide (decode cX11_isPark q.1 = .ok q.2)) = true := by decide +kernel
def mX11_isPark : Nat × MethodName × ByteArray × Nat × Option FieldType × List (Nat × Instr × Nat) × Option (Nat × (Nat → Int32)) := (11, yX11_isPark, cX11_isPark, 1, (some .boolean), tbX11_isPark, none)
def tbX11_isMany : List (Nat × Instr × Nat) := [(0, Instr.iload_n 0, 1), (1, Instr.iconst 0, 1), (2, Instr.bipush 19, 2), (4, Instr.invokestatic 18, 3), (7, Instr.ireturn, 1)]
set_option maxRecDepth 20000 in
theorem tkX11_isMany : (tbX11_isMany.all fun q => decide (decode cX11_isMany q.1 = .ok q.2)) = true := by decide +kernel
def mX11_isMany : Nat × MethodName × ByteArray × Nat × Option FieldType × List (Nat × Instr × Nat) × Option (Nat × (Nat → Int32)) := (11, yX11_isMany, cX11_isMany, 1, (some .boolean), tbX11_isMany, none)
def tbX11_isArm : List (Nat × Instr × Nat) := [(0, Instr.iload_n 0, 1), (1, Instr.iconst 0, 1), (2, Instr.bipush 9, 2), (4, Instr.invokestatic 18, 3), (7, Instr.ireturn, 1)]
set_option maxRecDepth 20000 in
theorem tkX11_isArm : (tbX11_isArm.all fun q => decide (decode cX11_isArm q.1 = .ok q.2)) = true := by decide +kernel
def mX11_isArm : Nat × MethodName × ByteArray × Nat × Option FieldType × List (Nat × Instr × Nat) × Option (Nat × (Nat → Int32)) := (11, yX11_isArm, cX11_isArm, 1, (some .boolean), tbX11_isArm, none)
def tbX11_init : List (Nat × Instr × Nat) := [(0, Instr.aload_n 0, 1), (1, Instr.invokespecial 22, 3), (4, Instr.aload_n 0, 1), (5, Instr.bipush 7, 2), (7, Instr.newarray .int, 2), (9, Instr.putfield 7, 3), (12, Instr.aload_n 0, 1), (13, Instr.sipush 5703, 3), (16, Instr.newarray .int, 2), (18, Instr.putfield 28, 3), (21, Instr.aload_n 0, 1), (22, Instr.sipush 11406, 3), (25, Instr.newarray .int, 2), (27, Instr.putfield 31, 3), (30, Instr.aload_n 0, 1), (31, Instr.iconst 2, 1), (32, Instr.newarray .boolean, 2), (34, Instr.putfield 34, 3), (37, Instr.aload_n 0, 1), (38, Instr.bipush 72, 2), (40, Instr.newarray .int, 2), (42, Instr.putfield 38, 3), (45, Instr.aload_n 0, 1), (46, Instr.bipush 122, 2), (48, Instr.newarray .byte, 2), (50, Instr.dup, 1), (51, Instr.iconst 0, 1), (52, Instr.bipush 116, 2), (54, Instr.bastore, 1), (55, Instr.dup, 1), (56, Instr.iconst 1, 1), (57, Instr.bipush 117, 2), (59, Instr.bastore, 1), (60, Instr.dup, 1), (61, Instr.iconst 2, 1), (62, Instr.bipush 114, 2), (64, Instr.bastore, 1), (65, Instr.dup, 1), (66, Instr.iconst 3, 1), (67, Instr.bipush 110, 2), (69, Instr.bastore, 1), (70, Instr.dup, 1), (71, Instr.iconst 4, 1), (72, Instr.bipush 115, 2), (74, Instr.bastore, 1), (75, Instr.dup, 1), (76, Instr.iconst 5, 1), (77, Instr.bipush 32, 2), (79, Instr.bastore, 1), (80, Instr.dup, 1), (81, Instr.bipush 6, 2), (83, Instr.bipush 112, 2), (85, Instr.bastore, 1), (86, Instr.dup, 1), (87, Instr.bipush 7, 2), (89, Instr.bipush 97, 2), (91, Instr.bastore, 1), (92, Instr.dup, 1), (93, Instr.bipush 8, 2), (95, Instr.bipush 121, 2), (97, Instr.bastore, 1), (98, Instr.dup, 1), (99, Instr.bipush 9, 2), (101, Instr.bipush 115, 2), (103, Instr.bastore, 1), (104, Instr.dup, 1), (105, Instr.bipush 10, 2), (107, Instr.bipush 32, 2), (109, Instr.bastore, 1), (110, Instr.dup, 1), (111, Instr.bipush 11, 2), (113, Instr.bipush 98, 2), (115, Instr.bastore, 1), (116, Instr.dup, 1), (117, Instr.bipush 12, 2), (119, Instr.bipush 97, 2), (121, Instr.bastore, 1), (122, Instr.dup, 1), (123, Instr.bipush 13, 2), (125, Instr.bipush 114, 2), (127, Instr.bastore, 1), (128, Instr.dup, 1), (129, Instr.bipush 14, 2), (131, Instr.bipush 115, 2), (133, Instr.bastore, 1), (134, Instr.dup, 1), (135, Instr.bipush 15, 2), (137, Instr.bipush 32, 2), (139, Instr.bastore, 1), (140, Instr.dup, 1), (141, Instr.bipush 16, 2), (143, Instr.bipush 105, 2), (145, Instr.bastore, 1), (146, Instr.dup, 1), (147, Instr.bipush 17, 2), (149, Instr.bipush 102, 2), (151, Instr.bastore, 1), (152, Instr.dup, 1), (153, Instr.bipush 18, 2), (155, Instr.bipush 32, 2), (157, Instr.bastore, 1), (158, Instr.dup, 1), (159, Instr.bipush 19, 2), (161, Instr.bipush 111, 2), (163, Instr.bastore, 1), (164, Instr.dup, 1), (165, Instr.bipush 20, 2), (167, Instr.bipush 114, 2), (169, Instr.bastore, 1), (170, Instr.dup, 1), (171, Instr.bipush 21, 2), (173, Instr.bipush 32, 2), (175, Instr.bastore, 1), (176, Instr.dup, 1), (177, Instr.bipush 22, 2), (179, Instr.bipush 97, 2), (181, Instr.bastore, 1), (182, Instr.dup, 1), (183, Instr.bipush 23, 2), (185, Instr.bipush 110, 2), (187, Instr.bastore, 1), (188, Instr.dup, 1), (189, Instr.bipush 24, 2), (191, Instr.bipush 100, 2), (193, Instr.bastore, 1), (194, Instr.dup, 1), (195, Instr.bipush 25, 2), (197, Instr.bipush 32, 2), (199, Instr.bastore, 1), (200, Instr.dup, 1), (201, Instr.bipush 26, 2), (203, Instr.bipush 110, 2), (205, Instr.bastore, 1), (206, Instr.dup, 1), (207, Instr.bipush 27, 2), (209, Instr.bipush 111, 2), (211, Instr.bastore, 1), (212, Instr.dup, 1), (213, Instr.bipush 28, 2), (215, Instr.bipush 116, 2), (217, Instr.bastore, 1), (218, Instr.dup, 1), (219, Instr.bipush 29, 2), (221, Instr.bipush 32, 2), (223, Instr.bastore, 1), (224, Instr.dup, 1), (225, Instr.bipush 30, 2), (227, Instr.bipush 107, 2), (229, Instr.bastore, 1), (230, Instr.dup, 1), (231, Instr.bipush 31, 2), (233, Instr.bipush 105, 2), (235, Instr.bastore, 1), (236, Instr.dup, 1), (237, Instr.bipush 32, 2), (239, Instr.bipush 110, 2), (241, Instr.bastore, 1), (242, Instr.dup, 1), (243, Instr.bipush 33, 2), (245, Instr.bipush 100, 2), (247, Instr.bastore, 1), (248, Instr.dup, 1), (249, Instr.bipush 34, 2), (251, Instr.bipush 32, 2), (253, Instr.bastore, 1), (254, Instr.dup, 1), (255, Instr.bipush 35, 2), (257, Instr.bipush 104, 2), (259, Instr.bastore, 1), (260, Instr.dup, 1), (261, Instr.bipush 36, 2), (263, Instr.bipush 117, 2), (265, Instr.bastore, 1), (266, Instr.dup, 1), (267, Instr.bipush 37, 2), (269, Instr.bipush 114, 2), (271, Instr.bastore, 1), (272, Instr.dup, 1), (273, Instr.bipush 38, 2), (275, Instr.bipush 114, 2), (277, Instr.bastore, 1), (278, Instr.dup, 1), (279, Instr.bipush 39, 2), (281, Instr.bipush 121, 2), (283, Instr.bastore, 1), (284, Instr.dup, 1), (285, Instr.bipush 40, 2), (287, Instr.bipush 32, 2), (289, Instr.bastore, 1), (290, Instr.dup, 1), (291, Instr.bipush 41, 2), (293, Instr.bipush 103, 2), (295, Instr.bastore, 1), (296, Instr.dup, 1), (297, Instr.bipush 42, 2), (299, Instr.bipush 97, 2), (301, Instr.bastore, 1), (302, Instr.dup, 1), (303, Instr.bipush 43, 2), (305, Instr.bipush 116, 2), (307, Instr.bastore, 1), (308, Instr.dup, 1), (309, Instr.bipush 44, 2), (311, Instr.bipush 101, 2), (313, Instr.bastore, 1), (314, Instr.dup, 1), (315, Instr.bipush 45, 2), (317, Instr.bipush 32, 2), (319, Instr.bastore, 1), (320, Instr.dup, 1), (321, Instr.bipush 46, 2), (323, Instr.bipush 103, 2), (325, Instr.bastore, 1), (326, Instr.dup, 1), (327, Instr.bipush 47, 2), (329, Instr.bipush 111, 2), (331, Instr.bastore, 1), (332, Instr.dup, 1), (333, Instr.bipush 48, 2), (335, Instr.bipush 101, 2), (337, Instr.bastore, 1), (338, Instr.dup, 1), (339, Instr.bipush 49, 2), (341, Instr.bipush 114, 2), (343, Instr.bastore, 1), (344, Instr.dup, 1), (345, Instr.bipush 50, 2), (347, Instr.bipush 32, 2), (349, Instr.bastore, 1), (350, Instr.dup, 1), (351, Instr.bipush 51, 2), (353, Instr.bipush 109, 2), (355, Instr.bastore, 1), (356, Instr.dup, 1), (357, Instr.bipush 52, 2), (359, Instr.bipush 111, 2), (361, Instr.bastore, 1), (362, Instr.dup, 1), (363, Instr.bipush 53, 2), (365, Instr.bipush 111, 2), (367, Instr.bastore, 1), (368, Instr.dup, 1), (369, Instr.bipush 54, 2), (371, Instr.bipush 100, 2), (373, Instr.bastore, 1), (374, Instr.dup, 1), (375, Instr.bipush 55, 2), (377, Instr.bipush 32, 2), (379, Instr.bastore, 1), (380, Instr.dup, 1), (381, Instr.bipush 56, 2), (383, Instr.bipush 97, 2), (385, Instr.bastore, 1), (386, Instr.dup, 1), (387, Instr.bipush 57, 2), (389, Instr.bipush 114, 2), (391, Instr.bastore, 1), (392, Instr.dup, 1), (393, Instr.bipush 58, 2), (395, Instr.bipush 109, 2), (397, Instr.bastore, 1), (398, Instr.dup, 1), (399, Instr.bipush 59, 2), (401, Instr.bipush 32, 2), (403, Instr.bastore, 1), (404, Instr.dup, 1), (405, Instr.bipush 60, 2), (407, Instr.bipush 109, 2), (409, Instr.bastore, 1), (410, Instr.dup, 1), (411, Instr.bipush 61, 2), (413, Instr.bipush 97, 2), (415, Instr.bastore, 1), (416, Instr.dup, 1), (417, Instr.bipush 62, 2), (419, Instr.bipush 110, 2), (421, Instr.bastore, 1), (422, Instr.dup, 1), (423, Instr.bipush 63, 2), (425, Instr.bipush 121, 2), (427, Instr.bastore, 1), (428, Instr.dup, 1), (429, Instr.bipush 64, 2), (431, Instr.bipush 32, 2), (433, Instr.bastore, 1), (434, Instr.dup, 1), (435, Instr.bipush 65, 2), (437, Instr.bipush 100, 2), (439, Instr.bastore, 1), (440, Instr.dup, 1), (441, Instr.bipush 66, 2), (443, Instr.bipush 97, 2), (445, Instr.bastore, 1), (446, Instr.dup, 1), (447, Instr.bipush 67, 2), (449, Instr.bipush 121, 2), (451, Instr.bastore, 1), (452, Instr.dup, 1), (453, Instr.bipush 68, 2), (455, Instr.bipush 32, 2), (457, Instr.bastore, 1), (458, Instr.dup, 1), (459, Instr.bipush 69, 2), (461, Instr.bipush 100, 2), (463, Instr.bastore, 1), (464, Instr.dup, 1), (465, Instr.bipush 70, 2), (467, Instr.bipush 111, 2), (469, Instr.bastore, 1), (470, Instr.dup, 1), (471, Instr.bipush 71, 2), (473, Instr.bipush 110, 2), (475, Instr.bastore, 1), (476, Instr.dup, 1), (477, Instr.bipush 72, 2), (479, Instr.bipush 101, 2), (481, Instr.bastore, 1), (482, Instr.dup, 1), (483, Instr.bipush 73, 2), (485, Instr.bipush 32, 2), (487, Instr.bastore, 1), (488, Instr.dup, 1), (489, Instr.bipush 74, 2), (491, Instr.bipush 108, 2), (493, Instr.bastore, 1), (494, Instr.dup, 1), (495, Instr.bipush 75, 2), (497, Instr.bipush 97, 2), (499, Instr.bastore, 1), (500, Instr.dup, 1), (501, Instr.bipush 76, 2), (503, Instr.bipush 116, 2), (505, Instr.bastore, 1), (506, Instr.dup, 1), (507, Instr.bipush 77, 2), (509, Instr.bipush 101, 2), (511, Instr.bastore, 1), (512, Instr.dup, 1), (513, Instr.bipush 78, 2), (515, Instr.bipush 115, 2), (517, Instr.bastore, 1), (518, Instr.dup, 1), (519, Instr.bipush 79, 2), (521, Instr.bipush 116, 2), (523, Instr.bastore, 1), (524, Instr.dup, 1), (525, Instr.bipush 80, 2), (527, Instr.bipush 32, 2), (529, Instr.bastore, 1), (530, Instr.dup, 1), (531, Instr.bipush 81, 2), (533, Instr.bipush 119, 2), (535, Instr.bastore, 1), (536, Instr.dup, 1), (537, Instr.bipush 82, 2), (539, Instr.bipush 104, 2), (541, Instr.bastore, 1), (542, Instr.dup, 1), (543, Instr.bipush 83, 2), (545, Instr.bipush 111, 2), (547, Instr.bastore, 1), (548, Instr.dup, 1), (549, Instr.bipush 84, 2), (551, Instr.bipush 108, 2), (553, Instr.bastore, 1), (554, Instr.dup, 1), (555, Instr.bipush 85, 2), (557, Instr.bipush 101, 2), (559, Instr.bastore, 1), (560, Instr.dup, 1), (561, Instr.bipush 86, 2), (563, Instr.bipush 32, 2), (565, Instr.bastore, 1), (566, Instr.dup, 1), (567, Instr.bipush 87, 2), (569, Instr.bipush 112, 2), (571, Instr.bastore, 1), (572, Instr.dup, 1), (573, Instr.bipush 88, 2), (575, Instr.bipush 97, 2), (577, Instr.bastore, 1), (578, Instr.dup, 1), (579, Instr.bipush 89, 2), (581, Instr.bipush 114, 2), (583, Instr.bastore, 1), (584, Instr.dup, 1), (585, Instr.bipush 90, 2), (587, Instr.bipush 107, 2), (589, Instr.bastore, 1), (590, Instr.dup, 1), (591, Instr.bipush 91, 2), (593, Instr.bipush 32, 2), (595, Instr.bastore, 1), (596, Instr.dup, 1), (597, Instr.bipush 92, 2), (599, Instr.bipush 103, 2), (601, Instr.bastore, 1), (602, Instr.dup, 1), (603, Instr.bipush 93, 2), (605, Instr.bipush 111, 2), (607, Instr.bastore, 1), (608, Instr.dup, 1), (609, Instr.bipush 94, 2), (611, Instr.bipush 32, 2), (613, Instr.bastore, 1), (614, Instr.dup, 1), (615, Instr.bipush 95, 2), (617, Instr.bipush 98, 2), (619, Instr.bastore, 1), (620, Instr.dup, 1), (621, Instr.bipush 96, 2), (623, Instr.bipush 121, 2), (625, Instr.bastore, 1), (626, Instr.dup, 1), (627, Instr.bipush 97, 2), (629, Instr.bipush 32, 2), (631, Instr.bastore, 1), (632, Instr.dup, 1), (633, Instr.bipush 98, 2), (635, Instr.bipush 108, 2), (637, Instr.bastore, 1), (638, Instr.dup, 1), (639, Instr.bipush 99, 2), (641, Instr.bipush 97, 2), (643, Instr.bastore, 1), (644, Instr.dup, 1), (645, Instr.bipush 100, 2), (647, Instr.bipush 116, 2), (649, Instr.bastore, 1), (650, Instr.dup, 1), (651, Instr.bipush 101, 2), (653, Instr.bipush 99, 2), (655, Instr.bastore, 1), (656, Instr.dup, 1), (657, Instr.bipush 102, 2), (659, Instr.bipush 104, 2), (661, Instr.bastore, 1), (662, Instr.dup, 1), (663, Instr.bipush 103, 2), (665, Instr.bipush 32, 2), (667, Instr.bastore, 1), (668, Instr.dup, 1), (669, Instr.bipush 104, 2), (671, Instr.bipush 115, 2), (673, Instr.bastore, 1), (674, Instr.dup, 1), (675, Instr.bipush 105, 2), (677, Instr.bipush 101, 2), (679, Instr.bastore, 1), (680, Instr.dup, 1), (681, Instr.bipush 106, 2), (683, Instr.bipush 116, 2), (685, Instr.bastore, 1), (686, Instr.dup, 1), (687, Instr.bipush 107, 2), (689, Instr.bipush 32, 2), (691, Instr.bastore, 1), (692, Instr.dup, 1), (693, Instr.bipush 108, 2), (695, Instr.bipush 97, 2), (697, Instr.bastore, 1), (698, Instr.dup, 1), (699, Instr.bipush 109, 2), (701, Instr.bipush 115, 2), (703, Instr.bastore, 1), (704, Instr.dup, 1), (705, Instr.bipush 110, 2), (707, Instr.bipush 32, 2), (709, Instr.bastore, 1), (710, Instr.dup, 1), (711, Instr.bipush 111, 2), (713, Instr.bipush 112, 2), (715, Instr.bastore, 1), (716, Instr.dup, 1), (717, Instr.bipush 112, 2), (719, Instr.bipush 97, 2), (721, Instr.bastore, 1), (722, Instr.dup, 1), (723, Instr.bipush 113, 2), (725, Instr.bipush 115, 2), (727, Instr.bastore, 1), (728, Instr.dup, 1), (729, Instr.bipush 114, 2), (731, Instr.bipush 115, 2), (733, Instr.bastore, 1), (734, Instr.dup, 1), (735, Instr.bipush 115, 2), (737, Instr.bipush 32, 2), (739, Instr.bastore, 1), (740, Instr.dup, 1), (741, Instr.bipush 116, 2), (743, Instr.bipush 116, 2), (745, Instr.bastore, 1), (746, Instr.dup, 1), (747, Instr.bipush 117, 2), (749, Instr.bipush 105, 2), (751, Instr.bastore, 1), (752, Instr.dup, 1), (753, Instr.bipush 118, 2), (755, Instr.bipush 109, 2), (757, Instr.bastore, 1), (758, Instr.dup, 1), (759, Instr.bipush 119, 2), (761, Instr.bipush 101, 2), (763, Instr.bastore, 1), (764, Instr.dup, 1), (765, Instr.bipush 120, 2), (767, Instr.bipush 115, 2), (769, Instr.bastore, 1), (770, Instr.dup, 1), (771, Instr.bipush 121, 2), (773, Instr.bipush 32, 2), (775, Instr.bastore, 1), (776, Instr.putfield 41, 3), (779, Instr.aload_n 0, 1), (780, Instr.sipush 400, 3), (783, Instr.newarray .byte, 2), (785, Instr.putfield 45, 3), (788, Instr.aload_n 0, 1), (789, Instr.iconst 5, 1), (790, Instr.newarray .int, 2), (792, Instr.putfield 48, 3), (795, Instr.aload_n 0, 1), (796, Instr.iconst (-1), 1), (797, Instr.putfield 51, 3), (800, Instr.aload_n 0, 1), (801, Instr.sipush 401, 3), (804, Instr.newarray .int, 2), (806, Instr.putfield 54, 3), (809, Instr.aload_n 0, 1), (810, Instr.sipush 401, 3), (813, Instr.newarray .int, 2), (815, Instr.putfield 57, 3), (818, Instr.aload_n 0, 1), (819, Instr.sipush 401, 3), (822, Instr.newarray .int, 2), (824, Instr.putfield 60, 3), (827, Instr.aload_n 0, 1), (828, Instr.bipush 8, 2), (830, Instr.newarray .int, 2), (832, Instr.putfield 63, 3), (835, Instr.aload_n 0, 1), (836, Instr.sipush 592, 3), (839, Instr.newarray .int, 2), (841, Instr.putfield 66, 3), (844, Instr.aload_n 0, 1), (845, Instr.sipush 592, 3), (848, Instr.newarray .int, 2), (850, Instr.putfield 69, 3), (853, Instr.aload_n 0, 1), (854, Instr.sipush 200, 3), (857, Instr.newarray .int, 2), (859, Instr.putfield 72, 3), (862, Instr.aload_n 0, 1), (863, Instr.sipush 200, 3), (866, Instr.newarray .int, 2), (868, Instr.putfield 75, 3), (871, Instr.aload_n 0, 1), (872, Instr.bipush 120, 2), (874, Instr.newarray .int, 2), (876, Instr.putfield 78, 3), (879, Instr.aload_n 0, 1), (880, Instr.bipush 120, 2), (882, Instr.newarray .int, 2), (884, Instr.putfield 81, 3), (887, Instr.aload_n 0, 1), (888, Instr.bipush 120, 2), (890, Instr.newarray .int, 2), (892, Instr.putfield 84, 3), (895, Instr.aload_n 0, 1), (896, Instr.bipush 120, 2), (898, Instr.newarray .long, 2), (900, Instr.putfield 87, 3), (903, Instr.aload_n 0, 1), (904, Instr.bipush 120, 2), (906, Instr.newarray .long, 2), (908, Instr.putfield 91, 3), (911, Instr.aload_n 0, 1), (912, Instr.bipush 20, 2), (914, Instr.newarray .int, 2), (916, Instr.putfield 94, 3), (919, Instr.aload_n 0, 1), (920, Instr.bipush 120, 2), (922, Instr.newarray .int, 2), (924, Instr.putfield 97, 3), (927, Instr.aload_n 0, 1), (928, Instr.bipush 21, 2), (930, Instr.newarray .int, 2), (932, Instr.putfield 100, 3), (935, Instr.aload_n 0, 1), (936, Instr.bipush 21, 2), (938, Instr.newarray .long, 2), (940, Instr.putfield 103, 3), (943, Instr.aload_n 0, 1), (944, Instr.iconst (-1), 1), (945, Instr.putfield 106, 3), (948, Instr.aload_n 0, 1), (949, Instr.iconst 2, 1), (950, Instr.newarray .long, 2), (952, Instr.putfield 109, 3), (955, Instr.aload_n 0, 1), (956, Instr.bipush 36, 2), (958, Instr.newarray .int, 2), (960, Instr.putfield 112, 3), (963, Instr.aload_n 0, 1), (964, Instr.iconst (-1), 1), (965, Instr.putfield 115, 3), (968, Instr.aload_n 0, 1), (969, Instr.getfield 28, 3), (972, Instr.bipush 89, 2), (974, Instr.iconst 1, 1), (975, Instr.iastore, 1), (976, Instr.aload_n 0, 1), (977, Instr.getfield 28, 3), (980, Instr.bipush 95, 2), (982, Instr.iconst (-1), 1), (983, Instr.iastore, 1), (984, Instr.return_, 1)]
set_option maxRecDepth 20000 in
theorem tkX11_init_0 : (((tbX11_init.drop 0).take 100).all fun q => decide (decode cX11_init q.1 = .ok q.2)) = true := by decide +kernel
set_option maxRecDepth 20000 in
theorem tkX11_init_1 : (((tbX11_init.drop 100).take 100).all fun q => decide (decode cX11_init q.1 = .ok q.2)) = true := by decide +kernel
set_option maxRecDepth 20000 in
theorem tkX11_init_2 : (((tbX11_init.drop 200).take 100).all fun q => decide (decode cX11_init q.1 = .ok q.2)) = true := by decide +kernel
set_option maxRecDepth 20000 in
theorem tkX11_init_3 : (((tbX11_init.drop 300).take 100).all fun q => decide (decode cX11_init q.1 = .ok q.2)) = true := by decide +kernel
set_option maxRecDepth 20000 in
theorem tkX11_init_4 : (((tbX11_init.drop 400).take 100).all fun q => decide (decode cX11_init q.1 = .ok q.2)) = true := by decide +kernel
set_option maxRecDepth 20000 in
theorem tkX11_init_5 : (((tbX11_init.drop 500).take 100).all fun q => decide (decode cX11_init q.1 = .ok q.2)) = true := by decide +kernel
set_option maxRecDepth 20000 in
theorem tkX11_init_6 : (((tbX11_init.drop 600).take 100).all fun q => decide (decode cX11_init q.1 = .ok q.2)) = true := by decide +kernel
def mX11_init : Nat × MethodName × ByteArray × Nat × Option FieldType × List (Nat × Instr × Nat) × Option (Nat × (Nat → Int32)) := (11, yX11_init, cX11_init, 1, none, tbX11_init, none)
def tbX11_laysAside : List (Nat × Instr × Nat) := [(0, Instr.iconst 0, 1), (1, Instr.istore_n 2, 1), (2, Instr.iload_n 2, 1), (3, Instr.bipush 36, 2), (5, Instr.if_icmp .ge 26, 3), (8, Instr.aload_n 0, 1), (9, Instr.getfield 38, 3), (12, Instr.bipush 36, 2), (14, Instr.iload_n 1, 1), (15, Instr.imul, 1), (16, Instr.iload_n 2, 1), (17, Instr.iadd, 1), (18, Instr.aload_n 0, 1), (19, Instr.getfield 28, 3), (22, Instr.iload_n 2, 1), (23, Instr.iaload, 1), (24, Instr.iastore, 1), (25, Instr.iinc 2 1, 3), (28, Instr.goto (-26), 3), (31, Instr.return_, 1)]
set_option maxRecDepth 20000 in
theorem tkX11_laysAside : (tbX11_laysAside.all fun q => decide (decode cX11_laysAside q.1 = .ok q.2)) = true := by decide +kernel
def mX11_laysAside : Nat × MethodName × ByteArray × Nat × Option FieldType × List (Nat × Instr × Nat) × Option (Nat × (Nat → Int32)) := (11, yX11_laysAside, cX11_laysAside, 3, none, tbX11_laysAside, none)
def tbX11_takesBack : List (Nat × Instr × Nat) := [(0, Instr.iconst 0, 1), (1, Instr.istore_n 2, 1), (2, Instr.iload_n 2, 1), (3, Instr.bipush 36, 2), (5, Instr.if_icmp .ge 26, 3), (8, Instr.aload_n 0, 1), (9, Instr.getfield 28, 3), (12, Instr.iload_n 2, 1), (13, Instr.aload_n 0, 1), (14, Instr.getfield 38, 3), (17, Instr.bipush 36, 2), (19, Instr.iload_n 1, 1), (20, Instr.imul, 1), (21, Instr.iload_n 2, 1), (22, Instr.iadd, 1), (23, Instr.iaload, 1), (24, Instr.iastore, 1), (25, Instr.iinc 2 1, 3), (28, Instr.goto (-26), 3), (31, Instr.return_, 1)]
set_option maxRecDepth 20000 in
theorem tkX11_takesBack : (tbX11_takesBack.all fun q => decide (decode cX11_takesBack q.1 = .ok q.2)) = true := by decide +kernel
def mX11_takesBack : Nat × MethodName × ByteArray × Nat × Option FieldType × List (Nat × Instr × Nat) × Option (Nat × (Nat → Int32)) := (11, yX11_takesBack, cX11_takesBack, 3, none, tbX11_takesBack, none)
def tbX11_image : List (Nat × Instr × Nat) := [(0, Instr.iload_n 1, 1), (1, Instr.iconst 0, 1), (2, Instr.iconst 1, 1), (3, Instr.invokestatic 18, 3), (6, Instr.ifCond .ne 9, 3), (9, Instr.aload_n 0, 1), (10, Instr.iconst (-1), 1), (11, Instr.invokevirtual 118, 3), (14, Instr.ireturn, 1), (15, Instr.iconst 0, 1), (16, Instr.istore_n 2, 1), (17, Instr.iload_n 2, 1), (18, Instr.sipush 5703, 3), (21, Instr.if_icmp .ge 27, 3), (24, Instr.aload_n 0, 1), (25, Instr.getfield 31, 3), (28, Instr.sipush 5703, 3), (31, Instr.iload_n 1, 1), (32, Instr.imul, 1), (33, Instr.iload_n 2, 1), (34, Instr.iadd, 1), (35, Instr.aload_n 0, 1), (36, Instr.getfield 28, 3), (39, Instr.iload_n 2, 1), (40, Instr.iaload, 1), (41, Instr.iastore, 1), (42, Instr.iinc 2 1, 3), (45, Instr.goto (-28), 3), (48, Instr.aload_n 0, 1), (49, Instr.getfield 34, 3), (52, Instr.iload_n 1, 1), (53, Instr.iconst 1, 1), (54, Instr.bastore, 1), (55, Instr.aload_n 0, 1), (56, Instr.iconst 0, 1), (57, Instr.invokevirtual 14, 3), (60, Instr.ireturn, 1)]
set_option maxRecDepth 20000 in
theorem tkX11_image : (tbX11_image.all fun q => decide (decode cX11_image q.1 = .ok q.2)) = true := by decide +kernel
def mX11_image : Nat × MethodName × ByteArray × Nat × Option FieldType × List (Nat × Instr × Nat) × Option (Nat × (Nat → Int32)) := (11, yX11_image, cX11_image, 3, (some .int), tbX11_image, none)
def tbX11_back : List (Nat × Instr × Nat) := [(0, Instr.iload_n 1, 1), (1, Instr.iconst 0, 1), (2, Instr.iconst 1, 1), (3, Instr.invokestatic 18, 3), (6, Instr.ifCond .ne 9, 3), (9, Instr.aload_n 0, 1), (10, Instr.iconst (-1), 1), (11, Instr.invokevirtual 118, 3), (14, Instr.ireturn, 1), (15, Instr.aload_n 0, 1), (16, Instr.getfield 34, 3), (19, Instr.iload_n 1, 1), (20, Instr.baload, 1), (21, Instr.ifCond .ne 10, 3), (24, Instr.aload_n 0, 1), (25, Instr.bipush (-2), 2), (27, Instr.invokevirtual 118, 3), (30, Instr.ireturn, 1), (31, Instr.iconst 0, 1), (32, Instr.istore_n 2, 1), (33, Instr.iload_n 2, 1), (34, Instr.sipush 5703, 3), (37, Instr.if_icmp .ge 27, 3), (40, Instr.aload_n 0, 1), (41, Instr.getfield 28, 3), (44, Instr.iload_n 2, 1), (45, Instr.aload_n 0, 1), (46, Instr.getfield 31, 3), (49, Instr.sipush 5703, 3), (52, Instr.iload_n 1, 1), (53, Instr.imul, 1), (54, Instr.iload_n 2, 1), (55, Instr.iadd, 1), (56, Instr.iaload, 1), (57, Instr.iastore, 1), (58, Instr.iinc 2 1, 3), (61, Instr.goto (-28), 3), (64, Instr.aload_n 0, 1), (65, Instr.iconst 0, 1), (66, Instr.invokevirtual 121, 3), (69, Instr.ireturn, 1)]
set_option maxRecDepth 20000 in
theorem tkX11_back : (tbX11_back.all fun q => decide (decode cX11_back q.1 = .ok q.2)) = true := by decide +kernel
def mX11_back : Nat × MethodName × ByteArray × Nat × Option FieldType × List (Nat × Instr × Nat) × Option (Nat × (Nat → Int32)) := (11, yX11_back, cX11_back, 3, (some .int), tbX11_back, none)
def tbX11_gateMany : List (Nat × Instr × Nat) := [(0, Instr.aload_n 0, 1), (1, Instr.getfield 28, 3), (4, Instr.bipush 91, 2), (6, Instr.iaload, 1), (7, Instr.ireturn, 1)]
set_option maxRecDepth 20000 in
theorem tkX11_gateMany : (tbX11_gateMany.all fun q => decide (decode cX11_gateMany q.1 = .ok q.2)) = true := by decide +kernel
def mX11_gateMany : Nat × MethodName × ByteArray × Nat × Option FieldType × List (Nat × Instr × Nat) × Option (Nat × (Nat → Int32)) := (11, yX11_gateMany, cX11_gateMany, 1, (some .int), tbX11_gateMany, none)
def tbX11_isGate : List (Nat × Instr × Nat) := [(0, Instr.iload_n 1, 1), (1, Instr.iconst 0, 1), (2, Instr.aload_n 0, 1), (3, Instr.invokevirtual 124, 3), (6, Instr.iconst 1, 1), (7, Instr.isub, 1), (8, Instr.invokestatic 18, 3), (11, Instr.ireturn, 1)]
set_option maxRecDepth 20000 in
theorem tkX11_isGate : (tbX11_isGate.all fun q => decide (decode cX11_isGate q.1 = .ok q.2)) = true := by decide +kernel
def mX11_isGate : Nat × MethodName × ByteArray × Nat × Option FieldType × List (Nat × Instr × Nat) × Option (Nat × (Nat → Int32)) := (11, yX11_isGate, cX11_isGate, 2, (some .boolean), tbX11_isGate, none)
def tbX11_isGoer : List (Nat × Instr × Nat) := [(0, Instr.iload_n 1, 1), (1, Instr.iconst 0, 1), (2, Instr.aload_n 0, 1), (3, Instr.getfield 28, 3), (6, Instr.bipush 92, 2), (8, Instr.iaload, 1), (9, Instr.iconst 1, 1), (10, Instr.isub, 1), (11, Instr.invokestatic 18, 3), (14, Instr.ireturn, 1)]
set_option maxRecDepth 20000 in
theorem tkX11_isGoer : (tbX11_isGoer.all fun q => decide (decode cX11_isGoer q.1 = .ok q.2)) = true := by decide +kernel
def mX11_isGoer : Nat × MethodName × ByteArray × Nat × Option FieldType × List (Nat × Instr × Nat) × Option (Nat × (Nat → Int32)) := (11, yX11_isGoer, cX11_isGoer, 2, (some .boolean), tbX11_isGoer, none)
def tbX11_canGate : List (Nat × Instr × Nat) := [(0, Instr.iload_n 0, 1), (1, Instr.invokestatic 128, 3), (4, Instr.ifCond .eq 31, 3), (7, Instr.iload_n 1, 1), (8, Instr.invokestatic 128, 3), (11, Instr.ifCond .eq 24, 3), (14, Instr.iload_n 2, 1), (15, Instr.iconst 0, 1), (16, Instr.bipush 7, 2), (18, Instr.invokestatic 18, 3), (21, Instr.ifCond .eq 14, 3), (24, Instr.iload_n 3, 1), (25, Instr.invokestatic 132, 3), (28, Instr.ifCond .eq 7, 3), (31, Instr.iconst 1, 1), (32, Instr.goto 4, 3), (35, Instr.iconst 0, 1), (36, Instr.ireturn, 1)]
set_option maxRecDepth 20000 in
theorem tkX11_canGate : (tbX11_canGate.all fun q => decide (decode cX11_canGate q.1 = .ok q.2)) = true := by decide +kernel
def mX11_canGate : Nat × MethodName × ByteArray × Nat × Option FieldType × List (Nat × Instr × Nat) × Option (Nat × (Nat → Int32)) := (11, yX11_canGate, cX11_canGate, 4, (some .boolean), tbX11_canGate, none)
def tbX11_adds : List (Nat × Instr × Nat) := [(0, Instr.aload_n 0, 1), (1, Instr.invokevirtual 124, 3), (4, Instr.istore 5, 2), (6, Instr.aload_n 0, 1), (7, Instr.getfield 28, 3), (10, Instr.bipush 36, 2), (12, Instr.iload 5, 2), (14, Instr.iadd, 1), (15, Instr.iload_n 1, 1), (16, Instr.iastore, 1), (17, Instr.aload_n 0, 1), (18, Instr.getfield 28, 3), (21, Instr.bipush 46, 2), (23, Instr.iload 5, 2), (25, Instr.iadd, 1), (26, Instr.iload_n 2, 1), (27, Instr.iastore, 1), (28, Instr.aload_n 0, 1), (29, Instr.getfield 28, 3), (32, Instr.bipush 56, 2), (34, Instr.iload 5, 2), (36, Instr.iadd, 1), (37, Instr.iload_n 3, 1), (38, Instr.iastore, 1), (39, Instr.aload_n 0, 1), (40, Instr.getfield 28, 3), (43, Instr.bipush 15, 2), (45, Instr.iload 5, 2), (47, Instr.iadd, 1), (48, Instr.iload 4, 2), (50, Instr.iastore, 1), (51, Instr.aload_n 0, 1), (52, Instr.getfield 28, 3), (55, Instr.bipush 25, 2), (57, Instr.iload 5, 2), (59, Instr.iadd, 1), (60, Instr.iconst 1, 1), (61, Instr.iastore, 1), (62, Instr.aload_n 0, 1), (63, Instr.getfield 28, 3), (66, Instr.bipush 91, 2), (68, Instr.dup2, 1), (69, Instr.iaload, 1), (70, Instr.iconst 1, 1), (71, Instr.iadd, 1), (72, Instr.iastore, 1), (73, Instr.return_, 1)]
set_option maxRecDepth 20000 in
theorem tkX11_adds : (tbX11_adds.all fun q => decide (decode cX11_adds q.1 = .ok q.2)) = true := by decide +kernel
def mX11_adds : Nat × MethodName × ByteArray × Nat × Option FieldType × List (Nat × Instr × Nat) × Option (Nat × (Nat → Int32)) := (11, yX11_adds, cX11_adds, 6, none, tbX11_adds, none)
def tbX11_gate : List (Nat × Instr × Nat) := [(0, Instr.iload_n 1, 1), (1, Instr.iload_n 2, 1), (2, Instr.iload_n 3, 1), (3, Instr.iload 4, 2), (5, Instr.invokestatic 135, 3), (8, Instr.ifCond .ne 9, 3), (11, Instr.aload_n 0, 1), (12, Instr.iconst (-1), 1), (13, Instr.invokevirtual 118, 3), (16, Instr.ireturn, 1), (17, Instr.aload_n 0, 1), (18, Instr.invokevirtual 124, 3), (21, Instr.bipush 10, 2), (23, Instr.if_icmp .ne 10, 3), (26, Instr.aload_n 0, 1), (27, Instr.bipush (-5), 2), (29, Instr.invokevirtual 118, 3), (32, Instr.ireturn, 1), (33, Instr.aload_n 0, 1), (34, Instr.iload_n 1, 1), (35, Instr.iload_n 2, 1), (36, Instr.iload_n 3, 1), (37, Instr.iload 4, 2), (39, Instr.invokevirtual 139, 3), (42, Instr.aload_n 0, 1), (43, Instr.aload_n 0, 1), (44, Instr.invokevirtual 124, 3), (47, Instr.iconst 1, 1), (48, Instr.isub, 1), (49, Instr.invokevirtual 121, 3), (52, Instr.ireturn, 1)]
set_option maxRecDepth 20000 in
theorem tkX11_gate : (tbX11_gate.all fun q => decide (decode cX11_gate q.1 = .ok q.2)) = true := by decide +kernel
def mX11_gate : Nat × MethodName × ByteArray × Nat × Option FieldType × List (Nat × Instr × Nat) × Option (Nat × (Nat → Int32)) := (11, yX11_gate, cX11_gate, 5, (some .int), tbX11_gate, none)
def tbX11_at : List (Nat × Instr × Nat) := [(0, Instr.aload_n 0, 1), (1, Instr.iload_n 1, 1), (2, Instr.invokevirtual 143, 3), (5, Instr.ifCond .ne 5, 3), (8, Instr.iconst (-1), 1), (9, Instr.ireturn, 1), (10, Instr.iload_n 2, 1), (11, Instr.tableswitch 83 0 4 #[33, 43, 53, 63, 73], 33), (44, Instr.aload_n 0, 1), (45, Instr.getfield 28, 3), (48, Instr.bipush 36, 2), (50, Instr.iload_n 1, 1), (51, Instr.iadd, 1), (52, Instr.iaload, 1), (53, Instr.ireturn, 1), (54, Instr.aload_n 0, 1), (55, Instr.getfield 28, 3), (58, Instr.bipush 46, 2), (60, Instr.iload_n 1, 1), (61, Instr.iadd, 1), (62, Instr.iaload, 1), (63, Instr.ireturn, 1), (64, Instr.aload_n 0, 1), (65, Instr.getfield 28, 3), (68, Instr.bipush 56, 2), (70, Instr.iload_n 1, 1), (71, Instr.iadd, 1), (72, Instr.iaload, 1), (73, Instr.ireturn, 1), (74, Instr.aload_n 0, 1), (75, Instr.getfield 28, 3), (78, Instr.bipush 15, 2), (80, Instr.iload_n 1, 1), (81, Instr.iadd, 1), (82, Instr.iaload, 1), (83, Instr.ireturn, 1), (84, Instr.aload_n 0, 1), (85, Instr.getfield 28, 3), (88, Instr.bipush 25, 2), (90, Instr.iload_n 1, 1), (91, Instr.iadd, 1), (92, Instr.iaload, 1), (93, Instr.ireturn, 1), (94, Instr.iconst (-1), 1), (95, Instr.ireturn, 1)]
set_option maxRecDepth 20000 in
theorem tkX11_at : (tbX11_at.all fun q => decide (decode cX11_at q.1 = .ok q.2)) = true := by decide +kernel
def mX11_at : Nat × MethodName × ByteArray × Nat × Option FieldType × List (Nat × Instr × Nat) × Option (Nat × (Nat → Int32)) := (11, yX11_at, cX11_at, 3, (some .int), tbX11_at, none)
def tbX11_goer : List (Nat × Instr × Nat) := [(0, Instr.iload_n 1, 1), (1, Instr.invokestatic 128, 3), (4, Instr.ifCond .eq 19, 3), (7, Instr.iload_n 2, 1), (8, Instr.invokestatic 146, 3), (11, Instr.ifCond .eq 12, 3), (14, Instr.iload_n 3, 1), (15, Instr.iconst 0, 1), (16, Instr.iconst 3, 1), (17, Instr.invokestatic 18, 3), (20, Instr.ifCond .ne 9, 3), (23, Instr.aload_n 0, 1), (24, Instr.iconst (-1), 1), (25, Instr.invokevirtual 118, 3), (28, Instr.ireturn, 1), (29, Instr.aload_n 0, 1), (30, Instr.getfield 28, 3), (33, Instr.bipush 92, 2), (35, Instr.iaload, 1), (36, Instr.istore 4, 2), (38, Instr.iload 4, 2), (40, Instr.iconst 5, 1), (41, Instr.if_icmp .ne 10, 3), (44, Instr.aload_n 0, 1), (45, Instr.bipush (-5), 2), (47, Instr.invokevirtual 118, 3), (50, Instr.ireturn, 1), (51, Instr.aload_n 0, 1), (52, Instr.getfield 28, 3), (55, Instr.iconst 0, 1), (56, Instr.iload 4, 2), (58, Instr.iadd, 1), (59, Instr.iload_n 1, 1), (60, Instr.iastore, 1), (61, Instr.aload_n 0, 1), (62, Instr.getfield 28, 3), (65, Instr.iconst 5, 1), (66, Instr.iload 4, 2), (68, Instr.iadd, 1), (69, Instr.iload_n 2, 1), (70, Instr.iastore, 1), (71, Instr.aload_n 0, 1), (72, Instr.getfield 28, 3), (75, Instr.bipush 10, 2), (77, Instr.iload 4, 2), (79, Instr.iadd, 1), (80, Instr.iconst 0, 1), (81, Instr.iastore, 1), (82, Instr.aload_n 0, 1), (83, Instr.getfield 28, 3), (86, Instr.bipush 66, 2), (88, Instr.iload 4, 2), (90, Instr.iadd, 1), (91, Instr.iload_n 3, 1), (92, Instr.iastore, 1), (93, Instr.aload_n 0, 1), (94, Instr.getfield 28, 3), (97, Instr.bipush 92, 2), (99, Instr.dup2, 1), (100, Instr.iaload, 1), (101, Instr.iconst 1, 1), (102, Instr.iadd, 1), (103, Instr.iastore, 1), (104, Instr.aload_n 0, 1), (105, Instr.iload 4, 2), (107, Instr.invokevirtual 121, 3), (110, Instr.ireturn, 1)]
set_option maxRecDepth 20000 in
theorem tkX11_goer : (tbX11_goer.all fun q => decide (decode cX11_goer q.1 = .ok q.2)) = true := by decide +kernel
def mX11_goer : Nat × MethodName × ByteArray × Nat × Option FieldType × List (Nat × Instr × Nat) × Option (Nat × (Nat → Int32)) := (11, yX11_goer, cX11_goer, 5, (some .int), tbX11_goer, none)
end TABS
end
section
section TABS
def tbX11_of : List (Nat × Instr × Nat) := [(0, Instr.aload_n 0, 1), (1, Instr.iload_n 1, 1), (2, Instr.invokevirtual 149, 3), (5, Instr.ifCond .ne 5, 3), (8, Instr.iconst (-1), 1), (9, Instr.ireturn, 1), (10, Instr.iload_n 2, 1), (11, Instr.tableswitch 77 0 4 #[33, 42, 51, 61, 71], 33), (44, Instr.aload_n 0, 1), (45, Instr.getfield 28, 3), (48, Instr.iconst 0, 1), (49, Instr.iload_n 1, 1), (50, Instr.iadd, 1), (51, Instr.iaload, 1), (52, Instr.ireturn, 1), (53, Instr.aload_n 0, 1), (54, Instr.getfield 28, 3), (57, Instr.iconst 5, 1), (58, Instr.iload_n 1, 1), (59, Instr.iadd, 1), (60, Instr.iaload, 1), (61, Instr.ireturn, 1), (62, Instr.aload_n 0, 1), (63, Instr.getfield 28, 3), (66, Instr.bipush 66, 2), (68, Instr.iload_n 1, 1), (69, Instr.iadd, 1), (70, Instr.iaload, 1), (71, Instr.ireturn, 1), (72, Instr.aload_n 0, 1), (73, Instr.getfield 28, 3), (76, Instr.bipush 10, 2), (78, Instr.iload_n 1, 1), (79, Instr.iadd, 1), (80, Instr.iaload, 1), (81, Instr.ireturn, 1), (82, Instr.aload_n 0, 1), (83, Instr.iload_n 1, 1), (84, Instr.invokevirtual 152, 3), (87, Instr.ireturn, 1), (88, Instr.iconst (-1), 1), (89, Instr.ireturn, 1)]
set_option maxRecDepth 20000 in
theorem tkX11_of : (tbX11_of.all fun q => decide (decode cX11_of q.1 = .ok q.2)) = true := by decide +kernel
def mX11_of : Nat × MethodName × ByteArray × Nat × Option FieldType × List (Nat × Instr × Nat) × Option (Nat × (Nat → Int32)) := (11, yX11_of, cX11_of, 3, (some .int), tbX11_of, none)
def tbX11_gatesOf : List (Nat × Instr × Nat) := [(0, Instr.iconst 0, 1), (1, Instr.istore_n 2, 1), (2, Instr.iconst 0, 1), (3, Instr.istore_n 3, 1), (4, Instr.iload_n 3, 1), (5, Instr.aload_n 0, 1), (6, Instr.invokevirtual 124, 3), (9, Instr.if_icmp .ge 28, 3), (12, Instr.iload_n 2, 1), (13, Instr.aload_n 0, 1), (14, Instr.iload_n 1, 1), (15, Instr.iload_n 3, 1), (16, Instr.invokevirtual 155, 3), (19, Instr.ifCond .eq 9, 3), (22, Instr.iconst 1, 1), (23, Instr.iload_n 3, 1), (24, Instr.ishl, 1), (25, Instr.goto 4, 3), (28, Instr.iconst 0, 1), (29, Instr.ior, 1), (30, Instr.istore_n 2, 1), (31, Instr.iinc 3 1, 3), (34, Instr.goto (-30), 3), (37, Instr.iload_n 2, 1), (38, Instr.ireturn, 1)]
set_option maxRecDepth 20000 in
theorem tkX11_gatesOf : (tbX11_gatesOf.all fun q => decide (decode cX11_gatesOf q.1 = .ok q.2)) = true := by decide +kernel
def mX11_gatesOf : Nat × MethodName × ByteArray × Nat × Option FieldType × List (Nat × Instr × Nat) × Option (Nat × (Nat → Int32)) := (11, yX11_gatesOf, cX11_gatesOf, 4, (some .int), tbX11_gatesOf, none)
def tbX11_asks : List (Nat × Instr × Nat) := [(0, Instr.aload_n 0, 1), (1, Instr.iload_n 1, 1), (2, Instr.invokevirtual 149, 3), (5, Instr.ifCond .eq 18, 3), (8, Instr.aload_n 0, 1), (9, Instr.iload_n 2, 1), (10, Instr.invokevirtual 143, 3), (13, Instr.ifCond .eq 10, 3), (16, Instr.iload_n 3, 1), (17, Instr.invokestatic 146, 3), (20, Instr.ifCond .ne 5, 3), (23, Instr.iconst (-1), 1), (24, Instr.ireturn, 1), (25, Instr.aload_n 0, 1), (26, Instr.iload_n 1, 1), (27, Instr.iload_n 2, 1), (28, Instr.iload_n 3, 1), (29, Instr.invokevirtual 159, 3), (32, Instr.iload 4, 2), (34, Instr.tableswitch 49 0 2 #[26, 31, 36], 26), (60, Instr.aload_n 0, 1), (61, Instr.invokevirtual 163, 3), (64, Instr.ireturn, 1), (65, Instr.aload_n 0, 1), (66, Instr.invokevirtual 166, 3), (69, Instr.ireturn, 1), (70, Instr.aload_n 0, 1), (71, Instr.invokevirtual 169, 3), (74, Instr.ifCond .eq 7, 3), (77, Instr.iconst 1, 1), (78, Instr.goto 4, 3), (81, Instr.iconst 0, 1), (82, Instr.ireturn, 1), (83, Instr.iconst (-1), 1), (84, Instr.ireturn, 1)]
set_option maxRecDepth 20000 in
theorem tkX11_asks : (tbX11_asks.all fun q => decide (decode cX11_asks q.1 = .ok q.2)) = true := by decide +kernel
def mX11_asks : Nat × MethodName × ByteArray × Nat × Option FieldType × List (Nat × Instr × Nat) × Option (Nat × (Nat → Int32)) := (11, yX11_asks, cX11_asks, 5, (some .int), tbX11_asks, none)
def tbX11_isTerm : List (Nat × Instr × Nat) := [(0, Instr.iload_n 0, 1), (1, Instr.tableswitch 52 0 2 #[27, 36, 44], 27), (28, Instr.iload_n 1, 1), (29, Instr.iconst 0, 1), (30, Instr.sipush 999, 3), (33, Instr.invokestatic 18, 3), (36, Instr.ireturn, 1), (37, Instr.iload_n 1, 1), (38, Instr.iconst 0, 1), (39, Instr.bipush 10, 2), (41, Instr.invokestatic 18, 3), (44, Instr.ireturn, 1), (45, Instr.iload_n 1, 1), (46, Instr.iconst 0, 1), (47, Instr.bipush 9, 2), (49, Instr.invokestatic 18, 3), (52, Instr.ireturn, 1), (53, Instr.iconst 0, 1), (54, Instr.ireturn, 1)]
set_option maxRecDepth 20000 in
theorem tkX11_isTerm : (tbX11_isTerm.all fun q => decide (decode cX11_isTerm q.1 = .ok q.2)) = true := by decide +kernel
def mX11_isTerm : Nat × MethodName × ByteArray × Nat × Option FieldType × List (Nat × Instr × Nat) × Option (Nat × (Nat → Int32)) := (11, yX11_isTerm, cX11_isTerm, 2, (some .boolean), tbX11_isTerm, none)
def tbX11_termAt : List (Nat × Instr × Nat) := [(0, Instr.iload_n 0, 1), (1, Instr.ifCond .ne 8, 3), (4, Instr.bipush 35, 2), (6, Instr.goto 15, 3), (9, Instr.iload_n 0, 1), (10, Instr.iconst 1, 1), (11, Instr.if_icmp .ne 8, 3), (14, Instr.bipush 89, 2), (16, Instr.goto 5, 3), (19, Instr.bipush 90, 2), (21, Instr.ireturn, 1)]
set_option maxRecDepth 20000 in
theorem tkX11_termAt : (tbX11_termAt.all fun q => decide (decode cX11_termAt q.1 = .ok q.2)) = true := by decide +kernel
def mX11_termAt : Nat × MethodName × ByteArray × Nat × Option FieldType × List (Nat × Instr × Nat) × Option (Nat × (Nat → Int32)) := (11, yX11_termAt, cX11_termAt, 1, (some .int), tbX11_termAt, none)
def tbX11_terms : List (Nat × Instr × Nat) := [(0, Instr.iload_n 1, 1), (1, Instr.iload_n 2, 1), (2, Instr.invokestatic 173, 3), (5, Instr.ifCond .ne 9, 3), (8, Instr.aload_n 0, 1), (9, Instr.iconst (-1), 1), (10, Instr.invokevirtual 118, 3), (13, Instr.ireturn, 1), (14, Instr.aload_n 0, 1), (15, Instr.getfield 28, 3), (18, Instr.iload_n 1, 1), (19, Instr.invokestatic 176, 3), (22, Instr.iaload, 1), (23, Instr.istore_n 3, 1), (24, Instr.aload_n 0, 1), (25, Instr.getfield 28, 3), (28, Instr.iload_n 1, 1), (29, Instr.invokestatic 176, 3), (32, Instr.iload_n 2, 1), (33, Instr.iastore, 1), (34, Instr.aload_n 0, 1), (35, Instr.iload_n 3, 1), (36, Instr.invokevirtual 121, 3), (39, Instr.ireturn, 1)]
set_option maxRecDepth 20000 in
theorem tkX11_terms : (tbX11_terms.all fun q => decide (decode cX11_terms q.1 = .ok q.2)) = true := by decide +kernel
def mX11_terms : Nat × MethodName × ByteArray × Nat × Option FieldType × List (Nat × Instr × Nat) × Option (Nat × (Nat → Int32)) := (11, yX11_terms, cX11_terms, 4, (some .int), tbX11_terms, none)
def tbX11_row : List (Nat × Instr × Nat) := [(0, Instr.aload_n 0, 1), (1, Instr.getfield 179, 3), (4, Instr.istore_n 1, 1), (5, Instr.aload_n 0, 1), (6, Instr.iconst 0, 1), (7, Instr.putfield 179, 3), (10, Instr.iload_n 1, 1), (11, Instr.ifCond .ne 10, 3), (14, Instr.aload_n 0, 1), (15, Instr.bipush (-6), 2), (17, Instr.invokevirtual 118, 3), (20, Instr.ireturn, 1), (21, Instr.iconst 0, 1), (22, Instr.istore_n 2, 1), (23, Instr.aload_n 0, 1), (24, Instr.iload_n 1, 1), (25, Instr.iconst 4, 1), (26, Instr.irem, 1), (27, Instr.ifCond .ne 7, 3), (30, Instr.iconst 0, 1), (31, Instr.goto 4, 3), (34, Instr.iconst 1, 1), (35, Instr.putfield 182, 3), (38, Instr.iconst 0, 1), (39, Instr.istore_n 3, 1), (40, Instr.iload_n 3, 1), (41, Instr.iconst 4, 1), (42, Instr.iadd, 1), (43, Instr.iload_n 1, 1), (44, Instr.if_icmp .gt 132, 3), (47, Instr.aload_n 0, 1), (48, Instr.invokevirtual 124, 3), (51, Instr.bipush 10, 2), (53, Instr.if_icmp .ge 43, 3), (56, Instr.aload_n 0, 1), (57, Instr.getfield 45, 3), (60, Instr.iload_n 3, 1), (61, Instr.baload, 1), (62, Instr.aload_n 0, 1), (63, Instr.getfield 45, 3), (66, Instr.iload_n 3, 1), (67, Instr.iconst 1, 1), (68, Instr.iadd, 1), (69, Instr.baload, 1), (70, Instr.aload_n 0, 1), (71, Instr.getfield 45, 3), (74, Instr.iload_n 3, 1), (75, Instr.iconst 2, 1), (76, Instr.iadd, 1), (77, Instr.baload, 1), (78, Instr.aload_n 0, 1), (79, Instr.getfield 45, 3), (82, Instr.iload_n 3, 1), (83, Instr.iconst 3, 1), (84, Instr.iadd, 1), (85, Instr.baload, 1), (86, Instr.invokestatic 135, 3), (89, Instr.ifCond .eq 7, 3), (92, Instr.iconst 1, 1), (93, Instr.goto 4, 3), (96, Instr.iconst 0, 1), (97, Instr.istore 4, 2), (99, Instr.iload 4, 2), (101, Instr.ifCond .eq 37, 3), (104, Instr.aload_n 0, 1), (105, Instr.aload_n 0, 1), (106, Instr.getfield 45, 3), (109, Instr.iload_n 3, 1), (110, Instr.baload, 1), (111, Instr.aload_n 0, 1), (112, Instr.getfield 45, 3), (115, Instr.iload_n 3, 1), (116, Instr.iconst 1, 1), (117, Instr.iadd, 1), (118, Instr.baload, 1), (119, Instr.aload_n 0, 1), (120, Instr.getfield 45, 3), (123, Instr.iload_n 3, 1), (124, Instr.iconst 2, 1), (125, Instr.iadd, 1), (126, Instr.baload, 1), (127, Instr.aload_n 0, 1), (128, Instr.getfield 45, 3), (131, Instr.iload_n 3, 1), (132, Instr.iconst 3, 1), (133, Instr.iadd, 1), (134, Instr.baload, 1), (135, Instr.invokevirtual 139, 3), (138, Instr.iload_n 2, 1), (139, Instr.iload 4, 2), (141, Instr.ifCond .eq 7, 3), (144, Instr.iconst 1, 1), (145, Instr.goto 4, 3), (148, Instr.iconst 0, 1), (149, Instr.iadd, 1), (150, Instr.istore_n 2, 1), (151, Instr.aload_n 0, 1), (152, Instr.dup, 1), (153, Instr.getfield 182, 3), (156, Instr.iload 4, 2), (158, Instr.ifCond .eq 7, 3), (161, Instr.iconst 0, 1), (162, Instr.goto 4, 3), (165, Instr.iconst 1, 1), (166, Instr.iadd, 1), (167, Instr.putfield 182, 3), (170, Instr.iinc 3 4, 3), (173, Instr.goto (-133), 3), (176, Instr.aload_n 0, 1), (177, Instr.iload_n 2, 1), (178, Instr.invokevirtual 121, 3), (181, Instr.ireturn, 1)]
set_option maxRecDepth 20000 in
theorem tkX11_row : (tbX11_row.all fun q => decide (decode cX11_row q.1 = .ok q.2)) = true := by decide +kernel
def mX11_row : Nat × MethodName × ByteArray × Nat × Option FieldType × List (Nat × Instr × Nat) × Option (Nat × (Nat → Int32)) := (11, yX11_row, cX11_row, 5, (some .int), tbX11_row, none)
def tbX11_rust : List (Nat × Instr × Nat) := [(0, Instr.aload_n 0, 1), (1, Instr.getfield 182, 3), (4, Instr.ireturn, 1)]
set_option maxRecDepth 20000 in
theorem tkX11_rust : (tbX11_rust.all fun q => decide (decode cX11_rust q.1 = .ok q.2)) = true := by decide +kernel
def mX11_rust : Nat × MethodName × ByteArray × Nat × Option FieldType × List (Nat × Instr × Nat) × Option (Nat × (Nat → Int32)) := (11, yX11_rust, cX11_rust, 1, (some .int), tbX11_rust, none)
def tbX11_feed : List (Nat × Instr × Nat) := [(0, Instr.aload_n 0, 1), (1, Instr.getfield 179, 3), (4, Instr.bipush 20, 2), (6, Instr.iadd, 1), (7, Instr.sipush 400, 3), (10, Instr.if_icmp .le 5, 3), (13, Instr.iconst (-1), 1), (14, Instr.ireturn, 1), (15, Instr.aload_n 0, 1), (16, Instr.getfield 48, 3), (19, Instr.iconst 0, 1), (20, Instr.iload_n 1, 1), (21, Instr.iastore, 1), (22, Instr.aload_n 0, 1), (23, Instr.getfield 48, 3), (26, Instr.iconst 1, 1), (27, Instr.iload_n 2, 1), (28, Instr.iastore, 1), (29, Instr.aload_n 0, 1), (30, Instr.getfield 48, 3), (33, Instr.iconst 2, 1), (34, Instr.iload_n 3, 1), (35, Instr.iastore, 1), (36, Instr.aload_n 0, 1), (37, Instr.getfield 48, 3), (40, Instr.iconst 3, 1), (41, Instr.iload 4, 2), (43, Instr.iastore, 1), (44, Instr.aload_n 0, 1), (45, Instr.getfield 48, 3), (48, Instr.iconst 4, 1), (49, Instr.iload 5, 2), (51, Instr.iastore, 1), (52, Instr.iconst 0, 1), (53, Instr.istore 6, 2), (55, Instr.iload 6, 2), (57, Instr.bipush 20, 2), (59, Instr.if_icmp .ge 42, 3), (62, Instr.aload_n 0, 1), (63, Instr.getfield 45, 3), (66, Instr.aload_n 0, 1), (67, Instr.getfield 179, 3), (70, Instr.iload 6, 2), (72, Instr.iadd, 1), (73, Instr.aload_n 0, 1), (74, Instr.getfield 48, 3), (77, Instr.iload 6, 2), (79, Instr.iconst 4, 1), (80, Instr.idiv, 1), (81, Instr.iaload, 1), (82, Instr.bipush 24, 2), (84, Instr.bipush 8, 2), (86, Instr.iload 6, 2), (88, Instr.iconst 4, 1), (89, Instr.irem, 1), (90, Instr.imul, 1), (91, Instr.isub, 1), (92, Instr.ishr, 1), (93, Instr.i2b, 1), (94, Instr.bastore, 1), (95, Instr.iinc 6 1, 3), (98, Instr.goto (-43), 3), (101, Instr.aload_n 0, 1), (102, Instr.dup, 1), (103, Instr.getfield 179, 3), (106, Instr.bipush 20, 2), (108, Instr.iadd, 1), (109, Instr.putfield 179, 3), (112, Instr.aload_n 0, 1), (113, Instr.getfield 179, 3), (116, Instr.ireturn, 1)]
set_option maxRecDepth 20000 in
theorem tkX11_feed : (tbX11_feed.all fun q => decide (decode cX11_feed q.1 = .ok q.2)) = true := by decide +kernel
def mX11_feed : Nat × MethodName × ByteArray × Nat × Option FieldType × List (Nat × Instr × Nat) × Option (Nat × (Nat → Int32)) := (11, yX11_feed, cX11_feed, 7, (some .int), tbX11_feed, none)
def tbX11_end : List (Nat × Instr × Nat) := [(0, Instr.iload_n 1, 1), (1, Instr.iconst 0, 1), (2, Instr.aload_n 0, 1), (3, Instr.getfield 179, 3), (6, Instr.invokestatic 18, 3), (9, Instr.ifCond .ne 5, 3), (12, Instr.iconst (-1), 1), (13, Instr.ireturn, 1), (14, Instr.aload_n 0, 1), (15, Instr.iload_n 1, 1), (16, Instr.putfield 179, 3), (19, Instr.iload_n 1, 1), (20, Instr.ireturn, 1)]
set_option maxRecDepth 20000 in
theorem tkX11_end : (tbX11_end.all fun q => decide (decode cX11_end q.1 = .ok q.2)) = true := by decide +kernel
def mX11_end : Nat × MethodName × ByteArray × Nat × Option FieldType × List (Nat × Instr × Nat) × Option (Nat × (Nat → Int32)) := (11, yX11_end, cX11_end, 2, (some .int), tbX11_end, none)
def tbX11_isSmall : List (Nat × Instr × Nat) := [(0, Instr.iload_n 0, 1), (1, Instr.bipush 97, 2), (3, Instr.if_icmp .lt 13, 3), (6, Instr.iload_n 0, 1), (7, Instr.bipush 122, 2), (9, Instr.if_icmp .gt 7, 3), (12, Instr.iconst 1, 1), (13, Instr.goto 4, 3), (16, Instr.iconst 0, 1), (17, Instr.ireturn, 1)]
set_option maxRecDepth 20000 in
theorem tkX11_isSmall : (tbX11_isSmall.all fun q => decide (decode cX11_isSmall q.1 = .ok q.2)) = true := by decide +kernel
def mX11_isSmall : Nat × MethodName × ByteArray × Nat × Option FieldType × List (Nat × Instr × Nat) × Option (Nat × (Nat → Int32)) := (11, yX11_isSmall, cX11_isSmall, 1, (some .boolean), tbX11_isSmall, none)
def tbX11_isDigit : List (Nat × Instr × Nat) := [(0, Instr.iload_n 0, 1), (1, Instr.bipush 48, 2), (3, Instr.if_icmp .lt 13, 3), (6, Instr.iload_n 0, 1), (7, Instr.bipush 57, 2), (9, Instr.if_icmp .gt 7, 3), (12, Instr.iconst 1, 1), (13, Instr.goto 4, 3), (16, Instr.iconst 0, 1), (17, Instr.ireturn, 1)]
set_option maxRecDepth 20000 in
theorem tkX11_isDigit : (tbX11_isDigit.all fun q => decide (decode cX11_isDigit q.1 = .ok q.2)) = true := by decide +kernel
def mX11_isDigit : Nat × MethodName × ByteArray × Nat × Option FieldType × List (Nat × Instr × Nat) × Option (Nat × (Nat → Int32)) := (11, yX11_isDigit, cX11_isDigit, 1, (some .boolean), tbX11_isDigit, none)
def tbX11_wordOf : List (Nat × Instr × Nat) := [(0, Instr.iconst 1, 1), (1, Instr.istore_n 3, 1), (2, Instr.iconst 0, 1), (3, Instr.istore 4, 2), (5, Instr.iload 4, 2), (7, Instr.aload_n 0, 1), (8, Instr.getfield 41, 3), (11, Instr.arraylength, 1), (12, Instr.if_icmp .ge 114, 3), (15, Instr.iconst 0, 1), (16, Instr.istore 5, 2), (18, Instr.aload_n 0, 1), (19, Instr.getfield 41, 3), (22, Instr.iload 4, 2), (24, Instr.iload 5, 2), (26, Instr.iadd, 1), (27, Instr.baload, 1), (28, Instr.bipush 32, 2), (30, Instr.if_icmp .eq 9, 3), (33, Instr.iinc 5 1, 3), (36, Instr.goto (-18), 3), (39, Instr.iload 5, 2), (41, Instr.iload_n 2, 1), (42, Instr.iload_n 1, 1), (43, Instr.isub, 1), (44, Instr.if_icmp .ne 7, 3), (47, Instr.iconst 1, 1), (48, Instr.goto 4, 3), (51, Instr.iconst 0, 1), (52, Instr.istore 6, 2), (54, Instr.iconst 0, 1), (55, Instr.istore 7, 2), (57, Instr.iload 7, 2), (59, Instr.iload 5, 2), (61, Instr.if_icmp .ge 43, 3), (64, Instr.iload 6, 2), (66, Instr.ifCond .eq 38, 3), (69, Instr.aload_n 0, 1), (70, Instr.getfield 41, 3), (73, Instr.iload 4, 2), (75, Instr.iload 7, 2), (77, Instr.iadd, 1), (78, Instr.baload, 1), (79, Instr.aload_n 0, 1), (80, Instr.getfield 45, 3), (83, Instr.iload_n 1, 1), (84, Instr.iload 7, 2), (86, Instr.iadd, 1), (87, Instr.baload, 1), (88, Instr.if_icmp .ne 7, 3), (91, Instr.iconst 1, 1), (92, Instr.goto 4, 3), (95, Instr.iconst 0, 1), (96, Instr.istore 6, 2), (98, Instr.iinc 7 1, 3), (101, Instr.goto (-44), 3), (104, Instr.iload 6, 2), (106, Instr.ifCond .eq 5, 3), (109, Instr.iload_n 3, 1), (110, Instr.ireturn, 1), (111, Instr.iload 4, 2), (113, Instr.iload 5, 2), (115, Instr.iconst 1, 1), (116, Instr.iadd, 1), (117, Instr.iadd, 1), (118, Instr.istore 4, 2), (120, Instr.iinc 3 1, 3), (123, Instr.goto (-118), 3), (126, Instr.iconst 0, 1), (127, Instr.ireturn, 1)]
set_option maxRecDepth 20000 in
theorem tkX11_wordOf : (tbX11_wordOf.all fun q => decide (decode cX11_wordOf q.1 = .ok q.2)) = true := by decide +kernel
def mX11_wordOf : Nat × MethodName × ByteArray × Nat × Option FieldType × List (Nat × Instr × Nat) × Option (Nat × (Nat → Int32)) := (11, yX11_wordOf, cX11_wordOf, 8, (some .int), tbX11_wordOf, none)
def tbX11_splits : List (Nat × Instr × Nat) := [(0, Instr.aload_n 0, 1), (1, Instr.iconst 0, 1), (2, Instr.putfield 185, 3), (5, Instr.iconst 0, 1), (6, Instr.istore_n 2, 1), (7, Instr.iload_n 2, 1), (8, Instr.iload_n 1, 1), (9, Instr.if_icmp .ge 254, 3), (12, Instr.aload_n 0, 1), (13, Instr.getfield 45, 3), (16, Instr.iload_n 2, 1), (17, Instr.baload, 1), (18, Instr.istore_n 3, 1), (19, Instr.iload_n 3, 1), (20, Instr.bipush 32, 2), (22, Instr.if_icmp .ne 9, 3), (25, Instr.iinc 2 1, 3), (28, Instr.goto (-21), 3), (31, Instr.iload_n 2, 1), (32, Instr.iconst 1, 1), (33, Instr.iadd, 1), (34, Instr.istore 4, 2), (36, Instr.iload_n 3, 1), (37, Instr.invokestatic 188, 3), (40, Instr.ifCond .eq 28, 3), (43, Instr.iload 4, 2), (45, Instr.iload_n 1, 1), (46, Instr.if_icmp .ge 22, 3), (49, Instr.aload_n 0, 1), (50, Instr.getfield 45, 3), (53, Instr.iload 4, 2), (55, Instr.baload, 1), (56, Instr.invokestatic 188, 3), (59, Instr.ifCond .eq 9, 3), (62, Instr.iinc 4 1, 3), (65, Instr.goto (-22), 3), (68, Instr.iload_n 3, 1), (69, Instr.invokestatic 191, 3), (72, Instr.ifCond .eq 28, 3), (75, Instr.iload 4, 2), (77, Instr.iload_n 1, 1), (78, Instr.if_icmp .ge 22, 3), (81, Instr.aload_n 0, 1), (82, Instr.getfield 45, 3), (85, Instr.iload 4, 2), (87, Instr.baload, 1), (88, Instr.invokestatic 191, 3), (91, Instr.ifCond .eq 9, 3), (94, Instr.iinc 4 1, 3), (97, Instr.goto (-22), 3), (100, Instr.aload_n 0, 1), (101, Instr.getfield 60, 3), (104, Instr.aload_n 0, 1), (105, Instr.getfield 185, 3), (108, Instr.iload_n 2, 1), (109, Instr.iastore, 1), (110, Instr.aload_n 0, 1), (111, Instr.getfield 57, 3), (114, Instr.aload_n 0, 1), (115, Instr.getfield 185, 3), (118, Instr.iconst 0, 1), (119, Instr.iastore, 1), (120, Instr.aload_n 0, 1), (121, Instr.getfield 54, 3), (124, Instr.aload_n 0, 1), (125, Instr.getfield 185, 3), (128, Instr.iload_n 3, 1), (129, Instr.invokestatic 188, 3), (132, Instr.ifCond .eq 13, 3), (135, Instr.aload_n 0, 1), (136, Instr.iload_n 2, 1), (137, Instr.iload 4, 2), (139, Instr.invokevirtual 194, 3), (142, Instr.goto 23, 3), (145, Instr.iload_n 3, 1), (146, Instr.invokestatic 191, 3), (149, Instr.ifCond .eq 8, 3), (152, Instr.bipush 50, 2), (154, Instr.goto 11, 3), (157, Instr.bipush 100, 2), (159, Instr.iload_n 3, 1), (160, Instr.sipush 255, 3), (163, Instr.iand, 1), (164, Instr.iadd, 1), (165, Instr.iastore, 1), (166, Instr.iload_n 2, 1), (167, Instr.istore 5, 2), (169, Instr.iload 5, 2), (171, Instr.iload 4, 2), (173, Instr.if_icmp .ge 74, 3), (176, Instr.iload_n 3, 1), (177, Instr.invokestatic 191, 3), (180, Instr.ifCond .eq 67, 3), (183, Instr.aload_n 0, 1), (184, Instr.getfield 57, 3), (187, Instr.aload_n 0, 1), (188, Instr.getfield 185, 3), (191, Instr.aload_n 0, 1), (192, Instr.getfield 57, 3), (195, Instr.aload_n 0, 1), (196, Instr.getfield 185, 3), (199, Instr.iaload, 1), (200, Instr.ldc 198, 2), (202, Instr.if_icmp .le 15, 3), (205, Instr.aload_n 0, 1), (206, Instr.getfield 57, 3), (209, Instr.aload_n 0, 1), (210, Instr.getfield 185, 3), (213, Instr.iaload, 1), (214, Instr.goto 26, 3), (217, Instr.bipush 10, 2), (219, Instr.aload_n 0, 1), (220, Instr.getfield 57, 3), (223, Instr.aload_n 0, 1), (224, Instr.getfield 185, 3), (227, Instr.iaload, 1), (228, Instr.imul, 1), (229, Instr.aload_n 0, 1), (230, Instr.getfield 45, 3), (233, Instr.iload 5, 2), (235, Instr.baload, 1), (236, Instr.iadd, 1), (237, Instr.bipush 48, 2), (239, Instr.isub, 1), (240, Instr.iastore, 1), (241, Instr.iinc 5 1, 3), (244, Instr.goto (-75), 3), (247, Instr.aload_n 0, 1), (248, Instr.dup, 1), (249, Instr.getfield 185, 3), (252, Instr.iconst 1, 1), (253, Instr.iadd, 1), (254, Instr.putfield 185, 3), (257, Instr.iload 4, 2), (259, Instr.istore_n 2, 1), (260, Instr.goto (-253), 3), (263, Instr.aload_n 0, 1), (264, Instr.getfield 60, 3), (267, Instr.aload_n 0, 1), (268, Instr.getfield 185, 3), (271, Instr.iload_n 1, 1), (272, Instr.iastore, 1), (273, Instr.aload_n 0, 1), (274, Instr.getfield 54, 3), (277, Instr.aload_n 0, 1), (278, Instr.getfield 185, 3), (281, Instr.iconst 0, 1), (282, Instr.iastore, 1), (283, Instr.aload_n 0, 1), (284, Instr.getfield 57, 3), (287, Instr.aload_n 0, 1), (288, Instr.getfield 185, 3), (291, Instr.iconst 0, 1), (292, Instr.iastore, 1), (293, Instr.return_, 1)]
set_option maxRecDepth 20000 in
theorem tkX11_splits : (tbX11_splits.all fun q => decide (decode cX11_splits q.1 = .ok q.2)) = true := by decide +kernel
def mX11_splits : Nat × MethodName × ByteArray × Nat × Option FieldType × List (Nat × Instr × Nat) × Option (Nat × (Nat → Int32)) := (11, yX11_splits, cX11_splits, 6, none, tbX11_splits, none)
def tbX11_fine : List (Nat × Instr × Nat) := [(0, Instr.aload_n 0, 1), (1, Instr.getfield 199, 3), (4, Instr.iconst (-1), 1), (5, Instr.if_icmp .ne 7, 3), (8, Instr.iconst 1, 1), (9, Instr.goto 4, 3), (12, Instr.iconst 0, 1), (13, Instr.ireturn, 1)]
set_option maxRecDepth 20000 in
theorem tkX11_fine : (tbX11_fine.all fun q => decide (decode cX11_fine q.1 = .ok q.2)) = true := by decide +kernel
def mX11_fine : Nat × MethodName × ByteArray × Nat × Option FieldType × List (Nat × Instr × Nat) × Option (Nat × (Nat → Int32)) := (11, yX11_fine, cX11_fine, 1, (some .boolean), tbX11_fine, none)
def tbX11_faults : List (Nat × Instr × Nat) := [(0, Instr.aload_n 0, 1), (1, Instr.invokevirtual 202, 3), (4, Instr.ifCond .eq 16, 3), (7, Instr.aload_n 0, 1), (8, Instr.aload_n 0, 1), (9, Instr.getfield 60, 3), (12, Instr.aload_n 0, 1), (13, Instr.getfield 205, 3), (16, Instr.iaload, 1), (17, Instr.putfield 199, 3), (20, Instr.return_, 1)]
set_option maxRecDepth 20000 in
theorem tkX11_faults : (tbX11_faults.all fun q => decide (decode cX11_faults q.1 = .ok q.2)) = true := by decide +kernel
def mX11_faults : Nat × MethodName × ByteArray × Nat × Option FieldType × List (Nat × Instr × Nat) × Option (Nat × (Nat → Int32)) := (11, yX11_faults, cX11_faults, 1, none, tbX11_faults, none)
def tbX11_takes0 : List (Nat × Instr × Nat) := [(0, Instr.aload_n 0, 1), (1, Instr.invokevirtual 202, 3), (4, Instr.ifCond .eq 20, 3), (7, Instr.aload_n 0, 1), (8, Instr.getfield 54, 3), (11, Instr.aload_n 0, 1), (12, Instr.getfield 205, 3), (15, Instr.iaload, 1), (16, Instr.iload_n 1, 1), (17, Instr.if_icmp .ne 7, 3), (20, Instr.iconst 1, 1), (21, Instr.goto 4, 3), (24, Instr.iconst 0, 1), (25, Instr.istore_n 2, 1), (26, Instr.iload_n 2, 1), (27, Instr.ifCond .eq 13, 3), (30, Instr.aload_n 0, 1), (31, Instr.dup, 1), (32, Instr.getfield 205, 3), (35, Instr.iconst 1, 1), (36, Instr.iadd, 1), (37, Instr.putfield 205, 3), (40, Instr.iload_n 2, 1), (41, Instr.ireturn, 1)]
set_option maxRecDepth 20000 in
theorem tkX11_takes0 : (tbX11_takes0.all fun q => decide (decode cX11_takes0 q.1 = .ok q.2)) = true := by decide +kernel
def mX11_takes0 : Nat × MethodName × ByteArray × Nat × Option FieldType × List (Nat × Instr × Nat) × Option (Nat × (Nat → Int32)) := (11, yX11_takes0, cX11_takes0, 3, (some .boolean), tbX11_takes0, none)
def tbX11_must : List (Nat × Instr × Nat) := [(0, Instr.aload_n 0, 1), (1, Instr.iload_n 1, 1), (2, Instr.invokevirtual 208, 3), (5, Instr.ifCond .ne 7, 3), (8, Instr.aload_n 0, 1), (9, Instr.invokevirtual 211, 3), (12, Instr.return_, 1)]
set_option maxRecDepth 20000 in
theorem tkX11_must : (tbX11_must.all fun q => decide (decode cX11_must q.1 = .ok q.2)) = true := by decide +kernel
def mX11_must : Nat × MethodName × ByteArray × Nat × Option FieldType × List (Nat × Instr × Nat) × Option (Nat × (Nat → Int32)) := (11, yX11_must, cX11_must, 2, none, tbX11_must, none)
def tbX11_leaf : List (Nat × Instr × Nat) := [(0, Instr.aload_n 0, 1), (1, Instr.getfield 214, 3), (4, Instr.bipush 50, 2), (6, Instr.if_icmp .ne 7, 3), (9, Instr.aload_n 0, 1), (10, Instr.invokevirtual 211, 3), (13, Instr.aload_n 0, 1), (14, Instr.dup, 1), (15, Instr.getfield 214, 3), (18, Instr.iconst 1, 1), (19, Instr.iadd, 1), (20, Instr.putfield 214, 3), (23, Instr.aload_n 0, 1), (24, Instr.invokevirtual 202, 3), (27, Instr.ifCond .eq 13, 3), (30, Instr.aload_n 0, 1), (31, Instr.dup, 1), (32, Instr.getfield 205, 3), (35, Instr.iconst 1, 1), (36, Instr.iadd, 1), (37, Instr.putfield 205, 3), (40, Instr.return_, 1)]
set_option maxRecDepth 20000 in
theorem tkX11_leaf : (tbX11_leaf.all fun q => decide (decode cX11_leaf q.1 = .ok q.2)) = true := by decide +kernel
def mX11_leaf : Nat × MethodName × ByteArray × Nat × Option FieldType × List (Nat × Instr × Nat) × Option (Nat × (Nat → Int32)) := (11, yX11_leaf, cX11_leaf, 1, none, tbX11_leaf, none)
def tbX11_sign : List (Nat × Instr × Nat) := [(0, Instr.bipush 100, 2), (2, Instr.iload_n 0, 1), (3, Instr.iadd, 1), (4, Instr.ireturn, 1)]
set_option maxRecDepth 20000 in
theorem tkX11_sign : (tbX11_sign.all fun q => decide (decode cX11_sign q.1 = .ok q.2)) = true := by decide +kernel
def mX11_sign : Nat × MethodName × ByteArray × Nat × Option FieldType × List (Nat × Instr × Nat) × Option (Nat × (Nat → Int32)) := (11, yX11_sign, cX11_sign, 1, (some .int), tbX11_sign, none)
def tbX11_mustNumber : List (Nat × Instr × Nat) := [(0, Instr.aload_n 0, 1), (1, Instr.invokevirtual 202, 3), (4, Instr.ifCond .eq 38, 3), (7, Instr.aload_n 0, 1), (8, Instr.getfield 54, 3), (11, Instr.aload_n 0, 1), (12, Instr.getfield 205, 3), (15, Instr.iaload, 1), (16, Instr.bipush 50, 2), (18, Instr.if_icmp .ne 20, 3), (21, Instr.aload_n 0, 1), (22, Instr.getfield 57, 3), (25, Instr.aload_n 0, 1), (26, Instr.getfield 205, 3), (29, Instr.iaload, 1), (30, Instr.iload_n 1, 1), (31, Instr.iload_n 2, 1), (32, Instr.invokestatic 18, 3), (35, Instr.ifCond .ne 7, 3), (38, Instr.aload_n 0, 1), (39, Instr.invokevirtual 211, 3), (42, Instr.aload_n 0, 1), (43, Instr.invokevirtual 202, 3), (46, Instr.ifCond .eq 13, 3), (49, Instr.aload_n 0, 1), (50, Instr.dup, 1), (51, Instr.getfield 205, 3), (54, Instr.iconst 1, 1), (55, Instr.iadd, 1), (56, Instr.putfield 205, 3), (59, Instr.return_, 1)]
set_option maxRecDepth 20000 in
theorem tkX11_mustNumber : (tbX11_mustNumber.all fun q => decide (decode cX11_mustNumber q.1 = .ok q.2)) = true := by decide +kernel
def mX11_mustNumber : Nat × MethodName × ByteArray × Nat × Option FieldType × List (Nat × Instr × Nat) × Option (Nat × (Nat → Int32)) := (11, yX11_mustNumber, cX11_mustNumber, 3, none, tbX11_mustNumber, none)
def tbX11_readClause : List (Nat × Instr × Nat) := [(0, Instr.aload_n 0, 1), (1, Instr.iconst 1, 1), (2, Instr.invokevirtual 208, 3), (5, Instr.ifCond .ne 11, 3), (8, Instr.aload_n 0, 1), (9, Instr.iconst 2, 1), (10, Instr.invokevirtual 208, 3), (13, Instr.ifCond .eq 11, 3), (16, Instr.aload_n 0, 1), (17, Instr.iconst 0, 1), (18, Instr.invokevirtual 217, 3), (21, Instr.goto 8, 3), (24, Instr.aload_n 0, 1), (25, Instr.iconst 3, 1), (26, Instr.invokevirtual 221, 3), (29, Instr.aload_n 0, 1), (30, Instr.iconst 4, 1), (31, Instr.invokevirtual 208, 3), (34, Instr.ifCond .eq 8, 3), (37, Instr.aload_n 0, 1), (38, Instr.iconst 0, 1), (39, Instr.invokevirtual 224, 3), (42, Instr.return_, 1)]
set_option maxRecDepth 20000 in
theorem tkX11_readClause : (tbX11_readClause.all fun q => decide (decode cX11_readClause q.1 = .ok q.2)) = true := by decide +kernel
def mX11_readClause : Nat × MethodName × ByteArray × Nat × Option FieldType × List (Nat × Instr × Nat) × Option (Nat × (Nat → Int32)) := (11, yX11_readClause, cX11_readClause, 1, none, tbX11_readClause, none)
def tbX11_readTwo : List (Nat × Instr × Nat) := [(0, Instr.aload_n 0, 1), (1, Instr.iconst 0, 1), (2, Instr.invokevirtual 217, 3), (5, Instr.aload_n 0, 1), (6, Instr.iload_n 1, 1), (7, Instr.invokevirtual 221, 3), (10, Instr.aload_n 0, 1), (11, Instr.iconst 0, 1), (12, Instr.invokevirtual 217, 3), (15, Instr.return_, 1)]
set_option maxRecDepth 20000 in
theorem tkX11_readTwo : (tbX11_readTwo.all fun q => decide (decode cX11_readTwo q.1 = .ok q.2)) = true := by decide +kernel
def mX11_readTwo : Nat × MethodName × ByteArray × Nat × Option FieldType × List (Nat × Instr × Nat) × Option (Nat × (Nat → Int32)) := (11, yX11_readTwo, cX11_readTwo, 2, none, tbX11_readTwo, none)
def tbX11_readOrder : List (Nat × Instr × Nat) := [(0, Instr.aload_n 0, 1), (1, Instr.bipush 20, 2), (3, Instr.invokevirtual 208, 3), (6, Instr.ifCond .eq 12, 3), (9, Instr.aload_n 0, 1), (10, Instr.bipush 21, 2), (12, Instr.invokevirtual 227, 3), (15, Instr.goto 44, 3), (18, Instr.aload_n 0, 1), (19, Instr.bipush 23, 2), (21, Instr.invokevirtual 208, 3), (24, Instr.ifCond .eq 12, 3), (27, Instr.aload_n 0, 1), (28, Instr.bipush 24, 2), (30, Instr.invokevirtual 227, 3), (33, Instr.goto 26, 3), (36, Instr.aload_n 0, 1), (37, Instr.bipush 22, 2), (39, Instr.invokevirtual 208, 3), (42, Instr.ifCond .eq 11, 3), (45, Instr.aload_n 0, 1), (46, Instr.iconst 0, 1), (47, Instr.invokevirtual 217, 3), (50, Instr.goto 9, 3), (53, Instr.aload_n 0, 1), (54, Instr.bipush 25, 2), (56, Instr.invokevirtual 221, 3), (59, Instr.aload_n 0, 1), (60, Instr.bipush 26, 2), (62, Instr.invokevirtual 208, 3), (65, Instr.ifCond .eq 10, 3), (68, Instr.aload_n 0, 1), (69, Instr.iconst 1, 1), (70, Instr.bipush 20, 2), (72, Instr.invokevirtual 230, 3), (75, Instr.aload_n 0, 1), (76, Instr.iconst 4, 1), (77, Instr.invokevirtual 208, 3), (80, Instr.ifCond .eq 8, 3), (83, Instr.aload_n 0, 1), (84, Instr.iconst 0, 1), (85, Instr.invokevirtual 224, 3), (88, Instr.return_, 1)]
set_option maxRecDepth 20000 in
theorem tkX11_readOrder : (tbX11_readOrder.all fun q => decide (decode cX11_readOrder q.1 = .ok q.2)) = true := by decide +kernel
def mX11_readOrder : Nat × MethodName × ByteArray × Nat × Option FieldType × List (Nat × Instr × Nat) × Option (Nat × (Nat → Int32)) := (11, yX11_readOrder, cX11_readOrder, 1, none, tbX11_readOrder, none)
def tbX11_readOne : List (Nat × Instr × Nat) := [(0, Instr.aload_n 0, 1), (1, Instr.getfield 234, 3), (4, Instr.ifCond .eq 10, 3), (7, Instr.aload_n 0, 1), (8, Instr.invokevirtual 238, 3), (11, Instr.goto 7, 3), (14, Instr.aload_n 0, 1), (15, Instr.invokevirtual 241, 3), (18, Instr.return_, 1)]
set_option maxRecDepth 20000 in
theorem tkX11_readOne : (tbX11_readOne.all fun q => decide (decode cX11_readOne q.1 = .ok q.2)) = true := by decide +kernel
def mX11_readOne : Nat × MethodName × ByteArray × Nat × Option FieldType × List (Nat × Instr × Nat) × Option (Nat × (Nat → Int32)) := (11, yX11_readOne, cX11_readOne, 1, none, tbX11_readOne, none)
def tbX11_readTest : List (Nat × Instr × Nat) := [(0, Instr.aload_n 0, 1), (1, Instr.iload_n 1, 1), (2, Instr.invokevirtual 244, 3), (5, Instr.aload_n 0, 1), (6, Instr.iconst 5, 1), (7, Instr.invokevirtual 208, 3), (10, Instr.ifCond .eq 11, 3), (13, Instr.aload_n 0, 1), (14, Instr.iload_n 1, 1), (15, Instr.invokevirtual 244, 3), (18, Instr.goto (-13), 3), (21, Instr.return_, 1)]
set_option maxRecDepth 20000 in
theorem tkX11_readTest : (tbX11_readTest.all fun q => decide (decode cX11_readTest q.1 = .ok q.2)) = true := by decide +kernel
def mX11_readTest : Nat × MethodName × ByteArray × Nat × Option FieldType × List (Nat × Instr × Nat) × Option (Nat × (Nat → Int32)) := (11, yX11_readTest, cX11_readTest, 2, none, tbX11_readTest, none)
def tbX11_readBoth : List (Nat × Instr × Nat) := [(0, Instr.aload_n 0, 1), (1, Instr.iload_n 1, 1), (2, Instr.invokevirtual 247, 3), (5, Instr.aload_n 0, 1), (6, Instr.bipush 6, 2), (8, Instr.invokevirtual 208, 3), (11, Instr.ifCond .eq 11, 3), (14, Instr.aload_n 0, 1), (15, Instr.iload_n 1, 1), (16, Instr.invokevirtual 247, 3), (19, Instr.goto (-14), 3), (22, Instr.return_, 1)]
set_option maxRecDepth 20000 in
theorem tkX11_readBoth : (tbX11_readBoth.all fun q => decide (decode cX11_readBoth q.1 = .ok q.2)) = true := by decide +kernel
def mX11_readBoth : Nat × MethodName × ByteArray × Nat × Option FieldType × List (Nat × Instr × Nat) × Option (Nat × (Nat → Int32)) := (11, yX11_readBoth, cX11_readBoth, 2, none, tbX11_readBoth, none)
def tbX11_readPlain : List (Nat × Instr × Nat) := [(0, Instr.iconst 1, 1), (1, Instr.istore_n 2, 1), (2, Instr.iload_n 2, 1), (3, Instr.ifCond .eq 13, 3), (6, Instr.aload_n 0, 1), (7, Instr.bipush 7, 2), (9, Instr.invokevirtual 208, 3), (12, Instr.istore_n 2, 1), (13, Instr.goto (-11), 3), (16, Instr.aload_n 0, 1), (17, Instr.invokevirtual 202, 3), (20, Instr.ifCond .ne 4, 3), (23, Instr.return_, 1), (24, Instr.aload_n 0, 1), (25, Instr.getfield 54, 3), (28, Instr.aload_n 0, 1), (29, Instr.getfield 205, 3), (32, Instr.iaload, 1), (33, Instr.istore_n 3, 1), (34, Instr.iload_n 3, 1), (35, Instr.bipush 40, 2), (37, Instr.invokestatic 250, 3), (40, Instr.if_icmp .ne 50, 3), (43, Instr.iload_n 1, 1), (44, Instr.bipush 8, 2), (46, Instr.if_icmp .ne 7, 3), (49, Instr.aload_n 0, 1), (50, Instr.invokevirtual 211, 3), (53, Instr.aload_n 0, 1), (54, Instr.invokevirtual 202, 3), (57, Instr.ifCond .ne 4, 3), (60, Instr.return_, 1), (61, Instr.aload_n 0, 1), (62, Instr.dup, 1), (63, Instr.getfield 205, 3), (66, Instr.iconst 1, 1), (67, Instr.iadd, 1), (68, Instr.putfield 205, 3), (71, Instr.aload_n 0, 1), (72, Instr.iload_n 1, 1), (73, Instr.iconst 1, 1), (74, Instr.iadd, 1), (75, Instr.invokevirtual 224, 3), (78, Instr.aload_n 0, 1), (79, Instr.bipush 41, 2), (81, Instr.invokestatic 250, 3), (84, Instr.invokevirtual 221, 3), (87, Instr.goto 46, 3), (90, Instr.aload_n 0, 1), (91, Instr.iload_n 1, 1), (92, Instr.invokevirtual 217, 3), (95, Instr.aload_n 0, 1), (96, Instr.bipush 60, 2), (98, Instr.invokestatic 250, 3), (101, Instr.invokevirtual 208, 3), (104, Instr.ifCond .ne 24, 3), (107, Instr.aload_n 0, 1), (108, Instr.bipush 62, 2), (110, Instr.invokestatic 250, 3), (113, Instr.invokevirtual 208, 3), (116, Instr.ifCond .ne 12, 3), (119, Instr.aload_n 0, 1), (120, Instr.bipush 61, 2), (122, Instr.invokestatic 250, 3), (125, Instr.invokevirtual 221, 3), (128, Instr.aload_n 0, 1), (129, Instr.iload_n 1, 1), (130, Instr.invokevirtual 217, 3), (133, Instr.return_, 1)]
set_option maxRecDepth 20000 in
theorem tkX11_readPlain : (tbX11_readPlain.all fun q => decide (decode cX11_readPlain q.1 = .ok q.2)) = true := by decide +kernel
def mX11_readPlain : Nat × MethodName × ByteArray × Nat × Option FieldType × List (Nat × Instr × Nat) × Option (Nat × (Nat → Int32)) := (11, yX11_readPlain, cX11_readPlain, 4, none, tbX11_readPlain, none)
def tbX11_readSum : List (Nat × Instr × Nat) := [(0, Instr.aload_n 0, 1), (1, Instr.iload_n 1, 1), (2, Instr.invokevirtual 254, 3), (5, Instr.aload_n 0, 1), (6, Instr.bipush 43, 2), (8, Instr.invokestatic 250, 3), (11, Instr.invokevirtual 208, 3), (14, Instr.ifCond .ne 15, 3), (17, Instr.aload_n 0, 1), (18, Instr.bipush 45, 2), (20, Instr.invokestatic 250, 3), (23, Instr.invokevirtual 208, 3), (26, Instr.ifCond .eq 11, 3), (29, Instr.aload_n 0, 1), (30, Instr.iload_n 1, 1), (31, Instr.invokevirtual 254, 3), (34, Instr.goto (-29), 3), (37, Instr.return_, 1)]
set_option maxRecDepth 20000 in
theorem tkX11_readSum : (tbX11_readSum.all fun q => decide (decode cX11_readSum q.1 = .ok q.2)) = true := by decide +kernel
def mX11_readSum : Nat × MethodName × ByteArray × Nat × Option FieldType × List (Nat × Instr × Nat) × Option (Nat × (Nat → Int32)) := (11, yX11_readSum, cX11_readSum, 2, none, tbX11_readSum, none)
def tbX11_readTerm : List (Nat × Instr × Nat) := [(0, Instr.aload_n 0, 1), (1, Instr.iload_n 1, 1), (2, Instr.invokevirtual 257, 3), (5, Instr.aload_n 0, 1), (6, Instr.bipush 42, 2), (8, Instr.invokestatic 250, 3), (11, Instr.invokevirtual 208, 3), (14, Instr.ifCond .ne 27, 3), (17, Instr.aload_n 0, 1), (18, Instr.bipush 47, 2), (20, Instr.invokestatic 250, 3), (23, Instr.invokevirtual 208, 3), (26, Instr.ifCond .ne 15, 3), (29, Instr.aload_n 0, 1), (30, Instr.bipush 37, 2), (32, Instr.invokestatic 250, 3), (35, Instr.invokevirtual 208, 3), (38, Instr.ifCond .eq 11, 3), (41, Instr.aload_n 0, 1), (42, Instr.iload_n 1, 1), (43, Instr.invokevirtual 257, 3), (46, Instr.goto (-41), 3), (49, Instr.return_, 1)]
set_option maxRecDepth 20000 in
theorem tkX11_readTerm : (tbX11_readTerm.all fun q => decide (decode cX11_readTerm q.1 = .ok q.2)) = true := by decide +kernel
def mX11_readTerm : Nat × MethodName × ByteArray × Nat × Option FieldType × List (Nat × Instr × Nat) × Option (Nat × (Nat → Int32)) := (11, yX11_readTerm, cX11_readTerm, 2, none, tbX11_readTerm, none)
def tbX11_readPart : List (Nat × Instr × Nat) := [(0, Instr.aload_n 0, 1), (1, Instr.invokevirtual 202, 3), (4, Instr.ifCond .ne 4, 3), (7, Instr.return_, 1), (8, Instr.aload_n 0, 1), (9, Instr.getfield 54, 3), (12, Instr.aload_n 0, 1), (13, Instr.getfield 205, 3), (16, Instr.iaload, 1), (17, Instr.istore_n 2, 1), (18, Instr.iload_n 2, 1), (19, Instr.bipush 91, 2), (21, Instr.invokestatic 250, 3), (24, Instr.if_icmp .ne 50, 3), (27, Instr.iload_n 1, 1), (28, Instr.bipush 8, 2), (30, Instr.if_icmp .ne 7, 3), (33, Instr.aload_n 0, 1), (34, Instr.invokevirtual 211, 3), (37, Instr.aload_n 0, 1), (38, Instr.invokevirtual 202, 3), (41, Instr.ifCond .ne 4, 3), (44, Instr.return_, 1), (45, Instr.aload_n 0, 1), (46, Instr.dup, 1), (47, Instr.getfield 205, 3), (50, Instr.iconst 1, 1), (51, Instr.iadd, 1), (52, Instr.putfield 205, 3), (55, Instr.aload_n 0, 1), (56, Instr.iload_n 1, 1), (57, Instr.iconst 1, 1), (58, Instr.iadd, 1), (59, Instr.invokevirtual 217, 3), (62, Instr.aload_n 0, 1), (63, Instr.bipush 93, 2), (65, Instr.invokestatic 250, 3), (68, Instr.invokevirtual 221, 3), (71, Instr.goto 96, 3), (74, Instr.iload_n 2, 1), (75, Instr.bipush 50, 2), (77, Instr.if_icmp .ne 18, 3), (80, Instr.aload_n 0, 1), (81, Instr.getfield 57, 3), (84, Instr.aload_n 0, 1), (85, Instr.getfield 205, 3), (88, Instr.iaload, 1), (89, Instr.sipush 1000, 3), (92, Instr.if_icmp .le 19, 3), (95, Instr.iload_n 2, 1), (96, Instr.aload_n 0, 1), (97, Instr.getfield 260, 3), (100, Instr.if_icmp .lt 63, 3), (103, Instr.iload_n 2, 1), (104, Instr.aload_n 0, 1), (105, Instr.getfield 263, 3), (108, Instr.if_icmp .gt 55, 3), (111, Instr.aload_n 0, 1), (112, Instr.invokevirtual 266, 3), (115, Instr.aload_n 0, 1), (116, Instr.getfield 234, 3), (119, Instr.ifCond .eq 16, 3), (122, Instr.iload_n 2, 1), (123, Instr.bipush 13, 2), (125, Instr.if_icmp .ne 10, 3), (128, Instr.aload_n 0, 1), (129, Instr.iconst 0, 1), (130, Instr.bipush 9, 2), (132, Instr.invokevirtual 230, 3), (135, Instr.aload_n 0, 1), (136, Instr.getfield 234, 3), (139, Instr.ifCond .eq 28, 3), (142, Instr.iload_n 2, 1), (143, Instr.bipush 14, 2), (145, Instr.if_icmp .eq 9, 3), (148, Instr.iload_n 2, 1), (149, Instr.bipush 19, 2), (151, Instr.if_icmp .ne 16, 3), (154, Instr.aload_n 0, 1), (155, Instr.iconst 0, 1), (156, Instr.iconst 4, 1), (157, Instr.invokevirtual 230, 3), (160, Instr.goto 7, 3), (163, Instr.aload_n 0, 1), (164, Instr.invokevirtual 211, 3), (167, Instr.return_, 1)]
set_option maxRecDepth 20000 in
theorem tkX11_readPart : (tbX11_readPart.all fun q => decide (decode cX11_readPart q.1 = .ok q.2)) = true := by decide +kernel
def mX11_readPart : Nat × MethodName × ByteArray × Nat × Option FieldType × List (Nat × Instr × Nat) × Option (Nat × (Nat → Int32)) := (11, yX11_readPart, cX11_readPart, 3, none, tbX11_readPart, none)
def tbX11_reads : List (Nat × Instr × Nat) := [(0, Instr.aload_n 0, 1), (1, Instr.aload_n 0, 1), (2, Instr.getfield 179, 3), (5, Instr.invokevirtual 269, 3), (8, Instr.aload_n 0, 1), (9, Instr.iconst 0, 1), (10, Instr.putfield 179, 3), (13, Instr.aload_n 0, 1), (14, Instr.iconst 0, 1), (15, Instr.putfield 205, 3), (18, Instr.aload_n 0, 1), (19, Instr.iconst 0, 1), (20, Instr.putfield 214, 3), (23, Instr.aload_n 0, 1), (24, Instr.iconst (-1), 1), (25, Instr.putfield 199, 3), (28, Instr.aload_n 0, 1), (29, Instr.invokevirtual 272, 3), (32, Instr.iconst 1, 1), (33, Instr.istore_n 1, 1), (34, Instr.aload_n 0, 1), (35, Instr.bipush 59, 2), (37, Instr.invokestatic 250, 3), (40, Instr.invokevirtual 208, 3), (43, Instr.ifCond .eq 30, 3), (46, Instr.iload_n 1, 1), (47, Instr.bipush 12, 2), (49, Instr.if_icmp .ne 7, 3), (52, Instr.aload_n 0, 1), (53, Instr.invokevirtual 211, 3), (56, Instr.aload_n 0, 1), (57, Instr.invokevirtual 202, 3), (60, Instr.ifCond .eq 7, 3), (63, Instr.aload_n 0, 1), (64, Instr.invokevirtual 272, 3), (67, Instr.iinc 1 1, 3), (70, Instr.goto (-36), 3), (73, Instr.aload_n 0, 1), (74, Instr.invokevirtual 202, 3), (77, Instr.ifCond .eq 18, 3), (80, Instr.aload_n 0, 1), (81, Instr.getfield 205, 3), (84, Instr.aload_n 0, 1), (85, Instr.getfield 185, 3), (88, Instr.if_icmp .ge 7, 3), (91, Instr.aload_n 0, 1), (92, Instr.invokevirtual 211, 3), (95, Instr.aload_n 0, 1), (96, Instr.aload_n 0, 1), (97, Instr.getfield 199, 3), (100, Instr.putfield 51, 3), (103, Instr.aload_n 0, 1), (104, Instr.invokevirtual 202, 3), (107, Instr.ireturn, 1)]
set_option maxRecDepth 20000 in
theorem tkX11_reads : (tbX11_reads.all fun q => decide (decode cX11_reads q.1 = .ok q.2)) = true := by decide +kernel
def mX11_reads : Nat × MethodName × ByteArray × Nat × Option FieldType × List (Nat × Instr × Nat) × Option (Nat × (Nat → Int32)) := (11, yX11_reads, cX11_reads, 2, (some .boolean), tbX11_reads, none)
def tbX11_readsAs : List (Nat × Instr × Nat) := [(0, Instr.aload_n 0, 1), (1, Instr.iload_n 1, 1), (2, Instr.putfield 234, 3), (5, Instr.aload_n 0, 1), (6, Instr.iload_n 1, 1), (7, Instr.ifCond .eq 8, 3), (10, Instr.bipush 13, 2), (12, Instr.goto 5, 3), (15, Instr.bipush 8, 2), (17, Instr.putfield 260, 3), (20, Instr.aload_n 0, 1), (21, Instr.iload_n 1, 1), (22, Instr.ifCond .eq 8, 3), (25, Instr.bipush 19, 2), (27, Instr.goto 5, 3), (30, Instr.bipush 15, 2), (32, Instr.putfield 263, 3), (35, Instr.aload_n 0, 1), (36, Instr.invokevirtual 275, 3), (39, Instr.ireturn, 1)]
set_option maxRecDepth 20000 in
theorem tkX11_readsAs : (tbX11_readsAs.all fun q => decide (decode cX11_readsAs q.1 = .ok q.2)) = true := by decide +kernel
def mX11_readsAs : Nat × MethodName × ByteArray × Nat × Option FieldType × List (Nat × Instr × Nat) × Option (Nat × (Nat → Int32)) := (11, yX11_readsAs, cX11_readsAs, 2, (some .boolean), tbX11_readsAs, none)
def tbX11_lays : List (Nat × Instr × Nat) := [(0, Instr.aload_n 0, 1), (1, Instr.getfield 28, 3), (4, Instr.bipush 96, 2), (6, Instr.iload_n 1, 1), (7, Instr.iadd, 1), (8, Instr.aload_n 0, 1), (9, Instr.getfield 185, 3), (12, Instr.iastore, 1), (13, Instr.iconst 0, 1), (14, Instr.istore_n 2, 1), (15, Instr.iload_n 2, 1), (16, Instr.aload_n 0, 1), (17, Instr.getfield 185, 3), (20, Instr.if_icmp .ge 52, 3), (23, Instr.aload_n 0, 1), (24, Instr.getfield 28, 3), (27, Instr.bipush 103, 2), (29, Instr.sipush 400, 3), (32, Instr.iload_n 1, 1), (33, Instr.imul, 1), (34, Instr.iadd, 1), (35, Instr.iload_n 2, 1), (36, Instr.iadd, 1), (37, Instr.aload_n 0, 1), (38, Instr.getfield 54, 3), (41, Instr.iload_n 2, 1), (42, Instr.iaload, 1), (43, Instr.iastore, 1), (44, Instr.aload_n 0, 1), (45, Instr.getfield 28, 3), (48, Instr.sipush 2903, 3), (51, Instr.sipush 400, 3), (54, Instr.iload_n 1, 1), (55, Instr.imul, 1), (56, Instr.iadd, 1), (57, Instr.iload_n 2, 1), (58, Instr.iadd, 1), (59, Instr.aload_n 0, 1), (60, Instr.getfield 57, 3), (63, Instr.iload_n 2, 1), (64, Instr.iaload, 1), (65, Instr.iastore, 1), (66, Instr.iinc 2 1, 3), (69, Instr.goto (-54), 3), (72, Instr.return_, 1)]
set_option maxRecDepth 20000 in
theorem tkX11_lays : (tbX11_lays.all fun q => decide (decode cX11_lays q.1 = .ok q.2)) = true := by decide +kernel
def mX11_lays : Nat × MethodName × ByteArray × Nat × Option FieldType × List (Nat × Instr × Nat) × Option (Nat × (Nat → Int32)) := (11, yX11_lays, cX11_lays, 3, none, tbX11_lays, none)
def tbX11_law : List (Nat × Instr × Nat) := [(0, Instr.aload_n 0, 1), (1, Instr.getfield 28, 3), (4, Instr.bipush 94, 2), (6, Instr.iaload, 1), (7, Instr.bipush 6, 2), (9, Instr.if_icmp .ne 15, 3), (12, Instr.aload_n 0, 1), (13, Instr.iconst 0, 1), (14, Instr.putfield 179, 3), (17, Instr.aload_n 0, 1), (18, Instr.bipush (-5), 2), (20, Instr.invokevirtual 118, 3), (23, Instr.ireturn, 1), (24, Instr.aload_n 0, 1), (25, Instr.iconst 0, 1), (26, Instr.invokevirtual 278, 3), (29, Instr.ifCond .ne 10, 3), (32, Instr.aload_n 0, 1), (33, Instr.bipush (-6), 2), (35, Instr.invokevirtual 118, 3), (38, Instr.ireturn, 1), (39, Instr.aload_n 0, 1), (40, Instr.aload_n 0, 1), (41, Instr.getfield 28, 3), (44, Instr.bipush 94, 2), (46, Instr.iaload, 1), (47, Instr.invokevirtual 282, 3), (50, Instr.aload_n 0, 1), (51, Instr.getfield 28, 3), (54, Instr.bipush 94, 2), (56, Instr.dup2, 1), (57, Instr.iaload, 1), (58, Instr.iconst 1, 1), (59, Instr.iadd, 1), (60, Instr.iastore, 1), (61, Instr.aload_n 0, 1), (62, Instr.aload_n 0, 1), (63, Instr.getfield 28, 3), (66, Instr.bipush 94, 2), (68, Instr.iaload, 1), (69, Instr.iconst 1, 1), (70, Instr.isub, 1), (71, Instr.invokevirtual 14, 3), (74, Instr.ireturn, 1)]
set_option maxRecDepth 20000 in
theorem tkX11_law : (tbX11_law.all fun q => decide (decode cX11_law q.1 = .ok q.2)) = true := by decide +kernel
def mX11_law : Nat × MethodName × ByteArray × Nat × Option FieldType × List (Nat × Instr × Nat) × Option (Nat × (Nat → Int32)) := (11, yX11_law, cX11_law, 1, (some .int), tbX11_law, none)
def tbX11_fault : List (Nat × Instr × Nat) := [(0, Instr.aload_n 0, 1), (1, Instr.getfield 51, 3), (4, Instr.ireturn, 1)]
set_option maxRecDepth 20000 in
theorem tkX11_fault : (tbX11_fault.all fun q => decide (decode cX11_fault q.1 = .ok q.2)) = true := by decide +kernel
def mX11_fault : Nat × MethodName × ByteArray × Nat × Option FieldType × List (Nat × Instr × Nat) × Option (Nat × (Nat → Int32)) := (11, yX11_fault, cX11_fault, 1, (some .int), tbX11_fault, none)
def tbX11_isLaw : List (Nat × Instr × Nat) := [(0, Instr.iload_n 1, 1), (1, Instr.iconst (-1), 1), (2, Instr.aload_n 0, 1), (3, Instr.getfield 28, 3), (6, Instr.bipush 94, 2), (8, Instr.iaload, 1), (9, Instr.iconst 1, 1), (10, Instr.isub, 1), (11, Instr.invokestatic 18, 3), (14, Instr.ireturn, 1)]
set_option maxRecDepth 20000 in
theorem tkX11_isLaw : (tbX11_isLaw.all fun q => decide (decode cX11_isLaw q.1 = .ok q.2)) = true := by decide +kernel
def mX11_isLaw : Nat × MethodName × ByteArray × Nat × Option FieldType × List (Nat × Instr × Nat) × Option (Nat × (Nat → Int32)) := (11, yX11_isLaw, cX11_isLaw, 2, (some .boolean), tbX11_isLaw, none)
def tbX11_force : List (Nat × Instr × Nat) := [(0, Instr.aload_n 0, 1), (1, Instr.iload_n 1, 1), (2, Instr.invokevirtual 285, 3), (5, Instr.ifCond .ne 10, 3), (8, Instr.aload_n 0, 1), (9, Instr.bipush (-2), 2), (11, Instr.invokevirtual 118, 3), (14, Instr.ireturn, 1), (15, Instr.aload_n 0, 1), (16, Instr.getfield 28, 3), (19, Instr.bipush 95, 2), (21, Instr.iaload, 1), (22, Instr.istore_n 2, 1), (23, Instr.aload_n 0, 1), (24, Instr.getfield 28, 3), (27, Instr.bipush 95, 2), (29, Instr.iload_n 1, 1), (30, Instr.iastore, 1), (31, Instr.aload_n 0, 1), (32, Instr.iload_n 2, 1), (33, Instr.invokevirtual 14, 3), (36, Instr.ireturn, 1)]
set_option maxRecDepth 20000 in
theorem tkX11_force : (tbX11_force.all fun q => decide (decode cX11_force q.1 = .ok q.2)) = true := by decide +kernel
def mX11_force : Nat × MethodName × ByteArray × Nat × Option FieldType × List (Nat × Instr × Nat) × Option (Nat × (Nat → Int32)) := (11, yX11_force, cX11_force, 3, (some .int), tbX11_force, none)
def tbX11_codeAt : List (Nat × Instr × Nat) := [(0, Instr.iload_n 1, 1), (1, Instr.aload_n 0, 1), (2, Instr.getfield 288, 3), (5, Instr.if_icmp .ge 15, 3), (8, Instr.aload_n 0, 1), (9, Instr.getfield 28, 3), (12, Instr.bipush 103, 2), (14, Instr.iload_n 1, 1), (15, Instr.iadd, 1), (16, Instr.iaload, 1), (17, Instr.goto 4, 3), (20, Instr.iconst 0, 1), (21, Instr.ireturn, 1)]
set_option maxRecDepth 20000 in
theorem tkX11_codeAt : (tbX11_codeAt.all fun q => decide (decode cX11_codeAt q.1 = .ok q.2)) = true := by decide +kernel
def mX11_codeAt : Nat × MethodName × ByteArray × Nat × Option FieldType × List (Nat × Instr × Nat) × Option (Nat × (Nat → Int32)) := (11, yX11_codeAt, cX11_codeAt, 2, (some .int), tbX11_codeAt, none)
def tbX11_passes0 : List (Nat × Instr × Nat) := [(0, Instr.aload_n 0, 1), (1, Instr.aload_n 0, 1), (2, Instr.getfield 291, 3), (5, Instr.invokevirtual 294, 3), (8, Instr.iload_n 1, 1), (9, Instr.if_icmp .ne 7, 3), (12, Instr.iconst 1, 1), (13, Instr.goto 4, 3), (16, Instr.iconst 0, 1), (17, Instr.istore_n 2, 1), (18, Instr.iload_n 2, 1), (19, Instr.ifCond .eq 13, 3), (22, Instr.aload_n 0, 1), (23, Instr.dup, 1), (24, Instr.getfield 291, 3), (27, Instr.iconst 1, 1), (28, Instr.iadd, 1), (29, Instr.putfield 291, 3), (32, Instr.iload_n 2, 1), (33, Instr.ireturn, 1)]
set_option maxRecDepth 20000 in
theorem tkX11_passes0 : (tbX11_passes0.all fun q => decide (decode cX11_passes0 q.1 = .ok q.2)) = true := by decide +kernel
def mX11_passes0 : Nat × MethodName × ByteArray × Nat × Option FieldType × List (Nat × Instr × Nat) × Option (Nat × (Nat → Int32)) := (11, yX11_passes0, cX11_passes0, 3, (some .boolean), tbX11_passes0, none)
def tbX11_bounded : List (Nat × Instr × Nat) := [(0, Instr.iload_n 3, 1), (1, Instr.ifCond .eq 24, 3), (4, Instr.lload_n 1, 1), (5, Instr.ldc2_w 297, 3), (8, Instr.lcmp, 1), (9, Instr.ifCond .gt 11, 3), (12, Instr.lload_n 1, 1), (13, Instr.ldc2_w 299, 3), (16, Instr.lcmp, 1), (17, Instr.ifCond .ge 8, 3), (20, Instr.aload_n 0, 1), (21, Instr.iconst 1, 1), (22, Instr.putfield 301, 3), (25, Instr.aload_n 0, 1), (26, Instr.getfield 301, 3), (29, Instr.ifCond .eq 7, 3), (32, Instr.lconst 0, 1), (33, Instr.goto 4, 3), (36, Instr.lload_n 1, 1), (37, Instr.lreturn, 1)]
set_option maxRecDepth 20000 in
theorem tkX11_bounded : (tbX11_bounded.all fun q => decide (decode cX11_bounded q.1 = .ok q.2)) = true := by decide +kernel
def mX11_bounded : Nat × MethodName × ByteArray × Nat × Option FieldType × List (Nat × Instr × Nat) × Option (Nat × (Nat → Int32)) := (11, yX11_bounded, cX11_bounded, 4, (some .long), tbX11_bounded, none)
def tbX11_sumOf : List (Nat × Instr × Nat) := [(0, Instr.aload_n 0, 1), (1, Instr.iload_n 1, 1), (2, Instr.invokevirtual 304, 3), (5, Instr.lstore_n 2, 1), (6, Instr.aload_n 0, 1), (7, Instr.aload_n 0, 1), (8, Instr.getfield 291, 3), (11, Instr.invokevirtual 294, 3), (14, Instr.bipush 43, 2), (16, Instr.invokestatic 250, 3), (19, Instr.if_icmp .eq 19, 3), (22, Instr.aload_n 0, 1), (23, Instr.aload_n 0, 1), (24, Instr.getfield 291, 3), (27, Instr.invokevirtual 294, 3), (30, Instr.bipush 45, 2), (32, Instr.invokestatic 250, 3), (35, Instr.if_icmp .ne 68, 3), (38, Instr.aload_n 0, 1), (39, Instr.aload_n 0, 1), (40, Instr.getfield 291, 3), (43, Instr.invokevirtual 294, 3), (46, Instr.bipush 43, 2), (48, Instr.invokestatic 250, 3), (51, Instr.if_icmp .ne 7, 3), (54, Instr.iconst 1, 1), (55, Instr.goto 4, 3), (58, Instr.iconst 0, 1), (59, Instr.istore 4, 2), (61, Instr.aload_n 0, 1), (62, Instr.dup, 1), (63, Instr.getfield 291, 3), (66, Instr.iconst 1, 1), (67, Instr.iadd, 1), (68, Instr.putfield 291, 3), (71, Instr.aload_n 0, 1), (72, Instr.iload_n 1, 1), (73, Instr.invokevirtual 304, 3), (76, Instr.lstore 5, 2), (78, Instr.aload_n 0, 1), (79, Instr.iload 4, 2), (81, Instr.ifCond .eq 10, 3), (84, Instr.lload_n 2, 1), (85, Instr.lload 5, 2), (87, Instr.ladd, 1), (88, Instr.goto 7, 3), (91, Instr.lload_n 2, 1), (92, Instr.lload 5, 2), (94, Instr.lsub, 1), (95, Instr.iload_n 1, 1), (96, Instr.invokevirtual 308, 3), (99, Instr.lstore_n 2, 1), (100, Instr.goto (-94), 3), (103, Instr.lload_n 2, 1), (104, Instr.lreturn, 1)]
set_option maxRecDepth 20000 in
theorem tkX11_sumOf : (tbX11_sumOf.all fun q => decide (decode cX11_sumOf q.1 = .ok q.2)) = true := by decide +kernel
def mX11_sumOf : Nat × MethodName × ByteArray × Nat × Option FieldType × List (Nat × Instr × Nat) × Option (Nat × (Nat → Int32)) := (11, yX11_sumOf, cX11_sumOf, 7, (some .long), tbX11_sumOf, none)
end TABS
end
section
section TABS
def tbX11_termOf : List (Nat × Instr × Nat) := [(0, Instr.aload_n 0, 1), (1, Instr.iload_n 1, 1), (2, Instr.invokevirtual 312, 3), (5, Instr.lstore_n 2, 1), (6, Instr.aload_n 0, 1), (7, Instr.aload_n 0, 1), (8, Instr.getfield 291, 3), (11, Instr.invokevirtual 294, 3), (14, Instr.bipush 42, 2), (16, Instr.invokestatic 250, 3), (19, Instr.if_icmp .eq 35, 3), (22, Instr.aload_n 0, 1), (23, Instr.aload_n 0, 1), (24, Instr.getfield 291, 3), (27, Instr.invokevirtual 294, 3), (30, Instr.bipush 47, 2), (32, Instr.invokestatic 250, 3), (35, Instr.if_icmp .eq 19, 3), (38, Instr.aload_n 0, 1), (39, Instr.aload_n 0, 1), (40, Instr.getfield 291, 3), (43, Instr.invokevirtual 294, 3), (46, Instr.bipush 37, 2), (48, Instr.invokestatic 250, 3), (51, Instr.if_icmp .ne 117, 3), (54, Instr.aload_n 0, 1), (55, Instr.aload_n 0, 1), (56, Instr.getfield 291, 3), (59, Instr.invokevirtual 294, 3), (62, Instr.istore 4, 2), (64, Instr.aload_n 0, 1), (65, Instr.dup, 1), (66, Instr.getfield 291, 3), (69, Instr.iconst 1, 1), (70, Instr.iadd, 1), (71, Instr.putfield 291, 3), (74, Instr.aload_n 0, 1), (75, Instr.iload_n 1, 1), (76, Instr.invokevirtual 312, 3), (79, Instr.lstore 5, 2), (81, Instr.iload 4, 2), (83, Instr.bipush 42, 2), (85, Instr.invokestatic 250, 3), (88, Instr.if_icmp .eq 33, 3), (91, Instr.lload 5, 2), (93, Instr.lconst 0, 1), (94, Instr.lcmp, 1), (95, Instr.ifCond .ne 26, 3), (98, Instr.aload_n 0, 1), (99, Instr.aload_n 0, 1), (100, Instr.getfield 301, 3), (103, Instr.ifCond .ne 7, 3), (106, Instr.iload_n 1, 1), (107, Instr.ifCond .eq 7, 3), (110, Instr.iconst 1, 1), (111, Instr.goto 4, 3), (114, Instr.iconst 0, 1), (115, Instr.putfield 301, 3), (118, Instr.lconst 1, 1), (119, Instr.lstore 5, 2), (121, Instr.aload_n 0, 1), (122, Instr.iload 4, 2), (124, Instr.bipush 42, 2), (126, Instr.invokestatic 250, 3), (129, Instr.if_icmp .ne 10, 3), (132, Instr.lload_n 2, 1), (133, Instr.lload 5, 2), (135, Instr.lmul, 1), (136, Instr.goto 24, 3), (139, Instr.iload 4, 2), (141, Instr.bipush 47, 2), (143, Instr.invokestatic 250, 3), (146, Instr.if_icmp .ne 10, 3), (149, Instr.lload_n 2, 1), (150, Instr.lload 5, 2), (152, Instr.ldiv, 1), (153, Instr.goto 7, 3), (156, Instr.lload_n 2, 1), (157, Instr.lload 5, 2), (159, Instr.lrem, 1), (160, Instr.iload_n 1, 1), (161, Instr.invokevirtual 308, 3), (164, Instr.lstore_n 2, 1), (165, Instr.goto (-159), 3), (168, Instr.lload_n 2, 1), (169, Instr.lreturn, 1)]
set_option maxRecDepth 20000 in
theorem tkX11_termOf : (tbX11_termOf.all fun q => decide (decode cX11_termOf q.1 = .ok q.2)) = true := by decide +kernel
def mX11_termOf : Nat × MethodName × ByteArray × Nat × Option FieldType × List (Nat × Instr × Nat) × Option (Nat × (Nat → Int32)) := (11, yX11_termOf, cX11_termOf, 7, (some .long), tbX11_termOf, none)
def tbX11_partOf : List (Nat × Instr × Nat) := [(0, Instr.aload_n 0, 1), (1, Instr.bipush 91, 2), (3, Instr.invokestatic 250, 3), (6, Instr.invokevirtual 315, 3), (9, Instr.ifCond .eq 21, 3), (12, Instr.aload_n 0, 1), (13, Instr.iload_n 1, 1), (14, Instr.invokevirtual 318, 3), (17, Instr.lstore_n 2, 1), (18, Instr.aload_n 0, 1), (19, Instr.dup, 1), (20, Instr.getfield 291, 3), (23, Instr.iconst 1, 1), (24, Instr.iadd, 1), (25, Instr.putfield 291, 3), (28, Instr.lload_n 2, 1), (29, Instr.lreturn, 1), (30, Instr.aload_n 0, 1), (31, Instr.aload_n 0, 1), (32, Instr.getfield 291, 3), (35, Instr.invokevirtual 294, 3), (38, Instr.istore_n 2, 1), (39, Instr.iconst 0, 1), (40, Instr.istore_n 3, 1), (41, Instr.aload_n 0, 1), (42, Instr.dup, 1), (43, Instr.getfield 291, 3), (46, Instr.iconst 1, 1), (47, Instr.iadd, 1), (48, Instr.putfield 291, 3), (51, Instr.aload_n 0, 1), (52, Instr.getfield 321, 3), (55, Instr.ifCond .eq 45, 3), (58, Instr.iload_n 2, 1), (59, Instr.bipush 13, 2), (61, Instr.if_icmp .eq 15, 3), (64, Instr.iload_n 2, 1), (65, Instr.bipush 14, 2), (67, Instr.if_icmp .eq 9, 3), (70, Instr.iload_n 2, 1), (71, Instr.bipush 19, 2), (73, Instr.if_icmp .ne 27, 3), (76, Instr.aload_n 0, 1), (77, Instr.getfield 28, 3), (80, Instr.sipush 2903, 3), (83, Instr.aload_n 0, 1), (84, Instr.getfield 291, 3), (87, Instr.iadd, 1), (88, Instr.iaload, 1), (89, Instr.istore_n 3, 1), (90, Instr.aload_n 0, 1), (91, Instr.dup, 1), (92, Instr.getfield 291, 3), (95, Instr.iconst 1, 1), (96, Instr.iadd, 1), (97, Instr.putfield 291, 3), (100, Instr.iload_n 1, 1), (101, Instr.ifCond .eq 10, 3), (104, Instr.aload_n 0, 1), (105, Instr.getfield 301, 3), (108, Instr.ifCond .eq 5, 3), (111, Instr.lconst 0, 1), (112, Instr.lreturn, 1), (113, Instr.iload_n 2, 1), (114, Instr.bipush 50, 2), (116, Instr.if_icmp .ne 20, 3), (119, Instr.aload_n 0, 1), (120, Instr.getfield 28, 3), (123, Instr.sipush 2903, 3), (126, Instr.aload_n 0, 1), (127, Instr.getfield 291, 3), (130, Instr.iadd, 1), (131, Instr.iconst 1, 1), (132, Instr.isub, 1), (133, Instr.iaload, 1), (134, Instr.i2l, 1), (135, Instr.lreturn, 1), (136, Instr.aload_n 0, 1), (137, Instr.getfield 321, 3), (140, Instr.ifCond .eq 13, 3), (143, Instr.aload_n 0, 1), (144, Instr.iload_n 2, 1), (145, Instr.iload_n 3, 1), (146, Instr.invokevirtual 324, 3), (149, Instr.i2l, 1), (150, Instr.goto 13, 3), (153, Instr.aload_n 0, 1), (154, Instr.getfield 63, 3), (157, Instr.iload_n 2, 1), (158, Instr.bipush 8, 2), (160, Instr.isub, 1), (161, Instr.iaload, 1), (162, Instr.i2l, 1), (163, Instr.lreturn, 1)]
set_option maxRecDepth 20000 in
theorem tkX11_partOf : (tbX11_partOf.all fun q => decide (decode cX11_partOf q.1 = .ok q.2)) = true := by decide +kernel
def mX11_partOf : Nat × MethodName × ByteArray × Nat × Option FieldType × List (Nat × Instr × Nat) × Option (Nat × (Nat → Int32)) := (11, yX11_partOf, cX11_partOf, 4, (some .long), tbX11_partOf, none)
def tbX11_wholeMany : List (Nat × Instr × Nat) := [(0, Instr.iconst 0, 1), (1, Instr.istore_n 1, 1), (2, Instr.iconst 0, 1), (3, Instr.istore_n 2, 1), (4, Instr.iload_n 2, 1), (5, Instr.aload_n 0, 1), (6, Instr.getfield 28, 3), (9, Instr.bipush 92, 2), (11, Instr.iaload, 1), (12, Instr.if_icmp .ge 29, 3), (15, Instr.iload_n 1, 1), (16, Instr.aload_n 0, 1), (17, Instr.getfield 28, 3), (20, Instr.iconst 5, 1), (21, Instr.iload_n 2, 1), (22, Instr.iadd, 1), (23, Instr.iaload, 1), (24, Instr.iconst 1, 1), (25, Instr.if_icmp .ne 7, 3), (28, Instr.iconst 1, 1), (29, Instr.goto 4, 3), (32, Instr.iconst 0, 1), (33, Instr.iadd, 1), (34, Instr.istore_n 1, 1), (35, Instr.iinc 2 1, 3), (38, Instr.goto (-34), 3), (41, Instr.iload_n 1, 1), (42, Instr.ireturn, 1)]
set_option maxRecDepth 20000 in
theorem tkX11_wholeMany : (tbX11_wholeMany.all fun q => decide (decode cX11_wholeMany q.1 = .ok q.2)) = true := by decide +kernel
def mX11_wholeMany : Nat × MethodName × ByteArray × Nat × Option FieldType × List (Nat × Instr × Nat) × Option (Nat × (Nat → Int32)) := (11, yX11_wholeMany, cX11_wholeMany, 3, (some .int), tbX11_wholeMany, none)
def tbX11_orderValue : List (Nat × Instr × Nat) := [(0, Instr.iload_n 1, 1), (1, Instr.tableswitch 125 13 19 #[43, 65, 107, 115, 120, 125, 86], 43), (44, Instr.aload_n 0, 1), (45, Instr.iload_n 2, 1), (46, Instr.invokevirtual 143, 3), (49, Instr.ifCond .eq 15, 3), (52, Instr.aload_n 0, 1), (53, Instr.getfield 28, 3), (56, Instr.bipush 15, 2), (58, Instr.iload_n 2, 1), (59, Instr.iadd, 1), (60, Instr.iaload, 1), (61, Instr.goto 4, 3), (64, Instr.iconst (-1), 1), (65, Instr.ireturn, 1), (66, Instr.aload_n 0, 1), (67, Instr.iload_n 2, 1), (68, Instr.invokevirtual 149, 3), (71, Instr.ifCond .eq 14, 3), (74, Instr.aload_n 0, 1), (75, Instr.getfield 28, 3), (78, Instr.iconst 5, 1), (79, Instr.iload_n 2, 1), (80, Instr.iadd, 1), (81, Instr.iaload, 1), (82, Instr.goto 4, 3), (85, Instr.iconst (-1), 1), (86, Instr.ireturn, 1), (87, Instr.aload_n 0, 1), (88, Instr.iload_n 2, 1), (89, Instr.invokevirtual 149, 3), (92, Instr.ifCond .eq 14, 3), (95, Instr.aload_n 0, 1), (96, Instr.getfield 28, 3), (99, Instr.iconst 0, 1), (100, Instr.iload_n 2, 1), (101, Instr.iadd, 1), (102, Instr.iaload, 1), (103, Instr.goto 4, 3), (106, Instr.iconst (-1), 1), (107, Instr.ireturn, 1), (108, Instr.aload_n 0, 1), (109, Instr.getfield 28, 3), (112, Instr.bipush 35, 2), (114, Instr.iaload, 1), (115, Instr.ireturn, 1), (116, Instr.aload_n 0, 1), (117, Instr.getfield 327, 3), (120, Instr.ireturn, 1), (121, Instr.aload_n 0, 1), (122, Instr.getfield 330, 3), (125, Instr.ireturn, 1), (126, Instr.aload_n 0, 1), (127, Instr.invokevirtual 333, 3), (130, Instr.ireturn, 1)]
set_option maxRecDepth 20000 in
theorem tkX11_orderValue : (tbX11_orderValue.all fun q => decide (decode cX11_orderValue q.1 = .ok q.2)) = true := by decide +kernel
def mX11_orderValue : Nat × MethodName × ByteArray × Nat × Option FieldType × List (Nat × Instr × Nat) × Option (Nat × (Nat → Int32)) := (11, yX11_orderValue, cX11_orderValue, 3, (some .int), tbX11_orderValue, none)
def tbX11_testOf : List (Nat × Instr × Nat) := [(0, Instr.aload_n 0, 1), (1, Instr.iload_n 1, 1), (2, Instr.invokevirtual 336, 3), (5, Instr.istore_n 2, 1), (6, Instr.aload_n 0, 1), (7, Instr.iconst 5, 1), (8, Instr.invokevirtual 315, 3), (11, Instr.ifCond .eq 38, 3), (14, Instr.aload_n 0, 1), (15, Instr.iload_n 1, 1), (16, Instr.ifCond .eq 11, 3), (19, Instr.iload_n 2, 1), (20, Instr.ifCond .ne 7, 3), (23, Instr.iconst 1, 1), (24, Instr.goto 4, 3), (27, Instr.iconst 0, 1), (28, Instr.invokevirtual 336, 3), (31, Instr.istore_n 3, 1), (32, Instr.iload_n 2, 1), (33, Instr.ifCond .ne 7, 3), (36, Instr.iload_n 3, 1), (37, Instr.ifCond .eq 7, 3), (40, Instr.iconst 1, 1), (41, Instr.goto 4, 3), (44, Instr.iconst 0, 1), (45, Instr.istore_n 2, 1), (46, Instr.goto (-40), 3), (49, Instr.iload_n 2, 1), (50, Instr.ireturn, 1)]
set_option maxRecDepth 20000 in
theorem tkX11_testOf : (tbX11_testOf.all fun q => decide (decode cX11_testOf q.1 = .ok q.2)) = true := by decide +kernel
def mX11_testOf : Nat × MethodName × ByteArray × Nat × Option FieldType × List (Nat × Instr × Nat) × Option (Nat × (Nat → Int32)) := (11, yX11_testOf, cX11_testOf, 4, (some .boolean), tbX11_testOf, none)
def tbX11_bothOf : List (Nat × Instr × Nat) := [(0, Instr.aload_n 0, 1), (1, Instr.iload_n 1, 1), (2, Instr.invokevirtual 339, 3), (5, Instr.istore_n 2, 1), (6, Instr.aload_n 0, 1), (7, Instr.bipush 6, 2), (9, Instr.invokevirtual 315, 3), (12, Instr.ifCond .eq 38, 3), (15, Instr.aload_n 0, 1), (16, Instr.iload_n 1, 1), (17, Instr.ifCond .eq 11, 3), (20, Instr.iload_n 2, 1), (21, Instr.ifCond .eq 7, 3), (24, Instr.iconst 1, 1), (25, Instr.goto 4, 3), (28, Instr.iconst 0, 1), (29, Instr.invokevirtual 339, 3), (32, Instr.istore_n 3, 1), (33, Instr.iload_n 2, 1), (34, Instr.ifCond .eq 11, 3), (37, Instr.iload_n 3, 1), (38, Instr.ifCond .eq 7, 3), (41, Instr.iconst 1, 1), (42, Instr.goto 4, 3), (45, Instr.iconst 0, 1), (46, Instr.istore_n 2, 1), (47, Instr.goto (-41), 3), (50, Instr.iload_n 2, 1), (51, Instr.ireturn, 1)]
set_option maxRecDepth 20000 in
theorem tkX11_bothOf : (tbX11_bothOf.all fun q => decide (decode cX11_bothOf q.1 = .ok q.2)) = true := by decide +kernel
def mX11_bothOf : Nat × MethodName × ByteArray × Nat × Option FieldType × List (Nat × Instr × Nat) × Option (Nat × (Nat → Int32)) := (11, yX11_bothOf, cX11_bothOf, 4, (some .boolean), tbX11_bothOf, none)
def tbX11_plainOf : List (Nat × Instr × Nat) := [(0, Instr.iconst 0, 1), (1, Instr.istore_n 2, 1), (2, Instr.aload_n 0, 1), (3, Instr.bipush 7, 2), (5, Instr.invokevirtual 315, 3), (8, Instr.ifCond .eq 16, 3), (11, Instr.iload_n 2, 1), (12, Instr.ifCond .ne 7, 3), (15, Instr.iconst 1, 1), (16, Instr.goto 4, 3), (19, Instr.iconst 0, 1), (20, Instr.istore_n 2, 1), (21, Instr.goto (-19), 3), (24, Instr.aload_n 0, 1), (25, Instr.iload_n 1, 1), (26, Instr.invokevirtual 342, 3), (29, Instr.iload_n 2, 1), (30, Instr.if_icmp .eq 7, 3), (33, Instr.iconst 1, 1), (34, Instr.goto 4, 3), (37, Instr.iconst 0, 1), (38, Instr.ireturn, 1)]
set_option maxRecDepth 20000 in
theorem tkX11_plainOf : (tbX11_plainOf.all fun q => decide (decode cX11_plainOf q.1 = .ok q.2)) = true := by decide +kernel
def mX11_plainOf : Nat × MethodName × ByteArray × Nat × Option FieldType × List (Nat × Instr × Nat) × Option (Nat × (Nat → Int32)) := (11, yX11_plainOf, cX11_plainOf, 3, (some .boolean), tbX11_plainOf, none)
def tbX11_positiveOf : List (Nat × Instr × Nat) := [(0, Instr.aload_n 0, 1), (1, Instr.bipush 40, 2), (3, Instr.invokestatic 250, 3), (6, Instr.invokevirtual 315, 3), (9, Instr.ifCond .eq 21, 3), (12, Instr.aload_n 0, 1), (13, Instr.iload_n 1, 1), (14, Instr.invokevirtual 345, 3), (17, Instr.istore_n 2, 1), (18, Instr.aload_n 0, 1), (19, Instr.dup, 1), (20, Instr.getfield 291, 3), (23, Instr.iconst 1, 1), (24, Instr.iadd, 1), (25, Instr.putfield 291, 3), (28, Instr.iload_n 2, 1), (29, Instr.ireturn, 1), (30, Instr.aload_n 0, 1), (31, Instr.iload_n 1, 1), (32, Instr.invokevirtual 318, 3), (35, Instr.lstore_n 2, 1), (36, Instr.aload_n 0, 1), (37, Instr.aload_n 0, 1), (38, Instr.getfield 291, 3), (41, Instr.invokevirtual 294, 3), (44, Instr.istore 4, 2), (46, Instr.aload_n 0, 1), (47, Instr.dup, 1), (48, Instr.getfield 291, 3), (51, Instr.iconst 1, 1), (52, Instr.iadd, 1), (53, Instr.putfield 291, 3), (56, Instr.aload_n 0, 1), (57, Instr.iload_n 1, 1), (58, Instr.invokevirtual 318, 3), (61, Instr.lstore 5, 2), (63, Instr.iload_n 1, 1), (64, Instr.ifCond .eq 61, 3), (67, Instr.aload_n 0, 1), (68, Instr.getfield 301, 3), (71, Instr.ifCond .ne 54, 3), (74, Instr.iload 4, 2), (76, Instr.bipush 60, 2), (78, Instr.invokestatic 250, 3), (81, Instr.if_icmp .ne 13, 3), (84, Instr.lload_n 2, 1), (85, Instr.lload 5, 2), (87, Instr.lcmp, 1), (88, Instr.ifCond .ge 37, 3), (91, Instr.goto 30, 3), (94, Instr.iload 4, 2), (96, Instr.bipush 62, 2), (98, Instr.invokestatic 250, 3), (101, Instr.if_icmp .ne 13, 3), (104, Instr.lload_n 2, 1), (105, Instr.lload 5, 2), (107, Instr.lcmp, 1), (108, Instr.ifCond .le 17, 3), (111, Instr.goto 10, 3), (114, Instr.lload_n 2, 1), (115, Instr.lload 5, 2), (117, Instr.lcmp, 1), (118, Instr.ifCond .ne 7, 3), (121, Instr.iconst 1, 1), (122, Instr.goto 4, 3), (125, Instr.iconst 0, 1), (126, Instr.ireturn, 1)]
set_option maxRecDepth 20000 in
theorem tkX11_positiveOf : (tbX11_positiveOf.all fun q => decide (decode cX11_positiveOf q.1 = .ok q.2)) = true := by decide +kernel
def mX11_positiveOf : Nat × MethodName × ByteArray × Nat × Option FieldType × List (Nat × Instr × Nat) × Option (Nat × (Nat → Int32)) := (11, yX11_positiveOf, cX11_positiveOf, 7, (some .boolean), tbX11_positiveOf, none)
def tbX11_setsAsked : List (Nat × Instr × Nat) := [(0, Instr.aload_n 0, 1), (1, Instr.getfield 63, 3), (4, Instr.iconst 0, 1), (5, Instr.iload_n 1, 1), (6, Instr.iastore, 1), (7, Instr.aload_n 0, 1), (8, Instr.getfield 63, 3), (11, Instr.iconst 1, 1), (12, Instr.iload 4, 2), (14, Instr.iastore, 1), (15, Instr.aload_n 0, 1), (16, Instr.getfield 63, 3), (19, Instr.iconst 2, 1), (20, Instr.iload 5, 2), (22, Instr.iastore, 1), (23, Instr.aload_n 0, 1), (24, Instr.getfield 63, 3), (27, Instr.iconst 3, 1), (28, Instr.iload 6, 2), (30, Instr.iastore, 1), (31, Instr.aload_n 0, 1), (32, Instr.getfield 63, 3), (35, Instr.iconst 4, 1), (36, Instr.aload_n 0, 1), (37, Instr.getfield 28, 3), (40, Instr.bipush 90, 2), (42, Instr.iaload, 1), (43, Instr.iastore, 1), (44, Instr.aload_n 0, 1), (45, Instr.getfield 63, 3), (48, Instr.iconst 5, 1), (49, Instr.iload_n 2, 1), (50, Instr.iastore, 1), (51, Instr.aload_n 0, 1), (52, Instr.getfield 63, 3), (55, Instr.bipush 6, 2), (57, Instr.iload_n 3, 1), (58, Instr.iastore, 1), (59, Instr.aload_n 0, 1), (60, Instr.getfield 63, 3), (63, Instr.bipush 7, 2), (65, Instr.aload_n 0, 1), (66, Instr.getfield 28, 3), (69, Instr.bipush 35, 2), (71, Instr.iaload, 1), (72, Instr.iastore, 1), (73, Instr.return_, 1)]
set_option maxRecDepth 20000 in
theorem tkX11_setsAsked : (tbX11_setsAsked.all fun q => decide (decode cX11_setsAsked q.1 = .ok q.2)) = true := by decide +kernel
def mX11_setsAsked : Nat × MethodName × ByteArray × Nat × Option FieldType × List (Nat × Instr × Nat) × Option (Nat × (Nat → Int32)) := (11, yX11_setsAsked, cX11_setsAsked, 7, none, tbX11_setsAsked, none)
def tbX11_setsGate : List (Nat × Instr × Nat) := [(0, Instr.aload_n 0, 1), (1, Instr.aload_n 0, 1), (2, Instr.getfield 28, 3), (5, Instr.bipush 56, 2), (7, Instr.iload_n 2, 1), (8, Instr.iadd, 1), (9, Instr.iaload, 1), (10, Instr.aload_n 0, 1), (11, Instr.getfield 28, 3), (14, Instr.bipush 15, 2), (16, Instr.iload_n 2, 1), (17, Instr.iadd, 1), (18, Instr.iaload, 1), (19, Instr.iload_n 3, 1), (20, Instr.aload_n 0, 1), (21, Instr.getfield 28, 3), (24, Instr.bipush 66, 2), (26, Instr.iload_n 1, 1), (27, Instr.iadd, 1), (28, Instr.iaload, 1), (29, Instr.iload_n 2, 1), (30, Instr.iload_n 1, 1), (31, Instr.invokevirtual 348, 3), (34, Instr.return_, 1)]
set_option maxRecDepth 20000 in
theorem tkX11_setsGate : (tbX11_setsGate.all fun q => decide (decode cX11_setsGate q.1 = .ok q.2)) = true := by decide +kernel
def mX11_setsGate : Nat × MethodName × ByteArray × Nat × Option FieldType × List (Nat × Instr × Nat) × Option (Nat × (Nat → Int32)) := (11, yX11_setsGate, cX11_setsGate, 4, none, tbX11_setsGate, none)
def tbX11_tells : List (Nat × Instr × Nat) := [(0, Instr.aload_n 0, 1), (1, Instr.getfield 28, 3), (4, Instr.bipush 95, 2), (6, Instr.iaload, 1), (7, Instr.iconst (-1), 1), (8, Instr.if_icmp .ne 5, 3), (11, Instr.iload_n 3, 1), (12, Instr.ireturn, 1), (13, Instr.aload_n 0, 1), (14, Instr.iconst 0, 1), (15, Instr.putfield 321, 3), (18, Instr.iload_n 3, 1), (19, Instr.i2l, 1), (20, Instr.lstore 4, 2), (22, Instr.aload_n 0, 1), (23, Instr.sipush 400, 3), (26, Instr.aload_n 0, 1), (27, Instr.getfield 28, 3), (30, Instr.bipush 95, 2), (32, Instr.iaload, 1), (33, Instr.imul, 1), (34, Instr.putfield 291, 3), (37, Instr.aload_n 0, 1), (38, Instr.aload_n 0, 1), (39, Instr.getfield 291, 3), (42, Instr.aload_n 0, 1), (43, Instr.getfield 28, 3), (46, Instr.bipush 96, 2), (48, Instr.aload_n 0, 1), (49, Instr.getfield 28, 3), (52, Instr.bipush 95, 2), (54, Instr.iaload, 1), (55, Instr.iadd, 1), (56, Instr.iaload, 1), (57, Instr.iadd, 1), (58, Instr.putfield 288, 3), (61, Instr.aload_n 0, 1), (62, Instr.getfield 291, 3), (65, Instr.aload_n 0, 1), (66, Instr.getfield 288, 3), (69, Instr.if_icmp .ge 143, 3), (72, Instr.aload_n 0, 1), (73, Instr.aload_n 0, 1), (74, Instr.getfield 291, 3), (77, Instr.invokevirtual 294, 3), (80, Instr.istore 6, 2), (82, Instr.aload_n 0, 1), (83, Instr.iconst 0, 1), (84, Instr.putfield 301, 3), (87, Instr.aload_n 0, 1), (88, Instr.dup, 1), (89, Instr.getfield 291, 3), (92, Instr.iconst 1, 1), (93, Instr.iadd, 1), (94, Instr.putfield 291, 3), (97, Instr.iload 6, 2), (99, Instr.iconst 3, 1), (100, Instr.if_icmp .ne 7, 3), (103, Instr.lconst 1, 1), (104, Instr.goto 8, 3), (107, Instr.aload_n 0, 1), (108, Instr.iconst 1, 1), (109, Instr.invokevirtual 318, 3), (112, Instr.lstore 7, 2), (114, Instr.aload_n 0, 1), (115, Instr.getfield 301, 3), (118, Instr.istore 9, 2), (120, Instr.aload_n 0, 1), (121, Instr.iconst 0, 1), (122, Instr.putfield 301, 3), (125, Instr.aload_n 0, 1), (126, Instr.iconst 4, 1), (127, Instr.invokevirtual 315, 3), (130, Instr.ifCond .eq 11, 3), (133, Instr.aload_n 0, 1), (134, Instr.iconst 1, 1), (135, Instr.invokevirtual 345, 3), (138, Instr.ifCond .eq 7, 3), (141, Instr.iconst 1, 1), (142, Instr.goto 4, 3), (145, Instr.iconst 0, 1), (146, Instr.istore 10, 2), (148, Instr.iload 6, 2), (150, Instr.iload_n 1, 1), (151, Instr.if_icmp .ne 48, 3), (154, Instr.iload 10, 2), (156, Instr.ifCond .eq 43, 3), (159, Instr.aload_n 0, 1), (160, Instr.getfield 301, 3), (163, Instr.ifCond .ne 36, 3), (166, Instr.iload 9, 2), (168, Instr.ifCond .ne 31, 3), (171, Instr.lload 7, 2), (173, Instr.lconst 0, 1), (174, Instr.lcmp, 1), (175, Instr.ifCond .ge 7, 3), (178, Instr.lconst 0, 1), (179, Instr.goto 18, 3), (182, Instr.lload 7, 2), (184, Instr.iload_n 2, 1), (185, Instr.i2l, 1), (186, Instr.lcmp, 1), (187, Instr.ifCond .le 8, 3), (190, Instr.iload_n 2, 1), (191, Instr.i2l, 1), (192, Instr.goto 5, 3), (195, Instr.lload 7, 2), (197, Instr.lstore 4, 2), (199, Instr.aload_n 0, 1), (200, Instr.dup, 1), (201, Instr.getfield 291, 3), (204, Instr.iconst 1, 1), (205, Instr.iadd, 1), (206, Instr.putfield 291, 3), (209, Instr.goto (-148), 3), (212, Instr.lload 4, 2), (214, Instr.l2i, 1), (215, Instr.ireturn, 1)]
set_option maxRecDepth 20000 in
theorem tkX11_tells : (tbX11_tells.all fun q => decide (decode cX11_tells q.1 = .ok q.2)) = true := by decide +kernel
def mX11_tells : Nat × MethodName × ByteArray × Nat × Option FieldType × List (Nat × Instr × Nat) × Option (Nat × (Nat → Int32)) := (11, yX11_tells, cX11_tells, 11, (some .int), tbX11_tells, none)
def tbX11_turnsNow : List (Nat × Instr × Nat) := [(0, Instr.aload_n 0, 1), (1, Instr.iconst 1, 1), (2, Instr.bipush 19, 2), (4, Instr.iconst 0, 1), (5, Instr.aload_n 0, 1), (6, Instr.getfield 63, 3), (9, Instr.bipush 6, 2), (11, Instr.iaload, 1), (12, Instr.iconst 1, 1), (13, Instr.isub, 1), (14, Instr.invokestatic 352, 3), (17, Instr.invokevirtual 355, 3), (20, Instr.ireturn, 1)]
set_option maxRecDepth 20000 in
theorem tkX11_turnsNow : (tbX11_turnsNow.all fun q => decide (decode cX11_turnsNow q.1 = .ok q.2)) = true := by decide +kernel
def mX11_turnsNow : Nat × MethodName × ByteArray × Nat × Option FieldType × List (Nat × Instr × Nat) × Option (Nat × (Nat → Int32)) := (11, yX11_turnsNow, cX11_turnsNow, 1, (some .int), tbX11_turnsNow, none)
def tbX11_paysNow : List (Nat × Instr × Nat) := [(0, Instr.aload_n 0, 1), (1, Instr.iconst 2, 1), (2, Instr.bipush 9, 2), (4, Instr.iconst 1, 1), (5, Instr.invokevirtual 355, 3), (8, Instr.ireturn, 1)]
set_option maxRecDepth 20000 in
theorem tkX11_paysNow : (tbX11_paysNow.all fun q => decide (decode cX11_paysNow q.1 = .ok q.2)) = true := by decide +kernel
def mX11_paysNow : Nat × MethodName × ByteArray × Nat × Option FieldType × List (Nat × Instr × Nat) × Option (Nat × (Nat → Int32)) := (11, yX11_paysNow, cX11_paysNow, 1, (some .int), tbX11_paysNow, none)
def tbX11_isBarredNow : List (Nat × Instr × Nat) := [(0, Instr.aload_n 0, 1), (1, Instr.iconst 3, 1), (2, Instr.iconst 1, 1), (3, Instr.iconst 0, 1), (4, Instr.invokevirtual 355, 3), (7, Instr.iconst 1, 1), (8, Instr.if_icmp .ne 7, 3), (11, Instr.iconst 1, 1), (12, Instr.goto 4, 3), (15, Instr.iconst 0, 1), (16, Instr.ireturn, 1)]
set_option maxRecDepth 20000 in
theorem tkX11_isBarredNow : (tbX11_isBarredNow.all fun q => decide (decode cX11_isBarredNow q.1 = .ok q.2)) = true := by decide +kernel
def mX11_isBarredNow : Nat × MethodName × ByteArray × Nat × Option FieldType × List (Nat × Instr × Nat) × Option (Nat × (Nat → Int32)) := (11, yX11_isBarredNow, cX11_isBarredNow, 1, (some .boolean), tbX11_isBarredNow, none)
def tbX11_canGo : List (Nat × Instr × Nat) := [(0, Instr.aload_n 0, 1), (1, Instr.getfield 28, 3), (4, Instr.bipush 36, 2), (6, Instr.iload_n 2, 1), (7, Instr.iadd, 1), (8, Instr.iaload, 1), (9, Instr.aload_n 0, 1), (10, Instr.getfield 28, 3), (13, Instr.iconst 0, 1), (14, Instr.iload_n 1, 1), (15, Instr.iadd, 1), (16, Instr.iaload, 1), (17, Instr.if_icmp .ne 15, 3), (20, Instr.aload_n 0, 1), (21, Instr.getfield 28, 3), (24, Instr.bipush 25, 2), (26, Instr.iload_n 2, 1), (27, Instr.iadd, 1), (28, Instr.iaload, 1), (29, Instr.ifCond .ne 5, 3), (32, Instr.iconst 0, 1), (33, Instr.ireturn, 1), (34, Instr.aload_n 0, 1), (35, Instr.iload_n 1, 1), (36, Instr.iload_n 2, 1), (37, Instr.aload_n 0, 1), (38, Instr.getfield 28, 3), (41, Instr.iconst 5, 1), (42, Instr.iload_n 1, 1), (43, Instr.iadd, 1), (44, Instr.iaload, 1), (45, Instr.invokevirtual 159, 3), (48, Instr.aload_n 0, 1), (49, Instr.invokevirtual 169, 3), (52, Instr.ifCond .ne 7, 3), (55, Instr.iconst 1, 1), (56, Instr.goto 4, 3), (59, Instr.iconst 0, 1), (60, Instr.ireturn, 1)]
set_option maxRecDepth 20000 in
theorem tkX11_canGo : (tbX11_canGo.all fun q => decide (decode cX11_canGo q.1 = .ok q.2)) = true := by decide +kernel
def mX11_canGo : Nat × MethodName × ByteArray × Nat × Option FieldType × List (Nat × Instr × Nat) × Option (Nat × (Nat → Int32)) := (11, yX11_canGo, cX11_canGo, 3, (some .boolean), tbX11_canGo, none)
def tbX11_goesNow : List (Nat × Instr × Nat) := [(0, Instr.aload_n 0, 1), (1, Instr.iload_n 1, 1), (2, Instr.iload_n 2, 1), (3, Instr.aload_n 0, 1), (4, Instr.getfield 28, 3), (7, Instr.iconst 5, 1), (8, Instr.iload_n 1, 1), (9, Instr.iadd, 1), (10, Instr.iaload, 1), (11, Instr.invokevirtual 159, 3), (14, Instr.aload_n 0, 1), (15, Instr.invokevirtual 163, 3), (18, Instr.istore_n 3, 1), (19, Instr.aload_n 0, 1), (20, Instr.invokevirtual 166, 3), (23, Instr.istore 4, 2), (25, Instr.aload_n 0, 1), (26, Instr.getfield 28, 3), (29, Instr.iconst 0, 1), (30, Instr.iload_n 1, 1), (31, Instr.iadd, 1), (32, Instr.aload_n 0, 1), (33, Instr.getfield 28, 3), (36, Instr.bipush 46, 2), (38, Instr.iload_n 2, 1), (39, Instr.iadd, 1), (40, Instr.iaload, 1), (41, Instr.iastore, 1), (42, Instr.aload_n 0, 1), (43, Instr.getfield 28, 3), (46, Instr.iconst 5, 1), (47, Instr.iload_n 1, 1), (48, Instr.iadd, 1), (49, Instr.iload_n 3, 1), (50, Instr.iastore, 1), (51, Instr.aload_n 0, 1), (52, Instr.getfield 28, 3), (55, Instr.bipush 10, 2), (57, Instr.iload_n 1, 1), (58, Instr.iadd, 1), (59, Instr.sipush 9999, 3), (62, Instr.aload_n 0, 1), (63, Instr.getfield 28, 3), (66, Instr.bipush 10, 2), (68, Instr.iload_n 1, 1), (69, Instr.iadd, 1), (70, Instr.iaload, 1), (71, Instr.iload 4, 2), (73, Instr.iadd, 1), (74, Instr.invokestatic 359, 3), (77, Instr.iastore, 1), (78, Instr.iload_n 3, 1), (79, Instr.ireturn, 1)]
set_option maxRecDepth 20000 in
theorem tkX11_goesNow : (tbX11_goesNow.all fun q => decide (decode cX11_goesNow q.1 = .ok q.2)) = true := by decide +kernel
def mX11_goesNow : Nat × MethodName × ByteArray × Nat × Option FieldType × List (Nat × Instr × Nat) × Option (Nat × (Nat → Int32)) := (11, yX11_goesNow, cX11_goesNow, 5, (some .int), tbX11_goesNow, none)
def tbX11_keeps : List (Nat × Instr × Nat) := [(0, Instr.bipush 37, 2), (2, Instr.istore_n 2, 1), (3, Instr.aload_n 0, 1), (4, Instr.getfield 11, 3), (7, Instr.bipush 16, 2), (9, Instr.if_icmp .ne 43, 3), (12, Instr.iconst 0, 1), (13, Instr.istore_n 3, 1), (14, Instr.iload_n 3, 1), (15, Instr.bipush 15, 2), (17, Instr.iload_n 2, 1), (18, Instr.imul, 1), (19, Instr.if_icmp .ge 23, 3), (22, Instr.aload_n 0, 1), (23, Instr.getfield 66, 3), (26, Instr.iload_n 3, 1), (27, Instr.aload_n 0, 1), (28, Instr.getfield 66, 3), (31, Instr.iload_n 3, 1), (32, Instr.iload_n 2, 1), (33, Instr.iadd, 1), (34, Instr.iaload, 1), (35, Instr.iastore, 1), (36, Instr.iinc 3 1, 3), (39, Instr.goto (-25), 3), (42, Instr.aload_n 0, 1), (43, Instr.dup, 1), (44, Instr.getfield 11, 3), (47, Instr.iconst 1, 1), (48, Instr.isub, 1), (49, Instr.putfield 11, 3), (52, Instr.iconst 0, 1), (53, Instr.istore_n 3, 1), (54, Instr.iload_n 3, 1), (55, Instr.bipush 36, 2), (57, Instr.if_icmp .ge 28, 3), (60, Instr.aload_n 0, 1), (61, Instr.getfield 66, 3), (64, Instr.iload_n 2, 1), (65, Instr.aload_n 0, 1), (66, Instr.getfield 11, 3), (69, Instr.imul, 1), (70, Instr.iload_n 3, 1), (71, Instr.iadd, 1), (72, Instr.aload_n 0, 1), (73, Instr.getfield 28, 3), (76, Instr.iload_n 3, 1), (77, Instr.iaload, 1), (78, Instr.iastore, 1), (79, Instr.iinc 3 1, 3), (82, Instr.goto (-28), 3), (85, Instr.aload_n 0, 1), (86, Instr.getfield 66, 3), (89, Instr.iload_n 2, 1), (90, Instr.aload_n 0, 1), (91, Instr.getfield 11, 3), (94, Instr.imul, 1), (95, Instr.bipush 36, 2), (97, Instr.iadd, 1), (98, Instr.iload_n 1, 1), (99, Instr.iastore, 1), (100, Instr.aload_n 0, 1), (101, Instr.dup, 1), (102, Instr.getfield 11, 3), (105, Instr.iconst 1, 1), (106, Instr.iadd, 1), (107, Instr.putfield 11, 3), (110, Instr.return_, 1)]
set_option maxRecDepth 20000 in
theorem tkX11_keeps : (tbX11_keeps.all fun q => decide (decode cX11_keeps q.1 = .ok q.2)) = true := by decide +kernel
def mX11_keeps : Nat × MethodName × ByteArray × Nat × Option FieldType × List (Nat × Instr × Nat) × Option (Nat × (Nat → Int32)) := (11, yX11_keeps, cX11_keeps, 4, none, tbX11_keeps, none)
def tbX11_undo : List (Nat × Instr × Nat) := [(0, Instr.aload_n 0, 1), (1, Instr.getfield 11, 3), (4, Instr.ifCond .ne 10, 3), (7, Instr.aload_n 0, 1), (8, Instr.bipush (-3), 2), (10, Instr.invokevirtual 118, 3), (13, Instr.ireturn, 1), (14, Instr.aload_n 0, 1), (15, Instr.dup, 1), (16, Instr.getfield 11, 3), (19, Instr.iconst 1, 1), (20, Instr.isub, 1), (21, Instr.putfield 11, 3), (24, Instr.bipush 37, 2), (26, Instr.aload_n 0, 1), (27, Instr.getfield 11, 3), (30, Instr.imul, 1), (31, Instr.istore_n 1, 1), (32, Instr.iconst 0, 1), (33, Instr.istore_n 2, 1), (34, Instr.iload_n 2, 1), (35, Instr.bipush 36, 2), (37, Instr.if_icmp .ge 23, 3), (40, Instr.aload_n 0, 1), (41, Instr.getfield 28, 3), (44, Instr.iload_n 2, 1), (45, Instr.aload_n 0, 1), (46, Instr.getfield 66, 3), (49, Instr.iload_n 1, 1), (50, Instr.iload_n 2, 1), (51, Instr.iadd, 1), (52, Instr.iaload, 1), (53, Instr.iastore, 1), (54, Instr.iinc 2 1, 3), (57, Instr.goto (-23), 3), (60, Instr.aload_n 0, 1), (61, Instr.aload_n 0, 1), (62, Instr.getfield 66, 3), (65, Instr.iload_n 1, 1), (66, Instr.bipush 36, 2), (68, Instr.iadd, 1), (69, Instr.iaload, 1), (70, Instr.invokevirtual 14, 3), (73, Instr.ireturn, 1)]
set_option maxRecDepth 20000 in
theorem tkX11_undo : (tbX11_undo.all fun q => decide (decode cX11_undo q.1 = .ok q.2)) = true := by decide +kernel
def mX11_undo : Nat × MethodName × ByteArray × Nat × Option FieldType × List (Nat × Instr × Nat) × Option (Nat × (Nat → Int32)) := (11, yX11_undo, cX11_undo, 3, (some .int), tbX11_undo, none)
def tbX11_goodOr : List (Nat × Instr × Nat) := [(0, Instr.iload_n 1, 1), (1, Instr.ifCond .ge 11, 3), (4, Instr.aload_n 0, 1), (5, Instr.iload_n 1, 1), (6, Instr.invokevirtual 118, 3), (9, Instr.goto 8, 3), (12, Instr.aload_n 0, 1), (13, Instr.iload_n 1, 1), (14, Instr.invokevirtual 14, 3), (17, Instr.ireturn, 1)]
set_option maxRecDepth 20000 in
theorem tkX11_goodOr : (tbX11_goodOr.all fun q => decide (decode cX11_goodOr q.1 = .ok q.2)) = true := by decide +kernel
def mX11_goodOr : Nat × MethodName × ByteArray × Nat × Option FieldType × List (Nat × Instr × Nat) × Option (Nat × (Nat → Int32)) := (11, yX11_goodOr, cX11_goodOr, 2, (some .int), tbX11_goodOr, none)
def tbX11_goesKept : List (Nat × Instr × Nat) := [(0, Instr.aload_n 0, 1), (1, Instr.iload_n 1, 1), (2, Instr.invokevirtual 149, 3), (5, Instr.ifCond .eq 11, 3), (8, Instr.aload_n 0, 1), (9, Instr.iload_n 2, 1), (10, Instr.invokevirtual 143, 3), (13, Instr.ifCond .ne 6, 3), (16, Instr.bipush (-2), 2), (18, Instr.ireturn, 1), (19, Instr.aload_n 0, 1), (20, Instr.iload_n 1, 1), (21, Instr.iload_n 2, 1), (22, Instr.invokevirtual 155, 3), (25, Instr.ifCond .ne 6, 3), (28, Instr.bipush (-3), 2), (30, Instr.ireturn, 1), (31, Instr.aload_n 0, 1), (32, Instr.iconst 0, 1), (33, Instr.invokevirtual 362, 3), (36, Instr.aload_n 0, 1), (37, Instr.iload_n 1, 1), (38, Instr.iload_n 2, 1), (39, Instr.invokevirtual 365, 3), (42, Instr.ireturn, 1)]
set_option maxRecDepth 20000 in
theorem tkX11_goesKept : (tbX11_goesKept.all fun q => decide (decode cX11_goesKept q.1 = .ok q.2)) = true := by decide +kernel
def mX11_goesKept : Nat × MethodName × ByteArray × Nat × Option FieldType × List (Nat × Instr × Nat) × Option (Nat × (Nat → Int32)) := (11, yX11_goesKept, cX11_goesKept, 3, (some .int), tbX11_goesKept, none)
def tbX11_latchesKept : List (Nat × Instr × Nat) := [(0, Instr.aload_n 0, 1), (1, Instr.iload_n 1, 1), (2, Instr.invokevirtual 143, 3), (5, Instr.ifCond .ne 6, 3), (8, Instr.bipush (-2), 2), (10, Instr.ireturn, 1), (11, Instr.aload_n 0, 1), (12, Instr.iconst 1, 1), (13, Instr.invokevirtual 362, 3), (16, Instr.aload_n 0, 1), (17, Instr.getfield 28, 3), (20, Instr.bipush 25, 2), (22, Instr.iload_n 1, 1), (23, Instr.iadd, 1), (24, Instr.iconst 1, 1), (25, Instr.aload_n 0, 1), (26, Instr.getfield 28, 3), (29, Instr.bipush 25, 2), (31, Instr.iload_n 1, 1), (32, Instr.iadd, 1), (33, Instr.iaload, 1), (34, Instr.isub, 1), (35, Instr.iastore, 1), (36, Instr.aload_n 0, 1), (37, Instr.getfield 28, 3), (40, Instr.bipush 25, 2), (42, Instr.iload_n 1, 1), (43, Instr.iadd, 1), (44, Instr.iaload, 1), (45, Instr.ireturn, 1)]
set_option maxRecDepth 20000 in
theorem tkX11_latchesKept : (tbX11_latchesKept.all fun q => decide (decode cX11_latchesKept q.1 = .ok q.2)) = true := by decide +kernel
def mX11_latchesKept : Nat × MethodName × ByteArray × Nat × Option FieldType × List (Nat × Instr × Nat) × Option (Nat × (Nat → Int32)) := (11, yX11_latchesKept, cX11_latchesKept, 2, (some .int), tbX11_latchesKept, none)
def tbX11_setsKept : List (Nat × Instr × Nat) := [(0, Instr.iload_n 2, 1), (1, Instr.invokestatic 132, 3), (4, Instr.ifCond .ne 5, 3), (7, Instr.iconst (-1), 1), (8, Instr.ireturn, 1), (9, Instr.aload_n 0, 1), (10, Instr.iload_n 1, 1), (11, Instr.invokevirtual 143, 3), (14, Instr.ifCond .ne 6, 3), (17, Instr.bipush (-2), 2), (19, Instr.ireturn, 1), (20, Instr.aload_n 0, 1), (21, Instr.getfield 28, 3), (24, Instr.bipush 15, 2), (26, Instr.iload_n 1, 1), (27, Instr.iadd, 1), (28, Instr.iaload, 1), (29, Instr.istore_n 3, 1), (30, Instr.iload_n 3, 1), (31, Instr.iload_n 2, 1), (32, Instr.if_icmp .ne 6, 3), (35, Instr.bipush (-3), 2), (37, Instr.ireturn, 1), (38, Instr.aload_n 0, 1), (39, Instr.iconst 2, 1), (40, Instr.invokevirtual 362, 3), (43, Instr.aload_n 0, 1), (44, Instr.getfield 28, 3), (47, Instr.bipush 15, 2), (49, Instr.iload_n 1, 1), (50, Instr.iadd, 1), (51, Instr.iload_n 2, 1), (52, Instr.iastore, 1), (53, Instr.iload_n 3, 1), (54, Instr.ireturn, 1)]
set_option maxRecDepth 20000 in
theorem tkX11_setsKept : (tbX11_setsKept.all fun q => decide (decode cX11_setsKept q.1 = .ok q.2)) = true := by decide +kernel
def mX11_setsKept : Nat × MethodName × ByteArray × Nat × Option FieldType × List (Nat × Instr × Nat) × Option (Nat × (Nat → Int32)) := (11, yX11_setsKept, cX11_setsKept, 4, (some .int), tbX11_setsKept, none)
def tbX11_passesKept : List (Nat × Instr × Nat) := [(0, Instr.aload_n 0, 1), (1, Instr.getfield 28, 3), (4, Instr.bipush 35, 2), (6, Instr.iaload, 1), (7, Instr.sipush 999, 3), (10, Instr.if_icmp .ne 6, 3), (13, Instr.bipush (-3), 2), (15, Instr.ireturn, 1), (16, Instr.aload_n 0, 1), (17, Instr.iconst 3, 1), (18, Instr.invokevirtual 362, 3), (21, Instr.aload_n 0, 1), (22, Instr.getfield 28, 3), (25, Instr.bipush 35, 2), (27, Instr.dup2, 1), (28, Instr.iaload, 1), (29, Instr.iconst 1, 1), (30, Instr.iadd, 1), (31, Instr.iastore, 1), (32, Instr.aload_n 0, 1), (33, Instr.getfield 28, 3), (36, Instr.bipush 35, 2), (38, Instr.iaload, 1), (39, Instr.ireturn, 1)]
set_option maxRecDepth 20000 in
theorem tkX11_passesKept : (tbX11_passesKept.all fun q => decide (decode cX11_passesKept q.1 = .ok q.2)) = true := by decide +kernel
def mX11_passesKept : Nat × MethodName × ByteArray × Nat × Option FieldType × List (Nat × Instr × Nat) × Option (Nat × (Nat → Int32)) := (11, yX11_passesKept, cX11_passesKept, 1, (some .int), tbX11_passesKept, none)
def tbX11_go : List (Nat × Instr × Nat) := [(0, Instr.aload_n 0, 1), (1, Instr.aload_n 0, 1), (2, Instr.iload_n 1, 1), (3, Instr.iload_n 2, 1), (4, Instr.invokevirtual 368, 3), (7, Instr.invokevirtual 371, 3), (10, Instr.ireturn, 1)]
set_option maxRecDepth 20000 in
theorem tkX11_go : (tbX11_go.all fun q => decide (decode cX11_go q.1 = .ok q.2)) = true := by decide +kernel
def mX11_go : Nat × MethodName × ByteArray × Nat × Option FieldType × List (Nat × Instr × Nat) × Option (Nat × (Nat → Int32)) := (11, yX11_go, cX11_go, 3, (some .int), tbX11_go, none)
def tbX11_latch : List (Nat × Instr × Nat) := [(0, Instr.aload_n 0, 1), (1, Instr.aload_n 0, 1), (2, Instr.iload_n 1, 1), (3, Instr.invokevirtual 374, 3), (6, Instr.invokevirtual 371, 3), (9, Instr.ireturn, 1)]
set_option maxRecDepth 20000 in
theorem tkX11_latch : (tbX11_latch.all fun q => decide (decode cX11_latch q.1 = .ok q.2)) = true := by decide +kernel
def mX11_latch : Nat × MethodName × ByteArray × Nat × Option FieldType × List (Nat × Instr × Nat) × Option (Nat × (Nat → Int32)) := (11, yX11_latch, cX11_latch, 2, (some .int), tbX11_latch, none)
def tbX11_set : List (Nat × Instr × Nat) := [(0, Instr.aload_n 0, 1), (1, Instr.aload_n 0, 1), (2, Instr.iload_n 1, 1), (3, Instr.iload_n 2, 1), (4, Instr.invokevirtual 377, 3), (7, Instr.invokevirtual 371, 3), (10, Instr.ireturn, 1)]
set_option maxRecDepth 20000 in
theorem tkX11_set : (tbX11_set.all fun q => decide (decode cX11_set q.1 = .ok q.2)) = true := by decide +kernel
def mX11_set : Nat × MethodName × ByteArray × Nat × Option FieldType × List (Nat × Instr × Nat) × Option (Nat × (Nat → Int32)) := (11, yX11_set, cX11_set, 3, (some .int), tbX11_set, none)
def tbX11_pass : List (Nat × Instr × Nat) := [(0, Instr.aload_n 0, 1), (1, Instr.aload_n 0, 1), (2, Instr.invokevirtual 380, 3), (5, Instr.invokevirtual 371, 3), (8, Instr.ireturn, 1)]
set_option maxRecDepth 20000 in
theorem tkX11_pass : (tbX11_pass.all fun q => decide (decode cX11_pass q.1 = .ok q.2)) = true := by decide +kernel
def mX11_pass : Nat × MethodName × ByteArray × Nat × Option FieldType × List (Nat × Instr × Nat) × Option (Nat × (Nat → Int32)) := (11, yX11_pass, cX11_pass, 1, (some .int), tbX11_pass, none)
def tbX11_laysGate : List (Nat × Instr × Nat) := [(0, Instr.iconst 0, 1), (1, Instr.istore_n 3, 1), (2, Instr.iload_n 3, 1), (3, Instr.bipush 20, 2), (5, Instr.if_icmp .ge 57, 3), (8, Instr.aload_n 0, 1), (9, Instr.iload_n 1, 1), (10, Instr.iload_n 2, 1), (11, Instr.iload_n 3, 1), (12, Instr.invokevirtual 159, 3), (15, Instr.aload_n 0, 1), (16, Instr.getfield 72, 3), (19, Instr.bipush 10, 2), (21, Instr.iload_n 3, 1), (22, Instr.imul, 1), (23, Instr.iload_n 2, 1), (24, Instr.iadd, 1), (25, Instr.aload_n 0, 1), (26, Instr.invokevirtual 169, 3), (29, Instr.ifCond .eq 7, 3), (32, Instr.iconst (-1), 1), (33, Instr.goto 7, 3), (36, Instr.aload_n 0, 1), (37, Instr.invokevirtual 163, 3), (40, Instr.iastore, 1), (41, Instr.aload_n 0, 1), (42, Instr.getfield 75, 3), (45, Instr.bipush 10, 2), (47, Instr.iload_n 3, 1), (48, Instr.imul, 1), (49, Instr.iload_n 2, 1), (50, Instr.iadd, 1), (51, Instr.aload_n 0, 1), (52, Instr.invokevirtual 166, 3), (55, Instr.iastore, 1), (56, Instr.iinc 3 1, 3), (59, Instr.goto (-57), 3), (62, Instr.return_, 1)]
set_option maxRecDepth 20000 in
theorem tkX11_laysGate : (tbX11_laysGate.all fun q => decide (decode cX11_laysGate q.1 = .ok q.2)) = true := by decide +kernel
def mX11_laysGate : Nat × MethodName × ByteArray × Nat × Option FieldType × List (Nat × Instr × Nat) × Option (Nat × (Nat → Int32)) := (11, yX11_laysGate, cX11_laysGate, 4, none, tbX11_laysGate, none)
def tbX11_laysOut : List (Nat × Instr × Nat) := [(0, Instr.iconst 0, 1), (1, Instr.istore_n 2, 1), (2, Instr.iload_n 2, 1), (3, Instr.aload_n 0, 1), (4, Instr.invokevirtual 124, 3), (7, Instr.if_icmp .ge 15, 3), (10, Instr.aload_n 0, 1), (11, Instr.iload_n 1, 1), (12, Instr.iload_n 2, 1), (13, Instr.invokevirtual 383, 3), (16, Instr.iinc 2 1, 3), (19, Instr.goto (-17), 3), (22, Instr.return_, 1)]
set_option maxRecDepth 20000 in
theorem tkX11_laysOut : (tbX11_laysOut.all fun q => decide (decode cX11_laysOut q.1 = .ok q.2)) = true := by decide +kernel
def mX11_laysOut : Nat × MethodName × ByteArray × Nat × Option FieldType × List (Nat × Instr × Nat) × Option (Nat × (Nat → Int32)) := (11, yX11_laysOut, cX11_laysOut, 3, none, tbX11_laysOut, none)
def tbX11_placeOf : List (Nat × Instr × Nat) := [(0, Instr.bipush 20, 2), (2, Instr.aload_n 0, 1), (3, Instr.getfield 28, 3), (6, Instr.iconst 0, 1), (7, Instr.iload_n 1, 1), (8, Instr.iadd, 1), (9, Instr.iaload, 1), (10, Instr.imul, 1), (11, Instr.aload_n 0, 1), (12, Instr.getfield 28, 3), (15, Instr.iconst 5, 1), (16, Instr.iload_n 1, 1), (17, Instr.iadd, 1), (18, Instr.iaload, 1), (19, Instr.iadd, 1), (20, Instr.ireturn, 1)]
set_option maxRecDepth 20000 in
theorem tkX11_placeOf : (tbX11_placeOf.all fun q => decide (decode cX11_placeOf q.1 = .ok q.2)) = true := by decide +kernel
def mX11_placeOf : Nat × MethodName × ByteArray × Nat × Option FieldType × List (Nat × Instr × Nat) × Option (Nat × (Nat → Int32)) := (11, yX11_placeOf, cX11_placeOf, 2, (some .int), tbX11_placeOf, none)
def tbX11_nextPlace : List (Nat × Instr × Nat) := [(0, Instr.aload_n 0, 1), (1, Instr.getfield 72, 3), (4, Instr.bipush 10, 2), (6, Instr.iload_n 1, 1), (7, Instr.bipush 20, 2), (9, Instr.irem, 1), (10, Instr.imul, 1), (11, Instr.iload_n 2, 1), (12, Instr.iadd, 1), (13, Instr.iaload, 1), (14, Instr.istore_n 3, 1), (15, Instr.aload_n 0, 1), (16, Instr.getfield 28, 3), (19, Instr.bipush 36, 2), (21, Instr.iload_n 2, 1), (22, Instr.iadd, 1), (23, Instr.iaload, 1), (24, Instr.iload_n 1, 1), (25, Instr.bipush 20, 2), (27, Instr.idiv, 1), (28, Instr.if_icmp .ne 20, 3), (31, Instr.aload_n 0, 1), (32, Instr.getfield 28, 3), (35, Instr.bipush 25, 2), (37, Instr.iload_n 2, 1), (38, Instr.iadd, 1), (39, Instr.iaload, 1), (40, Instr.ifCond .eq 8, 3), (43, Instr.iload_n 3, 1), (44, Instr.iconst (-1), 1), (45, Instr.if_icmp .ne 7, 3), (48, Instr.iconst (-1), 1), (49, Instr.goto 17, 3), (52, Instr.bipush 20, 2), (54, Instr.aload_n 0, 1), (55, Instr.getfield 28, 3), (58, Instr.bipush 46, 2), (60, Instr.iload_n 2, 1), (61, Instr.iadd, 1), (62, Instr.iaload, 1), (63, Instr.imul, 1), (64, Instr.iload_n 3, 1), (65, Instr.iadd, 1), (66, Instr.ireturn, 1)]
set_option maxRecDepth 20000 in
theorem tkX11_nextPlace : (tbX11_nextPlace.all fun q => decide (decode cX11_nextPlace q.1 = .ok q.2)) = true := by decide +kernel
def mX11_nextPlace : Nat × MethodName × ByteArray × Nat × Option FieldType × List (Nat × Instr × Nat) × Option (Nat × (Nat → Int32)) := (11, yX11_nextPlace, cX11_nextPlace, 4, (some .int), tbX11_nextPlace, none)
def tbX11_isGoal : List (Nat × Instr × Nat) := [(0, Instr.iload_n 0, 1), (1, Instr.bipush 20, 2), (3, Instr.idiv, 1), (4, Instr.iload_n 1, 1), (5, Instr.if_icmp .ne 20, 3), (8, Instr.iload_n 2, 1), (9, Instr.iconst (-1), 1), (10, Instr.if_icmp .eq 11, 3), (13, Instr.iload_n 0, 1), (14, Instr.bipush 20, 2), (16, Instr.irem, 1), (17, Instr.iload_n 2, 1), (18, Instr.if_icmp .ne 7, 3), (21, Instr.iconst 1, 1), (22, Instr.goto 4, 3), (25, Instr.iconst 0, 1), (26, Instr.ireturn, 1)]
set_option maxRecDepth 20000 in
theorem tkX11_isGoal : (tbX11_isGoal.all fun q => decide (decode cX11_isGoal q.1 = .ok q.2)) = true := by decide +kernel
def mX11_isGoal : Nat × MethodName × ByteArray × Nat × Option FieldType × List (Nat × Instr × Nat) × Option (Nat × (Nat → Int32)) := (11, yX11_isGoal, cX11_isGoal, 3, (some .boolean), tbX11_isGoal, none)
def tbX11_canBeGoal : List (Nat × Instr × Nat) := [(0, Instr.iload_n 0, 1), (1, Instr.invokestatic 128, 3), (4, Instr.ifCond .eq 17, 3), (7, Instr.iload_n 1, 1), (8, Instr.iconst (-1), 1), (9, Instr.bipush 19, 2), (11, Instr.invokestatic 18, 3), (14, Instr.ifCond .eq 7, 3), (17, Instr.iconst 1, 1), (18, Instr.goto 4, 3), (21, Instr.iconst 0, 1), (22, Instr.ireturn, 1)]
set_option maxRecDepth 20000 in
theorem tkX11_canBeGoal : (tbX11_canBeGoal.all fun q => decide (decode cX11_canBeGoal q.1 = .ok q.2)) = true := by decide +kernel
def mX11_canBeGoal : Nat × MethodName × ByteArray × Nat × Option FieldType × List (Nat × Instr × Nat) × Option (Nat × (Nat → Int32)) := (11, yX11_canBeGoal, cX11_canBeGoal, 2, (some .boolean), tbX11_canBeGoal, none)
def tbX11_laysLeft : List (Nat × Instr × Nat) := [(0, Instr.iconst 0, 1), (1, Instr.istore 4, 2), (3, Instr.iload 4, 2), (5, Instr.bipush 120, 2), (7, Instr.if_icmp .ge 32, 3), (10, Instr.aload_n 0, 1), (11, Instr.getfield 78, 3), (14, Instr.iload 4, 2), (16, Instr.iload 4, 2), (18, Instr.iload_n 1, 1), (19, Instr.iload_n 2, 1), (20, Instr.invokestatic 386, 3), (23, Instr.ifCond .eq 7, 3), (26, Instr.iconst 0, 1), (27, Instr.goto 5, 3), (30, Instr.ldc 198, 2), (32, Instr.iastore, 1), (33, Instr.iinc 4 1, 3), (36, Instr.goto (-33), 3), (39, Instr.iconst 1, 1), (40, Instr.istore 4, 2), (42, Instr.iload 4, 2), (44, Instr.ifCond .eq 128, 3), (47, Instr.iconst 0, 1), (48, Instr.istore 4, 2), (50, Instr.iconst 0, 1), (51, Instr.istore 5, 2), (53, Instr.iload 5, 2), (55, Instr.bipush 120, 2), (57, Instr.aload_n 0, 1), (58, Instr.invokevirtual 124, 3), (61, Instr.imul, 1), (62, Instr.if_icmp .ge 107, 3), (65, Instr.iload 5, 2), (67, Instr.aload_n 0, 1), (68, Instr.invokevirtual 124, 3), (71, Instr.idiv, 1), (72, Instr.istore 6, 2), (74, Instr.iload 5, 2), (76, Instr.aload_n 0, 1), (77, Instr.invokevirtual 124, 3), (80, Instr.irem, 1), (81, Instr.istore 7, 2), (83, Instr.aload_n 0, 1), (84, Instr.iload 6, 2), (86, Instr.iload 7, 2), (88, Instr.invokevirtual 389, 3), (91, Instr.istore 8, 2), (93, Instr.iload 8, 2), (95, Instr.iconst (-1), 1), (96, Instr.if_icmp .ne 6, 3), (99, Instr.goto 64, 3), (102, Instr.aload_n 0, 1), (103, Instr.getfield 78, 3), (106, Instr.iload 8, 2), (108, Instr.iaload, 1), (109, Instr.iload_n 3, 1), (110, Instr.ifCond .eq 22, 3), (113, Instr.aload_n 0, 1), (114, Instr.getfield 75, 3), (117, Instr.bipush 10, 2), (119, Instr.iload 6, 2), (121, Instr.bipush 20, 2), (123, Instr.irem, 1), (124, Instr.imul, 1), (125, Instr.iload 7, 2), (127, Instr.iadd, 1), (128, Instr.iaload, 1), (129, Instr.goto 4, 3), (132, Instr.iconst 1, 1), (133, Instr.iadd, 1), (134, Instr.istore 9, 2), (136, Instr.iload 9, 2), (138, Instr.aload_n 0, 1), (139, Instr.getfield 78, 3), (142, Instr.iload 6, 2), (144, Instr.iaload, 1), (145, Instr.if_icmp .lt 6, 3), (148, Instr.goto 15, 3), (151, Instr.aload_n 0, 1), (152, Instr.getfield 78, 3), (155, Instr.iload 6, 2), (157, Instr.iload 9, 2), (159, Instr.iastore, 1), (160, Instr.iconst 1, 1), (161, Instr.istore 4, 2), (163, Instr.iinc 5 1, 3), (166, Instr.goto (-113), 3), (169, Instr.goto (-127), 3), (172, Instr.return_, 1)]
set_option maxRecDepth 20000 in
theorem tkX11_laysLeft : (tbX11_laysLeft.all fun q => decide (decode cX11_laysLeft q.1 = .ok q.2)) = true := by decide +kernel
def mX11_laysLeft : Nat × MethodName × ByteArray × Nat × Option FieldType × List (Nat × Instr × Nat) × Option (Nat × (Nat → Int32)) := (11, yX11_laysLeft, cX11_laysLeft, 10, none, tbX11_laysLeft, none)
def tbX11_way : List (Nat × Instr × Nat) := [(0, Instr.aload_n 0, 1), (1, Instr.iload_n 1, 1), (2, Instr.invokevirtual 149, 3), (5, Instr.ifCond .eq 17, 3), (8, Instr.iload_n 2, 1), (9, Instr.iload_n 3, 1), (10, Instr.invokestatic 392, 3), (13, Instr.ifCond .eq 9, 3), (16, Instr.iload 4, 2), (18, Instr.iconst (-1), 1), (19, Instr.if_icmp .ge 5, 3), (22, Instr.iconst (-1), 1), (23, Instr.ireturn, 1), (24, Instr.aload_n 0, 1), (25, Instr.iload_n 1, 1), (26, Instr.invokevirtual 395, 3), (29, Instr.aload_n 0, 1), (30, Instr.iload_n 2, 1), (31, Instr.iload_n 3, 1), (32, Instr.iconst 0, 1), (33, Instr.invokevirtual 398, 3), (36, Instr.aload_n 0, 1), (37, Instr.iload_n 1, 1), (38, Instr.invokevirtual 402, 3), (41, Instr.istore 5, 2), (43, Instr.aload_n 0, 1), (44, Instr.getfield 78, 3), (47, Instr.iload 5, 2), (49, Instr.iaload, 1), (50, Instr.ldc 198, 2), (52, Instr.if_icmp .lt 5, 3), (55, Instr.iconst (-1), 1), (56, Instr.ireturn, 1), (57, Instr.iload 4, 2), (59, Instr.iconst (-1), 1), (60, Instr.if_icmp .eq 15, 3), (63, Instr.iload 4, 2), (65, Instr.aload_n 0, 1), (66, Instr.getfield 78, 3), (69, Instr.iload 5, 2), (71, Instr.iaload, 1), (72, Instr.if_icmp .lt 21, 3), (75, Instr.iload 4, 2), (77, Instr.iconst (-1), 1), (78, Instr.if_icmp .ne 13, 3), (81, Instr.aload_n 0, 1), (82, Instr.getfield 78, 3), (85, Instr.iload 5, 2), (87, Instr.iaload, 1), (88, Instr.goto 4, 3), (91, Instr.iconst (-1), 1), (92, Instr.ireturn, 1), (93, Instr.iconst (-1), 1), (94, Instr.istore 6, 2), (96, Instr.iconst 0, 1), (97, Instr.istore 7, 2), (99, Instr.iload 7, 2), (101, Instr.iload 4, 2), (103, Instr.if_icmp .gt 65, 3), (106, Instr.iconst 0, 1), (107, Instr.istore 6, 2), (109, Instr.aload_n 0, 1), (110, Instr.iload 5, 2), (112, Instr.iload 6, 2), (114, Instr.invokevirtual 389, 3), (117, Instr.iconst (-1), 1), (118, Instr.if_icmp .eq 28, 3), (121, Instr.aload_n 0, 1), (122, Instr.getfield 78, 3), (125, Instr.aload_n 0, 1), (126, Instr.iload 5, 2), (128, Instr.iload 6, 2), (130, Instr.invokevirtual 389, 3), (133, Instr.iaload, 1), (134, Instr.aload_n 0, 1), (135, Instr.getfield 78, 3), (138, Instr.iload 5, 2), (140, Instr.iaload, 1), (141, Instr.iconst 1, 1), (142, Instr.isub, 1), (143, Instr.if_icmp .eq 9, 3), (146, Instr.iinc 6 1, 3), (149, Instr.goto (-40), 3), (152, Instr.aload_n 0, 1), (153, Instr.iload 5, 2), (155, Instr.iload 6, 2), (157, Instr.invokevirtual 389, 3), (160, Instr.istore 5, 2), (162, Instr.iinc 7 1, 3), (165, Instr.goto (-66), 3), (168, Instr.iload 6, 2), (170, Instr.ireturn, 1)]
set_option maxRecDepth 20000 in
theorem tkX11_way : (tbX11_way.all fun q => decide (decode cX11_way q.1 = .ok q.2)) = true := by decide +kernel
def mX11_way : Nat × MethodName × ByteArray × Nat × Option FieldType × List (Nat × Instr × Nat) × Option (Nat × (Nat → Int32)) := (11, yX11_way, cX11_way, 8, (some .int), tbX11_way, none)
end TABS
end
section
section TABS
def tbX11_cheap : List (Nat × Instr × Nat) := [(0, Instr.aload_n 0, 1), (1, Instr.iload_n 1, 1), (2, Instr.invokevirtual 149, 3), (5, Instr.ifCond .eq 11, 3), (8, Instr.iload_n 2, 1), (9, Instr.iload_n 3, 1), (10, Instr.invokestatic 392, 3), (13, Instr.ifCond .ne 5, 3), (16, Instr.iconst (-1), 1), (17, Instr.ireturn, 1), (18, Instr.aload_n 0, 1), (19, Instr.iload_n 1, 1), (20, Instr.invokevirtual 395, 3), (23, Instr.aload_n 0, 1), (24, Instr.iload_n 2, 1), (25, Instr.iload_n 3, 1), (26, Instr.iconst 1, 1), (27, Instr.invokevirtual 398, 3), (30, Instr.aload_n 0, 1), (31, Instr.getfield 78, 3), (34, Instr.aload_n 0, 1), (35, Instr.iload_n 1, 1), (36, Instr.invokevirtual 402, 3), (39, Instr.iaload, 1), (40, Instr.ldc 198, 2), (42, Instr.if_icmp .lt 7, 3), (45, Instr.iconst (-1), 1), (46, Instr.goto 13, 3), (49, Instr.aload_n 0, 1), (50, Instr.getfield 78, 3), (53, Instr.aload_n 0, 1), (54, Instr.iload_n 1, 1), (55, Instr.invokevirtual 402, 3), (58, Instr.iaload, 1), (59, Instr.ireturn, 1)]
set_option maxRecDepth 20000 in
theorem tkX11_cheap : (tbX11_cheap.all fun q => decide (decode cX11_cheap q.1 = .ok q.2)) = true := by decide +kernel
def mX11_cheap : Nat × MethodName × ByteArray × Nat × Option FieldType × List (Nat × Instr × Nat) × Option (Nat × (Nat → Int32)) := (11, yX11_cheap, cX11_cheap, 4, (some .int), tbX11_cheap, none)
def tbX11_compare : List (Nat × Instr × Nat) := [(0, Instr.aload_n 0, 1), (1, Instr.iload_n 1, 1), (2, Instr.invokevirtual 285, 3), (5, Instr.ifCond .ne 5, 3), (8, Instr.iconst (-1), 1), (9, Instr.ireturn, 1), (10, Instr.aload_n 0, 1), (11, Instr.getfield 28, 3), (14, Instr.bipush 95, 2), (16, Instr.iaload, 1), (17, Instr.istore 5, 2), (19, Instr.aload_n 0, 1), (20, Instr.getfield 28, 3), (23, Instr.bipush 95, 2), (25, Instr.iload_n 1, 1), (26, Instr.iastore, 1), (27, Instr.aload_n 0, 1), (28, Instr.iload_n 2, 1), (29, Instr.iload_n 3, 1), (30, Instr.iload 4, 2), (32, Instr.iconst (-1), 1), (33, Instr.invokevirtual 405, 3), (36, Instr.istore 6, 2), (38, Instr.aload_n 0, 1), (39, Instr.getfield 28, 3), (42, Instr.bipush 95, 2), (44, Instr.iload 5, 2), (46, Instr.iastore, 1), (47, Instr.iload 6, 2), (49, Instr.ireturn, 1)]
set_option maxRecDepth 20000 in
theorem tkX11_compare : (tbX11_compare.all fun q => decide (decode cX11_compare q.1 = .ok q.2)) = true := by decide +kernel
def mX11_compare : Nat × MethodName × ByteArray × Nat × Option FieldType × List (Nat × Instr × Nat) × Option (Nat × (Nat → Int32)) := (11, yX11_compare, cX11_compare, 7, (some .int), tbX11_compare, none)
def tbX11_laysGone : List (Nat × Instr × Nat) := [(0, Instr.iconst 0, 1), (1, Instr.istore_n 3, 1), (2, Instr.iload_n 3, 1), (3, Instr.bipush 120, 2), (5, Instr.if_icmp .ge 26, 3), (8, Instr.aload_n 0, 1), (9, Instr.getfield 81, 3), (12, Instr.iload_n 3, 1), (13, Instr.iload_n 3, 1), (14, Instr.iload_n 1, 1), (15, Instr.if_icmp .ne 7, 3), (18, Instr.iconst 0, 1), (19, Instr.goto 5, 3), (22, Instr.ldc 198, 2), (24, Instr.iastore, 1), (25, Instr.iinc 3 1, 3), (28, Instr.goto (-26), 3), (31, Instr.aload_n 0, 1), (32, Instr.getfield 84, 3), (35, Instr.iconst 0, 1), (36, Instr.iload_n 1, 1), (37, Instr.iastore, 1), (38, Instr.iconst 1, 1), (39, Instr.istore_n 3, 1), (40, Instr.iconst 0, 1), (41, Instr.istore 4, 2), (43, Instr.iload 4, 2), (45, Instr.iload_n 3, 1), (46, Instr.if_icmp .ge 108, 3), (49, Instr.iconst 0, 1), (50, Instr.istore 5, 2), (52, Instr.iload 5, 2), (54, Instr.aload_n 0, 1), (55, Instr.invokevirtual 124, 3), (58, Instr.if_icmp .ge 90, 3), (61, Instr.iload_n 2, 1), (62, Instr.iload 5, 2), (64, Instr.invokestatic 409, 3), (67, Instr.ifCond .eq 7, 3), (70, Instr.iconst (-1), 1), (71, Instr.goto 16, 3), (74, Instr.aload_n 0, 1), (75, Instr.aload_n 0, 1), (76, Instr.getfield 84, 3), (79, Instr.iload 4, 2), (81, Instr.iaload, 1), (82, Instr.iload 5, 2), (84, Instr.invokevirtual 389, 3), (87, Instr.istore 6, 2), (89, Instr.iload 6, 2), (91, Instr.iconst (-1), 1), (92, Instr.if_icmp .eq 50, 3), (95, Instr.aload_n 0, 1), (96, Instr.getfield 81, 3), (99, Instr.iload 6, 2), (101, Instr.iaload, 1), (102, Instr.ldc 198, 2), (104, Instr.if_icmp .ge 6, 3), (107, Instr.goto 35, 3), (110, Instr.aload_n 0, 1), (111, Instr.getfield 81, 3), (114, Instr.iload 6, 2), (116, Instr.aload_n 0, 1), (117, Instr.getfield 81, 3), (120, Instr.aload_n 0, 1), (121, Instr.getfield 84, 3), (124, Instr.iload 4, 2), (126, Instr.iaload, 1), (127, Instr.iaload, 1), (128, Instr.iconst 1, 1), (129, Instr.iadd, 1), (130, Instr.iastore, 1), (131, Instr.aload_n 0, 1), (132, Instr.getfield 84, 3), (135, Instr.iload_n 3, 1), (136, Instr.iload 6, 2), (138, Instr.iastore, 1), (139, Instr.iinc 3 1, 3), (142, Instr.iinc 5 1, 3), (145, Instr.goto (-93), 3), (148, Instr.iinc 4 1, 3), (151, Instr.goto (-108), 3), (154, Instr.return_, 1)]
set_option maxRecDepth 20000 in
theorem tkX11_laysGone : (tbX11_laysGone.all fun q => decide (decode cX11_laysGone q.1 = .ok q.2)) = true := by decide +kernel
def mX11_laysGone : Nat × MethodName × ByteArray × Nat × Option FieldType × List (Nat × Instr × Nat) × Option (Nat × (Nat → Int32)) := (11, yX11_laysGone, cX11_laysGone, 7, none, tbX11_laysGone, none)
def tbX11_comesTo : List (Nat × Instr × Nat) := [(0, Instr.iconst 0, 1), (1, Instr.istore_n 2, 1), (2, Instr.iconst 0, 1), (3, Instr.istore_n 3, 1), (4, Instr.iload_n 3, 1), (5, Instr.bipush 20, 2), (7, Instr.if_icmp .ge 35, 3), (10, Instr.iload_n 2, 1), (11, Instr.ifCond .ne 19, 3), (14, Instr.aload_n 0, 1), (15, Instr.getfield 81, 3), (18, Instr.bipush 20, 2), (20, Instr.iload_n 1, 1), (21, Instr.imul, 1), (22, Instr.iload_n 3, 1), (23, Instr.iadd, 1), (24, Instr.iaload, 1), (25, Instr.ldc 198, 2), (27, Instr.if_icmp .ge 7, 3), (30, Instr.iconst 1, 1), (31, Instr.goto 4, 3), (34, Instr.iconst 0, 1), (35, Instr.istore_n 2, 1), (36, Instr.iinc 3 1, 3), (39, Instr.goto (-35), 3), (42, Instr.iload_n 2, 1), (43, Instr.ireturn, 1)]
set_option maxRecDepth 20000 in
theorem tkX11_comesTo : (tbX11_comesTo.all fun q => decide (decode cX11_comesTo q.1 = .ok q.2)) = true := by decide +kernel
def mX11_comesTo : Nat × MethodName × ByteArray × Nat × Option FieldType × List (Nat × Instr × Nat) × Option (Nat × (Nat → Int32)) := (11, yX11_comesTo, cX11_comesTo, 4, (some .boolean), tbX11_comesTo, none)
def tbX11_manys : List (Nat × Instr × Nat) := [(0, Instr.aload_n 0, 1), (1, Instr.iload_n 1, 1), (2, Instr.invokevirtual 149, 3), (5, Instr.ifCond .eq 10, 3), (8, Instr.iload_n 2, 1), (9, Instr.invokestatic 128, 3), (12, Instr.ifCond .ne 5, 3), (15, Instr.iconst (-1), 1), (16, Instr.ireturn, 1), (17, Instr.aload_n 0, 1), (18, Instr.iload_n 1, 1), (19, Instr.invokevirtual 395, 3), (22, Instr.aload_n 0, 1), (23, Instr.aload_n 0, 1), (24, Instr.iload_n 1, 1), (25, Instr.invokevirtual 402, 3), (28, Instr.iconst 0, 1), (29, Instr.invokevirtual 412, 3), (32, Instr.iconst 0, 1), (33, Instr.istore_n 3, 1), (34, Instr.iconst 0, 1), (35, Instr.istore 4, 2), (37, Instr.iload 4, 2), (39, Instr.bipush 20, 2), (41, Instr.if_icmp .ge 37, 3), (44, Instr.iload_n 3, 1), (45, Instr.aload_n 0, 1), (46, Instr.getfield 81, 3), (49, Instr.bipush 20, 2), (51, Instr.iload_n 2, 1), (52, Instr.imul, 1), (53, Instr.iload 4, 2), (55, Instr.iadd, 1), (56, Instr.iaload, 1), (57, Instr.ldc 198, 2), (59, Instr.if_icmp .ge 10, 3), (62, Instr.iconst 1, 1), (63, Instr.iload 4, 2), (65, Instr.ishl, 1), (66, Instr.goto 4, 3), (69, Instr.iconst 0, 1), (70, Instr.ior, 1), (71, Instr.istore_n 3, 1), (72, Instr.iinc 4 1, 3), (75, Instr.goto (-38), 3), (78, Instr.iload_n 3, 1), (79, Instr.ireturn, 1)]
set_option maxRecDepth 20000 in
theorem tkX11_manys : (tbX11_manys.all fun q => decide (decode cX11_manys q.1 = .ok q.2)) = true := by decide +kernel
def mX11_manys : Nat × MethodName × ByteArray × Nat × Option FieldType × List (Nat × Instr × Nat) × Option (Nat × (Nat → Int32)) := (11, yX11_manys, cX11_manys, 5, (some .int), tbX11_manys, none)
def tbX11_reach : List (Nat × Instr × Nat) := [(0, Instr.aload_n 0, 1), (1, Instr.iload_n 1, 1), (2, Instr.invokevirtual 149, 3), (5, Instr.ifCond .ne 5, 3), (8, Instr.iconst (-1), 1), (9, Instr.ireturn, 1), (10, Instr.aload_n 0, 1), (11, Instr.iload_n 1, 1), (12, Instr.invokevirtual 395, 3), (15, Instr.aload_n 0, 1), (16, Instr.aload_n 0, 1), (17, Instr.iload_n 1, 1), (18, Instr.invokevirtual 402, 3), (21, Instr.iconst 0, 1), (22, Instr.invokevirtual 412, 3), (25, Instr.iconst 0, 1), (26, Instr.istore_n 2, 1), (27, Instr.iconst 0, 1), (28, Instr.istore_n 3, 1), (29, Instr.iload_n 3, 1), (30, Instr.bipush 6, 2), (32, Instr.if_icmp .ge 27, 3), (35, Instr.iload_n 2, 1), (36, Instr.aload_n 0, 1), (37, Instr.iload_n 3, 1), (38, Instr.invokevirtual 415, 3), (41, Instr.ifCond .eq 9, 3), (44, Instr.iconst 1, 1), (45, Instr.iload_n 3, 1), (46, Instr.ishl, 1), (47, Instr.goto 4, 3), (50, Instr.iconst 0, 1), (51, Instr.ior, 1), (52, Instr.istore_n 2, 1), (53, Instr.iinc 3 1, 3), (56, Instr.goto (-27), 3), (59, Instr.iload_n 2, 1), (60, Instr.ireturn, 1)]
set_option maxRecDepth 20000 in
theorem tkX11_reach : (tbX11_reach.all fun q => decide (decode cX11_reach q.1 = .ok q.2)) = true := by decide +kernel
def mX11_reach : Nat × MethodName × ByteArray × Nat × Option FieldType × List (Nat × Instr × Nat) × Option (Nat × (Nat → Int32)) := (11, yX11_reach, cX11_reach, 4, (some .int), tbX11_reach, none)
def tbX11_laysParts : List (Nat × Instr × Nat) := [(0, Instr.aload_n 0, 1), (1, Instr.iload_n 1, 1), (2, Instr.invokevirtual 395, 3), (5, Instr.iconst 0, 1), (6, Instr.istore 4, 2), (8, Instr.iload 4, 2), (10, Instr.bipush 120, 2), (12, Instr.if_icmp .ge 31, 3), (15, Instr.aload_n 0, 1), (16, Instr.getfield 87, 3), (19, Instr.iload 4, 2), (21, Instr.iload 4, 2), (23, Instr.aload_n 0, 1), (24, Instr.iload_n 1, 1), (25, Instr.invokevirtual 402, 3), (28, Instr.if_icmp .ne 7, 3), (31, Instr.lload_n 2, 1), (32, Instr.goto 4, 3), (35, Instr.lconst 0, 1), (36, Instr.lastore, 1), (37, Instr.iinc 4 1, 3), (40, Instr.goto (-32), 3), (43, Instr.return_, 1)]
set_option maxRecDepth 20000 in
theorem tkX11_laysParts : (tbX11_laysParts.all fun q => decide (decode cX11_laysParts q.1 = .ok q.2)) = true := by decide +kernel
def mX11_laysParts : Nat × MethodName × ByteArray × Nat × Option FieldType × List (Nat × Instr × Nat) × Option (Nat × (Nat → Int32)) := (11, yX11_laysParts, cX11_laysParts, 5, none, tbX11_laysParts, none)
def tbX11_gatesFrom : List (Nat × Instr × Nat) := [(0, Instr.iconst 0, 1), (1, Instr.istore_n 2, 1), (2, Instr.iconst 0, 1), (3, Instr.istore_n 3, 1), (4, Instr.iload_n 3, 1), (5, Instr.aload_n 0, 1), (6, Instr.invokevirtual 124, 3), (9, Instr.if_icmp .ge 27, 3), (12, Instr.iload_n 2, 1), (13, Instr.aload_n 0, 1), (14, Instr.iload_n 1, 1), (15, Instr.iload_n 3, 1), (16, Instr.invokevirtual 389, 3), (19, Instr.iconst (-1), 1), (20, Instr.if_icmp .ne 7, 3), (23, Instr.iconst 0, 1), (24, Instr.goto 4, 3), (27, Instr.iconst 1, 1), (28, Instr.iadd, 1), (29, Instr.istore_n 2, 1), (30, Instr.iinc 3 1, 3), (33, Instr.goto (-29), 3), (36, Instr.iload_n 2, 1), (37, Instr.ireturn, 1)]
set_option maxRecDepth 20000 in
theorem tkX11_gatesFrom : (tbX11_gatesFrom.all fun q => decide (decode cX11_gatesFrom q.1 = .ok q.2)) = true := by decide +kernel
def mX11_gatesFrom : Nat × MethodName × ByteArray × Nat × Option FieldType × List (Nat × Instr × Nat) × Option (Nat × (Nat → Int32)) := (11, yX11_gatesFrom, cX11_gatesFrom, 4, (some .int), tbX11_gatesFrom, none)
def tbX11_steps : List (Nat × Instr × Nat) := [(0, Instr.iconst 0, 1), (1, Instr.istore_n 2, 1), (2, Instr.iload_n 2, 1), (3, Instr.bipush 120, 2), (5, Instr.if_icmp .ge 16, 3), (8, Instr.aload_n 0, 1), (9, Instr.getfield 91, 3), (12, Instr.iload_n 2, 1), (13, Instr.lconst 0, 1), (14, Instr.lastore, 1), (15, Instr.iinc 2 1, 3), (18, Instr.goto (-16), 3), (21, Instr.iconst 0, 1), (22, Instr.istore_n 2, 1), (23, Instr.iload_n 2, 1), (24, Instr.bipush 120, 2), (26, Instr.if_icmp .ge 121, 3), (29, Instr.iload_n 1, 1), (30, Instr.ifCond .eq 22, 3), (33, Instr.aload_n 0, 1), (34, Instr.getfield 87, 3), (37, Instr.iload_n 2, 1), (38, Instr.laload, 1), (39, Instr.lconst 0, 1), (40, Instr.lcmp, 1), (41, Instr.ifCond .le 11, 3), (44, Instr.aload_n 0, 1), (45, Instr.iload_n 2, 1), (46, Instr.invokevirtual 418, 3), (49, Instr.goto 4, 3), (52, Instr.iconst 1, 1), (53, Instr.istore_n 3, 1), (54, Instr.iload_n 3, 1), (55, Instr.ifCond .ne 18, 3), (58, Instr.aload_n 0, 1), (59, Instr.getfield 91, 3), (62, Instr.iload_n 2, 1), (63, Instr.dup2, 1), (64, Instr.laload, 1), (65, Instr.aload_n 0, 1), (66, Instr.getfield 87, 3), (69, Instr.iload_n 2, 1), (70, Instr.laload, 1), (71, Instr.ladd, 1), (72, Instr.lastore, 1), (73, Instr.iconst 0, 1), (74, Instr.istore 4, 2), (76, Instr.iload 4, 2), (78, Instr.aload_n 0, 1), (79, Instr.invokevirtual 124, 3), (82, Instr.if_icmp .ge 59, 3), (85, Instr.iload_n 3, 1), (86, Instr.ifCond .le 55, 3), (89, Instr.aload_n 0, 1), (90, Instr.getfield 87, 3), (93, Instr.iload_n 2, 1), (94, Instr.laload, 1), (95, Instr.lconst 0, 1), (96, Instr.lcmp, 1), (97, Instr.ifCond .le 44, 3), (100, Instr.aload_n 0, 1), (101, Instr.iload_n 2, 1), (102, Instr.iload 4, 2), (104, Instr.invokevirtual 389, 3), (107, Instr.iconst (-1), 1), (108, Instr.if_icmp .eq 27, 3), (111, Instr.aload_n 0, 1), (112, Instr.getfield 91, 3), (115, Instr.aload_n 0, 1), (116, Instr.iload_n 2, 1), (117, Instr.iload 4, 2), (119, Instr.invokevirtual 389, 3), (122, Instr.dup2, 1), (123, Instr.laload, 1), (124, Instr.aload_n 0, 1), (125, Instr.getfield 87, 3), (128, Instr.iload_n 2, 1), (129, Instr.laload, 1), (130, Instr.iload_n 3, 1), (131, Instr.i2l, 1), (132, Instr.ldiv, 1), (133, Instr.ladd, 1), (134, Instr.lastore, 1), (135, Instr.iinc 4 1, 3), (138, Instr.goto (-62), 3), (141, Instr.iinc 2 1, 3), (144, Instr.goto (-121), 3), (147, Instr.iconst 0, 1), (148, Instr.istore_n 2, 1), (149, Instr.iload_n 2, 1), (150, Instr.bipush 120, 2), (152, Instr.if_icmp .ge 21, 3), (155, Instr.aload_n 0, 1), (156, Instr.getfield 87, 3), (159, Instr.iload_n 2, 1), (160, Instr.aload_n 0, 1), (161, Instr.getfield 91, 3), (164, Instr.iload_n 2, 1), (165, Instr.laload, 1), (166, Instr.lastore, 1), (167, Instr.iinc 2 1, 3), (170, Instr.goto (-21), 3), (173, Instr.return_, 1)]
set_option maxRecDepth 20000 in
theorem tkX11_steps : (tbX11_steps.all fun q => decide (decode cX11_steps q.1 = .ok q.2)) = true := by decide +kernel
def mX11_steps : Nat × MethodName × ByteArray × Nat × Option FieldType × List (Nat × Instr × Nat) × Option (Nat × (Nat → Int32)) := (11, yX11_steps, cX11_steps, 5, none, tbX11_steps, none)
def tbX11_partsAt : List (Nat × Instr × Nat) := [(0, Instr.lconst 0, 1), (1, Instr.lstore_n 3, 1), (2, Instr.iconst 0, 1), (3, Instr.istore 5, 2), (5, Instr.iload 5, 2), (7, Instr.bipush 120, 2), (9, Instr.if_icmp .ge 33, 3), (12, Instr.lload_n 3, 1), (13, Instr.iload 5, 2), (15, Instr.iload_n 1, 1), (16, Instr.iload_n 2, 1), (17, Instr.invokestatic 386, 3), (20, Instr.ifCond .eq 13, 3), (23, Instr.aload_n 0, 1), (24, Instr.getfield 87, 3), (27, Instr.iload 5, 2), (29, Instr.laload, 1), (30, Instr.goto 4, 3), (33, Instr.lconst 0, 1), (34, Instr.ladd, 1), (35, Instr.lstore_n 3, 1), (36, Instr.iinc 5 1, 3), (39, Instr.goto (-34), 3), (42, Instr.lload_n 3, 1), (43, Instr.lreturn, 1)]
set_option maxRecDepth 20000 in
theorem tkX11_partsAt : (tbX11_partsAt.all fun q => decide (decode cX11_partsAt q.1 = .ok q.2)) = true := by decide +kernel
def mX11_partsAt : Nat × MethodName × ByteArray × Nat × Option FieldType × List (Nat × Instr × Nat) × Option (Nat × (Nat → Int32)) := (11, yX11_partsAt, cX11_partsAt, 6, (some .long), tbX11_partsAt, none)
def tbX11_ways : List (Nat × Instr × Nat) := [(0, Instr.aload_n 0, 1), (1, Instr.iload_n 1, 1), (2, Instr.invokevirtual 149, 3), (5, Instr.ifCond .eq 22, 3), (8, Instr.iload_n 2, 1), (9, Instr.iload_n 3, 1), (10, Instr.invokestatic 392, 3), (13, Instr.ifCond .eq 14, 3), (16, Instr.iload 4, 2), (18, Instr.iconst 0, 1), (19, Instr.bipush 12, 2), (21, Instr.invokestatic 18, 3), (24, Instr.ifCond .ne 7, 3), (27, Instr.ldc2_w 421, 3), (30, Instr.lreturn, 1), (31, Instr.aload_n 0, 1), (32, Instr.iload_n 1, 1), (33, Instr.lconst 1, 1), (34, Instr.invokevirtual 423, 3), (37, Instr.iconst 0, 1), (38, Instr.istore 5, 2), (40, Instr.iload 5, 2), (42, Instr.iload 4, 2), (44, Instr.if_icmp .ge 14, 3), (47, Instr.aload_n 0, 1), (48, Instr.iconst 0, 1), (49, Instr.invokevirtual 427, 3), (52, Instr.iinc 5 1, 3), (55, Instr.goto (-15), 3), (58, Instr.aload_n 0, 1), (59, Instr.iload_n 2, 1), (60, Instr.iload_n 3, 1), (61, Instr.invokevirtual 431, 3), (64, Instr.lreturn, 1)]
set_option maxRecDepth 20000 in
theorem tkX11_ways : (tbX11_ways.all fun q => decide (decode cX11_ways q.1 = .ok q.2)) = true := by decide +kernel
def mX11_ways : Nat × MethodName × ByteArray × Nat × Option FieldType × List (Nat × Instr × Nat) × Option (Nat × (Nat → Int32)) := (11, yX11_ways, cX11_ways, 6, (some .long), tbX11_ways, none)
def tbX11_likely : List (Nat × Instr × Nat) := [(0, Instr.aload_n 0, 1), (1, Instr.iload_n 1, 1), (2, Instr.invokevirtual 149, 3), (5, Instr.ifCond .eq 22, 3), (8, Instr.iload_n 2, 1), (9, Instr.iload_n 3, 1), (10, Instr.invokestatic 392, 3), (13, Instr.ifCond .eq 14, 3), (16, Instr.iload 4, 2), (18, Instr.iconst 0, 1), (19, Instr.bipush 30, 2), (21, Instr.invokestatic 18, 3), (24, Instr.ifCond .ne 7, 3), (27, Instr.ldc2_w 421, 3), (30, Instr.lreturn, 1), (31, Instr.aload_n 0, 1), (32, Instr.iload_n 1, 1), (33, Instr.ldc2_w 435, 3), (36, Instr.invokevirtual 423, 3), (39, Instr.iconst 0, 1), (40, Instr.istore 5, 2), (42, Instr.iload 5, 2), (44, Instr.iload 4, 2), (46, Instr.if_icmp .ge 14, 3), (49, Instr.aload_n 0, 1), (50, Instr.iconst 1, 1), (51, Instr.invokevirtual 427, 3), (54, Instr.iinc 5 1, 3), (57, Instr.goto (-15), 3), (60, Instr.aload_n 0, 1), (61, Instr.iload_n 2, 1), (62, Instr.iload_n 3, 1), (63, Instr.invokevirtual 431, 3), (66, Instr.lreturn, 1)]
set_option maxRecDepth 20000 in
theorem tkX11_likely : (tbX11_likely.all fun q => decide (decode cX11_likely q.1 = .ok q.2)) = true := by decide +kernel
def mX11_likely : Nat × MethodName × ByteArray × Nat × Option FieldType × List (Nat × Instr × Nat) × Option (Nat × (Nat → Int32)) := (11, yX11_likely, cX11_likely, 6, (some .long), tbX11_likely, none)
def tbX11_again : List (Nat × Instr × Nat) := [(0, Instr.aload_n 0, 1), (1, Instr.iload_n 1, 1), (2, Instr.invokevirtual 149, 3), (5, Instr.ifCond .eq 20, 3), (8, Instr.aload_n 0, 1), (9, Instr.iload_n 2, 1), (10, Instr.invokevirtual 143, 3), (13, Instr.ifCond .eq 12, 3), (16, Instr.iload_n 3, 1), (17, Instr.iconst 0, 1), (18, Instr.iconst 1, 1), (19, Instr.invokestatic 18, 3), (22, Instr.ifCond .ne 5, 3), (25, Instr.iconst (-1), 1), (26, Instr.ireturn, 1), (27, Instr.iconst 0, 1), (28, Instr.istore 4, 2), (30, Instr.iload 4, 2), (32, Instr.bipush 20, 2), (34, Instr.if_icmp .ge 17, 3), (37, Instr.aload_n 0, 1), (38, Instr.getfield 94, 3), (41, Instr.iload 4, 2), (43, Instr.iconst (-1), 1), (44, Instr.iastore, 1), (45, Instr.iinc 4 1, 3), (48, Instr.goto (-18), 3), (51, Instr.aload_n 0, 1), (52, Instr.getfield 28, 3), (55, Instr.iconst 5, 1), (56, Instr.iload_n 1, 1), (57, Instr.iadd, 1), (58, Instr.iaload, 1), (59, Instr.istore 4, 2), (61, Instr.iconst 0, 1), (62, Instr.istore 5, 2), (64, Instr.aload_n 0, 1), (65, Instr.getfield 94, 3), (68, Instr.iload 4, 2), (70, Instr.iaload, 1), (71, Instr.iconst (-1), 1), (72, Instr.if_icmp .ne 32, 3), (75, Instr.aload_n 0, 1), (76, Instr.getfield 94, 3), (79, Instr.iload 4, 2), (81, Instr.iload 5, 2), (83, Instr.iastore, 1), (84, Instr.aload_n 0, 1), (85, Instr.iload_n 1, 1), (86, Instr.iload_n 2, 1), (87, Instr.iload 4, 2), (89, Instr.invokevirtual 159, 3), (92, Instr.aload_n 0, 1), (93, Instr.invokevirtual 163, 3), (96, Instr.istore 4, 2), (98, Instr.iinc 5 1, 3), (101, Instr.goto (-37), 3), (104, Instr.iload_n 3, 1), (105, Instr.ifCond .ne 13, 3), (108, Instr.aload_n 0, 1), (109, Instr.getfield 94, 3), (112, Instr.iload 4, 2), (114, Instr.iaload, 1), (115, Instr.goto 13, 3), (118, Instr.iload 5, 2), (120, Instr.aload_n 0, 1), (121, Instr.getfield 94, 3), (124, Instr.iload 4, 2), (126, Instr.iaload, 1), (127, Instr.isub, 1), (128, Instr.ireturn, 1)]
set_option maxRecDepth 20000 in
theorem tkX11_again : (tbX11_again.all fun q => decide (decode cX11_again q.1 = .ok q.2)) = true := by decide +kernel
def mX11_again : Nat × MethodName × ByteArray × Nat × Option FieldType × List (Nat × Instr × Nat) × Option (Nat × (Nat → Int32)) := (11, yX11_again, cX11_again, 6, (some .int), tbX11_again, none)
def tbX11_hasWay : List (Nat × Instr × Nat) := [(0, Instr.aload_n 0, 1), (1, Instr.aload_n 0, 1), (2, Instr.iload_n 1, 1), (3, Instr.invokevirtual 402, 3), (6, Instr.iconst 0, 1), (7, Instr.invokevirtual 412, 3), (10, Instr.iconst 0, 1), (11, Instr.istore 4, 2), (13, Instr.iconst 0, 1), (14, Instr.istore 5, 2), (16, Instr.iload 5, 2), (18, Instr.bipush 120, 2), (20, Instr.if_icmp .ge 43, 3), (23, Instr.iload 4, 2), (25, Instr.ifCond .ne 25, 3), (28, Instr.aload_n 0, 1), (29, Instr.getfield 81, 3), (32, Instr.iload 5, 2), (34, Instr.iaload, 1), (35, Instr.ldc 198, 2), (37, Instr.if_icmp .ge 17, 3), (40, Instr.iload 5, 2), (42, Instr.iload_n 2, 1), (43, Instr.iload_n 3, 1), (44, Instr.invokestatic 386, 3), (47, Instr.ifCond .eq 7, 3), (50, Instr.iconst 1, 1), (51, Instr.goto 4, 3), (54, Instr.iconst 0, 1), (55, Instr.istore 4, 2), (57, Instr.iinc 5 1, 3), (60, Instr.goto (-44), 3), (63, Instr.iload 4, 2), (65, Instr.ireturn, 1)]
set_option maxRecDepth 20000 in
theorem tkX11_hasWay : (tbX11_hasWay.all fun q => decide (decode cX11_hasWay q.1 = .ok q.2)) = true := by decide +kernel
def mX11_hasWay : Nat × MethodName × ByteArray × Nat × Option FieldType × List (Nat × Instr × Nat) × Option (Nat × (Nat → Int32)) := (11, yX11_hasWay, cX11_hasWay, 6, (some .boolean), tbX11_hasWay, none)
def tbX11_fixedAt : List (Nat × Instr × Nat) := [(0, Instr.aload_n 0, 1), (1, Instr.getfield 28, 3), (4, Instr.bipush 15, 2), (6, Instr.iload_n 2, 1), (7, Instr.iadd, 1), (8, Instr.iaload, 1), (9, Instr.istore 5, 2), (11, Instr.iconst (-1), 1), (12, Instr.istore 6, 2), (14, Instr.iconst 0, 1), (15, Instr.istore 7, 2), (17, Instr.iload 7, 2), (19, Instr.bipush 9, 2), (21, Instr.if_icmp .gt 61, 3), (24, Instr.iload 6, 2), (26, Instr.iconst (-1), 1), (27, Instr.if_icmp .ne 55, 3), (30, Instr.iload 7, 2), (32, Instr.iload 5, 2), (34, Instr.if_icmp .ne 6, 3), (37, Instr.goto 39, 3), (40, Instr.aload_n 0, 1), (41, Instr.getfield 28, 3), (44, Instr.bipush 15, 2), (46, Instr.iload_n 2, 1), (47, Instr.iadd, 1), (48, Instr.iload 7, 2), (50, Instr.iastore, 1), (51, Instr.aload_n 0, 1), (52, Instr.iload_n 1, 1), (53, Instr.iload_n 2, 1), (54, Instr.invokevirtual 383, 3), (57, Instr.aload_n 0, 1), (58, Instr.iload_n 1, 1), (59, Instr.iload_n 3, 1), (60, Instr.iload 4, 2), (62, Instr.invokevirtual 437, 3), (65, Instr.ifCond .eq 8, 3), (68, Instr.iload 7, 2), (70, Instr.goto 4, 3), (73, Instr.iconst (-1), 1), (74, Instr.istore 6, 2), (76, Instr.iinc 7 1, 3), (79, Instr.goto (-62), 3), (82, Instr.aload_n 0, 1), (83, Instr.getfield 28, 3), (86, Instr.bipush 15, 2), (88, Instr.iload_n 2, 1), (89, Instr.iadd, 1), (90, Instr.iload 5, 2), (92, Instr.iastore, 1), (93, Instr.aload_n 0, 1), (94, Instr.iload_n 1, 1), (95, Instr.iload_n 2, 1), (96, Instr.invokevirtual 383, 3), (99, Instr.iload 6, 2), (101, Instr.ireturn, 1)]
set_option maxRecDepth 20000 in
theorem tkX11_fixedAt : (tbX11_fixedAt.all fun q => decide (decode cX11_fixedAt q.1 = .ok q.2)) = true := by decide +kernel
def mX11_fixedAt : Nat × MethodName × ByteArray × Nat × Option FieldType × List (Nat × Instr × Nat) × Option (Nat × (Nat → Int32)) := (11, yX11_fixedAt, cX11_fixedAt, 8, (some .int), tbX11_fixedAt, none)
def tbX11_fixed : List (Nat × Instr × Nat) := [(0, Instr.aload_n 0, 1), (1, Instr.iload_n 1, 1), (2, Instr.invokevirtual 149, 3), (5, Instr.ifCond .eq 11, 3), (8, Instr.iload_n 2, 1), (9, Instr.iload_n 3, 1), (10, Instr.invokestatic 392, 3), (13, Instr.ifCond .ne 5, 3), (16, Instr.iconst (-1), 1), (17, Instr.ireturn, 1), (18, Instr.aload_n 0, 1), (19, Instr.iload_n 1, 1), (20, Instr.invokevirtual 395, 3), (23, Instr.aload_n 0, 1), (24, Instr.iload_n 1, 1), (25, Instr.iload_n 2, 1), (26, Instr.iload_n 3, 1), (27, Instr.invokevirtual 437, 3), (30, Instr.ifCond .eq 6, 3), (33, Instr.bipush 100, 2), (35, Instr.ireturn, 1), (36, Instr.iconst 0, 1), (37, Instr.istore 4, 2), (39, Instr.iload 4, 2), (41, Instr.aload_n 0, 1), (42, Instr.invokevirtual 124, 3), (45, Instr.if_icmp .ge 35, 3), (48, Instr.aload_n 0, 1), (49, Instr.iload_n 1, 1), (50, Instr.iload 4, 2), (52, Instr.iload_n 2, 1), (53, Instr.iload_n 3, 1), (54, Instr.invokevirtual 440, 3), (57, Instr.istore 5, 2), (59, Instr.iload 5, 2), (61, Instr.iconst (-1), 1), (62, Instr.if_icmp .eq 12, 3), (65, Instr.bipush 10, 2), (67, Instr.iload 4, 2), (69, Instr.imul, 1), (70, Instr.iload 5, 2), (72, Instr.iadd, 1), (73, Instr.ireturn, 1), (74, Instr.iinc 4 1, 3), (77, Instr.goto (-38), 3), (80, Instr.iconst (-1), 1), (81, Instr.ireturn, 1)]
set_option maxRecDepth 20000 in
theorem tkX11_fixed : (tbX11_fixed.all fun q => decide (decode cX11_fixed q.1 = .ok q.2)) = true := by decide +kernel
def mX11_fixed : Nat × MethodName × ByteArray × Nat × Option FieldType × List (Nat × Instr × Nat) × Option (Nat × (Nat → Int32)) := (11, yX11_fixed, cX11_fixed, 6, (some .int), tbX11_fixed, none)
def tbX11_cut : List (Nat × Instr × Nat) := [(0, Instr.aload_n 0, 1), (1, Instr.iload_n 1, 1), (2, Instr.invokevirtual 149, 3), (5, Instr.ifCond .eq 31, 3), (8, Instr.iload_n 2, 1), (9, Instr.invokestatic 128, 3), (12, Instr.ifCond .eq 24, 3), (15, Instr.iload_n 3, 1), (16, Instr.iconst 0, 1), (17, Instr.iconst 1, 1), (18, Instr.invokestatic 18, 3), (21, Instr.ifCond .eq 15, 3), (24, Instr.aload_n 0, 1), (25, Instr.getfield 28, 3), (28, Instr.iconst 0, 1), (29, Instr.iload_n 1, 1), (30, Instr.iadd, 1), (31, Instr.iaload, 1), (32, Instr.iload_n 2, 1), (33, Instr.if_icmp .ne 5, 3), (36, Instr.iconst (-1), 1), (37, Instr.ireturn, 1), (38, Instr.aload_n 0, 1), (39, Instr.iload_n 1, 1), (40, Instr.invokevirtual 395, 3), (43, Instr.iconst 0, 1), (44, Instr.istore 4, 2), (46, Instr.iconst 0, 1), (47, Instr.istore 5, 2), (49, Instr.iload 5, 2), (51, Instr.aload_n 0, 1), (52, Instr.invokevirtual 124, 3), (55, Instr.if_icmp .ge 27, 3), (58, Instr.iload 4, 2), (60, Instr.aload_n 0, 1), (61, Instr.getfield 28, 3), (64, Instr.bipush 25, 2), (66, Instr.iload 5, 2), (68, Instr.iadd, 1), (69, Instr.iaload, 1), (70, Instr.iload 5, 2), (72, Instr.ishl, 1), (73, Instr.ior, 1), (74, Instr.istore 4, 2), (76, Instr.iinc 5 1, 3), (79, Instr.goto (-30), 3), (82, Instr.iconst (-1), 1), (83, Instr.istore 5, 2), (85, Instr.iconst 0, 1), (86, Instr.istore 6, 2), (88, Instr.iload 6, 2), (90, Instr.iload 4, 2), (92, Instr.if_icmp .gt 69, 3), (95, Instr.iload 6, 2), (97, Instr.iload 4, 2), (99, Instr.iconst (-1), 1), (100, Instr.ixor, 1), (101, Instr.iand, 1), (102, Instr.ifCond .ne 53, 3), (105, Instr.iload 5, 2), (107, Instr.iconst (-1), 1), (108, Instr.if_icmp .eq 19, 3), (111, Instr.iload 6, 2), (113, Instr.invokestatic 443, 3), (116, Instr.iload 5, 2), (118, Instr.invokestatic 443, 3), (121, Instr.if_icmp .lt 6, 3), (124, Instr.goto 31, 3), (127, Instr.aload_n 0, 1), (128, Instr.aload_n 0, 1), (129, Instr.iload_n 1, 1), (130, Instr.invokevirtual 402, 3), (133, Instr.iload 6, 2), (135, Instr.invokevirtual 412, 3), (138, Instr.aload_n 0, 1), (139, Instr.iload_n 2, 1), (140, Instr.invokevirtual 415, 3), (143, Instr.ifCond .eq 8, 3), (146, Instr.iload 5, 2), (148, Instr.goto 5, 3), (151, Instr.iload 6, 2), (153, Instr.istore 5, 2), (155, Instr.iinc 6 1, 3), (158, Instr.goto (-70), 3), (161, Instr.iload_n 3, 1), (162, Instr.ifCond .ne 11, 3), (165, Instr.iload 5, 2), (167, Instr.invokestatic 443, 3), (170, Instr.goto 5, 3), (173, Instr.iload 5, 2), (175, Instr.ireturn, 1)]
set_option maxRecDepth 20000 in
theorem tkX11_cut : (tbX11_cut.all fun q => decide (decode cX11_cut q.1 = .ok q.2)) = true := by decide +kernel
def mX11_cut : Nat × MethodName × ByteArray × Nat × Option FieldType × List (Nat × Instr × Nat) × Option (Nat × (Nat → Int32)) := (11, yX11_cut, cX11_cut, 7, (some .int), tbX11_cut, none)
def tbX11_meet : List (Nat × Instr × Nat) := [(0, Instr.aload_n 0, 1), (1, Instr.iload_n 1, 1), (2, Instr.invokevirtual 149, 3), (5, Instr.ifCond .eq 25, 3), (8, Instr.aload_n 0, 1), (9, Instr.iload_n 2, 1), (10, Instr.invokevirtual 149, 3), (13, Instr.ifCond .eq 17, 3), (16, Instr.iload_n 1, 1), (17, Instr.iload_n 2, 1), (18, Instr.if_icmp .eq 12, 3), (21, Instr.iload_n 3, 1), (22, Instr.iconst 0, 1), (23, Instr.iconst 1, 1), (24, Instr.invokestatic 18, 3), (27, Instr.ifCond .ne 5, 3), (30, Instr.iconst (-1), 1), (31, Instr.ireturn, 1), (32, Instr.aload_n 0, 1), (33, Instr.iload_n 1, 1), (34, Instr.invokevirtual 395, 3), (37, Instr.aload_n 0, 1), (38, Instr.aload_n 0, 1), (39, Instr.iload_n 1, 1), (40, Instr.invokevirtual 402, 3), (43, Instr.iconst 0, 1), (44, Instr.invokevirtual 412, 3), (47, Instr.iconst 0, 1), (48, Instr.istore 4, 2), (50, Instr.iload 4, 2), (52, Instr.bipush 120, 2), (54, Instr.if_icmp .ge 23, 3), (57, Instr.aload_n 0, 1), (58, Instr.getfield 97, 3), (61, Instr.iload 4, 2), (63, Instr.aload_n 0, 1), (64, Instr.getfield 81, 3), (67, Instr.iload 4, 2), (69, Instr.iaload, 1), (70, Instr.iastore, 1), (71, Instr.iinc 4 1, 3), (74, Instr.goto (-24), 3), (77, Instr.aload_n 0, 1), (78, Instr.iload_n 2, 1), (79, Instr.invokevirtual 395, 3), (82, Instr.aload_n 0, 1), (83, Instr.aload_n 0, 1), (84, Instr.iload_n 2, 1), (85, Instr.invokevirtual 402, 3), (88, Instr.iconst 0, 1), (89, Instr.invokevirtual 412, 3), (92, Instr.iconst (-1), 1), (93, Instr.istore 4, 2), (95, Instr.ldc 198, 2), (97, Instr.istore 5, 2), (99, Instr.iconst 0, 1), (100, Instr.istore 6, 2), (102, Instr.iload 6, 2), (104, Instr.bipush 120, 2), (106, Instr.if_icmp .ge 46, 3), (109, Instr.aload_n 0, 1), (110, Instr.getfield 97, 3), (113, Instr.iload 6, 2), (115, Instr.iaload, 1), (116, Instr.aload_n 0, 1), (117, Instr.getfield 81, 3), (120, Instr.iload 6, 2), (122, Instr.iaload, 1), (123, Instr.invokestatic 352, 3), (126, Instr.istore 7, 2), (128, Instr.iload 7, 2), (130, Instr.iload 5, 2), (132, Instr.if_icmp .lt 6, 3), (135, Instr.goto 11, 3), (138, Instr.iload 7, 2), (140, Instr.istore 5, 2), (142, Instr.iload 6, 2), (144, Instr.istore 4, 2), (146, Instr.iinc 6 1, 3), (149, Instr.goto (-47), 3), (152, Instr.iload 4, 2), (154, Instr.iconst (-1), 1), (155, Instr.if_icmp .eq 7, 3), (158, Instr.iload_n 3, 1), (159, Instr.ifCond .ne 8, 3), (162, Instr.iload 4, 2), (164, Instr.goto 5, 3), (167, Instr.iload 5, 2), (169, Instr.ireturn, 1)]
set_option maxRecDepth 20000 in
theorem tkX11_meet : (tbX11_meet.all fun q => decide (decode cX11_meet q.1 = .ok q.2)) = true := by decide +kernel
def mX11_meet : Nat × MethodName × ByteArray × Nat × Option FieldType × List (Nat × Instr × Nat) × Option (Nat × (Nat → Int32)) := (11, yX11_meet, cX11_meet, 8, (some .int), tbX11_meet, none)
def tbX11_seen : List (Nat × Instr × Nat) := [(0, Instr.iload_n 1, 1), (1, Instr.invokestatic 132, 3), (4, Instr.ifCond .eq 17, 3), (7, Instr.iload_n 2, 1), (8, Instr.invokestatic 146, 3), (11, Instr.ifCond .eq 10, 3), (14, Instr.iload_n 3, 1), (15, Instr.invokestatic 146, 3), (18, Instr.ifCond .ne 9, 3), (21, Instr.aload_n 0, 1), (22, Instr.iconst (-1), 1), (23, Instr.invokevirtual 118, 3), (26, Instr.ireturn, 1), (27, Instr.bipush 71, 2), (29, Instr.iconst 3, 1), (30, Instr.aload_n 0, 1), (31, Instr.getfield 28, 3), (34, Instr.bipush 93, 2), (36, Instr.iaload, 1), (37, Instr.imul, 1), (38, Instr.iadd, 1), (39, Instr.istore 4, 2), (41, Instr.aload_n 0, 1), (42, Instr.getfield 28, 3), (45, Instr.bipush 93, 2), (47, Instr.iaload, 1), (48, Instr.bipush 6, 2), (50, Instr.if_icmp .ne 10, 3), (53, Instr.aload_n 0, 1), (54, Instr.bipush (-5), 2), (56, Instr.invokevirtual 118, 3), (59, Instr.ireturn, 1), (60, Instr.aload_n 0, 1), (61, Instr.getfield 28, 3), (64, Instr.iload 4, 2), (66, Instr.iload_n 1, 1), (67, Instr.iastore, 1), (68, Instr.aload_n 0, 1), (69, Instr.getfield 28, 3), (72, Instr.iload 4, 2), (74, Instr.iconst 1, 1), (75, Instr.iadd, 1), (76, Instr.iload_n 2, 1), (77, Instr.iastore, 1), (78, Instr.aload_n 0, 1), (79, Instr.getfield 28, 3), (82, Instr.iload 4, 2), (84, Instr.iconst 2, 1), (85, Instr.iadd, 1), (86, Instr.iload_n 3, 1), (87, Instr.iastore, 1), (88, Instr.aload_n 0, 1), (89, Instr.getfield 28, 3), (92, Instr.bipush 93, 2), (94, Instr.dup2, 1), (95, Instr.iaload, 1), (96, Instr.iconst 1, 1), (97, Instr.iadd, 1), (98, Instr.iastore, 1), (99, Instr.aload_n 0, 1), (100, Instr.aload_n 0, 1), (101, Instr.getfield 28, 3), (104, Instr.bipush 93, 2), (106, Instr.iaload, 1), (107, Instr.invokevirtual 14, 3), (110, Instr.ireturn, 1)]
set_option maxRecDepth 20000 in
theorem tkX11_seen : (tbX11_seen.all fun q => decide (decode cX11_seen q.1 = .ok q.2)) = true := by decide +kernel
def mX11_seen : Nat × MethodName × ByteArray × Nat × Option FieldType × List (Nat × Instr × Nat) × Option (Nat × (Nat → Int32)) := (11, yX11_seen, cX11_seen, 5, (some .int), tbX11_seen, none)
def tbX11_forget : List (Nat × Instr × Nat) := [(0, Instr.aload_n 0, 1), (1, Instr.getfield 28, 3), (4, Instr.bipush 93, 2), (6, Instr.iaload, 1), (7, Instr.istore_n 1, 1), (8, Instr.aload_n 0, 1), (9, Instr.getfield 28, 3), (12, Instr.bipush 93, 2), (14, Instr.iconst 0, 1), (15, Instr.iastore, 1), (16, Instr.iload_n 1, 1), (17, Instr.ireturn, 1)]
set_option maxRecDepth 20000 in
theorem tkX11_forget : (tbX11_forget.all fun q => decide (decode cX11_forget q.1 = .ok q.2)) = true := by decide +kernel
def mX11_forget : Nat × MethodName × ByteArray × Nat × Option FieldType × List (Nat × Instr × Nat) × Option (Nat × (Nat → Int32)) := (11, yX11_forget, cX11_forget, 2, (some .int), tbX11_forget, none)
def tbX11_outOf : List (Nat × Instr × Nat) := [(0, Instr.aload_n 0, 1), (1, Instr.iload_n 1, 1), (2, Instr.iload_n 2, 1), (3, Instr.iload_n 3, 1), (4, Instr.iconst 0, 1), (5, Instr.iconst (-1), 1), (6, Instr.iconst (-1), 1), (7, Instr.invokevirtual 348, 3), (10, Instr.aload_n 0, 1), (11, Instr.invokevirtual 169, 3), (14, Instr.ifCond .eq 7, 3), (17, Instr.iconst (-1), 1), (18, Instr.goto 7, 3), (21, Instr.aload_n 0, 1), (22, Instr.invokevirtual 163, 3), (25, Instr.ireturn, 1)]
set_option maxRecDepth 20000 in
theorem tkX11_outOf : (tbX11_outOf.all fun q => decide (decode cX11_outOf q.1 = .ok q.2)) = true := by decide +kernel
def mX11_outOf : Nat × MethodName × ByteArray × Nat × Option FieldType × List (Nat × Instr × Nat) × Option (Nat × (Nat → Int32)) := (11, yX11_outOf, cX11_outOf, 4, (some .int), tbX11_outOf, none)
def tbX11_canBeKind : List (Nat × Instr × Nat) := [(0, Instr.iconst 1, 1), (1, Instr.istore_n 2, 1), (2, Instr.iconst 0, 1), (3, Instr.istore_n 3, 1), (4, Instr.iload_n 3, 1), (5, Instr.aload_n 0, 1), (6, Instr.getfield 28, 3), (9, Instr.bipush 93, 2), (11, Instr.iaload, 1), (12, Instr.if_icmp .ge 64, 3), (15, Instr.iload_n 2, 1), (16, Instr.ifCond .eq 60, 3), (19, Instr.aload_n 0, 1), (20, Instr.iload_n 1, 1), (21, Instr.aload_n 0, 1), (22, Instr.getfield 28, 3), (25, Instr.bipush 71, 2), (27, Instr.iconst 3, 1), (28, Instr.iload_n 3, 1), (29, Instr.imul, 1), (30, Instr.iadd, 1), (31, Instr.iaload, 1), (32, Instr.aload_n 0, 1), (33, Instr.getfield 28, 3), (36, Instr.bipush 71, 2), (38, Instr.iconst 3, 1), (39, Instr.iload_n 3, 1), (40, Instr.imul, 1), (41, Instr.iadd, 1), (42, Instr.iconst 1, 1), (43, Instr.iadd, 1), (44, Instr.iaload, 1), (45, Instr.invokevirtual 446, 3), (48, Instr.aload_n 0, 1), (49, Instr.getfield 28, 3), (52, Instr.bipush 71, 2), (54, Instr.iconst 3, 1), (55, Instr.iload_n 3, 1), (56, Instr.imul, 1), (57, Instr.iadd, 1), (58, Instr.iconst 2, 1), (59, Instr.iadd, 1), (60, Instr.iaload, 1), (61, Instr.if_icmp .ne 7, 3), (64, Instr.iconst 1, 1), (65, Instr.goto 4, 3), (68, Instr.iconst 0, 1), (69, Instr.istore_n 2, 1), (70, Instr.iinc 3 1, 3), (73, Instr.goto (-69), 3), (76, Instr.iload_n 2, 1), (77, Instr.ireturn, 1)]
set_option maxRecDepth 20000 in
theorem tkX11_canBeKind : (tbX11_canBeKind.all fun q => decide (decode cX11_canBeKind q.1 = .ok q.2)) = true := by decide +kernel
def mX11_canBeKind : Nat × MethodName × ByteArray × Nat × Option FieldType × List (Nat × Instr × Nat) × Option (Nat × (Nat → Int32)) := (11, yX11_canBeKind, cX11_canBeKind, 4, (some .boolean), tbX11_canBeKind, none)
def tbX11_kinds : List (Nat × Instr × Nat) := [(0, Instr.iconst 0, 1), (1, Instr.istore_n 1, 1), (2, Instr.iconst 0, 1), (3, Instr.istore_n 2, 1), (4, Instr.iload_n 2, 1), (5, Instr.bipush 8, 2), (7, Instr.if_icmp .ge 27, 3), (10, Instr.iload_n 1, 1), (11, Instr.aload_n 0, 1), (12, Instr.iload_n 2, 1), (13, Instr.invokevirtual 449, 3), (16, Instr.ifCond .eq 9, 3), (19, Instr.iconst 1, 1), (20, Instr.iload_n 2, 1), (21, Instr.ishl, 1), (22, Instr.goto 4, 3), (25, Instr.iconst 0, 1), (26, Instr.ior, 1), (27, Instr.istore_n 1, 1), (28, Instr.iinc 2 1, 3), (31, Instr.goto (-27), 3), (34, Instr.iload_n 1, 1), (35, Instr.ireturn, 1)]
set_option maxRecDepth 20000 in
theorem tkX11_kinds : (tbX11_kinds.all fun q => decide (decode cX11_kinds q.1 = .ok q.2)) = true := by decide +kernel
def mX11_kinds : Nat × MethodName × ByteArray × Nat × Option FieldType × List (Nat × Instr × Nat) × Option (Nat × (Nat → Int32)) := (11, yX11_kinds, cX11_kinds, 3, (some .int), tbX11_kinds, none)
def tbX11_mostAlike : List (Nat × Instr × Nat) := [(0, Instr.iconst 0, 1), (1, Instr.istore 4, 2), (3, Instr.iload 4, 2), (5, Instr.bipush 20, 2), (7, Instr.if_icmp .gt 17, 3), (10, Instr.aload_n 0, 1), (11, Instr.getfield 100, 3), (14, Instr.iload 4, 2), (16, Instr.iconst 0, 1), (17, Instr.iastore, 1), (18, Instr.iinc 4 1, 3), (21, Instr.goto (-18), 3), (24, Instr.iconst 0, 1), (25, Instr.istore 4, 2), (27, Instr.iconst 0, 1), (28, Instr.istore 5, 2), (30, Instr.iload 5, 2), (32, Instr.bipush 8, 2), (34, Instr.if_icmp .ge 58, 3), (37, Instr.iload_n 1, 1), (38, Instr.iload 5, 2), (40, Instr.invokestatic 409, 3), (43, Instr.ifCond .ne 6, 3), (46, Instr.goto 40, 3), (49, Instr.aload_n 0, 1), (50, Instr.iload 5, 2), (52, Instr.iload_n 2, 1), (53, Instr.iload_n 3, 1), (54, Instr.invokevirtual 446, 3), (57, Instr.iconst 1, 1), (58, Instr.iadd, 1), (59, Instr.istore 6, 2), (61, Instr.aload_n 0, 1), (62, Instr.getfield 100, 3), (65, Instr.iload 6, 2), (67, Instr.dup2, 1), (68, Instr.iaload, 1), (69, Instr.iconst 1, 1), (70, Instr.iadd, 1), (71, Instr.iastore, 1), (72, Instr.iload 4, 2), (74, Instr.aload_n 0, 1), (75, Instr.getfield 100, 3), (78, Instr.iload 6, 2), (80, Instr.iaload, 1), (81, Instr.invokestatic 352, 3), (84, Instr.istore 4, 2), (86, Instr.iinc 5 1, 3), (89, Instr.goto (-59), 3), (92, Instr.iload 4, 2), (94, Instr.ireturn, 1)]
set_option maxRecDepth 20000 in
theorem tkX11_mostAlike : (tbX11_mostAlike.all fun q => decide (decode cX11_mostAlike q.1 = .ok q.2)) = true := by decide +kernel
def mX11_mostAlike : Nat × MethodName × ByteArray × Nat × Option FieldType × List (Nat × Instr × Nat) × Option (Nat × (Nat → Int32)) := (11, yX11_mostAlike, cX11_mostAlike, 7, (some .int), tbX11_mostAlike, none)
def tbX11_ask : List (Nat × Instr × Nat) := [(0, Instr.iload_n 1, 1), (1, Instr.invokestatic 132, 3), (4, Instr.ifCond .eq 12, 3), (7, Instr.iload_n 2, 1), (8, Instr.iconst 0, 1), (9, Instr.iconst 1, 1), (10, Instr.invokestatic 18, 3), (13, Instr.ifCond .ne 5, 3), (16, Instr.iconst (-1), 1), (17, Instr.ireturn, 1), (18, Instr.aload_n 0, 1), (19, Instr.invokevirtual 452, 3), (22, Instr.istore_n 3, 1), (23, Instr.iconst (-1), 1), (24, Instr.istore 4, 2), (26, Instr.ldc 198, 2), (28, Instr.istore 5, 2), (30, Instr.iconst 0, 1), (31, Instr.istore 6, 2), (33, Instr.iload 6, 2), (35, Instr.bipush 20, 2), (37, Instr.if_icmp .ge 41, 3), (40, Instr.iload_n 3, 1), (41, Instr.ifCond .eq 37, 3), (44, Instr.aload_n 0, 1), (45, Instr.iload_n 3, 1), (46, Instr.iload_n 1, 1), (47, Instr.iload 6, 2), (49, Instr.invokevirtual 455, 3), (52, Instr.istore 7, 2), (54, Instr.iload 7, 2), (56, Instr.iload 5, 2), (58, Instr.if_icmp .lt 6, 3), (61, Instr.goto 11, 3), (64, Instr.iload 7, 2), (66, Instr.istore 5, 2), (68, Instr.iload 6, 2), (70, Instr.istore 4, 2), (72, Instr.iinc 6 1, 3), (75, Instr.goto (-42), 3), (78, Instr.iload 4, 2), (80, Instr.iconst (-1), 1), (81, Instr.if_icmp .eq 7, 3), (84, Instr.iload_n 2, 1), (85, Instr.ifCond .ne 8, 3), (88, Instr.iload 4, 2), (90, Instr.goto 5, 3), (93, Instr.iload 5, 2), (95, Instr.ireturn, 1)]
set_option maxRecDepth 20000 in
theorem tkX11_ask : (tbX11_ask.all fun q => decide (decode cX11_ask q.1 = .ok q.2)) = true := by decide +kernel
def mX11_ask : Nat × MethodName × ByteArray × Nat × Option FieldType × List (Nat × Instr × Nat) × Option (Nat × (Nat → Int32)) := (11, yX11_ask, cX11_ask, 8, (some .int), tbX11_ask, none)
def tbX11_few : List (Nat × Instr × Nat) := [(0, Instr.iload_n 1, 1), (1, Instr.iconst 1, 1), (2, Instr.bipush 20, 2), (4, Instr.invokestatic 18, 3), (7, Instr.ifCond .eq 13, 3), (10, Instr.iload_n 2, 1), (11, Instr.iconst 0, 1), (12, Instr.bipush 99, 2), (14, Instr.invokestatic 18, 3), (17, Instr.ifCond .ne 7, 3), (20, Instr.ldc2_w 421, 3), (23, Instr.lreturn, 1), (24, Instr.iconst 0, 1), (25, Instr.istore_n 3, 1), (26, Instr.iload_n 3, 1), (27, Instr.bipush 20, 2), (29, Instr.if_icmp .gt 26, 3), (32, Instr.aload_n 0, 1), (33, Instr.getfield 103, 3), (36, Instr.iload_n 3, 1), (37, Instr.iload_n 3, 1), (38, Instr.ifCond .ne 9, 3), (41, Instr.ldc2_w 435, 3), (44, Instr.goto 4, 3), (47, Instr.lconst 0, 1), (48, Instr.lastore, 1), (49, Instr.iinc 3 1, 3), (52, Instr.goto (-26), 3), (55, Instr.iconst 0, 1), (56, Instr.istore_n 3, 1), (57, Instr.iload_n 3, 1), (58, Instr.iload_n 2, 1), (59, Instr.if_icmp .ge 87, 3), (62, Instr.iload_n 1, 1), (63, Instr.iconst 1, 1), (64, Instr.isub, 1), (65, Instr.istore 4, 2), (67, Instr.iload 4, 2), (69, Instr.ifCond .lt 71, 3), (72, Instr.aload_n 0, 1), (73, Instr.getfield 103, 3), (76, Instr.iload 4, 2), (78, Instr.iconst 1, 1), (79, Instr.iadd, 1), (80, Instr.dup2, 1), (81, Instr.laload, 1), (82, Instr.aload_n 0, 1), (83, Instr.getfield 103, 3), (86, Instr.iload 4, 2), (88, Instr.laload, 1), (89, Instr.aload_n 0, 1), (90, Instr.getfield 28, 3), (93, Instr.bipush 89, 2), (95, Instr.iaload, 1), (96, Instr.i2l, 1), (97, Instr.lmul, 1), (98, Instr.ldc2_w 458, 3), (101, Instr.ldiv, 1), (102, Instr.ladd, 1), (103, Instr.lastore, 1), (104, Instr.aload_n 0, 1), (105, Instr.getfield 103, 3), (108, Instr.iload 4, 2), (110, Instr.aload_n 0, 1), (111, Instr.getfield 103, 3), (114, Instr.iload 4, 2), (116, Instr.laload, 1), (117, Instr.bipush 10, 2), (119, Instr.aload_n 0, 1), (120, Instr.getfield 28, 3), (123, Instr.bipush 89, 2), (125, Instr.iaload, 1), (126, Instr.isub, 1), (127, Instr.i2l, 1), (128, Instr.lmul, 1), (129, Instr.ldc2_w 458, 3), (132, Instr.ldiv, 1), (133, Instr.lastore, 1), (134, Instr.iinc 4 (-1), 3), (137, Instr.goto (-70), 3), (140, Instr.iinc 3 1, 3), (143, Instr.goto (-86), 3), (146, Instr.lconst 0, 1), (147, Instr.lstore_n 3, 1), (148, Instr.iconst 0, 1), (149, Instr.istore 5, 2), (151, Instr.iload 5, 2), (153, Instr.iload_n 1, 1), (154, Instr.if_icmp .ge 19, 3), (157, Instr.lload_n 3, 1), (158, Instr.aload_n 0, 1), (159, Instr.getfield 103, 3), (162, Instr.iload 5, 2), (164, Instr.laload, 1), (165, Instr.ladd, 1), (166, Instr.lstore_n 3, 1), (167, Instr.iinc 5 1, 3), (170, Instr.goto (-19), 3), (173, Instr.lload_n 3, 1), (174, Instr.lreturn, 1)]
set_option maxRecDepth 20000 in
theorem tkX11_few : (tbX11_few.all fun q => decide (decode cX11_few q.1 = .ok q.2)) = true := by decide +kernel
def mX11_few : Nat × MethodName × ByteArray × Nat × Option FieldType × List (Nat × Instr × Nat) × Option (Nat × (Nat → Int32)) := (11, yX11_few, cX11_few, 6, (some .long), tbX11_few, none)
def tbX11_stopped : List (Nat × Instr × Nat) := [(0, Instr.aload_n 0, 1), (1, Instr.getfield 106, 3), (4, Instr.ireturn, 1)]
set_option maxRecDepth 20000 in
theorem tkX11_stopped : (tbX11_stopped.all fun q => decide (decode cX11_stopped q.1 = .ok q.2)) = true := by decide +kernel
def mX11_stopped : Nat × MethodName × ByteArray × Nat × Option FieldType × List (Nat × Instr × Nat) × Option (Nat × (Nat → Int32)) := (11, yX11_stopped, cX11_stopped, 1, (some .int), tbX11_stopped, none)
def tbX11_orders : List (Nat × Instr × Nat) := [(0, Instr.aload_n 0, 1), (1, Instr.iconst (-1), 1), (2, Instr.putfield 106, 3), (5, Instr.aload_n 0, 1), (6, Instr.iconst 1, 1), (7, Instr.invokevirtual 278, 3), (10, Instr.ifCond .ne 10, 3), (13, Instr.aload_n 0, 1), (14, Instr.bipush (-6), 2), (16, Instr.invokevirtual 118, 3), (19, Instr.ireturn, 1), (20, Instr.aload_n 0, 1), (21, Instr.iconst 1, 1), (22, Instr.invokevirtual 460, 3), (25, Instr.iconst 0, 1), (26, Instr.istore_n 1, 1), (27, Instr.iload_n 1, 1), (28, Instr.sipush 592, 3), (31, Instr.if_icmp .ge 21, 3), (34, Instr.aload_n 0, 1), (35, Instr.getfield 69, 3), (38, Instr.iload_n 1, 1), (39, Instr.aload_n 0, 1), (40, Instr.getfield 66, 3), (43, Instr.iload_n 1, 1), (44, Instr.iaload, 1), (45, Instr.iastore, 1), (46, Instr.iinc 1 1, 3), (49, Instr.goto (-22), 3), (52, Instr.aload_n 0, 1), (53, Instr.getfield 11, 3), (56, Instr.istore_n 1, 1), (57, Instr.aload_n 0, 1), (58, Instr.bipush 6, 2), (60, Instr.invokevirtual 282, 3), (63, Instr.aload_n 0, 1), (64, Instr.iconst 0, 1), (65, Instr.putfield 327, 3), (68, Instr.aload_n 0, 1), (69, Instr.iconst (-1), 1), (70, Instr.putfield 330, 3), (73, Instr.aload_n 0, 1), (74, Instr.sipush 2400, 3), (77, Instr.putfield 463, 3), (80, Instr.aload_n 0, 1), (81, Instr.getfield 463, 3), (84, Instr.aload_n 0, 1), (85, Instr.getfield 28, 3), (88, Instr.bipush 102, 2), (90, Instr.iaload, 1), (91, Instr.iadd, 1), (92, Instr.istore_n 2, 1), (93, Instr.iconst 0, 1), (94, Instr.istore_n 3, 1), (95, Instr.aload_n 0, 1), (96, Instr.getfield 463, 3), (99, Instr.iload_n 2, 1), (100, Instr.if_icmp .ge 73, 3), (103, Instr.aload_n 0, 1), (104, Instr.iload_n 2, 1), (105, Instr.invokevirtual 466, 3), (108, Instr.ifCond .eq 6, 3), (111, Instr.goto 56, 3), (114, Instr.aload_n 0, 1), (115, Instr.iconst 1, 1), (116, Instr.invokevirtual 469, 3), (119, Instr.iconst 0, 1), (120, Instr.istore 4, 2), (122, Instr.iload 4, 2), (124, Instr.sipush 592, 3), (127, Instr.if_icmp .ge 23, 3), (130, Instr.aload_n 0, 1), (131, Instr.getfield 66, 3), (134, Instr.iload 4, 2), (136, Instr.aload_n 0, 1), (137, Instr.getfield 69, 3), (140, Instr.iload 4, 2), (142, Instr.iaload, 1), (143, Instr.iastore, 1), (144, Instr.iinc 4 1, 3), (147, Instr.goto (-25), 3), (150, Instr.aload_n 0, 1), (151, Instr.iload_n 1, 1), (152, Instr.putfield 11, 3), (155, Instr.aload_n 0, 1), (156, Instr.iload_n 3, 1), (157, Instr.putfield 106, 3), (160, Instr.aload_n 0, 1), (161, Instr.bipush (-3), 2), (163, Instr.invokevirtual 118, 3), (166, Instr.ireturn, 1), (167, Instr.iinc 3 1, 3), (170, Instr.goto (-75), 3), (173, Instr.aload_n 0, 1), (174, Instr.aload_n 0, 1), (175, Instr.getfield 327, 3), (178, Instr.invokevirtual 14, 3), (181, Instr.ireturn, 1)]
set_option maxRecDepth 20000 in
theorem tkX11_orders : (tbX11_orders.all fun q => decide (decode cX11_orders q.1 = .ok q.2)) = true := by decide +kernel
def mX11_orders : Nat × MethodName × ByteArray × Nat × Option FieldType × List (Nat × Instr × Nat) × Option (Nat × (Nat → Int32)) := (11, yX11_orders, cX11_orders, 5, (some .int), tbX11_orders, none)
end TABS
end
section
section TABS
def tbX11_goesAlong : List (Nat × Instr × Nat) := [(0, Instr.aload_n 0, 1), (1, Instr.iconst 1, 1), (2, Instr.putfield 321, 3), (5, Instr.aload_n 0, 1), (6, Instr.iload_n 1, 1), (7, Instr.putfield 288, 3), (10, Instr.aload_n 0, 1), (11, Instr.aload_n 0, 1), (12, Instr.getfield 463, 3), (15, Instr.putfield 291, 3), (18, Instr.aload_n 0, 1), (19, Instr.aload_n 0, 1), (20, Instr.aload_n 0, 1), (21, Instr.getfield 291, 3), (24, Instr.invokevirtual 294, 3), (27, Instr.putfield 472, 3), (30, Instr.aload_n 0, 1), (31, Instr.dup, 1), (32, Instr.getfield 291, 3), (35, Instr.iconst 1, 1), (36, Instr.iadd, 1), (37, Instr.putfield 291, 3), (40, Instr.aload_n 0, 1), (41, Instr.iconst 1, 1), (42, Instr.putfield 475, 3), (45, Instr.aload_n 0, 1), (46, Instr.getfield 472, 3), (49, Instr.bipush 25, 2), (51, Instr.if_icmp .ne 7, 3), (54, Instr.iconst 0, 1), (55, Instr.goto 17, 3), (58, Instr.aload_n 0, 1), (59, Instr.getfield 472, 3), (62, Instr.bipush 22, 2), (64, Instr.if_icmp .ne 7, 3), (67, Instr.iconst 1, 1), (68, Instr.goto 4, 3), (71, Instr.iconst 2, 1), (72, Instr.istore_n 3, 1), (73, Instr.iconst 0, 1), (74, Instr.istore 4, 2), (76, Instr.iload 4, 2), (78, Instr.iload_n 3, 1), (79, Instr.if_icmp .ge 64, 3), (82, Instr.iload 4, 2), (84, Instr.ifCond .le 13, 3), (87, Instr.aload_n 0, 1), (88, Instr.dup, 1), (89, Instr.getfield 291, 3), (92, Instr.iconst 1, 1), (93, Instr.iadd, 1), (94, Instr.putfield 291, 3), (97, Instr.aload_n 0, 1), (98, Instr.iconst 0, 1), (99, Instr.putfield 301, 3), (102, Instr.aload_n 0, 1), (103, Instr.getfield 109, 3), (106, Instr.iload 4, 2), (108, Instr.aload_n 0, 1), (109, Instr.iload_n 2, 1), (110, Instr.invokevirtual 318, 3), (113, Instr.lastore, 1), (114, Instr.aload_n 0, 1), (115, Instr.aload_n 0, 1), (116, Instr.getfield 475, 3), (119, Instr.ifCond .eq 14, 3), (122, Instr.aload_n 0, 1), (123, Instr.getfield 301, 3), (126, Instr.ifCond .ne 7, 3), (129, Instr.iconst 1, 1), (130, Instr.goto 4, 3), (133, Instr.iconst 0, 1), (134, Instr.putfield 475, 3), (137, Instr.iinc 4 1, 3), (140, Instr.goto (-64), 3), (143, Instr.aload_n 0, 1), (144, Instr.iconst 1, 1), (145, Instr.putfield 478, 3), (148, Instr.aload_n 0, 1), (149, Instr.bipush 26, 2), (151, Instr.invokevirtual 315, 3), (154, Instr.ifCond .eq 30, 3), (157, Instr.aload_n 0, 1), (158, Instr.aload_n 0, 1), (159, Instr.getfield 28, 3), (162, Instr.sipush 2903, 3), (165, Instr.aload_n 0, 1), (166, Instr.getfield 291, 3), (169, Instr.iadd, 1), (170, Instr.iaload, 1), (171, Instr.putfield 478, 3), (174, Instr.aload_n 0, 1), (175, Instr.dup, 1), (176, Instr.getfield 291, 3), (179, Instr.iconst 1, 1), (180, Instr.iadd, 1), (181, Instr.putfield 291, 3), (184, Instr.aload_n 0, 1), (185, Instr.iconst 0, 1), (186, Instr.putfield 301, 3), (189, Instr.aload_n 0, 1), (190, Instr.aload_n 0, 1), (191, Instr.iconst 4, 1), (192, Instr.invokevirtual 315, 3), (195, Instr.ifCond .eq 11, 3), (198, Instr.aload_n 0, 1), (199, Instr.iload_n 2, 1), (200, Instr.invokevirtual 345, 3), (203, Instr.ifCond .eq 7, 3), (206, Instr.iconst 1, 1), (207, Instr.goto 4, 3), (210, Instr.iconst 0, 1), (211, Instr.putfield 481, 3), (214, Instr.aload_n 0, 1), (215, Instr.aload_n 0, 1), (216, Instr.getfield 481, 3), (219, Instr.ifCond .eq 14, 3), (222, Instr.aload_n 0, 1), (223, Instr.getfield 301, 3), (226, Instr.ifCond .ne 7, 3), (229, Instr.iconst 1, 1), (230, Instr.goto 4, 3), (233, Instr.iconst 0, 1), (234, Instr.putfield 481, 3), (237, Instr.aload_n 0, 1), (238, Instr.dup, 1), (239, Instr.getfield 291, 3), (242, Instr.iconst 1, 1), (243, Instr.iadd, 1), (244, Instr.putfield 291, 3), (247, Instr.return_, 1)]
set_option maxRecDepth 20000 in
theorem tkX11_goesAlong : (tbX11_goesAlong.all fun q => decide (decode cX11_goesAlong q.1 = .ok q.2)) = true := by decide +kernel
def mX11_goesAlong : Nat × MethodName × ByteArray × Nat × Option FieldType × List (Nat × Instr × Nat) × Option (Nat × (Nat → Int32)) := (11, yX11_goesAlong, cX11_goesAlong, 5, none, tbX11_goesAlong, none)
def tbX11_small : List (Nat × Instr × Nat) := [(0, Instr.lload_n 0, 1), (1, Instr.lconst 0, 1), (2, Instr.lcmp, 1), (3, Instr.ifCond .lt 11, 3), (6, Instr.lload_n 0, 1), (7, Instr.ldc2_w 484, 3), (10, Instr.lcmp, 1), (11, Instr.ifCond .le 7, 3), (14, Instr.iconst (-1), 1), (15, Instr.goto 5, 3), (18, Instr.lload_n 0, 1), (19, Instr.l2i, 1), (20, Instr.ireturn, 1)]
set_option maxRecDepth 20000 in
theorem tkX11_small : (tbX11_small.all fun q => decide (decode cX11_small q.1 = .ok q.2)) = true := by decide +kernel
def mX11_small : Nat × MethodName × ByteArray × Nat × Option FieldType × List (Nat × Instr × Nat) × Option (Nat × (Nat → Int32)) := (11, yX11_small, cX11_small, 2, (some .int), tbX11_small, none)
def tbX11_obeys : List (Nat × Instr × Nat) := [(0, Instr.aload_n 0, 1), (1, Instr.getfield 109, 3), (4, Instr.iconst 0, 1), (5, Instr.laload, 1), (6, Instr.invokestatic 486, 3), (9, Instr.istore_n 1, 1), (10, Instr.aload_n 0, 1), (11, Instr.getfield 472, 3), (14, Instr.tableswitch 56 22 25 #[30, 36, 56, 51], 30), (44, Instr.aload_n 0, 1), (45, Instr.iload_n 1, 1), (46, Instr.invokevirtual 374, 3), (49, Instr.ireturn, 1), (50, Instr.aload_n 0, 1), (51, Instr.iload_n 1, 1), (52, Instr.aload_n 0, 1), (53, Instr.getfield 109, 3), (56, Instr.iconst 1, 1), (57, Instr.laload, 1), (58, Instr.invokestatic 486, 3), (61, Instr.invokevirtual 377, 3), (64, Instr.ireturn, 1), (65, Instr.aload_n 0, 1), (66, Instr.invokevirtual 380, 3), (69, Instr.ireturn, 1), (70, Instr.aload_n 0, 1), (71, Instr.iload_n 1, 1), (72, Instr.aload_n 0, 1), (73, Instr.getfield 109, 3), (76, Instr.iconst 1, 1), (77, Instr.laload, 1), (78, Instr.invokestatic 486, 3), (81, Instr.invokevirtual 368, 3), (84, Instr.istore_n 2, 1), (85, Instr.aload_n 0, 1), (86, Instr.iload_n 2, 1), (87, Instr.ifCond .ge 10, 3), (90, Instr.aload_n 0, 1), (91, Instr.getfield 330, 3), (94, Instr.goto 4, 3), (97, Instr.iload_n 2, 1), (98, Instr.putfield 330, 3), (101, Instr.iload_n 2, 1), (102, Instr.ireturn, 1)]
set_option maxRecDepth 20000 in
theorem tkX11_obeys : (tbX11_obeys.all fun q => decide (decode cX11_obeys q.1 = .ok q.2)) = true := by decide +kernel
def mX11_obeys : Nat × MethodName × ByteArray × Nat × Option FieldType × List (Nat × Instr × Nat) × Option (Nat × (Nat → Int32)) := (11, yX11_obeys, cX11_obeys, 3, (some .int), tbX11_obeys, none)
def tbX11_runs : List (Nat × Instr × Nat) := [(0, Instr.aload_n 0, 1), (1, Instr.iload_n 1, 1), (2, Instr.iconst 0, 1), (3, Instr.invokevirtual 490, 3), (6, Instr.aload_n 0, 1), (7, Instr.getfield 478, 3), (10, Instr.istore_n 2, 1), (11, Instr.aload_n 0, 1), (12, Instr.getfield 291, 3), (15, Instr.istore_n 3, 1), (16, Instr.iconst 0, 1), (17, Instr.istore 4, 2), (19, Instr.iload 4, 2), (21, Instr.iload_n 2, 1), (22, Instr.if_icmp .ge 51, 3), (25, Instr.aload_n 0, 1), (26, Instr.iload_n 1, 1), (27, Instr.iconst 1, 1), (28, Instr.invokevirtual 490, 3), (31, Instr.aload_n 0, 1), (32, Instr.getfield 481, 3), (35, Instr.ifCond .ne 6, 3), (38, Instr.goto 29, 3), (41, Instr.aload_n 0, 1), (42, Instr.getfield 475, 3), (45, Instr.ifCond .eq 10, 3), (48, Instr.aload_n 0, 1), (49, Instr.invokevirtual 494, 3), (52, Instr.ifCond .ge 5, 3), (55, Instr.iconst 0, 1), (56, Instr.ireturn, 1), (57, Instr.aload_n 0, 1), (58, Instr.dup, 1), (59, Instr.getfield 327, 3), (62, Instr.iconst 1, 1), (63, Instr.iadd, 1), (64, Instr.putfield 327, 3), (67, Instr.iinc 4 1, 3), (70, Instr.goto (-51), 3), (73, Instr.aload_n 0, 1), (74, Instr.iload_n 3, 1), (75, Instr.putfield 463, 3), (78, Instr.iconst 1, 1), (79, Instr.ireturn, 1)]
set_option maxRecDepth 20000 in
theorem tkX11_runs : (tbX11_runs.all fun q => decide (decode cX11_runs q.1 = .ok q.2)) = true := by decide +kernel
def mX11_runs : Nat × MethodName × ByteArray × Nat × Option FieldType × List (Nat × Instr × Nat) × Option (Nat × (Nat → Int32)) := (11, yX11_runs, cX11_runs, 5, (some .boolean), tbX11_runs, none)
def tbX11_draws : List (Nat × Instr × Nat) := [(0, Instr.aload_n 0, 1), (1, Instr.ldc2_w 497, 3), (4, Instr.aload_n 0, 1), (5, Instr.getfield 499, 3), (8, Instr.i2l, 1), (9, Instr.lmul, 1), (10, Instr.ldc2_w 502, 3), (13, Instr.ladd, 1), (14, Instr.ldc2_w 504, 3), (17, Instr.lrem, 1), (18, Instr.l2i, 1), (19, Instr.putfield 499, 3), (22, Instr.aload_n 0, 1), (23, Instr.getfield 499, 3), (26, Instr.iload_n 1, 1), (27, Instr.irem, 1), (28, Instr.ireturn, 1)]
set_option maxRecDepth 20000 in
theorem tkX11_draws : (tbX11_draws.all fun q => decide (decode cX11_draws q.1 = .ok q.2)) = true := by decide +kernel
def mX11_draws : Nat × MethodName × ByteArray × Nat × Option FieldType × List (Nat × Instr × Nat) × Option (Nat × (Nat → Int32)) := (11, yX11_draws, cX11_draws, 2, (some .int), tbX11_draws, none)
def tbX11_days : List (Nat × Instr × Nat) := [(0, Instr.iload_n 1, 1), (1, Instr.iconst 0, 1), (2, Instr.ldc 198, 2), (4, Instr.invokestatic 18, 3), (7, Instr.ifCond .eq 13, 3), (10, Instr.iload_n 2, 1), (11, Instr.iconst 1, 1), (12, Instr.bipush 60, 2), (14, Instr.invokestatic 18, 3), (17, Instr.ifCond .ne 9, 3), (20, Instr.aload_n 0, 1), (21, Instr.iconst (-1), 1), (22, Instr.invokevirtual 118, 3), (25, Instr.ireturn, 1), (26, Instr.aload_n 0, 1), (27, Instr.getfield 28, 3), (30, Instr.bipush 92, 2), (32, Instr.iaload, 1), (33, Instr.ifCond .eq 10, 3), (36, Instr.aload_n 0, 1), (37, Instr.invokevirtual 124, 3), (40, Instr.ifCond .ne 10, 3), (43, Instr.aload_n 0, 1), (44, Instr.bipush (-3), 2), (46, Instr.invokevirtual 118, 3), (49, Instr.ireturn, 1), (50, Instr.aload_n 0, 1), (51, Instr.iload_n 1, 1), (52, Instr.putfield 499, 3), (55, Instr.aload_n 0, 1), (56, Instr.aload_n 0, 1), (57, Instr.getfield 28, 3), (60, Instr.bipush 92, 2), (62, Instr.iaload, 1), (63, Instr.putfield 115, 3), (66, Instr.aload_n 0, 1), (67, Instr.iconst 0, 1), (68, Instr.invokevirtual 460, 3), (71, Instr.iconst 0, 1), (72, Instr.istore_n 3, 1), (73, Instr.iconst 0, 1), (74, Instr.istore 4, 2), (76, Instr.iload 4, 2), (78, Instr.iload_n 2, 1), (79, Instr.if_icmp .ge 79, 3), (82, Instr.aload_n 0, 1), (83, Instr.getfield 28, 3), (86, Instr.bipush 35, 2), (88, Instr.iaload, 1), (89, Instr.sipush 999, 3), (92, Instr.if_icmp .ge 66, 3), (95, Instr.aload_n 0, 1), (96, Instr.aload_n 0, 1), (97, Instr.getfield 28, 3), (100, Instr.bipush 92, 2), (102, Instr.iaload, 1), (103, Instr.invokevirtual 506, 3), (106, Instr.istore 5, 2), (108, Instr.aload_n 0, 1), (109, Instr.aload_n 0, 1), (110, Instr.invokevirtual 124, 3), (113, Instr.invokevirtual 506, 3), (116, Instr.istore 6, 2), (118, Instr.aload_n 0, 1), (119, Instr.iload 5, 2), (121, Instr.iload 6, 2), (123, Instr.invokevirtual 155, 3), (126, Instr.ifCond .eq 15, 3), (129, Instr.aload_n 0, 1), (130, Instr.iload 5, 2), (132, Instr.iload 6, 2), (134, Instr.invokevirtual 365, 3), (137, Instr.pop, 1), (138, Instr.iinc 3 1, 3), (141, Instr.aload_n 0, 1), (142, Instr.getfield 28, 3), (145, Instr.bipush 35, 2), (147, Instr.dup2, 1), (148, Instr.iaload, 1), (149, Instr.iconst 1, 1), (150, Instr.iadd, 1), (151, Instr.iastore, 1), (152, Instr.iinc 4 1, 3), (155, Instr.goto (-79), 3), (158, Instr.iconst 0, 1), (159, Instr.istore 4, 2), (161, Instr.iload 4, 2), (163, Instr.bipush 36, 2), (165, Instr.if_icmp .ge 23, 3), (168, Instr.aload_n 0, 1), (169, Instr.getfield 112, 3), (172, Instr.iload 4, 2), (174, Instr.aload_n 0, 1), (175, Instr.getfield 28, 3), (178, Instr.iload 4, 2), (180, Instr.iaload, 1), (181, Instr.iastore, 1), (182, Instr.iinc 4 1, 3), (185, Instr.goto (-24), 3), (188, Instr.aload_n 0, 1), (189, Instr.iconst 0, 1), (190, Instr.invokevirtual 469, 3), (193, Instr.aload_n 0, 1), (194, Instr.iload_n 3, 1), (195, Instr.invokevirtual 14, 3), (198, Instr.ireturn, 1)]
set_option maxRecDepth 20000 in
theorem tkX11_days : (tbX11_days.all fun q => decide (decode cX11_days q.1 = .ok q.2)) = true := by decide +kernel
def mX11_days : Nat × MethodName × ByteArray × Nat × Option FieldType × List (Nat × Instr × Nat) × Option (Nat × (Nat → Int32)) := (11, yX11_days, cX11_days, 7, (some .int), tbX11_days, none)
def tbX11_drawn : List (Nat × Instr × Nat) := [(0, Instr.iload_n 1, 1), (1, Instr.iconst 0, 1), (2, Instr.aload_n 0, 1), (3, Instr.getfield 115, 3), (6, Instr.iconst 1, 1), (7, Instr.isub, 1), (8, Instr.invokestatic 18, 3), (11, Instr.ifCond .eq 12, 3), (14, Instr.iload_n 2, 1), (15, Instr.iconst 0, 1), (16, Instr.iconst 2, 1), (17, Instr.invokestatic 18, 3), (20, Instr.ifCond .ne 5, 3), (23, Instr.iconst (-1), 1), (24, Instr.ireturn, 1), (25, Instr.aload_n 0, 1), (26, Instr.getfield 112, 3), (29, Instr.iload_n 2, 1), (30, Instr.ifCond .ne 7, 3), (33, Instr.iconst 0, 1), (34, Instr.goto 14, 3), (37, Instr.iload_n 2, 1), (38, Instr.iconst 1, 1), (39, Instr.if_icmp .ne 7, 3), (42, Instr.iconst 5, 1), (43, Instr.goto 5, 3), (46, Instr.bipush 10, 2), (48, Instr.iload_n 1, 1), (49, Instr.iadd, 1), (50, Instr.iaload, 1), (51, Instr.ireturn, 1)]
set_option maxRecDepth 20000 in
theorem tkX11_drawn : (tbX11_drawn.all fun q => decide (decode cX11_drawn q.1 = .ok q.2)) = true := by decide +kernel
def mX11_drawn : Nat × MethodName × ByteArray × Nat × Option FieldType × List (Nat × Instr × Nat) × Option (Nat × (Nat → Int32)) := (11, yX11_drawn, cX11_drawn, 3, (some .int), tbX11_drawn, none)
def tbX11_allMany : List (Nat × Instr × Nat) := [(0, Instr.iconst 0, 1), (1, Instr.istore_n 1, 1), (2, Instr.iconst 0, 1), (3, Instr.istore_n 2, 1), (4, Instr.iload_n 2, 1), (5, Instr.aload_n 0, 1), (6, Instr.getfield 28, 3), (9, Instr.bipush 92, 2), (11, Instr.iaload, 1), (12, Instr.if_icmp .ge 20, 3), (15, Instr.iload_n 1, 1), (16, Instr.aload_n 0, 1), (17, Instr.getfield 28, 3), (20, Instr.iconst 5, 1), (21, Instr.iload_n 2, 1), (22, Instr.iadd, 1), (23, Instr.iaload, 1), (24, Instr.iadd, 1), (25, Instr.istore_n 1, 1), (26, Instr.iinc 2 1, 3), (29, Instr.goto (-25), 3), (32, Instr.iload_n 1, 1), (33, Instr.ireturn, 1)]
set_option maxRecDepth 20000 in
theorem tkX11_allMany : (tbX11_allMany.all fun q => decide (decode cX11_allMany q.1 = .ok q.2)) = true := by decide +kernel
def mX11_allMany : Nat × MethodName × ByteArray × Nat × Option FieldType × List (Nat × Instr × Nat) × Option (Nat × (Nat → Int32)) := (11, yX11_allMany, cX11_allMany, 3, (some .int), tbX11_allMany, none)
def tbX11_count : List (Nat × Instr × Nat) := [(0, Instr.iload_n 1, 1), (1, Instr.tableswitch 169 0 15 #[79, 84, 92, 97, 105, 113, 118, 123, 123, 123, 133, 140, 148, 156, 156, 156], 79), (80, Instr.aload_n 0, 1), (81, Instr.invokevirtual 124, 3), (84, Instr.ireturn, 1), (85, Instr.aload_n 0, 1), (86, Instr.getfield 28, 3), (89, Instr.bipush 92, 2), (91, Instr.iaload, 1), (92, Instr.ireturn, 1), (93, Instr.aload_n 0, 1), (94, Instr.invokevirtual 509, 3), (97, Instr.ireturn, 1), (98, Instr.aload_n 0, 1), (99, Instr.getfield 28, 3), (102, Instr.bipush 93, 2), (104, Instr.iaload, 1), (105, Instr.ireturn, 1), (106, Instr.aload_n 0, 1), (107, Instr.getfield 28, 3), (110, Instr.bipush 94, 2), (112, Instr.iaload, 1), (113, Instr.ireturn, 1), (114, Instr.aload_n 0, 1), (115, Instr.getfield 11, 3), (118, Instr.ireturn, 1), (119, Instr.aload_n 0, 1), (120, Instr.getfield 179, 3), (123, Instr.ireturn, 1), (124, Instr.aload_n 0, 1), (125, Instr.getfield 7, 3), (128, Instr.iload_n 1, 1), (129, Instr.bipush 6, 2), (131, Instr.isub, 1), (132, Instr.iaload, 1), (133, Instr.ireturn, 1), (134, Instr.aload_n 0, 1), (135, Instr.getfield 7, 3), (138, Instr.iconst 5, 1), (139, Instr.iaload, 1), (140, Instr.ireturn, 1), (141, Instr.aload_n 0, 1), (142, Instr.getfield 7, 3), (145, Instr.bipush 6, 2), (147, Instr.iaload, 1), (148, Instr.ireturn, 1), (149, Instr.aload_n 0, 1), (150, Instr.getfield 28, 3), (153, Instr.bipush 95, 2), (155, Instr.iaload, 1), (156, Instr.ireturn, 1), (157, Instr.aload_n 0, 1), (158, Instr.getfield 28, 3), (161, Instr.iload_n 1, 1), (162, Instr.bipush 13, 2), (164, Instr.isub, 1), (165, Instr.invokestatic 176, 3), (168, Instr.iaload, 1), (169, Instr.ireturn, 1), (170, Instr.iconst (-1), 1), (171, Instr.ireturn, 1)]
set_option maxRecDepth 20000 in
theorem tkX11_count : (tbX11_count.all fun q => decide (decode cX11_count q.1 = .ok q.2)) = true := by decide +kernel
def mX11_count : Nat × MethodName × ByteArray × Nat × Option FieldType × List (Nat × Instr × Nat) × Option (Nat × (Nat → Int32)) := (11, yX11_count, cX11_count, 2, (some .int), tbX11_count, none)
def tbX11_status : List (Nat × Instr × Nat) := [(0, Instr.aload_n 0, 1), (1, Instr.getfield 3, 3), (4, Instr.ireturn, 1)]
set_option maxRecDepth 20000 in
theorem tkX11_status : (tbX11_status.all fun q => decide (decode cX11_status q.1 = .ok q.2)) = true := by decide +kernel
def mX11_status : Nat × MethodName × ByteArray × Nat × Option FieldType × List (Nat × Instr × Nat) × Option (Nat × (Nat → Int32)) := (11, yX11_status, cX11_status, 1, (some .int), tbX11_status, none)
def tbJ6_bitCount_0f7a4 : List (Nat × Instr × Nat) := [(0, Instr.iload_n 0, 1), (1, Instr.iload_n 0, 1), (2, Instr.iconst 1, 1), (3, Instr.iushr, 1), (4, Instr.ldc_w 265, 3), (7, Instr.iand, 1), (8, Instr.isub, 1), (9, Instr.istore_n 0, 1), (10, Instr.iload_n 0, 1), (11, Instr.ldc_w 266, 3), (14, Instr.iand, 1), (15, Instr.iload_n 0, 1), (16, Instr.iconst 2, 1), (17, Instr.iushr, 1), (18, Instr.ldc_w 266, 3), (21, Instr.iand, 1), (22, Instr.iadd, 1), (23, Instr.istore_n 0, 1), (24, Instr.iload_n 0, 1), (25, Instr.iload_n 0, 1), (26, Instr.iconst 4, 1), (27, Instr.iushr, 1), (28, Instr.iadd, 1), (29, Instr.ldc_w 267, 3), (32, Instr.iand, 1), (33, Instr.istore_n 0, 1), (34, Instr.iload_n 0, 1), (35, Instr.iload_n 0, 1), (36, Instr.bipush 8, 2), (38, Instr.iushr, 1), (39, Instr.iadd, 1), (40, Instr.istore_n 0, 1), (41, Instr.iload_n 0, 1), (42, Instr.iload_n 0, 1), (43, Instr.bipush 16, 2), (45, Instr.iushr, 1), (46, Instr.iadd, 1), (47, Instr.istore_n 0, 1), (48, Instr.iload_n 0, 1), (49, Instr.bipush 63, 2), (51, Instr.iand, 1), (52, Instr.ireturn, 1)]
set_option maxRecDepth 20000 in
theorem tkJ6_bitCount_0f7a4 : (tbJ6_bitCount_0f7a4.all fun q => decide (decode cJ6_bitCount_0f7a4 q.1 = .ok q.2)) = true := by decide +kernel
def mJ6_bitCount_0f7a4 : Nat × MethodName × ByteArray × Nat × Option FieldType × List (Nat × Instr × Nat) × Option (Nat × (Nat → Int32)) := (13, yJ6_bitCount_0f7a4, cJ6_bitCount_0f7a4, 1, (some .int), tbJ6_bitCount_0f7a4, none)
def tbJ7_fill_d0a16 : List (Nat × Instr × Nat) := [(0, Instr.iconst 0, 1), (1, Instr.istore_n 3, 1), (2, Instr.aload_n 0, 1), (3, Instr.arraylength, 1), (4, Instr.istore 4, 2), (6, Instr.iload_n 3, 1), (7, Instr.iload 4, 2), (9, Instr.if_icmp .ge 13, 3), (12, Instr.aload_n 0, 1), (13, Instr.iload_n 3, 1), (14, Instr.lload_n 1, 1), (15, Instr.lastore, 1), (16, Instr.iinc 3 1, 3), (19, Instr.goto (-13), 3), (22, Instr.return_, 1)]
set_option maxRecDepth 20000 in
theorem tkJ7_fill_d0a16 : (tbJ7_fill_d0a16.all fun q => decide (decode cJ7_fill_d0a16 q.1 = .ok q.2)) = true := by decide +kernel
def mJ7_fill_d0a16 : Nat × MethodName × ByteArray × Nat × Option FieldType × List (Nat × Instr × Nat) × Option (Nat × (Nat → Int32)) := (14, yJ7_fill_d0a16, cJ7_fill_d0a16, 5, none, tbJ7_fill_d0a16, none)
def tbJ7_fill_53178 : List (Nat × Instr × Nat) := [(0, Instr.iconst 0, 1), (1, Instr.istore_n 2, 1), (2, Instr.aload_n 0, 1), (3, Instr.arraylength, 1), (4, Instr.istore_n 3, 1), (5, Instr.iload_n 2, 1), (6, Instr.iload_n 3, 1), (7, Instr.if_icmp .ge 13, 3), (10, Instr.aload_n 0, 1), (11, Instr.iload_n 2, 1), (12, Instr.iload_n 1, 1), (13, Instr.iastore, 1), (14, Instr.iinc 2 1, 3), (17, Instr.goto (-12), 3), (20, Instr.return_, 1)]
set_option maxRecDepth 20000 in
theorem tkJ7_fill_53178 : (tbJ7_fill_53178.all fun q => decide (decode cJ7_fill_53178 q.1 = .ok q.2)) = true := by decide +kernel
def mJ7_fill_53178 : Nat × MethodName × ByteArray × Nat × Option FieldType × List (Nat × Instr × Nat) × Option (Nat × (Nat → Int32)) := (14, yJ7_fill_53178, cJ7_fill_53178, 4, none, tbJ7_fill_53178, none)
def tbJ0_length_8abf5 : List (Nat × Instr × Nat) := [(0, Instr.aload_n 0, 1), (1, Instr.getfield 9, 3), (4, Instr.arraylength, 1), (5, Instr.aload_n 0, 1), (6, Instr.invokevirtual 335, 3), (9, Instr.ishr, 1), (10, Instr.ireturn, 1)]
set_option maxRecDepth 20000 in
theorem tkJ0_length_8abf5 : (tbJ0_length_8abf5.all fun q => decide (decode cJ0_length_8abf5 q.1 = .ok q.2)) = true := by decide +kernel
def mJ0_length_8abf5 : Nat × MethodName × ByteArray × Nat × Option FieldType × List (Nat × Instr × Nat) × Option (Nat × (Nat → Int32)) := (15, yJ0_length_8abf5, cJ0_length_8abf5, 1, (some .int), tbJ0_length_8abf5, none)
def tbJ0_charAt_5068e : List (Nat × Instr × Nat) := [(0, Instr.aload_n 0, 1), (1, Instr.invokevirtual 492, 3), (4, Instr.ifCond .eq 12, 3), (7, Instr.aload_n 0, 1), (8, Instr.getfield 9, 3), (11, Instr.iload_n 1, 1), (12, Instr.invokestatic 495, 3), (15, Instr.ireturn, 1), (16, Instr.aload_n 0, 1), (17, Instr.getfield 9, 3), (20, Instr.iload_n 1, 1), (21, Instr.invokestatic 498, 3), (24, Instr.ireturn, 1)]
set_option maxRecDepth 20000 in
theorem tkJ0_charAt_5068e : (tbJ0_charAt_5068e.all fun q => decide (decode cJ0_charAt_5068e q.1 = .ok q.2)) = true := by decide +kernel
def mJ0_charAt_5068e : Nat × MethodName × ByteArray × Nat × Option FieldType × List (Nat × Instr × Nat) × Option (Nat × (Nat → Int32)) := (15, yJ0_charAt_5068e, cJ0_charAt_5068e, 2, (some .char), tbJ0_charAt_5068e, none)
def tbJ0_coder_7d493 : List (Nat × Instr × Nat) := [(0, Instr.getstatic 38, 3), (3, Instr.ifCond .eq 10, 3), (6, Instr.aload_n 0, 1), (7, Instr.getfield 15, 3), (10, Instr.goto 4, 3), (13, Instr.iconst 1, 1), (14, Instr.ireturn, 1)]
set_option maxRecDepth 20000 in
theorem tkJ0_coder_7d493 : (tbJ0_coder_7d493.all fun q => decide (decode cJ0_coder_7d493 q.1 = .ok q.2)) = true := by decide +kernel
def mJ0_coder_7d493 : Nat × MethodName × ByteArray × Nat × Option FieldType × List (Nat × Instr × Nat) × Option (Nat × (Nat → Int32)) := (15, yJ0_coder_7d493, cJ0_coder_7d493, 1, (some .byte), tbJ0_coder_7d493, none)
def tbJ0_isLatin1_aae02 : List (Nat × Instr × Nat) := [(0, Instr.getstatic 38, 3), (3, Instr.ifCond .eq 14, 3), (6, Instr.aload_n 0, 1), (7, Instr.getfield 15, 3), (10, Instr.ifCond .ne 7, 3), (13, Instr.iconst 1, 1), (14, Instr.goto 4, 3), (17, Instr.iconst 0, 1), (18, Instr.ireturn, 1)]
set_option maxRecDepth 20000 in
theorem tkJ0_isLatin1_aae02 : (tbJ0_isLatin1_aae02.all fun q => decide (decode cJ0_isLatin1_aae02 q.1 = .ok q.2)) = true := by decide +kernel
def mJ0_isLatin1_aae02 : Nat × MethodName × ByteArray × Nat × Option FieldType × List (Nat × Instr × Nat) × Option (Nat × (Nat → Int32)) := (15, yJ0_isLatin1_aae02, cJ0_isLatin1_aae02, 1, (some .boolean), tbJ0_isLatin1_aae02, none)
def tbJ0_checkIndex_df160 : List (Nat × Instr × Nat) := [(0, Instr.iload_n 0, 1), (1, Instr.iload_n 1, 1), (2, Instr.getstatic 1053, 3), (5, Instr.invokestatic 1059, 3), (8, Instr.pop, 1), (9, Instr.return_, 1)]
set_option maxRecDepth 20000 in
theorem tkJ0_checkIndex_df160 : (tbJ0_checkIndex_df160.all fun q => decide (decode cJ0_checkIndex_df160 q.1 = .ok q.2)) = true := by decide +kernel
def mJ0_checkIndex_df160 : Nat × MethodName × ByteArray × Nat × Option FieldType × List (Nat × Instr × Nat) × Option (Nat × (Nat → Int32)) := (15, yJ0_checkIndex_df160, cJ0_checkIndex_df160, 2, none, tbJ0_checkIndex_df160, none)
def tbJ1_charAt_3b067 : List (Nat × Instr × Nat) := [(0, Instr.iload_n 1, 1), (1, Instr.aload_n 0, 1), (2, Instr.arraylength, 1), (3, Instr.invokestatic 9, 3), (6, Instr.aload_n 0, 1), (7, Instr.iload_n 1, 1), (8, Instr.baload, 1), (9, Instr.sipush 255, 3), (12, Instr.iand, 1), (13, Instr.i2c, 1), (14, Instr.ireturn, 1)]
set_option maxRecDepth 20000 in
theorem tkJ1_charAt_3b067 : (tbJ1_charAt_3b067.all fun q => decide (decode cJ1_charAt_3b067 q.1 = .ok q.2)) = true := by decide +kernel
def mJ1_charAt_3b067 : Nat × MethodName × ByteArray × Nat × Option FieldType × List (Nat × Instr × Nat) × Option (Nat × (Nat → Int32)) := (16, yJ1_charAt_3b067, cJ1_charAt_3b067, 2, (some .char), tbJ1_charAt_3b067, none)
def tbJ3_checkIndex_8e157 : List (Nat × Instr × Nat) := [(0, Instr.iload_n 0, 1), (1, Instr.ifCond .lt 8, 3), (4, Instr.iload_n 0, 1), (5, Instr.iload_n 1, 1), (6, Instr.if_icmp .lt 10, 3), (9, Instr.aload_n 2, 1), (10, Instr.iload_n 0, 1), (11, Instr.iload_n 1, 1), (12, Instr.invokestatic 95, 3), (15, Instr.athrow, 1), (16, Instr.iload_n 0, 1), (17, Instr.ireturn, 1)]
set_option maxRecDepth 20000 in
theorem tkJ3_checkIndex_8e157 : (tbJ3_checkIndex_8e157.all fun q => decide (decode cJ3_checkIndex_8e157 q.1 = .ok q.2)) = true := by decide +kernel
def mJ3_checkIndex_8e157 : Nat × MethodName × ByteArray × Nat × Option FieldType × List (Nat × Instr × Nat) × Option (Nat × (Nat → Int32)) := (17, yJ3_checkIndex_8e157, cJ3_checkIndex_8e157, 3, (some .int), tbJ3_checkIndex_8e157, none)
def tbL_law : List (Nat × Instr × Nat) := [(0, Instr.new 7, 3), (3, Instr.dup, 1), (4, Instr.invokespecial 9, 3), (7, Instr.astore_n 1, 1), (8, Instr.new 10, 3), (11, Instr.dup, 1), (12, Instr.invokespecial 12, 3), (15, Instr.astore_n 2, 1), (16, Instr.iconst 0, 1), (17, Instr.istore_n 3, 1), (18, Instr.iload_n 3, 1), (19, Instr.aload_n 0, 1), (20, Instr.arraylength, 1), (21, Instr.bipush 6, 2), (23, Instr.isub, 1), (24, Instr.if_icmp .gt 1517, 3), (27, Instr.aload_n 0, 1), (28, Instr.iload_n 3, 1), (29, Instr.iaload, 1), (30, Instr.bipush 63, 2), (32, Instr.iand, 1), (33, Instr.tableswitch 1502 0 41 #[183, 236, 269, 312, 345, 398, 431, 494, 517, 530, 543, 556, 569, 582, 595, 618, 651, 674, 707, 720, 733, 786, 829, 862, 885, 939, 993, 1036, 1079, 1122, 1165, 1208, 1221, 1234, 1267, 1301, 1354, 1387, 1420, 1443, 1466, 1489], 183), (216, Instr.aload_n 1, 1), (217, Instr.aload_n 0, 1), (218, Instr.iload_n 3, 1), (219, Instr.iconst 1, 1), (220, Instr.iadd, 1), (221, Instr.iaload, 1), (222, Instr.aload_n 0, 1), (223, Instr.iload_n 3, 1), (224, Instr.iconst 2, 1), (225, Instr.iadd, 1), (226, Instr.iaload, 1), (227, Instr.aload_n 0, 1), (228, Instr.iload_n 3, 1), (229, Instr.iconst 3, 1), (230, Instr.iadd, 1), (231, Instr.iaload, 1), (232, Instr.aload_n 0, 1), (233, Instr.iload_n 3, 1), (234, Instr.iconst 4, 1), (235, Instr.iadd, 1), (236, Instr.iaload, 1), (237, Instr.invokevirtual 13, 3), (240, Instr.aload_n 2, 1), (241, Instr.aload_n 0, 1), (242, Instr.iload_n 3, 1), (243, Instr.iconst 1, 1), (244, Instr.iadd, 1), (245, Instr.iaload, 1), (246, Instr.aload_n 0, 1), (247, Instr.iload_n 3, 1), (248, Instr.iconst 2, 1), (249, Instr.iadd, 1), (250, Instr.iaload, 1), (251, Instr.aload_n 0, 1), (252, Instr.iload_n 3, 1), (253, Instr.iconst 3, 1), (254, Instr.iadd, 1), (255, Instr.iaload, 1), (256, Instr.aload_n 0, 1), (257, Instr.iload_n 3, 1), (258, Instr.iconst 4, 1), (259, Instr.iadd, 1), (260, Instr.iaload, 1), (261, Instr.invokevirtual 17, 3), (264, Instr.if_icmp .eq 1271, 3), (267, Instr.iconst 0, 1), (268, Instr.ireturn, 1), (269, Instr.aload_n 1, 1), (270, Instr.aload_n 0, 1), (271, Instr.iload_n 3, 1), (272, Instr.iconst 1, 1), (273, Instr.iadd, 1), (274, Instr.iaload, 1), (275, Instr.aload_n 0, 1), (276, Instr.iload_n 3, 1), (277, Instr.iconst 2, 1), (278, Instr.iadd, 1), (279, Instr.iaload, 1), (280, Instr.invokevirtual 18, 3), (283, Instr.aload_n 2, 1), (284, Instr.aload_n 0, 1), (285, Instr.iload_n 3, 1), (286, Instr.iconst 1, 1), (287, Instr.iadd, 1), (288, Instr.iaload, 1), (289, Instr.aload_n 0, 1), (290, Instr.iload_n 3, 1), (291, Instr.iconst 2, 1), (292, Instr.iadd, 1), (293, Instr.iaload, 1), (294, Instr.invokevirtual 22, 3), (297, Instr.if_icmp .eq 1238, 3), (300, Instr.iconst 0, 1), (301, Instr.ireturn, 1), (302, Instr.aload_n 1, 1), (303, Instr.aload_n 0, 1), (304, Instr.iload_n 3, 1), (305, Instr.iconst 1, 1), (306, Instr.iadd, 1), (307, Instr.iaload, 1), (308, Instr.aload_n 0, 1), (309, Instr.iload_n 3, 1), (310, Instr.iconst 2, 1), (311, Instr.iadd, 1), (312, Instr.iaload, 1), (313, Instr.aload_n 0, 1), (314, Instr.iload_n 3, 1), (315, Instr.iconst 3, 1), (316, Instr.iadd, 1), (317, Instr.iaload, 1), (318, Instr.invokevirtual 23, 3), (321, Instr.aload_n 2, 1), (322, Instr.aload_n 0, 1), (323, Instr.iload_n 3, 1), (324, Instr.iconst 1, 1), (325, Instr.iadd, 1), (326, Instr.iaload, 1), (327, Instr.aload_n 0, 1), (328, Instr.iload_n 3, 1), (329, Instr.iconst 2, 1), (330, Instr.iadd, 1), (331, Instr.iaload, 1), (332, Instr.aload_n 0, 1), (333, Instr.iload_n 3, 1), (334, Instr.iconst 3, 1), (335, Instr.iadd, 1), (336, Instr.iaload, 1), (337, Instr.invokevirtual 27, 3), (340, Instr.if_icmp .eq 1195, 3), (343, Instr.iconst 0, 1), (344, Instr.ireturn, 1), (345, Instr.aload_n 1, 1), (346, Instr.aload_n 0, 1), (347, Instr.iload_n 3, 1), (348, Instr.iconst 1, 1), (349, Instr.iadd, 1), (350, Instr.iaload, 1), (351, Instr.aload_n 0, 1), (352, Instr.iload_n 3, 1), (353, Instr.iconst 2, 1), (354, Instr.iadd, 1), (355, Instr.iaload, 1), (356, Instr.invokevirtual 28, 3), (359, Instr.aload_n 2, 1), (360, Instr.aload_n 0, 1), (361, Instr.iload_n 3, 1), (362, Instr.iconst 1, 1), (363, Instr.iadd, 1), (364, Instr.iaload, 1), (365, Instr.aload_n 0, 1), (366, Instr.iload_n 3, 1), (367, Instr.iconst 2, 1), (368, Instr.iadd, 1), (369, Instr.iaload, 1), (370, Instr.invokevirtual 31, 3), (373, Instr.if_icmp .eq 1162, 3), (376, Instr.iconst 0, 1), (377, Instr.ireturn, 1), (378, Instr.aload_n 1, 1), (379, Instr.aload_n 0, 1), (380, Instr.iload_n 3, 1), (381, Instr.iconst 1, 1), (382, Instr.iadd, 1), (383, Instr.iaload, 1), (384, Instr.aload_n 0, 1), (385, Instr.iload_n 3, 1), (386, Instr.iconst 2, 1), (387, Instr.iadd, 1), (388, Instr.iaload, 1), (389, Instr.aload_n 0, 1), (390, Instr.iload_n 3, 1), (391, Instr.iconst 3, 1), (392, Instr.iadd, 1), (393, Instr.iaload, 1), (394, Instr.aload_n 0, 1), (395, Instr.iload_n 3, 1), (396, Instr.iconst 4, 1), (397, Instr.iadd, 1), (398, Instr.iaload, 1), (399, Instr.invokevirtual 32, 3), (402, Instr.aload_n 2, 1), (403, Instr.aload_n 0, 1), (404, Instr.iload_n 3, 1), (405, Instr.iconst 1, 1), (406, Instr.iadd, 1), (407, Instr.iaload, 1), (408, Instr.aload_n 0, 1), (409, Instr.iload_n 3, 1), (410, Instr.iconst 2, 1), (411, Instr.iadd, 1), (412, Instr.iaload, 1), (413, Instr.aload_n 0, 1), (414, Instr.iload_n 3, 1), (415, Instr.iconst 3, 1), (416, Instr.iadd, 1), (417, Instr.iaload, 1), (418, Instr.aload_n 0, 1), (419, Instr.iload_n 3, 1), (420, Instr.iconst 4, 1), (421, Instr.iadd, 1), (422, Instr.iaload, 1), (423, Instr.invokevirtual 35, 3), (426, Instr.if_icmp .eq 1109, 3), (429, Instr.iconst 0, 1), (430, Instr.ireturn, 1), (431, Instr.aload_n 1, 1), (432, Instr.aload_n 0, 1), (433, Instr.iload_n 3, 1), (434, Instr.iconst 1, 1), (435, Instr.iadd, 1), (436, Instr.iaload, 1), (437, Instr.aload_n 0, 1), (438, Instr.iload_n 3, 1), (439, Instr.iconst 2, 1), (440, Instr.iadd, 1), (441, Instr.iaload, 1), (442, Instr.invokevirtual 36, 3), (445, Instr.aload_n 2, 1), (446, Instr.aload_n 0, 1), (447, Instr.iload_n 3, 1), (448, Instr.iconst 1, 1), (449, Instr.iadd, 1), (450, Instr.iaload, 1), (451, Instr.aload_n 0, 1), (452, Instr.iload_n 3, 1), (453, Instr.iconst 2, 1), (454, Instr.iadd, 1), (455, Instr.iaload, 1), (456, Instr.invokevirtual 39, 3), (459, Instr.if_icmp .eq 1076, 3), (462, Instr.iconst 0, 1), (463, Instr.ireturn, 1), (464, Instr.aload_n 1, 1), (465, Instr.aload_n 0, 1), (466, Instr.iload_n 3, 1), (467, Instr.iconst 1, 1), (468, Instr.iadd, 1), (469, Instr.iaload, 1), (470, Instr.aload_n 0, 1), (471, Instr.iload_n 3, 1), (472, Instr.iconst 2, 1), (473, Instr.iadd, 1), (474, Instr.iaload, 1), (475, Instr.aload_n 0, 1), (476, Instr.iload_n 3, 1), (477, Instr.iconst 3, 1), (478, Instr.iadd, 1), (479, Instr.iaload, 1), (480, Instr.aload_n 0, 1), (481, Instr.iload_n 3, 1), (482, Instr.iconst 4, 1), (483, Instr.iadd, 1), (484, Instr.iaload, 1), (485, Instr.aload_n 0, 1), (486, Instr.iload_n 3, 1), (487, Instr.iconst 5, 1), (488, Instr.iadd, 1), (489, Instr.iaload, 1), (490, Instr.invokevirtual 40, 3), (493, Instr.aload_n 2, 1), (494, Instr.aload_n 0, 1), (495, Instr.iload_n 3, 1), (496, Instr.iconst 1, 1), (497, Instr.iadd, 1), (498, Instr.iaload, 1), (499, Instr.aload_n 0, 1), (500, Instr.iload_n 3, 1), (501, Instr.iconst 2, 1), (502, Instr.iadd, 1), (503, Instr.iaload, 1), (504, Instr.aload_n 0, 1), (505, Instr.iload_n 3, 1), (506, Instr.iconst 3, 1), (507, Instr.iadd, 1), (508, Instr.iaload, 1), (509, Instr.aload_n 0, 1), (510, Instr.iload_n 3, 1), (511, Instr.iconst 4, 1), (512, Instr.iadd, 1), (513, Instr.iaload, 1), (514, Instr.aload_n 0, 1), (515, Instr.iload_n 3, 1), (516, Instr.iconst 5, 1), (517, Instr.iadd, 1), (518, Instr.iaload, 1), (519, Instr.invokevirtual 44, 3), (522, Instr.if_icmp .eq 1013, 3), (525, Instr.iconst 0, 1), (526, Instr.ireturn, 1), (527, Instr.aload_n 1, 1), (528, Instr.aload_n 0, 1), (529, Instr.iload_n 3, 1), (530, Instr.iconst 1, 1), (531, Instr.iadd, 1), (532, Instr.iaload, 1), (533, Instr.invokevirtual 45, 3), (536, Instr.aload_n 2, 1), (537, Instr.aload_n 0, 1), (538, Instr.iload_n 3, 1), (539, Instr.iconst 1, 1), (540, Instr.iadd, 1), (541, Instr.iaload, 1), (542, Instr.invokevirtual 49, 3), (545, Instr.if_icmp .eq 990, 3), (548, Instr.iconst 0, 1), (549, Instr.ireturn, 1), (550, Instr.aload_n 1, 1), (551, Instr.invokevirtual 50, 3), (554, Instr.aload_n 2, 1), (555, Instr.invokevirtual 54, 3), (558, Instr.if_icmp .eq 977, 3), (561, Instr.iconst 0, 1), (562, Instr.ireturn, 1), (563, Instr.aload_n 1, 1), (564, Instr.invokevirtual 55, 3), (567, Instr.aload_n 2, 1), (568, Instr.invokevirtual 58, 3), (571, Instr.if_icmp .eq 964, 3), (574, Instr.iconst 0, 1), (575, Instr.ireturn, 1), (576, Instr.aload_n 1, 1), (577, Instr.invokevirtual 59, 3), (580, Instr.aload_n 2, 1), (581, Instr.invokevirtual 62, 3), (584, Instr.if_icmp .eq 951, 3), (587, Instr.iconst 0, 1), (588, Instr.ireturn, 1), (589, Instr.aload_n 1, 1), (590, Instr.invokevirtual 63, 3), (593, Instr.aload_n 2, 1), (594, Instr.invokevirtual 66, 3), (597, Instr.if_icmp .eq 938, 3), (600, Instr.iconst 0, 1), (601, Instr.ireturn, 1), (602, Instr.aload_n 1, 1), (603, Instr.invokevirtual 67, 3), (606, Instr.aload_n 2, 1), (607, Instr.invokevirtual 70, 3), (610, Instr.if_icmp .eq 925, 3), (613, Instr.iconst 0, 1), (614, Instr.ireturn, 1), (615, Instr.aload_n 1, 1), (616, Instr.invokevirtual 71, 3), (619, Instr.aload_n 2, 1), (620, Instr.invokevirtual 74, 3), (623, Instr.if_icmp .eq 912, 3), (626, Instr.iconst 0, 1), (627, Instr.ireturn, 1), (628, Instr.aload_n 1, 1), (629, Instr.aload_n 0, 1), (630, Instr.iload_n 3, 1), (631, Instr.iconst 1, 1), (632, Instr.iadd, 1), (633, Instr.iaload, 1), (634, Instr.invokevirtual 75, 3), (637, Instr.aload_n 2, 1), (638, Instr.aload_n 0, 1), (639, Instr.iload_n 3, 1), (640, Instr.iconst 1, 1), (641, Instr.iadd, 1), (642, Instr.iaload, 1), (643, Instr.invokevirtual 78, 3), (646, Instr.if_icmp .eq 889, 3), (649, Instr.iconst 0, 1), (650, Instr.ireturn, 1), (651, Instr.aload_n 1, 1), (652, Instr.aload_n 0, 1), (653, Instr.iload_n 3, 1), (654, Instr.iconst 1, 1), (655, Instr.iadd, 1), (656, Instr.iaload, 1), (657, Instr.aload_n 0, 1), (658, Instr.iload_n 3, 1), (659, Instr.iconst 2, 1), (660, Instr.iadd, 1), (661, Instr.iaload, 1), (662, Instr.invokevirtual 79, 3), (665, Instr.aload_n 2, 1), (666, Instr.aload_n 0, 1), (667, Instr.iload_n 3, 1), (668, Instr.iconst 1, 1), (669, Instr.iadd, 1), (670, Instr.iaload, 1), (671, Instr.aload_n 0, 1), (672, Instr.iload_n 3, 1), (673, Instr.iconst 2, 1), (674, Instr.iadd, 1), (675, Instr.iaload, 1), (676, Instr.invokevirtual 82, 3), (679, Instr.if_icmp .eq 856, 3), (682, Instr.iconst 0, 1), (683, Instr.ireturn, 1), (684, Instr.aload_n 1, 1), (685, Instr.aload_n 0, 1), (686, Instr.iload_n 3, 1), (687, Instr.iconst 1, 1), (688, Instr.iadd, 1), (689, Instr.iaload, 1), (690, Instr.invokevirtual 83, 3), (693, Instr.aload_n 2, 1), (694, Instr.aload_n 0, 1), (695, Instr.iload_n 3, 1), (696, Instr.iconst 1, 1), (697, Instr.iadd, 1), (698, Instr.iaload, 1), (699, Instr.invokevirtual 86, 3), (702, Instr.if_icmp .eq 833, 3), (705, Instr.iconst 0, 1), (706, Instr.ireturn, 1), (707, Instr.aload_n 1, 1), (708, Instr.aload_n 0, 1), (709, Instr.iload_n 3, 1), (710, Instr.iconst 1, 1), (711, Instr.iadd, 1), (712, Instr.iaload, 1), (713, Instr.aload_n 0, 1), (714, Instr.iload_n 3, 1), (715, Instr.iconst 2, 1), (716, Instr.iadd, 1), (717, Instr.iaload, 1), (718, Instr.invokevirtual 87, 3), (721, Instr.aload_n 2, 1), (722, Instr.aload_n 0, 1), (723, Instr.iload_n 3, 1), (724, Instr.iconst 1, 1), (725, Instr.iadd, 1), (726, Instr.iaload, 1), (727, Instr.aload_n 0, 1), (728, Instr.iload_n 3, 1), (729, Instr.iconst 2, 1), (730, Instr.iadd, 1), (731, Instr.iaload, 1), (732, Instr.invokevirtual 90, 3), (735, Instr.if_icmp .eq 800, 3), (738, Instr.iconst 0, 1), (739, Instr.ireturn, 1), (740, Instr.aload_n 1, 1), (741, Instr.invokevirtual 91, 3), (744, Instr.aload_n 2, 1), (745, Instr.invokevirtual 94, 3), (748, Instr.if_icmp .eq 787, 3), (751, Instr.iconst 0, 1), (752, Instr.ireturn, 1), (753, Instr.aload_n 1, 1), (754, Instr.invokevirtual 95, 3), (757, Instr.aload_n 2, 1), (758, Instr.invokevirtual 98, 3), (761, Instr.if_icmp .eq 774, 3), (764, Instr.iconst 0, 1), (765, Instr.ireturn, 1), (766, Instr.aload_n 1, 1), (767, Instr.aload_n 0, 1), (768, Instr.iload_n 3, 1), (769, Instr.iconst 1, 1), (770, Instr.iadd, 1), (771, Instr.iaload, 1), (772, Instr.aload_n 0, 1), (773, Instr.iload_n 3, 1), (774, Instr.iconst 2, 1), (775, Instr.iadd, 1), (776, Instr.iaload, 1), (777, Instr.aload_n 0, 1), (778, Instr.iload_n 3, 1), (779, Instr.iconst 3, 1), (780, Instr.iadd, 1), (781, Instr.iaload, 1), (782, Instr.aload_n 0, 1), (783, Instr.iload_n 3, 1), (784, Instr.iconst 4, 1), (785, Instr.iadd, 1), (786, Instr.iaload, 1), (787, Instr.invokevirtual 99, 3), (790, Instr.aload_n 2, 1), (791, Instr.aload_n 0, 1), (792, Instr.iload_n 3, 1), (793, Instr.iconst 1, 1), (794, Instr.iadd, 1), (795, Instr.iaload, 1), (796, Instr.aload_n 0, 1), (797, Instr.iload_n 3, 1), (798, Instr.iconst 2, 1), (799, Instr.iadd, 1), (800, Instr.iaload, 1), (801, Instr.aload_n 0, 1), (802, Instr.iload_n 3, 1), (803, Instr.iconst 3, 1), (804, Instr.iadd, 1), (805, Instr.iaload, 1), (806, Instr.aload_n 0, 1), (807, Instr.iload_n 3, 1), (808, Instr.iconst 4, 1), (809, Instr.iadd, 1), (810, Instr.iaload, 1), (811, Instr.invokevirtual 102, 3), (814, Instr.if_icmp .eq 721, 3), (817, Instr.iconst 0, 1), (818, Instr.ireturn, 1), (819, Instr.aload_n 1, 1), (820, Instr.aload_n 0, 1), (821, Instr.iload_n 3, 1), (822, Instr.iconst 1, 1), (823, Instr.iadd, 1), (824, Instr.iaload, 1), (825, Instr.aload_n 0, 1), (826, Instr.iload_n 3, 1), (827, Instr.iconst 2, 1), (828, Instr.iadd, 1), (829, Instr.iaload, 1), (830, Instr.aload_n 0, 1), (831, Instr.iload_n 3, 1), (832, Instr.iconst 3, 1), (833, Instr.iadd, 1), (834, Instr.iaload, 1), (835, Instr.invokevirtual 103, 3), (838, Instr.aload_n 2, 1), (839, Instr.aload_n 0, 1), (840, Instr.iload_n 3, 1), (841, Instr.iconst 1, 1), (842, Instr.iadd, 1), (843, Instr.iaload, 1), (844, Instr.aload_n 0, 1), (845, Instr.iload_n 3, 1), (846, Instr.iconst 2, 1), (847, Instr.iadd, 1), (848, Instr.iaload, 1), (849, Instr.aload_n 0, 1), (850, Instr.iload_n 3, 1), (851, Instr.iconst 3, 1), (852, Instr.iadd, 1), (853, Instr.iaload, 1), (854, Instr.invokevirtual 106, 3), (857, Instr.if_icmp .eq 678, 3), (860, Instr.iconst 0, 1), (861, Instr.ireturn, 1), (862, Instr.aload_n 1, 1), (863, Instr.aload_n 0, 1), (864, Instr.iload_n 3, 1), (865, Instr.iconst 1, 1), (866, Instr.iadd, 1), (867, Instr.iaload, 1), (868, Instr.aload_n 0, 1), (869, Instr.iload_n 3, 1), (870, Instr.iconst 2, 1), (871, Instr.iadd, 1), (872, Instr.iaload, 1), (873, Instr.invokevirtual 107, 3), (876, Instr.aload_n 2, 1), (877, Instr.aload_n 0, 1), (878, Instr.iload_n 3, 1), (879, Instr.iconst 1, 1), (880, Instr.iadd, 1), (881, Instr.iaload, 1), (882, Instr.aload_n 0, 1), (883, Instr.iload_n 3, 1), (884, Instr.iconst 2, 1), (885, Instr.iadd, 1), (886, Instr.iaload, 1), (887, Instr.invokevirtual 110, 3), (890, Instr.if_icmp .eq 645, 3), (893, Instr.iconst 0, 1), (894, Instr.ireturn, 1), (895, Instr.aload_n 1, 1), (896, Instr.aload_n 0, 1), (897, Instr.iload_n 3, 1), (898, Instr.iconst 1, 1), (899, Instr.iadd, 1), (900, Instr.iaload, 1), (901, Instr.invokevirtual 111, 3), (904, Instr.aload_n 2, 1), (905, Instr.aload_n 0, 1), (906, Instr.iload_n 3, 1), (907, Instr.iconst 1, 1), (908, Instr.iadd, 1), (909, Instr.iaload, 1), (910, Instr.invokevirtual 114, 3), (913, Instr.if_icmp .eq 622, 3), (916, Instr.iconst 0, 1), (917, Instr.ireturn, 1), (918, Instr.aload_n 1, 1), (919, Instr.aload_n 0, 1), (920, Instr.iload_n 3, 1), (921, Instr.iconst 1, 1), (922, Instr.iadd, 1), (923, Instr.iaload, 1), (924, Instr.aload_n 0, 1), (925, Instr.iload_n 3, 1), (926, Instr.iconst 2, 1), (927, Instr.iadd, 1), (928, Instr.iaload, 1), (929, Instr.aload_n 0, 1), (930, Instr.iload_n 3, 1), (931, Instr.iconst 3, 1), (932, Instr.iadd, 1), (933, Instr.iaload, 1), (934, Instr.aload_n 0, 1), (935, Instr.iload_n 3, 1), (936, Instr.iconst 4, 1), (937, Instr.iadd, 1), (938, Instr.iaload, 1), (939, Instr.invokevirtual 115, 3), (942, Instr.aload_n 2, 1), (943, Instr.aload_n 0, 1), (944, Instr.iload_n 3, 1), (945, Instr.iconst 1, 1), (946, Instr.iadd, 1), (947, Instr.iaload, 1), (948, Instr.aload_n 0, 1), (949, Instr.iload_n 3, 1), (950, Instr.iconst 2, 1), (951, Instr.iadd, 1), (952, Instr.iaload, 1), (953, Instr.aload_n 0, 1), (954, Instr.iload_n 3, 1), (955, Instr.iconst 3, 1), (956, Instr.iadd, 1), (957, Instr.iaload, 1), (958, Instr.aload_n 0, 1), (959, Instr.iload_n 3, 1), (960, Instr.iconst 4, 1), (961, Instr.iadd, 1), (962, Instr.iaload, 1), (963, Instr.invokevirtual 119, 3), (966, Instr.lcmp, 1), (967, Instr.ifCond .eq 568, 3), (970, Instr.iconst 0, 1), (971, Instr.ireturn, 1), (972, Instr.aload_n 1, 1), (973, Instr.aload_n 0, 1), (974, Instr.iload_n 3, 1), (975, Instr.iconst 1, 1), (976, Instr.iadd, 1), (977, Instr.iaload, 1), (978, Instr.aload_n 0, 1), (979, Instr.iload_n 3, 1), (980, Instr.iconst 2, 1), (981, Instr.iadd, 1), (982, Instr.iaload, 1), (983, Instr.aload_n 0, 1), (984, Instr.iload_n 3, 1), (985, Instr.iconst 3, 1), (986, Instr.iadd, 1), (987, Instr.iaload, 1), (988, Instr.aload_n 0, 1), (989, Instr.iload_n 3, 1), (990, Instr.iconst 4, 1), (991, Instr.iadd, 1), (992, Instr.iaload, 1), (993, Instr.invokevirtual 120, 3), (996, Instr.aload_n 2, 1), (997, Instr.aload_n 0, 1), (998, Instr.iload_n 3, 1), (999, Instr.iconst 1, 1), (1000, Instr.iadd, 1), (1001, Instr.iaload, 1), (1002, Instr.aload_n 0, 1), (1003, Instr.iload_n 3, 1), (1004, Instr.iconst 2, 1), (1005, Instr.iadd, 1), (1006, Instr.iaload, 1), (1007, Instr.aload_n 0, 1), (1008, Instr.iload_n 3, 1), (1009, Instr.iconst 3, 1), (1010, Instr.iadd, 1), (1011, Instr.iaload, 1), (1012, Instr.aload_n 0, 1), (1013, Instr.iload_n 3, 1), (1014, Instr.iconst 4, 1), (1015, Instr.iadd, 1), (1016, Instr.iaload, 1), (1017, Instr.invokevirtual 123, 3), (1020, Instr.lcmp, 1), (1021, Instr.ifCond .eq 514, 3), (1024, Instr.iconst 0, 1), (1025, Instr.ireturn, 1), (1026, Instr.aload_n 1, 1), (1027, Instr.aload_n 0, 1), (1028, Instr.iload_n 3, 1), (1029, Instr.iconst 1, 1), (1030, Instr.iadd, 1), (1031, Instr.iaload, 1), (1032, Instr.aload_n 0, 1), (1033, Instr.iload_n 3, 1), (1034, Instr.iconst 2, 1), (1035, Instr.iadd, 1), (1036, Instr.iaload, 1), (1037, Instr.aload_n 0, 1), (1038, Instr.iload_n 3, 1), (1039, Instr.iconst 3, 1), (1040, Instr.iadd, 1), (1041, Instr.iaload, 1), (1042, Instr.invokevirtual 124, 3), (1045, Instr.aload_n 2, 1), (1046, Instr.aload_n 0, 1), (1047, Instr.iload_n 3, 1), (1048, Instr.iconst 1, 1), (1049, Instr.iadd, 1), (1050, Instr.iaload, 1), (1051, Instr.aload_n 0, 1), (1052, Instr.iload_n 3, 1), (1053, Instr.iconst 2, 1), (1054, Instr.iadd, 1), (1055, Instr.iaload, 1), (1056, Instr.aload_n 0, 1), (1057, Instr.iload_n 3, 1), (1058, Instr.iconst 3, 1), (1059, Instr.iadd, 1), (1060, Instr.iaload, 1), (1061, Instr.invokevirtual 127, 3), (1064, Instr.if_icmp .eq 471, 3), (1067, Instr.iconst 0, 1), (1068, Instr.ireturn, 1), (1069, Instr.aload_n 1, 1), (1070, Instr.aload_n 0, 1), (1071, Instr.iload_n 3, 1), (1072, Instr.iconst 1, 1), (1073, Instr.iadd, 1), (1074, Instr.iaload, 1), (1075, Instr.aload_n 0, 1), (1076, Instr.iload_n 3, 1), (1077, Instr.iconst 2, 1), (1078, Instr.iadd, 1), (1079, Instr.iaload, 1), (1080, Instr.aload_n 0, 1), (1081, Instr.iload_n 3, 1), (1082, Instr.iconst 3, 1), (1083, Instr.iadd, 1), (1084, Instr.iaload, 1), (1085, Instr.invokevirtual 128, 3), (1088, Instr.aload_n 2, 1), (1089, Instr.aload_n 0, 1), (1090, Instr.iload_n 3, 1), (1091, Instr.iconst 1, 1), (1092, Instr.iadd, 1), (1093, Instr.iaload, 1), (1094, Instr.aload_n 0, 1), (1095, Instr.iload_n 3, 1), (1096, Instr.iconst 2, 1), (1097, Instr.iadd, 1), (1098, Instr.iaload, 1), (1099, Instr.aload_n 0, 1), (1100, Instr.iload_n 3, 1), (1101, Instr.iconst 3, 1), (1102, Instr.iadd, 1), (1103, Instr.iaload, 1), (1104, Instr.invokevirtual 131, 3), (1107, Instr.if_icmp .eq 428, 3), (1110, Instr.iconst 0, 1), (1111, Instr.ireturn, 1), (1112, Instr.aload_n 1, 1), (1113, Instr.aload_n 0, 1), (1114, Instr.iload_n 3, 1), (1115, Instr.iconst 1, 1), (1116, Instr.iadd, 1), (1117, Instr.iaload, 1), (1118, Instr.aload_n 0, 1), (1119, Instr.iload_n 3, 1), (1120, Instr.iconst 2, 1), (1121, Instr.iadd, 1), (1122, Instr.iaload, 1), (1123, Instr.aload_n 0, 1), (1124, Instr.iload_n 3, 1), (1125, Instr.iconst 3, 1), (1126, Instr.iadd, 1), (1127, Instr.iaload, 1), (1128, Instr.invokevirtual 132, 3), (1131, Instr.aload_n 2, 1), (1132, Instr.aload_n 0, 1), (1133, Instr.iload_n 3, 1), (1134, Instr.iconst 1, 1), (1135, Instr.iadd, 1), (1136, Instr.iaload, 1), (1137, Instr.aload_n 0, 1), (1138, Instr.iload_n 3, 1), (1139, Instr.iconst 2, 1), (1140, Instr.iadd, 1), (1141, Instr.iaload, 1), (1142, Instr.aload_n 0, 1), (1143, Instr.iload_n 3, 1), (1144, Instr.iconst 3, 1), (1145, Instr.iadd, 1), (1146, Instr.iaload, 1), (1147, Instr.invokevirtual 135, 3), (1150, Instr.if_icmp .eq 385, 3), (1153, Instr.iconst 0, 1), (1154, Instr.ireturn, 1), (1155, Instr.aload_n 1, 1), (1156, Instr.aload_n 0, 1), (1157, Instr.iload_n 3, 1), (1158, Instr.iconst 1, 1), (1159, Instr.iadd, 1), (1160, Instr.iaload, 1), (1161, Instr.aload_n 0, 1), (1162, Instr.iload_n 3, 1), (1163, Instr.iconst 2, 1), (1164, Instr.iadd, 1), (1165, Instr.iaload, 1), (1166, Instr.aload_n 0, 1), (1167, Instr.iload_n 3, 1), (1168, Instr.iconst 3, 1), (1169, Instr.iadd, 1), (1170, Instr.iaload, 1), (1171, Instr.invokevirtual 136, 3), (1174, Instr.aload_n 2, 1), (1175, Instr.aload_n 0, 1), (1176, Instr.iload_n 3, 1), (1177, Instr.iconst 1, 1), (1178, Instr.iadd, 1), (1179, Instr.iaload, 1), (1180, Instr.aload_n 0, 1), (1181, Instr.iload_n 3, 1), (1182, Instr.iconst 2, 1), (1183, Instr.iadd, 1), (1184, Instr.iaload, 1), (1185, Instr.aload_n 0, 1), (1186, Instr.iload_n 3, 1), (1187, Instr.iconst 3, 1), (1188, Instr.iadd, 1), (1189, Instr.iaload, 1), (1190, Instr.invokevirtual 139, 3), (1193, Instr.if_icmp .eq 342, 3), (1196, Instr.iconst 0, 1), (1197, Instr.ireturn, 1), (1198, Instr.aload_n 1, 1), (1199, Instr.aload_n 0, 1), (1200, Instr.iload_n 3, 1), (1201, Instr.iconst 1, 1), (1202, Instr.iadd, 1), (1203, Instr.iaload, 1), (1204, Instr.aload_n 0, 1), (1205, Instr.iload_n 3, 1), (1206, Instr.iconst 2, 1), (1207, Instr.iadd, 1), (1208, Instr.iaload, 1), (1209, Instr.aload_n 0, 1), (1210, Instr.iload_n 3, 1), (1211, Instr.iconst 3, 1), (1212, Instr.iadd, 1), (1213, Instr.iaload, 1), (1214, Instr.invokevirtual 140, 3), (1217, Instr.aload_n 2, 1), (1218, Instr.aload_n 0, 1), (1219, Instr.iload_n 3, 1), (1220, Instr.iconst 1, 1), (1221, Instr.iadd, 1), (1222, Instr.iaload, 1), (1223, Instr.aload_n 0, 1), (1224, Instr.iload_n 3, 1), (1225, Instr.iconst 2, 1), (1226, Instr.iadd, 1), (1227, Instr.iaload, 1), (1228, Instr.aload_n 0, 1), (1229, Instr.iload_n 3, 1), (1230, Instr.iconst 3, 1), (1231, Instr.iadd, 1), (1232, Instr.iaload, 1), (1233, Instr.invokevirtual 143, 3), (1236, Instr.if_icmp .eq 299, 3), (1239, Instr.iconst 0, 1), (1240, Instr.ireturn, 1), (1241, Instr.aload_n 1, 1), (1242, Instr.invokevirtual 144, 3), (1245, Instr.aload_n 2, 1), (1246, Instr.invokevirtual 147, 3), (1249, Instr.if_icmp .eq 286, 3), (1252, Instr.iconst 0, 1), (1253, Instr.ireturn, 1), (1254, Instr.aload_n 1, 1), (1255, Instr.invokevirtual 148, 3), (1258, Instr.aload_n 2, 1), (1259, Instr.invokevirtual 151, 3), (1262, Instr.if_icmp .eq 273, 3), (1265, Instr.iconst 0, 1), (1266, Instr.ireturn, 1), (1267, Instr.aload_n 1, 1), (1268, Instr.aload_n 0, 1), (1269, Instr.iload_n 3, 1), (1270, Instr.iconst 1, 1), (1271, Instr.iadd, 1), (1272, Instr.iaload, 1), (1273, Instr.aload_n 0, 1), (1274, Instr.iload_n 3, 1), (1275, Instr.iconst 2, 1), (1276, Instr.iadd, 1), (1277, Instr.iaload, 1), (1278, Instr.invokevirtual 152, 3), (1281, Instr.aload_n 2, 1), (1282, Instr.aload_n 0, 1), (1283, Instr.iload_n 3, 1), (1284, Instr.iconst 1, 1), (1285, Instr.iadd, 1), (1286, Instr.iaload, 1), (1287, Instr.aload_n 0, 1), (1288, Instr.iload_n 3, 1), (1289, Instr.iconst 2, 1), (1290, Instr.iadd, 1), (1291, Instr.iaload, 1), (1292, Instr.invokevirtual 155, 3), (1295, Instr.if_icmp .eq 240, 3), (1298, Instr.iconst 0, 1), (1299, Instr.ireturn, 1), (1300, Instr.aload_n 1, 1), (1301, Instr.aload_n 0, 1), (1302, Instr.iload_n 3, 1), (1303, Instr.iconst 1, 1), (1304, Instr.iadd, 1), (1305, Instr.iaload, 1), (1306, Instr.aload_n 0, 1), (1307, Instr.iload_n 3, 1), (1308, Instr.iconst 2, 1), (1309, Instr.iadd, 1), (1310, Instr.iaload, 1), (1311, Instr.invokevirtual 156, 3), (1314, Instr.aload_n 2, 1), (1315, Instr.aload_n 0, 1), (1316, Instr.iload_n 3, 1), (1317, Instr.iconst 1, 1), (1318, Instr.iadd, 1), (1319, Instr.iaload, 1), (1320, Instr.aload_n 0, 1), (1321, Instr.iload_n 3, 1), (1322, Instr.iconst 2, 1), (1323, Instr.iadd, 1), (1324, Instr.iaload, 1), (1325, Instr.invokevirtual 160, 3), (1328, Instr.lcmp, 1), (1329, Instr.ifCond .eq 206, 3), (1332, Instr.iconst 0, 1), (1333, Instr.ireturn, 1), (1334, Instr.aload_n 1, 1), (1335, Instr.aload_n 0, 1), (1336, Instr.iload_n 3, 1), (1337, Instr.iconst 1, 1), (1338, Instr.iadd, 1), (1339, Instr.iaload, 1), (1340, Instr.aload_n 0, 1), (1341, Instr.iload_n 3, 1), (1342, Instr.iconst 2, 1), (1343, Instr.iadd, 1), (1344, Instr.iaload, 1), (1345, Instr.aload_n 0, 1), (1346, Instr.iload_n 3, 1), (1347, Instr.iconst 3, 1), (1348, Instr.iadd, 1), (1349, Instr.iaload, 1), (1350, Instr.aload_n 0, 1), (1351, Instr.iload_n 3, 1), (1352, Instr.iconst 4, 1), (1353, Instr.iadd, 1), (1354, Instr.iaload, 1), (1355, Instr.invokevirtual 161, 3), (1358, Instr.aload_n 2, 1), (1359, Instr.aload_n 0, 1), (1360, Instr.iload_n 3, 1), (1361, Instr.iconst 1, 1), (1362, Instr.iadd, 1), (1363, Instr.iaload, 1), (1364, Instr.aload_n 0, 1), (1365, Instr.iload_n 3, 1), (1366, Instr.iconst 2, 1), (1367, Instr.iadd, 1), (1368, Instr.iaload, 1), (1369, Instr.aload_n 0, 1), (1370, Instr.iload_n 3, 1), (1371, Instr.iconst 3, 1), (1372, Instr.iadd, 1), (1373, Instr.iaload, 1), (1374, Instr.aload_n 0, 1), (1375, Instr.iload_n 3, 1), (1376, Instr.iconst 4, 1), (1377, Instr.iadd, 1), (1378, Instr.iaload, 1), (1379, Instr.invokevirtual 164, 3), (1382, Instr.if_icmp .eq 153, 3), (1385, Instr.iconst 0, 1), (1386, Instr.ireturn, 1), (1387, Instr.aload_n 1, 1), (1388, Instr.aload_n 0, 1), (1389, Instr.iload_n 3, 1), (1390, Instr.iconst 1, 1), (1391, Instr.iadd, 1), (1392, Instr.iaload, 1), (1393, Instr.aload_n 0, 1), (1394, Instr.iload_n 3, 1), (1395, Instr.iconst 2, 1), (1396, Instr.iadd, 1), (1397, Instr.iaload, 1), (1398, Instr.invokevirtual 165, 3), (1401, Instr.aload_n 2, 1), (1402, Instr.aload_n 0, 1), (1403, Instr.iload_n 3, 1), (1404, Instr.iconst 1, 1), (1405, Instr.iadd, 1), (1406, Instr.iaload, 1), (1407, Instr.aload_n 0, 1), (1408, Instr.iload_n 3, 1), (1409, Instr.iconst 2, 1), (1410, Instr.iadd, 1), (1411, Instr.iaload, 1), (1412, Instr.invokevirtual 168, 3), (1415, Instr.if_icmp .eq 120, 3), (1418, Instr.iconst 0, 1), (1419, Instr.ireturn, 1), (1420, Instr.aload_n 1, 1), (1421, Instr.aload_n 0, 1), (1422, Instr.iload_n 3, 1), (1423, Instr.iconst 1, 1), (1424, Instr.iadd, 1), (1425, Instr.iaload, 1), (1426, Instr.aload_n 0, 1), (1427, Instr.iload_n 3, 1), (1428, Instr.iconst 2, 1), (1429, Instr.iadd, 1), (1430, Instr.iaload, 1), (1431, Instr.invokevirtual 169, 3), (1434, Instr.aload_n 2, 1), (1435, Instr.aload_n 0, 1), (1436, Instr.iload_n 3, 1), (1437, Instr.iconst 1, 1), (1438, Instr.iadd, 1), (1439, Instr.iaload, 1), (1440, Instr.aload_n 0, 1), (1441, Instr.iload_n 3, 1), (1442, Instr.iconst 2, 1), (1443, Instr.iadd, 1), (1444, Instr.iaload, 1), (1445, Instr.invokevirtual 172, 3), (1448, Instr.if_icmp .eq 87, 3), (1451, Instr.iconst 0, 1), (1452, Instr.ireturn, 1), (1453, Instr.aload_n 1, 1), (1454, Instr.aload_n 0, 1), (1455, Instr.iload_n 3, 1), (1456, Instr.iconst 1, 1), (1457, Instr.iadd, 1), (1458, Instr.iaload, 1), (1459, Instr.invokevirtual 173, 3), (1462, Instr.aload_n 2, 1), (1463, Instr.aload_n 0, 1), (1464, Instr.iload_n 3, 1), (1465, Instr.iconst 1, 1), (1466, Instr.iadd, 1), (1467, Instr.iaload, 1), (1468, Instr.invokevirtual 176, 3), (1471, Instr.if_icmp .eq 64, 3), (1474, Instr.iconst 0, 1), (1475, Instr.ireturn, 1), (1476, Instr.aload_n 1, 1), (1477, Instr.aload_n 0, 1), (1478, Instr.iload_n 3, 1), (1479, Instr.iconst 1, 1), (1480, Instr.iadd, 1), (1481, Instr.iaload, 1), (1482, Instr.invokevirtual 177, 3), (1485, Instr.aload_n 2, 1), (1486, Instr.aload_n 0, 1), (1487, Instr.iload_n 3, 1), (1488, Instr.iconst 1, 1), (1489, Instr.iadd, 1), (1490, Instr.iaload, 1), (1491, Instr.invokevirtual 180, 3), (1494, Instr.if_icmp .eq 41, 3), (1497, Instr.iconst 0, 1), (1498, Instr.ireturn, 1), (1499, Instr.aload_n 1, 1), (1500, Instr.aload_n 0, 1), (1501, Instr.iload_n 3, 1), (1502, Instr.iconst 1, 1), (1503, Instr.iadd, 1), (1504, Instr.iaload, 1), (1505, Instr.invokevirtual 181, 3), (1508, Instr.aload_n 2, 1), (1509, Instr.aload_n 0, 1), (1510, Instr.iload_n 3, 1), (1511, Instr.iconst 1, 1), (1512, Instr.iadd, 1), (1513, Instr.iaload, 1), (1514, Instr.invokevirtual 184, 3), (1517, Instr.if_icmp .eq 18, 3), (1520, Instr.iconst 0, 1), (1521, Instr.ireturn, 1), (1522, Instr.aload_n 1, 1), (1523, Instr.invokevirtual 185, 3), (1526, Instr.aload_n 2, 1), (1527, Instr.invokevirtual 188, 3), (1530, Instr.if_icmp .eq 5, 3), (1533, Instr.iconst 0, 1), (1534, Instr.ireturn, 1), (1535, Instr.iinc 3 6, 3), (1538, Instr.goto (-1520), 3), (1541, Instr.iconst 1, 1), (1542, Instr.ireturn, 1)]
set_option maxRecDepth 20000 in
theorem tkL_law_0 : (((tbL_law.drop 0).take 100).all fun q => decide (decode cL_law q.1 = .ok q.2)) = true := by decide +kernel
set_option maxRecDepth 20000 in
theorem tkL_law_1 : (((tbL_law.drop 100).take 100).all fun q => decide (decode cL_law q.1 = .ok q.2)) = true := by decide +kernel
set_option maxRecDepth 20000 in
theorem tkL_law_2 : (((tbL_law.drop 200).take 100).all fun q => decide (decode cL_law q.1 = .ok q.2)) = true := by decide +kernel
set_option maxRecDepth 20000 in
theorem tkL_law_3 : (((tbL_law.drop 300).take 100).all fun q => decide (decode cL_law q.1 = .ok q.2)) = true := by decide +kernel
set_option maxRecDepth 20000 in
theorem tkL_law_4 : (((tbL_law.drop 400).take 100).all fun q => decide (decode cL_law q.1 = .ok q.2)) = true := by decide +kernel
set_option maxRecDepth 20000 in
theorem tkL_law_5 : (((tbL_law.drop 500).take 100).all fun q => decide (decode cL_law q.1 = .ok q.2)) = true := by decide +kernel
set_option maxRecDepth 20000 in
theorem tkL_law_6 : (((tbL_law.drop 600).take 100).all fun q => decide (decode cL_law q.1 = .ok q.2)) = true := by decide +kernel
set_option maxRecDepth 20000 in
theorem tkL_law_7 : (((tbL_law.drop 700).take 100).all fun q => decide (decode cL_law q.1 = .ok q.2)) = true := by decide +kernel
set_option maxRecDepth 20000 in
theorem tkL_law_8 : (((tbL_law.drop 800).take 100).all fun q => decide (decode cL_law q.1 = .ok q.2)) = true := by decide +kernel
set_option maxRecDepth 20000 in
theorem tkL_law_9 : (((tbL_law.drop 900).take 100).all fun q => decide (decode cL_law q.1 = .ok q.2)) = true := by decide +kernel
set_option maxRecDepth 20000 in
theorem tkL_law_10 : (((tbL_law.drop 1000).take 100).all fun q => decide (decode cL_law q.1 = .ok q.2)) = true := by decide +kernel
def mL_law : Nat × MethodName × ByteArray × Nat × Option FieldType × List (Nat × Instr × Nat) × Option (Nat × (Nat → Int32)) := (12, yL_law, cL_law, 4, (some .boolean), tbL_law, none)
end TABS
end
section
section CORE
/-! the picture of the heap: cells by numbers; the whole world of the law's two objects in one row of functions -/
abbrev MI : Type := Nat × MethodName × ByteArray × Nat × Option FieldType × List (Nat × Instr × Nat) × Option (Nat × (Nat → Int32))
abbrev mO (M : MI) : Nat := M.1
abbrev mY (M : MI) : MethodName := M.2.1
abbrev mB (M : MI) : ByteArray := M.2.2.1
abbrev mX (M : MI) : Nat := M.2.2.2.1
abbrev mR (M : MI) : Option FieldType := M.2.2.2.2.1
abbrev mT (M : MI) : List (Nat × Instr × Nat) := M.2.2.2.2.2.1
abbrev mS (M : MI) : Option (Nat × (Nat → Int32)) := M.2.2.2.2.2.2
def cls : List vw_C := [(RX0, TX0, 3), (RX1, TX1, 7), (RX2, TX2, 3), (RX3, TX3, 3), (RX4, TX4, 9), (RX5, TX5, 6), (RX6, TX6, 13), (RX7, TX7, 19), (RX8, TX8, 2), (RX9, TX9, 6), (RX10, TX10, 16), (RX11, TX11, 53)]
def nF (k : Nat) : Nat := match k with
  | 0 => 3
  | 1 => 7
  | 2 => 3
  | 3 => 3
  | 4 => 9
  | 5 => 6
  | 6 => 13
  | 7 => 19
  | 8 => 2
  | 9 => 6
  | 10 => 16
  | 11 => 53
  | _ => 0
def cnm (k : Nat) : String := match k with
  | 0 => RX0
  | 1 => RX1
  | 2 => RX2
  | 3 => RX3
  | 4 => RX4
  | 5 => RX5
  | 6 => RX6
  | 7 => RX7
  | 8 => RX8
  | 9 => RX9
  | 10 => RX10
  | 11 => RX11
  | 12 => RL
  | 13 => RJ6
  | 14 => RJ7
  | 15 => RJ0
  | 16 => RJ1
  | _ => RJ3
def tyO (ci k : Nat) : FieldType := match ci with
  | 0 => tyX0 k
  | 1 => tyX1 k
  | 2 => tyX2 k
  | 3 => tyX3 k
  | 4 => tyX4 k
  | 5 => tyX5 k
  | 6 => tyX6 k
  | 7 => tyX7 k
  | 8 => tyX8 k
  | 9 => tyX9 k
  | 10 => tyX10 k
  | _ => tyX11 k
def fT (ci k : Nat) : Nat := match tyO ci k with
  | .int => 0
  | .boolean => 1
  | _ => 2
/-- how many cells; what each is; how long; fields that are numbers, that are cells; rows of ints, longs, cells -/
abbrev HP : Type := Nat × (Nat → Nat) × (Nat → Nat) × (Nat → Nat → Int32) × (Nat → Nat → Option Nat) × (Nat → Nat → Int32) × (Nat → Nat → Int64) × (Nat → Nat → Option Nat)
abbrev kN (h : HP) : Nat := h.1
abbrev kK (h : HP) : Nat → Nat := h.2.1
abbrev kL (h : HP) : Nat → Nat := h.2.2.1
abbrev kI (h : HP) : Nat → Nat → Int32 := h.2.2.2.1
abbrev kR (h : HP) : Nat → Nat → Option Nat := h.2.2.2.2.1
abbrev kA (h : HP) : Nat → Nat → Int32 := h.2.2.2.2.2.1
abbrev kJ (h : HP) : Nat → Nat → Int64 := h.2.2.2.2.2.2.1
abbrev kQ (h : HP) : Nat → Nat → Option Nat := h.2.2.2.2.2.2.2
def u1 {α : Type} (f : Nat → α) (k : Nat) (v : α) : Nat → α := fun j => bif Nat.beq j k then v else f j
def u2 {α : Type} (f : Nat → Nat → α) (a k : Nat) (v : α) : Nat → Nat → α := u1 f a (u1 (f a) k v)
theorem u1_s {α : Type} (f : Nat → α) (k : Nat) (v : α) : u1 f k v k = v := by simp [u1]
theorem u1_n {α : Type} (f : Nat → α) {k j : Nat} (v : α) (h : j ≠ k) : u1 f k v j = f j := by
  have : Nat.beq j k = false := by
    cases hb : Nat.beq j k with
    | false => rfl
    | true => exact absurd (Nat.eq_of_beq_eq_true hb) h
  simp [u1, this]
theorem u2_s {α : Type} (f : Nat → Nat → α) (a k : Nat) (v : α) : u2 f a k v a k = v := by rw [u2, u1_s, u1_s]
theorem u2_n {α : Type} (f : Nat → Nat → α) {a b : Nat} (k j : Nat) (v : α) (h : b ≠ a) : u2 f a k v b j = f b j := by rw [u2, u1_n _ _ h]
theorem u2_k {α : Type} (f : Nat → Nat → α) (a : Nat) {k j : Nat} (v : α) (h : j ≠ k) : u2 f a k v a j = f a j := by rw [u2, u1_s, u1_n _ _ h]
theorem u1_upd (f : Nat → Int32) (k : Nat) (v : Int32) : u1 f k v = upd f k v := by
  funext j
  by_cases h : j = k
  · subst h; rw [u1_s]; simp [upd]
  · rw [u1_n _ _ h]; simp [upd, h]
/-- base, the script's cell, the text's, its bytes', another cell outside -/
abbrev GG : Type := Nat × Nat × Nat × Nat × Nat
def ro (G : GG) (a : Nat) : Nat := bif Nat.blt a 1000000 then G.1 + a else bif Nat.beq a 1000000 then G.2.1 else bif Nat.beq a 1000001 then G.2.2.1 else bif Nat.beq a 1000002 then G.2.2.2.1 else G.2.2.2.2
theorem ro_lt (G : GG) {a : Nat} (h : a < 1000000) : ro G a = G.1 + a := by
  have : Nat.blt a 1000000 = true := by rw [Nat.blt_eq]; exact h
  simp [ro, this]
def cv (G : GG) (v : Value) : Value := match v with
  | .ref a => .ref (ro G a)
  | w => w
theorem cv_cat (G : GG) (v : Value) : (cv G v).category = v.category := by cases v <;> rfl
theorem cv_rf (G : GG) (r : Option Nat) : cv G (va_rf r) = va_rf (r.map (ro G)) := by cases r <;> rfl
def fvA (h : HP) (a k t : Nat) : Value := bif Nat.beq t 2 then va_rf (kR h a k) else .int (kI h a k)
def fl (G : GG) (h : HP) (a : Nat) : List Value := (List.range (nF (kK h a))).map (fun k => cv G (fvA h a k (fT (kK h a) k)))
def ce (cy : Nat → ClassId) (G : GG) (h : HP) (a : Nat) : va_E :=
  bif Nat.blt (kK h a) 12 then .inr (kK h a, fl G h a) else
  bif Nat.beq (kK h a) 14 then .inl (cy 14, kL h a, .inr (.inl (kJ h a))) else
  bif Nat.blt (kK h a) 16 then .inl (cy (kK h a), kL h a, .inl (kA h a)) else
  .inl (cy (kK h a), kL h a, .inr (.inr (.inr (.inr (fun j => (kQ h a j).map (ro G))))))
theorem ce_obj {cy : Nat → ClassId} {G : GG} {h : HP} {a ci : Nat} (hk : kK h a = ci) (hc : ci < 12) : ce cy G h a = .inr (ci, fl G h a) := by
  have h1 : Nat.blt (kK h a) 12 = true := by rw [hk, Nat.blt_eq]; exact hc
  unfold ce
  rw [h1, cond_true, hk]
theorem ce_int {cy : Nat → ClassId} {G : GG} {h : HP} {a k : Nat} (hk : kK h a = k) (hc : k = 12 ∨ k = 13 ∨ k = 15) : ce cy G h a = .inl (cy k, kL h a, .inl (kA h a)) := by
  rcases hc with rfl | rfl | rfl <;> simp [ce, hk] <;> rfl
theorem ce_long {cy : Nat → ClassId} {G : GG} {h : HP} {a : Nat} (hk : kK h a = 14) : ce cy G h a = .inl (cy 14, kL h a, .inr (.inl (kJ h a))) := by
  simp [ce, hk]; rfl
theorem ce_ref {cy : Nat → ClassId} {G : GG} {h : HP} {a k : Nat} (hk : kK h a = k) (hc : k = 16 ∨ k = 17) : ce cy G h a = .inl (cy k, kL h a, .inr (.inr (.inr (.inr (fun j => (kQ h a j).map (ro G)))))) := by
  rcases hc with rfl | rfl <;> simp [ce, hk] <;> rfl
theorem ce_eq {cy : Nat → ClassId} {G : GG} {h h' : HP} {a : Nat} (e1 : kK h' a = kK h a) (e2 : kL h' a = kL h a) (e3 : kI h' a = kI h a) (e4 : kR h' a = kR h a) (e5 : kA h' a = kA h a) (e6 : kJ h' a = kJ h a) (e7 : kQ h' a = kQ h a) : ce cy G h' a = ce cy G h a := by
  unfold ce fl fvA
  rw [e1, e2, e3, e4, e5, e6, e7]
theorem fl_at {G : GG} {h : HP} {a ci k : Nat} (hk : kK h a = ci) (hc : k < nF ci) : (fl G h a)[k]? = some (cv G (fvA h a k (fT ci k))) := by
  subst hk
  simp [fl, hc]
theorem fl_len {G : GG} {h : HP} {a ci : Nat} (hk : kK h a = ci) : (fl G h a).length = nF ci := by
  subst hk
  simp [fl]
def tyl (cy : Nat → ClassId) : List (ClassId × FieldType) := [(cy 12, .byte), (cy 13, .int), (cy 14, .long), (cy 15, .boolean), (cy 16, .object RX7), (cy 17, .object RX9)]
/-- the heap H holds the picture h -/
def HR (D : va_G) (cy : Nat → ClassId) (G : GG) (h : HP) (H : Heap) : Prop :=
  H.size = G.1 + kN h ∧ kN h ≤ 1000000 ∧ (∀ a, kK h a < 18 → a < kN h) ∧ ∀ a, a < kN h → va_at D cls (G.1 + a, ce cy G h a) H
theorem HR.ro {D : va_G} {cy : Nat → ClassId} {G : GG} {h : HP} {H : Heap} (hH : HR D cy G h H) {a : Nat} (hk : kK h a < 18) : ro G a = G.1 + a := ro_lt G (Nat.lt_of_lt_of_le (hH.2.2.1 a hk) hH.2.1)
theorem HR.P {D : va_G} {cy : Nat → ClassId} {G : GG} {h : HP} {H : Heap} (hH : HR D cy G h H) {a : Nat} (hk : kK h a < 18) : va_P D cls [(G.1 + a, ce cy G h a)] H := by
  intro k q hq
  cases k with
  | zero => simp at hq; subst hq; exact hH.2.2.2 a (hH.2.2.1 a hk)
  | succ k => simp at hq
/-- one cell is changed -/
theorem HR.put {D : va_G} {cy : Nat → ClassId} {G : GG} {h h' : HP} {H H1 : Heap} {a : Nat} (hH : HR D cy G h H) (hn : kN h' = kN h) (hk : kK h' = kK h) (ho : ∀ b, b ≠ a → ce cy G h' b = ce cy G h b) (hz : H1.size = H.size) (oq : ∀ q, q ≠ G.1 + a → H1[q]? = H[q]?) (ha : va_at D cls (G.1 + a, ce cy G h' a) H1) : HR D cy G h' H1 := by
  refine ⟨by rw [hz, hn]; exact hH.1, by rw [hn]; exact hH.2.1, by rw [hk, hn]; exact hH.2.2.1, fun b hb => ?_⟩
  by_cases e : b = a
  · subst e; exact ha
  · rw [hn] at hb
    have h1 := hH.2.2.2 b hb
    rw [ho b e]
    exact h1.kept (oq _ (by omega))
/-- a cell is made -/
theorem HR.push {D : va_G} {cy : Nat → ClassId} {G : GG} {h h' : HP} {H H1 : Heap} (hH : HR D cy G h H) (hlt : kN h < 1000000) (hn : kN h' = kN h + 1) (hk : ∀ b, kK h' b < 18 → b = kN h ∨ kK h b < 18) (ho : ∀ b, b < kN h → ce cy G h' b = ce cy G h b) (hz : H1.size = H.size + 1) (oq : ∀ q, q < H.size → H1[q]? = H[q]?) (ha : va_at D cls (G.1 + kN h, ce cy G h' (kN h)) H1) : HR D cy G h' H1 := by
  refine ⟨by rw [hz, hn, hH.1]; omega, by omega, fun b hb => ?_, fun b hb => ?_⟩
  · rcases hk b hb with h1 | h1
    · omega
    · have := hH.2.2.1 b h1; omega
  · by_cases e : b = kN h
    · subst e; exact ha
    · have hb' : b < kN h := by omega
      rw [ho b hb']
      exact (hH.2.2.2 b hb').kept (oq _ (by rw [hH.1]; show G.1 + b < _; omega))
/-! locals -/
def lg : List (Option Value) → Nat → Option Value
  | [], _ => none
  | o :: _, 0 => o
  | _ :: t, n + 1 => lg t n
def dr2 (o : Option Value) : Option Value := match o with
  | none => none
  | some v => bif Nat.beq v.category 2 then none else some v
def ls1 : List (Option Value) → Nat → Value → List (Option Value)
  | [], _, _ => []
  | _ :: t, 0, v => some v :: t
  | o :: t, 1, v => dr2 o :: ls1 t 0 v
  | o :: t, n + 2, v => o :: ls1 t (n + 1) v
def cl0 : List (Option Value) → List (Option Value)
  | [] => []
  | _ :: t => none :: t
def ls2 : List (Option Value) → Nat → Value → List (Option Value)
  | [], _, _ => []
  | _ :: t, 0, v => some v :: cl0 t
  | o :: t, 1, v => dr2 o :: ls2 t 0 v
  | o :: t, n + 2, v => o :: ls2 t (n + 1) v
def asl (G : GG) : Nat → List (Option Value) → List (Nat × Value)
  | _, [] => []
  | n, none :: t => asl G (n + 1) t
  | n, some v :: t => (n, cv G v) :: asl G (n + 1) t
theorem asl_mem (G : GG) : ∀ (lv : List (Option Value)) (n : Nat) (q : Nat × Value), q ∈ asl G n lv ↔ ∃ v, n ≤ q.1 ∧ lg lv (q.1 - n) = some v ∧ q.2 = cv G v
  | [], n, q => by simp [asl, lg]
  | o :: t, n, q => by
    have ih := asl_mem G t (n + 1) q
    have key : (∃ v, n + 1 ≤ q.1 ∧ lg t (q.1 - (n + 1)) = some v ∧ q.2 = cv G v) ↔ ∃ v, n + 1 ≤ q.1 ∧ lg (o :: t) (q.1 - n) = some v ∧ q.2 = cv G v := by
      constructor
      · rintro ⟨v, h1, h2, h3⟩
        refine ⟨v, h1, ?_, h3⟩
        rw [show q.1 - n = (q.1 - (n + 1)) + 1 by omega]
        exact h2
      · rintro ⟨v, h1, h2, h3⟩
        refine ⟨v, h1, ?_, h3⟩
        rw [show q.1 - n = (q.1 - (n + 1)) + 1 by omega] at h2
        exact h2
    cases o with
    | none =>
      show q ∈ asl G (n + 1) t ↔ _
      rw [ih, key]
      constructor
      · rintro ⟨v, h1, h2⟩; exact ⟨v, by omega, h2⟩
      · rintro ⟨v, h1, h2, h3⟩
        by_cases e : q.1 = n
        · rw [e, Nat.sub_self] at h2; simp [lg] at h2
        · exact ⟨v, by omega, h2, h3⟩
    | some w =>
      show q ∈ (n, cv G w) :: asl G (n + 1) t ↔ _
      rw [List.mem_cons, ih, key]
      constructor
      · rintro (h | ⟨v, h1, h2⟩)
        · subst h; exact ⟨w, Nat.le_refl _, by simp [lg], rfl⟩
        · exact ⟨v, by omega, h2⟩
      · rintro ⟨v, h1, h2, h3⟩
        by_cases e : q.1 = n
        · left
          rw [e, Nat.sub_self] at h2
          simp [lg] at h2
          subst h2
          exact Prod.ext e h3
        · right; exact ⟨v, by omega, h2, h3⟩
theorem ls1_get : ∀ (lv : List (Option Value)) (i : Nat) (v : Value) (j : Nat) (w : Value), lg (ls1 lv i v) j = some w → (j = i ∧ w = v) ∨ (j ≠ i ∧ lg lv j = some w ∧ ¬ (j + 1 = i ∧ w.category = 2))
  | [], i, v, j, w, h => by simp [ls1, lg] at h
  | o :: t, 0, v, j, w, h => by
    cases j with
    | zero => simp [ls1, lg] at h; exact Or.inl ⟨rfl, h.symm⟩
    | succ j => simp [ls1, lg] at h; exact Or.inr ⟨by omega, by simpa [lg] using h, by omega⟩
  | o :: t, 1, v, j, w, h => by
    cases j with
    | zero =>
      right
      cases o with
      | none => simp [ls1, lg, dr2] at h
      | some z =>
        cases hb : Nat.beq z.category 2 with
        | true => simp [ls1, lg, dr2, hb] at h
        | false =>
          simp [ls1, lg, dr2, hb] at h
          subst h
          refine ⟨by omega, rfl, fun hc => ?_⟩
          rw [hc.2] at hb
          simp at hb
    | succ j =>
      have := ls1_get t 0 v j w (by simpa [ls1, lg] using h)
      rcases this with ⟨h1, h2⟩ | ⟨h1, h2, h3⟩
      · exact Or.inl ⟨by omega, h2⟩
      · exact Or.inr ⟨by omega, by simpa [lg] using h2, by omega⟩
  | o :: t, n + 2, v, j, w, h => by
    cases j with
    | zero => simp [ls1, lg] at h; exact Or.inr ⟨by omega, by simpa [lg] using h, by omega⟩
    | succ j =>
      have := ls1_get t (n + 1) v j w (by simpa [ls1, lg] using h)
      rcases this with ⟨h1, h2⟩ | ⟨h1, h2, h3⟩
      · exact Or.inl ⟨by omega, h2⟩
      · exact Or.inr ⟨by omega, by simpa [lg] using h2, fun hc => h3 ⟨by omega, hc.2⟩⟩
theorem cl0_get : ∀ (t : List (Option Value)) (j : Nat) (w : Value), lg (cl0 t) j = some w → j ≠ 0 ∧ lg t j = some w
  | [], j, w, h => by simp [cl0, lg] at h
  | o :: t, 0, w, h => by simp [cl0, lg] at h
  | o :: t, j + 1, w, h => ⟨by omega, by simpa [cl0, lg] using h⟩
theorem ls2_get : ∀ (lv : List (Option Value)) (i : Nat) (v : Value) (j : Nat) (w : Value), lg (ls2 lv i v) j = some w → (j = i ∧ w = v) ∨ (j ≠ i ∧ j ≠ i + 1 ∧ lg lv j = some w ∧ ¬ (j + 1 = i ∧ w.category = 2))
  | [], i, v, j, w, h => by simp [ls2, lg] at h
  | o :: t, 0, v, j, w, h => by
    cases j with
    | zero => simp [ls2, lg] at h; exact Or.inl ⟨rfl, h.symm⟩
    | succ j =>
      obtain ⟨h1, h2⟩ := cl0_get t j w (by simpa [ls2, lg] using h)
      exact Or.inr ⟨by omega, by omega, by simpa [lg] using h2, by omega⟩
  | o :: t, 1, v, j, w, h => by
    cases j with
    | zero =>
      right
      cases o with
      | none => simp [ls2, lg, dr2] at h
      | some z =>
        cases hb : Nat.beq z.category 2 with
        | true => simp [ls2, lg, dr2, hb] at h
        | false =>
          simp [ls2, lg, dr2, hb] at h
          subst h
          refine ⟨by omega, by omega, rfl, fun hc => ?_⟩
          rw [hc.2] at hb
          simp at hb
    | succ j =>
      have := ls2_get t 0 v j w (by simpa [ls2, lg] using h)
      rcases this with ⟨h1, h2⟩ | ⟨h1, h1', h2, h3⟩
      · exact Or.inl ⟨by omega, h2⟩
      · exact Or.inr ⟨by omega, by omega, by simpa [lg] using h2, by omega⟩
  | o :: t, n + 2, v, j, w, h => by
    cases j with
    | zero => simp [ls2, lg] at h; exact Or.inr ⟨by omega, by omega, by simpa [lg] using h, by omega⟩
    | succ j =>
      have := ls2_get t (n + 1) v j w (by simpa [ls2, lg] using h)
      rcases this with ⟨h1, h2⟩ | ⟨h1, h1', h2, h3⟩
      · exact Or.inl ⟨by omega, h2⟩
      · exact Or.inr ⟨by omega, by omega, by simpa [lg] using h2, fun hc => h3 ⟨by omega, hc.2⟩⟩
def LV (G : GG) (lv : List (Option Value)) (ls : Array Slot) (nL : Nat) : Prop := lv_has ls nL (asl G 0 lv)
theorem LV.at {G : GG} {lv : List (Option Value)} {ls : Array Slot} {nL i : Nat} {v : Value} (h : LV G lv ls nL) (hv : lg lv i = some v) : ls[i]? = some (.val (cv G v)) :=
  h.2.2 (i, cv G v) ((asl_mem G lv 0 (i, cv G v)).mpr ⟨v, Nat.zero_le _, by simpa using hv, rfl⟩)
theorem LV.st1 {G : GG} {lv : List (Option Value)} {ls' : Array Slot} {nL i : Nat} {v : Value} (h : lv_has ls' nL ((i, cv G v) :: (asl G 0 lv).filter (fun q => !(q.1 == i) && !(q.1 + 1 == i && q.2.category == 2)))) : LV G (ls1 lv i v) ls' nL := by
  refine ⟨h.1, h.2.1, fun q hq => h.2.2 q ?_⟩
  obtain ⟨w, -, h2, h3⟩ := (asl_mem G _ 0 q).mp hq
  rw [Nat.sub_zero] at h2
  rcases ls1_get lv i v q.1 w h2 with ⟨e1, e2⟩ | ⟨e1, e2, e3⟩
  · subst e2; rw [← e1]; exact List.mem_cons.mpr (Or.inl (Prod.ext rfl h3))
  · refine List.mem_cons_of_mem _ (List.mem_filter.mpr ⟨(asl_mem G lv 0 q).mpr ⟨w, Nat.zero_le _, by simpa using e2, h3⟩, ?_⟩)
    rw [h3, cv_cat]
    simp [e1]
    by_cases h4 : q.1 + 1 = i
    · right; intro h5; exact e3 ⟨h4, h5⟩
    · left; exact h4
theorem LV.st2 {G : GG} {lv : List (Option Value)} {ls' : Array Slot} {nL i : Nat} {v : Value} (h : lv_has ls' nL ((i, cv G v) :: (asl G 0 lv).filter (fun q => !(q.1 == i) && (!(q.1 == i + 1) && !(q.1 + 1 == i && q.2.category == 2))))) : LV G (ls2 lv i v) ls' nL := by
  refine ⟨h.1, h.2.1, fun q hq => h.2.2 q ?_⟩
  obtain ⟨w, -, h2, h3⟩ := (asl_mem G _ 0 q).mp hq
  rw [Nat.sub_zero] at h2
  rcases ls2_get lv i v q.1 w h2 with ⟨e1, e2⟩ | ⟨e1, e1', e2, e3⟩
  · subst e2; rw [← e1]; exact List.mem_cons.mpr (Or.inl (Prod.ext rfl h3))
  · refine List.mem_cons_of_mem _ (List.mem_filter.mpr ⟨(asl_mem G lv 0 q).mpr ⟨w, Nat.zero_le _, by simpa using e2, h3⟩, ?_⟩)
    rw [h3, cv_cat]
    simp [e1, e1']
    by_cases h4 : q.1 + 1 = i
    · right; intro h5; exact e3 ⟨h4, h5⟩
    · left; exact h4
/-- fewer locals are known -/
def lle : List (Option Value) → List (Option Value) → Prop
  | [], _ => True
  | none :: t, [] => lle t []
  | none :: t, _ :: u => lle t u
  | some _ :: _, [] => False
  | some v :: t, o :: u => o = some v ∧ lle t u
theorem lle_get : ∀ (a b : List (Option Value)), lle a b → ∀ (i : Nat) (v : Value), lg a i = some v → lg b i = some v
  | [], b, _, i, v, h => by simp [lg] at h
  | none :: t, [], hl, i, v, h => by
    cases i with
    | zero => simp [lg] at h
    | succ i => have := lle_get t [] hl i v (by simpa [lg] using h); simp [lg] at this
  | none :: t, _ :: u, hl, i, v, h => by
    cases i with
    | zero => simp [lg] at h
    | succ i => exact lle_get t u hl i v (by simpa [lg] using h)
  | some _ :: _, [], hl, i, v, h => absurd hl id
  | some w :: t, o :: u, hl, i, v, h => by
    cases i with
    | zero => simp [lg] at h ⊢; rw [hl.1, h]
    | succ i => exact lle_get t u hl.2 i v (by simpa [lg] using h)
theorem LV.le {G : GG} {a b : List (Option Value)} {ls : Array Slot} {nL : Nat} (h : LV G b ls nL) (hl : lle a b) : LV G a ls nL := by
  refine ⟨h.1, h.2.1, fun q hq => h.2.2 q ?_⟩
  obtain ⟨w, -, h2, h3⟩ := (asl_mem G _ 0 q).mp hq
  exact (asl_mem G b 0 q).mpr ⟨w, Nat.zero_le _, lle_get a b hl _ _ h2, h3⟩
end CORE
end
section
section EVDEF
def sTX : String := "turns pays bars go latch set pass if by as times or and not kind arm many hurry gate goer day mood done latest whole park "
def sTL : Nat := 122
def sTB : List Int32 := [116, 117, 114, 110, 115, 32, 112, 97, 121, 115, 32, 98, 97, 114, 115, 32, 103, 111, 32, 108, 97, 116, 99, 104, 32, 115, 101, 116, 32, 112, 97, 115, 115, 32, 105, 102, 32, 98, 121, 32, 97, 115, 32, 116, 105, 109, 101, 115, 32, 111, 114, 32, 97, 110, 100, 32, 110, 111, 116, 32, 107, 105, 110, 100, 32, 97, 114, 109, 32, 109, 97, 110, 121, 32, 104, 117, 114, 114, 121, 32, 103, 97, 116, 101, 32, 103, 111, 101, 114, 32, 100, 97, 121, 32, 109, 111, 111, 100, 32, 100, 111, 110, 101, 32, 108, 97, 116, 101, 115, 116, 32, 119, 104, 111, 108, 101, 32, 112, 97, 114, 107, 32]
/-- the words that stay good from call to call; those of private members of nest mates apart -/
def TB : List Cond := lw_tbl.filter goodWord
theorem tbm {w : Cond} (h : w ∈ lw_tbl) (g : goodWord w = true) : w ∈ TB := List.mem_filter.mpr ⟨h, g⟩
theorem good_tb : TB.all goodWord = true := List.all_eq_true.mpr (fun w h => (List.mem_filter.mp h).2)
def NW : List Cond := [.methodLinkNest RX10 11 yX7_init "CountGates", .methodLinkNest RX10 26 yX8_init "CountGates", .methodLinkNest RX10 33 yX0_init "CountGates", .methodLinkNest RX10 40 yX4_init "CountGates", .methodLinkNest RX1 21 yX7_init "CountGates", .methodLinkNest RX6 11 yX7_init "CountGates", .methodLinkNest RX2 11 yX7_init "CountGates", .methodLinkNest RX7 78 yX10_within "CountGates", .methodLinkNest RX1 73 yX10_within "CountGates", .methodLinkNest RX6 157 yX10_within "CountGates"]
theorem NW_is : ∀ w ∈ NW, ∃ (a : String) (i : Nat) (x : MethodName) (h : String), w = .methodLinkNest a i x h := by
  intro w hw
  simp only [NW, List.mem_cons, List.not_mem_nil, or_false] at hw
  rcases hw with rfl | rfl | rfl | rfl | rfl | rfl | rfl | rfl | rfl | rfl <;> exact ⟨_, _, _, _, rfl⟩
/-! what stays: the script, the one text constant, two statics of the JDK -/
def EN (G : GG) (L : Nat) (xs : Nat → Int32) (U : State) (H : Heap) : Prop :=
  va_X G.2.1 L xs U H ∧ G.2.1 < G.1 ∧ G.1 ≤ H.size ∧ vk_R RX4 95 sTX G.2.2.1 U ∧ vk_S 1 [sTL] [sTB] (fun _ => G.2.2.1) (fun _ => G.2.2.2.1) (fun q => G.1 ≤ q) U H ∧
  va_Z "java/lang/String" "COMPACT_STRINGS" "Z" (.int 1) (fun q => G.1 ≤ q) U H ∧ (va_Z "jdk/internal/util/Preconditions" "SIOOBE_FORMATTER" "Ljava/util/function/BiFunction;" .null (fun q => G.1 ≤ q) U H ∨ va_Z "jdk/internal/util/Preconditions" "SIOOBE_FORMATTER" "Ljava/util/function/BiFunction;" (.ref G.2.2.2.2) (fun q => G.1 ≤ q) U H) ∧
  (∀ w ∈ NW, va_Nw w U) ∧ va_AO RX7 U ∧ va_AO RX9 U
theorem EN.kept {G : GG} {L : Nat} {xs : Nat → Int32} {U : State} {H H1 : Heap} (h : EN G L xs U H) (hz : H.size ≤ H1.size) (hq : ∀ a : Nat, a < H.size → ¬ G.1 ≤ a → H1[a]? = H[a]?) : EN G L xs U H1 := by
  obtain ⟨h1, h2, h3, h4, h5, h6, h7, h8, h9, h10⟩ := h
  exact ⟨h1.kept (hq _ (by omega) (by omega)), h2, by omega, h4, h5.kept hq, h6.kept hq, h7.elim (fun z => Or.inl (z.kept hq)) (fun z => Or.inr (z.kept hq)), h8, h9, h10⟩
theorem EN.moved {G : GG} {L : Nat} {xs : Nat → Int32} {s U : State} {H : Heap} (hW : s.WarmedH U.vm) (h : EN G L xs s H) : EN G L xs U H := by
  obtain ⟨h1, h2, h3, h4, h5, h6, h7, h8, h9, h10⟩ := h
  exact ⟨va_X.moved hW.alike h1, h2, h3, vk_R.warm hW h4, h5.moved hW.alike, h6.moved hW.alike, h7.elim (fun z => Or.inl (z.moved hW.alike)) (fun z => Or.inr (z.moved hW.alike)), fun w hw => by obtain ⟨a, i, x, hh, rfl⟩ := NW_is w hw; exact va_Nw.warmM hW (h8 _ hw), h9.moved hW.alike, h10.moved hW.alike⟩
theorem EN.same {G : GG} {L : Nat} {xs : Nat → Int32} {s U : State} {H : Heap} (hv : U.vm = s.vm) (h : EN G L xs s H) : EN G L xs U H := by
  obtain ⟨h1, h2, h3, h4, h5, h6, h7, h8, h9, h10⟩ := h
  have ha : s.vm.Alike U.vm := by rw [hv]; exact Vm.Alike.refl _
  exact ⟨va_X.moved ha h1, h2, h3, vk_R.same hv h4, h5.moved ha, h6.moved ha, h7.elim (fun z => Or.inl (z.moved ha)) (fun z => Or.inr (z.moved ha)), fun w hw => by obtain ⟨a, i, x, hh, rfl⟩ := NW_is w hw; exact va_Nw.same rfl hv.symm (h8 _ hw), h9.moved ha, h10.moved ha⟩
def KE (D : va_G) (cy : Nat → ClassId) (G : GG) (L : Nat) (xs : Nat → Int32) (U : State) : Prop := va_K D cls (tyl cy) U ∧ EN G L xs U U.heap
def LQ (d : Nat) : Nat := 64 * d + 64
def Cx (M : MI) (p : Program) (s : State) (m : MethodId) (args : Array Value) (meth : Method) (c : Code) (L : Nat) (xs : Nat → Int32) : Prop :=
  p.tables.exec = Jvm.exec ∧ c.code = mB M ∧ meth.sig.returnType = mR M ∧ c.maxLocals = mX M ∧ s.vm.findClass (cnm (mO M)) = some m.cls ∧ (∀ w ∈ TB, w.before args s = true) ∧ meth.locks = false ∧ meth.name = (mY M).name ∧ ∀ q, mS M = some q → q = (L, xs)
/-- the ways to end -/
def RT (M : MI) (v : Option Value) (pc : Nat) : Prop :=
  (v = none ∧ decode (mB M) pc = .ok (.return_, 1) ∧ mR M = none) ∨
  (∃ (x : Int32) (ty : FieldType), v = some (.int x) ∧ decode (mB M) pc = .ok (.ireturn, 1) ∧ mR M = some ty ∧ narrow ty (.int x) = .int x) ∨
  (∃ x : Int64, v = some (.long x) ∧ decode (mB M) pc = .ok (.lreturn, 1) ∧ mR M = some .long) ∨
  (∃ r : Option Nat, v = some (va_rf r) ∧ decode (mB M) pc = .ok (.areturn, 1) ∧ ∃ n, mR M = some (.object n))
/-- from here the method M comes to its end with an answer and a picture that Q allows; at most bc cells of bs slots are new; d frames are enough -/
def Ev (M : MI) (d bc bs : Nat) (pc : Nat) (lv : List (Option Value)) (st : List Value) (h : HP) (Q : Option Value → HP → Prop) : Prop :=
  ∀ (p : Program) (l : Launch) (e : Env) (R : Room) (s : State) (m : MethodId) (args : Array Value) (below : List Frame) (meth : Method) (c : Code) (D : va_G) (cy : Nat → ClassId) (G : GG) (L : Nat) (xs : Nat → Int32) (H : Heap) (locs : List Loc) (cells slots : Nat) (ls : Array Slot) (Z : State → Prop),
    Cx M p s m args meth c L xs → (d ≤ R.frames ∧ LQ d ≤ R.locals) → (cells + bc ≤ R.cells ∧ slots + bs ≤ R.slots) → KE D cy G L xs s → HR D cy G h H → va_S (fun q => G.1 ≤ q) s.heap H locs → LV G lv ls (mX M) →
    (∀ (v : Option Value) (h' : HP) (H' : Heap) (locs' : List Loc) (cells' slots' : Nat) (ls' : Array Slot) (pc' : Nat), RT M v pc' → Q v h' → kN h ≤ kN h' → HR D cy G h' H' → va_S (fun q => G.1 ≤ q) s.heap H' locs' → cells' ≤ cells + bc → slots' ≤ slots + bs →
      W p l e R s m args below meth c H' locs' cells' slots' Z (F0 m pc' ls' (v.toList.map (cv G)))) →
    W p l e R s m args below meth c H locs cells slots Z (F0 m pc ls (st.map (cv G)))
/-- the contract of M at these arguments and this picture -/
def Ct (M : MI) (d bc bs : Nat) (as : List Value) (h : HP) (Q : Option Value → HP → Prop) : Prop :=
  ∀ (l : Launch) (D : va_G) (cy : Nat → ClassId) (G : GG) (L : Nat) (xs : Nat → Int32),
    Met l (mY M) (.code (mY M) (mB M) (mX M) (mR M) :: TB) { frames := d, cells := bc, slots := bs, locals := LQ d } (va_Pc (as.map (cv G)) (fun U => KE D cy G L xs U ∧ HR D cy G h U.heap))
      (fun _ st oc t => ∃ (v : Option Value) (h' : HP), oc = .returned (v.map (cv G)) ∧ Q v h' ∧ kN h ≤ kN h' ∧ HR D cy G h' t.heap ∧ va_F (fun q => G.1 ≤ q) st t) bc bs (fun q => G.1 ≤ q)
theorem Ev.mono {M : MI} {d bc bs pc : Nat} {lv : List (Option Value)} {st : List Value} {h : HP} {Q Q' : Option Value → HP → Prop} (k : Ev M d bc bs pc lv st h Q) (hq : ∀ v h', Q v h' → Q' v h') : Ev M d bc bs pc lv st h Q' := by
  intro p l e R s m args below meth c D cy G L xs H locs cells slots ls Z C hd hr hK hH hS hl hZ
  exact k p l e R s m args below meth c D cy G L xs H locs cells slots ls Z C hd hr hK hH hS hl (fun v h' H' locs' cells' slots' ls' pc' a1 a2 => hZ v h' H' locs' cells' slots' ls' pc' a1 (hq v h' a2))
theorem Ev.fgt {M : MI} {d bc bs pc : Nat} {lv lv' : List (Option Value)} {st : List Value} {h : HP} {Q : Option Value → HP → Prop} (hl' : lle lv' lv) (k : Ev M d bc bs pc lv' st h Q) : Ev M d bc bs pc lv st h Q := by
  intro p l e R s m args below meth c D cy G L xs H locs cells slots ls Z C hd hr hK hH hS hl hZ
  exact k p l e R s m args below meth c D cy G L xs H locs cells slots ls Z C hd hr hK hH hS (hl.le hl') hZ
theorem Ev.ret {M : MI} {d bc bs pc : Nat} {lv : List (Option Value)} {v : Option Value} {h : HP} {Q : Option Value → HP → Prop} (hr : RT M v pc) (hq : Q v h) : Ev M d bc bs pc lv v.toList h Q := by
  intro p l e R s m args below meth c D cy G L xs H locs cells slots ls Z C hd hr' hK hH hS hl hZ
  exact hZ v h H locs cells slots ls pc hr hq (Nat.le_refl _) hH hS (by omega) (by omega)
theorem Ev.ite {M : MI} {d bc bs a b : Nat} {c : Prop} [Decidable c] {lv : List (Option Value)} {st : List Value} {h : HP} {Q : Option Value → HP → Prop} (k1 : c → Ev M d bc bs a lv st h Q) (k2 : ¬ c → Ev M d bc bs b lv st h Q) : Ev M d bc bs (if c then a else b) lv st h Q := by
  by_cases hc : c
  · rw [if_pos hc]; exact k1 hc
  · rw [if_neg hc]; exact k2 hc
/-- a step that neither reads nor writes cells or locals -/
theorem ev_of {M : MI} {d bc bs pc pc' : Nat} {lv : List (Option Value)} {st st' : List Value} {h : HP} {Q : Option Value → HP → Prop}
    (hw : ∀ {p : Program} {l : Launch} {e : Env} {R : Room} {s : State} {m : MethodId} {args : Array Value} {below : List Frame} {meth : Method} {c : Code} {H : Heap} {locs : List Loc} {cells slots : Nat} {ls : Array Slot} {Z : State → Prop} {G : GG}, p.tables.exec = Jvm.exec → c.code = mB M → LV G lv ls (mX M) →
      W p l e R s m args below meth c H locs cells slots Z (F0 m pc' ls (st'.map (cv G))) → W p l e R s m args below meth c H locs cells slots Z (F0 m pc ls (st.map (cv G))))
    (k : Ev M d bc bs pc' lv st' h Q) : Ev M d bc bs pc lv st h Q := by
  intro p l e R s m args below meth c D cy G L xs H locs cells slots ls Z C hd hr hK hH hS hl hZ
  exact hw C.1 C.2.1 hl (k p l e R s m args below meth c D cy G L xs H locs cells slots ls Z C hd hr hK hH hS hl hZ)
/-- a step with all that the machine's side has: for loads, stores, fields -/
theorem ev_full {M : MI} {d bc bs pc pc' : Nat} {lv lv' : List (Option Value)} {st st' : List Value} {h h1 : HP} {Q : Option Value → HP → Prop} (hn : kN h ≤ kN h1)
    (hw : ∀ {p : Program} {l : Launch} {e : Env} {R : Room} {s : State} {m : MethodId} {args : Array Value} {below : List Frame} {meth : Method} {c : Code} {D : va_G} {cy : Nat → ClassId} {G : GG} {L : Nat} {xs : Nat → Int32} {H : Heap} {locs : List Loc} {cells slots : Nat} {ls : Array Slot} {Z : State → Prop},
      Cx M p s m args meth c L xs → (d ≤ R.frames ∧ LQ d ≤ R.locals) → (cells + bc ≤ R.cells ∧ slots + bs ≤ R.slots) → KE D cy G L xs s → HR D cy G h H → va_S (fun q => G.1 ≤ q) s.heap H locs → LV G lv ls (mX M) →
      (∀ (H1 : Heap) (locs1 : List Loc) (ls1 : Array Slot), HR D cy G h1 H1 → va_S (fun q => G.1 ≤ q) s.heap H1 locs1 → LV G lv' ls1 (mX M) → W p l e R s m args below meth c H1 locs1 cells slots Z (F0 m pc' ls1 (st'.map (cv G)))) →
      W p l e R s m args below meth c H locs cells slots Z (F0 m pc ls (st.map (cv G))))
    (k : Ev M d bc bs pc' lv' st' h1 Q) : Ev M d bc bs pc lv st h Q := by
  intro p l e R s m args below meth c D cy G L xs H locs cells slots ls Z C hd hr hK hH hS hl hZ
  refine hw C hd hr hK hH hS hl (fun H1 locs1 ls1 hH1 hS1 hl1 => ?_)
  exact k p l e R s m args below meth c D cy G L xs H1 locs1 cells slots ls1 Z C hd hr hK hH1 hS1 hl1 (fun v h' H' locs' cells' slots' ls' pc' a1 a2 a3 => hZ v h' H' locs' cells' slots' ls' pc' a1 a2 (Nat.le_trans hn a3))
/-- the same, where a cell of n slots is made -/
theorem ev_made {M : MI} {d bc bs n pc pc' : Nat} {lv : List (Option Value)} {st st' : List Value} {h h1 : HP} {Q : Option Value → HP → Prop} (hn : kN h ≤ kN h1)
    (hw : ∀ {p : Program} {l : Launch} {e : Env} {R : Room} {s : State} {m : MethodId} {args : Array Value} {below : List Frame} {meth : Method} {c : Code} {D : va_G} {cy : Nat → ClassId} {G : GG} {L : Nat} {xs : Nat → Int32} {H : Heap} {locs : List Loc} {cells slots : Nat} {ls : Array Slot} {Z : State → Prop},
      Cx M p s m args meth c L xs → (cells + 1 ≤ R.cells ∧ slots + n ≤ R.slots) → KE D cy G L xs s → HR D cy G h H → va_S (fun q => G.1 ≤ q) s.heap H locs →
      (∀ (H1 : Heap), HR D cy G h1 H1 → va_S (fun q => G.1 ≤ q) s.heap H1 locs → W p l e R s m args below meth c H1 locs (cells + 1) (slots + n) Z (F0 m pc' ls (st'.map (cv G)))) →
      W p l e R s m args below meth c H locs cells slots Z (F0 m pc ls (st.map (cv G))))
    (k : Ev M d bc bs pc' lv st' h1 Q) : Ev M d (bc + 1) (bs + n) pc lv st h Q := by
  intro p l e R s m args below meth c D cy G L xs H locs cells slots ls Z C hd hr hK hH hS hl hZ
  refine hw C ⟨by omega, by omega⟩ hK hH hS (fun H1 hH1 hS1 => ?_)
  exact k p l e R s m args below meth c D cy G L xs H1 locs (cells + 1) (slots + n) ls Z C hd ⟨by omega, by omega⟩ hK hH1 hS1 hl (fun v h' H' locs' cells' slots' ls' pc' a1 a2 a3 a4 a5 a6 a7 => hZ v h' H' locs' cells' slots' ls' pc' a1 a2 (Nat.le_trans hn a3) a4 a5 (by omega) (by omega))
theorem lg_cv (G : GG) : ∀ as : List Value, (lg_sl (as.map (cv G))).length = (lg_sl as).length
  | [] => rfl
  | a :: t => by
    have ih := lg_cv G t
    simp only [lg_sl, List.map_cons, List.flatMap_cons, List.length_append, cv_cat] at ih ⊢
    rw [ih]
    split <;> rfl
/-- a method's contract out of a walk from its entry -/
theorem Ct.of {M : MI} {d bc bs : Nat} {as : List Value} {h : HP} {Q : Option Value → HP → Prop} (hsc : mS M = none) (hy : plainName (mY M).cls = true) (hcn : cnm (mO M) = (mY M).cls) (hlen : (lg_sl as).length ≤ mX M) {lv : List (Option Value)} (hlv : ∀ G : GG, asl G 0 lv = lv_args 0 (as.map (cv G)))
    (k : Ev M d bc bs 0 lv [] h Q) : Ct M d bc bs as h Q := by
  intro l D cy G L xs
  refine Met.ofW (cc := mB M) (maxL := mX M) (ret := mR M) hy rfl ?_
  intro p e s m args below meth c s₁ B hml hv
  obtain ⟨rfl, hK, hH⟩ := hv
  have hts : ∀ w ∈ (Cond.code (mY M) (mB M) (mX M) (mR M) :: TB), w.before _ s = true := atoms_spec B.pre
  have hown := findClass_of_methodNamed B.named
  have hname : meth.name = (mY M).name := (name_of_methodNamed B.named B.method).1
  have hlg : (lg_sl (as.map (cv G))).length = (lg_sl as).length := lg_cv G as
  have hl := lv_entry (as.map (cv G)) (n := mX M) (by rw [hlg]; exact hlen)
  rw [lg_entry_eq]
  generalize (lg_sl (as.map (cv G)) ++ List.replicate (mX M - (lg_sl (as.map (cv G))).length) Slot.unset).toArray = ls at hl ⊢
  have hl' : LV G lv ls (mX M) := by unfold LV; rw [hlv G]; exact hl
  refine k p l e _ s m _ below meth c D cy G L xs s.heap [] 0 0 ls _ ⟨B.exec, B.bytes, B.returns, hml, by rw [hcn]; exact hown, fun w hw => hts w (List.mem_cons_of_mem _ hw), B.notSynchronized, hname, fun q hq => by rw [hsc] at hq; cases hq⟩ ⟨Nat.le_refl _, Nat.le_refl _⟩ ⟨by show 0 + bc ≤ bc; omega, by show 0 + bs ≤ bs; omega⟩ hK hH va_S.rf hl' ?_
  intro v h' H' locs' cells' slots' ls' pc' hr hq hn hH' hS' hc' hs'
  refine W.widen (k := bc) (n := bs) (by omega) (by omega) ?_
  have hf : ∀ q ∈ locs', (fun q => G.1 ≤ q) q.base := hS'.2.2
  rcases hr with ⟨rfl, hd, hr⟩ | ⟨x, ty, rfl, hd, hr, hx⟩ | ⟨x, rfl, hd, hr⟩ | ⟨r, rfl, hd, n, hr⟩
  · exact W.vret B.exec B.bytes (by rw [B.returns]; exact hr) (fun t ht hW => ⟨none, h', rfl, hq, hn, by rw [ht]; exact hH', hS'.F ht⟩) hf hd B.notSynchronized
  · exact W.zret B.exec B.bytes (by rw [B.returns]; exact hr) hx (fun t ht hW => ⟨some (.int x), h', rfl, hq, hn, by rw [ht]; exact hH', hS'.F ht⟩) hf hd B.notSynchronized
  · exact W.lret B.exec B.bytes (by rw [B.returns]; exact hr) (fun t ht hW => ⟨some (.long x), h', rfl, hq, hn, by rw [ht]; exact hH', hS'.F ht⟩) hf hd B.notSynchronized
  · have e : cv G (va_rf r) = va_rf (r.map (ro G)) := cv_rf G r
    show W _ _ _ _ _ _ _ _ _ _ _ _ _ _ _ (F0 m pc' ls' [cv G (va_rf r)])
    refine W.aret B.exec B.bytes (by rw [B.returns]; exact hr) (Or.inl ⟨n, rfl⟩) ?_ (fun t ht hW => ⟨some (va_rf r), h', rfl, hq, hn, by rw [ht]; exact hH', hS'.F ht⟩) hf hd B.notSynchronized
    cases r with
    | none => exact Or.inl rfl
    | some a => exact Or.inr ⟨_, rfl⟩
end EVDEF
end
section
section LINKS
theorem tm {w : Cond} (i : Nat) (h : tables_1[i]? = some w) (g : goodWord w = true := by rfl) : w ∈ TB := tbm (List.mem_append_right _ (List.mem_of_getElem? h)) g
def tO (ci : Nat) : u_T := match ci with
  | 0 => TX0
  | 1 => TX1
  | 2 => TX2
  | 3 => TX3
  | 4 => TX4
  | 5 => TX5
  | 6 => TX6
  | 7 => TX7
  | 8 => TX8
  | 9 => TX9
  | 10 => TX10
  | _ => TX11
theorem iwX0 : ∀ w ∈ u_ws RX0 TX0 3, w ∈ TB := by
  have h1 : ∀ w ∈ u_ws RX0 TX0 3, w ∈ tables_1 := by decide +kernel
  have h2 : (u_ws RX0 TX0 3).all goodWord = true := by decide +kernel
  exact fun w hw => tbm (List.mem_append_right _ (h1 w hw)) (List.all_eq_true.mp h2 w hw)
theorem iwX1 : ∀ w ∈ u_ws RX1 TX1 7, w ∈ TB := by
  have h1 : ∀ w ∈ u_ws RX1 TX1 7, w ∈ tables_1 := by decide +kernel
  have h2 : (u_ws RX1 TX1 7).all goodWord = true := by decide +kernel
  exact fun w hw => tbm (List.mem_append_right _ (h1 w hw)) (List.all_eq_true.mp h2 w hw)
theorem iwX2 : ∀ w ∈ u_ws RX2 TX2 3, w ∈ TB := by
  have h1 : ∀ w ∈ u_ws RX2 TX2 3, w ∈ tables_1 := by decide +kernel
  have h2 : (u_ws RX2 TX2 3).all goodWord = true := by decide +kernel
  exact fun w hw => tbm (List.mem_append_right _ (h1 w hw)) (List.all_eq_true.mp h2 w hw)
theorem iwX3 : ∀ w ∈ u_ws RX3 TX3 3, w ∈ TB := by
  have h1 : ∀ w ∈ u_ws RX3 TX3 3, w ∈ tables_1 := by decide +kernel
  have h2 : (u_ws RX3 TX3 3).all goodWord = true := by decide +kernel
  exact fun w hw => tbm (List.mem_append_right _ (h1 w hw)) (List.all_eq_true.mp h2 w hw)
theorem iwX4 : ∀ w ∈ u_ws RX4 TX4 9, w ∈ TB := by
  have h1 : ∀ w ∈ u_ws RX4 TX4 9, w ∈ tables_1 := by decide +kernel
  have h2 : (u_ws RX4 TX4 9).all goodWord = true := by decide +kernel
  exact fun w hw => tbm (List.mem_append_right _ (h1 w hw)) (List.all_eq_true.mp h2 w hw)
theorem iwX5 : ∀ w ∈ u_ws RX5 TX5 6, w ∈ TB := by
  have h1 : ∀ w ∈ u_ws RX5 TX5 6, w ∈ tables_1 := by decide +kernel
  have h2 : (u_ws RX5 TX5 6).all goodWord = true := by decide +kernel
  exact fun w hw => tbm (List.mem_append_right _ (h1 w hw)) (List.all_eq_true.mp h2 w hw)
theorem iwX6 : ∀ w ∈ u_ws RX6 TX6 13, w ∈ TB := by
  have h1 : ∀ w ∈ u_ws RX6 TX6 13, w ∈ tables_1 := by decide +kernel
  have h2 : (u_ws RX6 TX6 13).all goodWord = true := by decide +kernel
  exact fun w hw => tbm (List.mem_append_right _ (h1 w hw)) (List.all_eq_true.mp h2 w hw)
theorem iwX7 : ∀ w ∈ u_ws RX7 TX7 19, w ∈ TB := by
  have h1 : ∀ w ∈ u_ws RX7 TX7 19, w ∈ tables_1 := by decide +kernel
  have h2 : (u_ws RX7 TX7 19).all goodWord = true := by decide +kernel
  exact fun w hw => tbm (List.mem_append_right _ (h1 w hw)) (List.all_eq_true.mp h2 w hw)
theorem iwX8 : ∀ w ∈ u_ws RX8 TX8 2, w ∈ TB := by
  have h1 : ∀ w ∈ u_ws RX8 TX8 2, w ∈ tables_1 := by decide +kernel
  have h2 : (u_ws RX8 TX8 2).all goodWord = true := by decide +kernel
  exact fun w hw => tbm (List.mem_append_right _ (h1 w hw)) (List.all_eq_true.mp h2 w hw)
theorem iwX9 : ∀ w ∈ u_ws RX9 TX9 6, w ∈ TB := by
  have h1 : ∀ w ∈ u_ws RX9 TX9 6, w ∈ tables_1 := by decide +kernel
  have h2 : (u_ws RX9 TX9 6).all goodWord = true := by decide +kernel
  exact fun w hw => tbm (List.mem_append_right _ (h1 w hw)) (List.all_eq_true.mp h2 w hw)
theorem iwX10 : ∀ w ∈ u_ws RX10 TX10 16, w ∈ TB := by
  have h1 : ∀ w ∈ u_ws RX10 TX10 16, w ∈ tables_1 := by decide +kernel
  have h2 : (u_ws RX10 TX10 16).all goodWord = true := by decide +kernel
  exact fun w hw => tbm (List.mem_append_right _ (h1 w hw)) (List.all_eq_true.mp h2 w hw)
theorem iwX11 : ∀ w ∈ u_ws RX11 TX11 53, w ∈ TB := by
  have h1 : ∀ w ∈ u_ws RX11 TX11 53, w ∈ tables_1 := by decide +kernel
  have h2 : (u_ws RX11 TX11 53).all goodWord = true := by decide +kernel
  exact fun w hw => tbm (List.mem_append_right _ (h1 w hw)) (List.all_eq_true.mp h2 w hw)
theorem cls_at : ∀ ci, ci < 12 → cls[ci]? = some (cnm ci, tO ci, nF ci) ∧ (∀ w ∈ u_ws (cnm ci) (tO ci) (nF ci), w ∈ TB) ∧ (∀ k, k < nF ci → parseFieldDescriptor (tO ci k).2.2.1 = some (tyO ci k)) ∧ (∀ a, a < nF ci → ∀ b, b < nF ci → a ≠ b → (tO ci a).2.1 ≠ (tO ci b).2.1)
  | 0, _ => ⟨rfl, iwX0, tyX0_ok, nmX0⟩
  | 1, _ => ⟨rfl, iwX1, tyX1_ok, nmX1⟩
  | 2, _ => ⟨rfl, iwX2, tyX2_ok, nmX2⟩
  | 3, _ => ⟨rfl, iwX3, tyX3_ok, nmX3⟩
  | 4, _ => ⟨rfl, iwX4, tyX4_ok, nmX4⟩
  | 5, _ => ⟨rfl, iwX5, tyX5_ok, nmX5⟩
  | 6, _ => ⟨rfl, iwX6, tyX6_ok, nmX6⟩
  | 7, _ => ⟨rfl, iwX7, tyX7_ok, nmX7⟩
  | 8, _ => ⟨rfl, iwX8, tyX8_ok, nmX8⟩
  | 9, _ => ⟨rfl, iwX9, tyX9_ok, nmX9⟩
  | 10, _ => ⟨rfl, iwX10, tyX10_ok, nmX10⟩
  | 11, _ => ⟨rfl, iwX11, tyX11_ok, nmX11⟩
  | k + 12, h => absurd h (by omega)
theorem cls_own : ∀ ci, ci < 12 → ∀ k, k < nF ci → (tO ci k).1 = cnm ci := by decide +kernel
def fd3 : List (Nat × Nat × Nat) → Nat → Option (Nat × Nat)
  | [], _ => none
  | q :: t, i => bif Nat.beq q.1 i then some q.2 else fd3 t i
theorem fd3_mem : ∀ (l : List (Nat × Nat × Nat)) (i : Nat) (q : Nat × Nat), fd3 l i = some q → (i, q) ∈ l
  | [], i, q, h => by simp [fd3] at h
  | p :: t, i, q, h => by
    cases hb : Nat.beq p.1 i with
    | true =>
      simp [fd3, hb] at h
      have := Nat.eq_of_beq_eq_true hb
      subst h; subst this
      exact List.mem_cons_self
    | false => exact List.mem_cons_of_mem _ (fd3_mem t i q (by simpa [fd3, hb] using h))
def fL0 : List (Nat × Nat × Nat) := [(90, 7, 0), (73, 7, 1), (97, 7, 2), (21, 7, 3), (26, 7, 4), (76, 7, 5), (70, 7, 7), (80, 7, 8), (33, 7, 9), (100, 7, 10), (36, 7, 15), (9, 0, 0), (15, 0, 1), (18, 0, 2), (44, 9, 0), (50, 9, 2)]
def fP0 : List Nat := [39, 44, 48, 51, 54, 62, 71, 79, 82, 88, 100, 174, 175, 176, 198, 204]
set_option maxRecDepth 20000 in
theorem fL0_ok : ∀ q ∈ fL0, q.2.1 < 12 ∧ q.2.2 < nF q.2.1 ∧ Cond.fieldLink (cnm 0) q.1 (cnm q.2.1) (tO q.2.1 q.2.2).2.1 (tO q.2.1 q.2.2).2.2.1 ∈ tables_1 := by decide +kernel
def fL1 : List (Nat × Nat × Nat) := [(77, 7, 4), (69, 7, 5), (52, 7, 7), (55, 7, 8), (58, 7, 10), (80, 7, 15), (9, 1, 0), (15, 1, 1), (32, 1, 2), (35, 1, 3), (22, 1, 4), (26, 1, 5), (29, 1, 6)]
def fP1 : List Nat := [57, 60, 68, 75, 85, 102, 263, 265, 266, 267, 268, 269, 270]
set_option maxRecDepth 20000 in
theorem fL1_ok : ∀ q ∈ fL1, q.2.1 < 12 ∧ q.2.2 < nF q.2.1 ∧ Cond.fieldLink (cnm 1) q.1 (cnm q.2.1) (tO q.2.1 q.2.2).2.1 (tO q.2.1 q.2.2).2.2.1 ∈ tables_1 := by decide +kernel
def fL2 : List (Nat × Nat × Nat) := [(41, 7, 0), (34, 7, 6), (62, 7, 7), (65, 7, 8), (68, 7, 10), (30, 7, 15), (12, 2, 0), (22, 2, 1), (18, 2, 2)]
def fP2 : List Nat := [38, 65, 69, 76, 86, 99, 385, 386, 387]
set_option maxRecDepth 20000 in
theorem fL2_ok : ∀ q ∈ fL2, q.2.1 < 12 ∧ q.2.2 < nF q.2.1 ∧ Cond.fieldLink (cnm 2) q.1 (cnm q.2.1) (tO q.2.1 q.2.2).2.1 (tO q.2.1 q.2.2).2.2.1 ∈ tables_1 := by decide +kernel
def fL3 : List (Nat × Nat × Nat) := [(33, 7, 11), (39, 7, 12), (42, 7, 13), (49, 7, 14), (19, 3, 0), (9, 3, 1), (15, 3, 2)]
def fP3 : List Nat := [90, 93, 95, 97, 367, 368, 369]
set_option maxRecDepth 20000 in
theorem fL3_ok : ∀ q ∈ fL3, q.2.1 < 12 ∧ q.2.2 < nF q.2.1 ∧ Cond.fieldLink (cnm 3) q.1 (cnm q.2.1) (tO q.2.1 q.2.2).2.1 (tO q.2.1 q.2.2).2.2.1 ∈ tables_1 := by decide +kernel
def fL4 : List (Nat × Nat × Nat) := [(70, 8, 0), (65, 8, 1), (105, 9, 0), (117, 9, 1), (108, 9, 2), (111, 9, 3), (114, 9, 4), (14, 4, 0), (20, 4, 1), (24, 4, 2), (28, 4, 3), (31, 4, 4), (34, 4, 5), (37, 4, 6), (40, 4, 7), (43, 4, 8)]
def fP4 : List Nat := [159, 161, 199, 201, 205, 208, 210, 225, 227, 229, 230, 231, 232, 233, 234, 235]
set_option maxRecDepth 20000 in
theorem fL4_ok : ∀ q ∈ fL4, q.2.1 < 12 ∧ q.2.2 < nF q.2.1 ∧ Cond.fieldLink (cnm 4) q.1 (cnm q.2.1) (tO q.2.1 q.2.2).2.1 (tO q.2.1 q.2.2).2.2.1 ∈ tables_1 := by decide +kernel
def fL5 : List (Nat × Nat × Nat) := [(95, 7, 4), (89, 7, 7), (86, 7, 8), (77, 7, 15), (33, 9, 0), (57, 9, 2), (38, 9, 3), (9, 5, 0), (15, 5, 1), (25, 5, 2), (29, 5, 3), (18, 5, 4), (22, 5, 5)]
def fP5 : List Nat := [58, 70, 77, 101, 197, 203, 207, 292, 294, 295, 296, 297, 298]
set_option maxRecDepth 20000 in
theorem fL5_ok : ∀ q ∈ fL5, q.2.1 < 12 ∧ q.2.2 < nF q.2.1 ∧ Cond.fieldLink (cnm 5) q.1 (cnm q.2.1) (tO q.2.1 q.2.2).2.1 (tO q.2.1 q.2.2).2.2.1 ∈ tables_1 := by decide +kernel
def fL6 : List (Nat × Nat × Nat) := [(108, 7, 0), (80, 7, 1), (97, 7, 2), (71, 7, 4), (83, 7, 5), (74, 7, 7), (77, 7, 8), (68, 7, 18), (12, 6, 0), (54, 6, 1), (18, 6, 2), (22, 6, 3), (26, 6, 4), (29, 6, 5), (32, 6, 6), (35, 6, 7), (38, 6, 8), (41, 6, 9), (44, 6, 10), (47, 6, 11), (51, 6, 12)]
def fP6 : List Nat := [40, 45, 49, 56, 63, 72, 78, 108, 320, 321, 322, 323, 324, 325, 326, 327, 328, 329, 330, 331, 332]
set_option maxRecDepth 20000 in
theorem fL6_ok : ∀ q ∈ fL6, q.2.1 < 12 ∧ q.2.2 < nF q.2.1 ∧ Cond.fieldLink (cnm 6) q.1 (cnm q.2.1) (tO q.2.1 q.2.2).2.1 (tO q.2.1 q.2.2).2.2.1 ∈ tables_1 := by decide +kernel
def fL7 : List (Nat × Nat × Nat) := [(9, 7, 0), (15, 7, 1), (19, 7, 2), (22, 7, 3), (25, 7, 4), (28, 7, 5), (32, 7, 6), (35, 7, 7), (38, 7, 8), (41, 7, 9), (44, 7, 10), (47, 7, 11), (50, 7, 12), (53, 7, 13), (56, 7, 14), (59, 7, 15), (62, 7, 16), (67, 7, 17), (71, 7, 18)]
def fP7 : List Nat := [37, 42, 46, 50, 53, 59, 64, 67, 74, 81, 84, 89, 92, 94, 96, 98, 104, 106, 107]
set_option maxRecDepth 20000 in
theorem fL7_ok : ∀ q ∈ fL7, q.2.1 < 12 ∧ q.2.2 < nF q.2.1 ∧ Cond.fieldLink (cnm 7) q.1 (cnm q.2.1) (tO q.2.1 q.2.2).2.1 (tO q.2.1 q.2.2).2.2.1 ∈ tables_1 := by decide +kernel
def fL8 : List (Nat × Nat × Nat) := [(9, 8, 0), (15, 8, 1)]
def fP8 : List Nat := [158, 160]
set_option maxRecDepth 20000 in
theorem fL8_ok : ∀ q ∈ fL8, q.2.1 < 12 ∧ q.2.2 < nF q.2.1 ∧ Cond.fieldLink (cnm 8) q.1 (cnm q.2.1) (tO q.2.1 q.2.2).2.1 (tO q.2.1 q.2.2).2.2.1 ∈ tables_1 := by decide +kernel
def fL9 : List (Nat × Nat × Nat) := [(9, 9, 0), (15, 9, 1), (18, 9, 2), (22, 9, 3), (25, 9, 4), (28, 9, 5)]
def fP9 : List Nat := [196, 200, 202, 206, 209, 211]
set_option maxRecDepth 20000 in
theorem fL9_ok : ∀ q ∈ fL9, q.2.1 < 12 ∧ q.2.2 < nF q.2.1 ∧ Cond.fieldLink (cnm 9) q.1 (cnm q.2.1) (tO q.2.1 q.2.2).2.1 (tO q.2.1 q.2.2).2.2.1 ∈ tables_1 := by decide +kernel
def fL10 : List (Nat × Nat × Nat) := [(329, 7, 0), (115, 7, 1), (118, 7, 2), (121, 7, 3), (124, 7, 4), (127, 7, 5), (326, 7, 6), (137, 7, 7), (140, 7, 8), (143, 7, 9), (146, 7, 10), (303, 7, 11), (314, 7, 15), (186, 7, 16), (222, 7, 18), (175, 8, 1), (193, 4, 0), (357, 4, 1), (345, 1, 0), (216, 5, 0), (12, 10, 0), (16, 10, 1), (20, 10, 2), (27, 10, 3), (34, 10, 4), (41, 10, 5), (50, 10, 6), (59, 10, 7), (68, 10, 8), (75, 10, 9), (82, 10, 10), (86, 10, 11), (90, 10, 12), (94, 10, 13), (97, 10, 14), (100, 10, 15)]
def fP10 : List Nat := [41, 43, 47, 52, 55, 61, 66, 73, 80, 83, 87, 91, 103, 105, 109, 162, 226, 228, 264, 293, 395, 396, 397, 398, 399, 400, 401, 402, 403, 404, 405, 406, 407, 408, 409, 410]
set_option maxRecDepth 20000 in
theorem fL10_ok : ∀ q ∈ fL10, q.2.1 < 12 ∧ q.2.2 < nF q.2.1 ∧ Cond.fieldLink (cnm 10) q.1 (cnm q.2.1) (tO q.2.1 q.2.2).2.1 (tO q.2.1 q.2.2).2.2.1 ∈ tables_1 := by decide +kernel
def fL11 : List (Nat × Nat × Nat) := [(3, 11, 0), (7, 11, 1), (28, 11, 2), (31, 11, 3), (34, 11, 4), (38, 11, 5), (182, 11, 6), (41, 11, 7), (260, 11, 8), (263, 11, 9), (234, 11, 10), (45, 11, 11), (48, 11, 12), (179, 11, 13), (51, 11, 14), (54, 11, 15), (57, 11, 16), (60, 11, 17), (185, 11, 18), (205, 11, 19), (214, 11, 20), (199, 11, 21), (291, 11, 22), (288, 11, 23), (301, 11, 24), (321, 11, 25), (63, 11, 26), (327, 11, 27), (330, 11, 28), (66, 11, 29), (69, 11, 30), (11, 11, 31), (72, 11, 32), (75, 11, 33), (78, 11, 34), (81, 11, 35), (84, 11, 36), (87, 11, 37), (91, 11, 38), (94, 11, 39), (97, 11, 40), (100, 11, 41), (103, 11, 42), (106, 11, 43), (463, 11, 44), (478, 11, 45), (472, 11, 46), (475, 11, 47), (481, 11, 48), (109, 11, 49), (112, 11, 50), (115, 11, 51), (499, 11, 52)]
def fP11 : List Nat := [1134, 1135, 1136, 1137, 1138, 1139, 1140, 1141, 1142, 1143, 1144, 1145, 1146, 1147, 1148, 1149, 1150, 1151, 1152, 1153, 1154, 1155, 1156, 1157, 1158, 1159, 1160, 1161, 1162, 1163, 1164, 1165, 1166, 1167, 1168, 1169, 1170, 1171, 1172, 1173, 1174, 1175, 1176, 1177, 1178, 1179, 1180, 1181, 1182, 1183, 1184, 1185, 1186]
set_option maxRecDepth 20000 in
theorem fL11_ok : ∀ q ∈ fL11, q.2.1 < 12 ∧ q.2.2 < nF q.2.1 ∧ Cond.fieldLink (cnm 11) q.1 (cnm q.2.1) (tO q.2.1 q.2.2).2.1 (tO q.2.1 q.2.2).2.2.1 ∈ tables_1 := by decide +kernel
def flT (oc : Nat) : List (Nat × Nat × Nat) := match oc with
  | 0 => fL0
  | 1 => fL1
  | 2 => fL2
  | 3 => fL3
  | 4 => fL4
  | 5 => fL5
  | 6 => fL6
  | 7 => fL7
  | 8 => fL8
  | 9 => fL9
  | 10 => fL10
  | 11 => fL11
  | _ => []
theorem flk_ok {oc idx ci k : Nat} (h : fd3 (flT oc) idx = some (ci, k)) : ci < 12 ∧ k < nF ci ∧ Cond.fieldLink (cnm oc) idx (cnm ci) (tO ci k).2.1 (tO ci k).2.2.1 ∈ TB := by
  have hm := fd3_mem _ _ _ h
  have key : ∀ oc, ∀ q ∈ flT oc, q.2.1 < 12 ∧ q.2.2 < nF q.2.1 ∧ Cond.fieldLink (cnm oc) q.1 (cnm q.2.1) (tO q.2.1 q.2.2).2.1 (tO q.2.1 q.2.2).2.2.1 ∈ tables_1 := by
    intro oc q hq
    match oc, hq with
    | 0, hq => exact fL0_ok q hq
    | 1, hq => exact fL1_ok q hq
    | 2, hq => exact fL2_ok q hq
    | 3, hq => exact fL3_ok q hq
    | 4, hq => exact fL4_ok q hq
    | 5, hq => exact fL5_ok q hq
    | 6, hq => exact fL6_ok q hq
    | 7, hq => exact fL7_ok q hq
    | 8, hq => exact fL8_ok q hq
    | 9, hq => exact fL9_ok q hq
    | 10, hq => exact fL10_ok q hq
    | 11, hq => exact fL11_ok q hq
    | k + 12, hq => exact absurd hq List.not_mem_nil
  have h3 := key oc _ hm
  exact ⟨h3.1, h3.2.1, tbm (List.mem_append_right _ h3.2.2) rfl⟩
def ldk (oc idx : Nat) : Option Int32 := match oc, idx with
  | 0, 39 => some (-2000000000)
  | 2, 61 => some (1000003)
  | 5, 56 => some (-2000000000)
  | 9, 46 => some (-2000000000)
  | 10, 325 => some (1000001)
  | 11, 198 => some (1000000)
  | 13, 265 => some (1431655765)
  | 13, 266 => some (858993459)
  | 13, 267 => some (252645135)
  | _, _ => none
theorem ldk_ok {oc idx : Nat} {v : Int32} (h : ldk oc idx = some v) : Cond.constant (cnm oc) idx v ∈ TB := by
  unfold ldk at h
  split at h
  · cases h; exact tm 510 (by decide +kernel)
  · cases h; exact tm 1094 (by decide +kernel)
  · cases h; exact tm 785 (by decide +kernel)
  · cases h; exact tm 528 (by decide +kernel)
  · cases h; exact tm 1084 (by decide +kernel)
  · cases h; exact tm 1505 (by decide +kernel)
  · cases h; exact tm 994 (by decide +kernel)
  · cases h; exact tm 995 (by decide +kernel)
  · cases h; exact tm 996 (by decide +kernel)
  · cases h
def ldk2 (oc idx : Nat) : Option Int64 := match oc, idx with
  | 3, 72 => some (1000000000000)
  | 3, 74 => some (10)
  | 9, 54 => some (-1000000000)
  | 9, 56 => some (1000000000)
  | 10, 264 => some (-1)
  | 10, 274 => some (1000000000000)
  | 11, 297 => some (1000000000)
  | 11, 299 => some (-1000000000)
  | 11, 421 => some (-1)
  | 11, 435 => some (1000000000000)
  | 11, 458 => some (10)
  | 11, 484 => some (1000000)
  | 11, 497 => some (1103)
  | 11, 502 => some (12345)
  | 11, 504 => some (1000003)
  | _, _ => none
theorem ldk2_ok {oc idx : Nat} {v : Int64} (h : ldk2 oc idx = some v) : Cond.constantLong (cnm oc) idx v ∈ TB := by
  unfold ldk2 at h
  split at h
  · cases h; exact tm 1070 (by decide +kernel)
  · cases h; exact tm 1071 (by decide +kernel)
  · cases h; exact tm 535 (by decide +kernel)
  · cases h; exact tm 536 (by decide +kernel)
  · cases h; exact tm 940 (by decide +kernel)
  · cases h; exact tm 961 (by decide +kernel)
  · cases h; exact tm 1420 (by decide +kernel)
  · cases h; exact tm 1421 (by decide +kernel)
  · cases h; exact tm 1699 (by decide +kernel)
  · cases h; exact tm 1720 (by decide +kernel)
  · cases h; exact tm 1781 (by decide +kernel)
  · cases h; exact tm 1809 (by decide +kernel)
  · cases h; exact tm 1822 (by decide +kernel)
  · cases h; exact tm 1823 (by decide +kernel)
  · cases h; exact tm 1824 (by decide +kernel)
  · cases h
def clk (oc idx : Nat) : Option Nat := match oc, idx with
  | 1, 19 => some 7
  | 2, 9 => some 7
  | 4, 9 => some 9
  | 6, 9 => some 7
  | 7, 65 => some 9
  | 9, 10 => some 9
  | 10, 9 => some 7
  | 10, 24 => some 8
  | 10, 31 => some 0
  | 10, 38 => some 4
  | 10, 45 => some 1
  | 10, 54 => some 5
  | 10, 63 => some 6
  | 10, 72 => some 3
  | 10, 79 => some 2
  | 12, 7 => some 10
  | 12, 10 => some 11
  | _, _ => none
theorem clk_ok {oc idx ci : Nat} (h : clk oc idx = some ci) : ci < 12 ∧ Cond.classLink (cnm oc) idx (cnm ci) ∈ TB := by
  unfold clk at h
  split at h
  · cases h; exact ⟨by decide, tm 261 (by decide +kernel)⟩
  · cases h; exact ⟨by decide, tm 383 (by decide +kernel)⟩
  · cases h; exact ⟨by decide, tm 190 (by decide +kernel)⟩
  · cases h; exact ⟨by decide, tm 318 (by decide +kernel)⟩
  · cases h; exact ⟨by decide, tm 35 (by decide +kernel)⟩
  · cases h; exact ⟨by decide, tm 746 (by decide +kernel)⟩
  · cases h; exact ⟨by decide, tm 29 (by decide +kernel)⟩
  · cases h; exact ⟨by decide, tm 152 (by decide +kernel)⟩
  · cases h; exact ⟨by decide, tm 168 (by decide +kernel)⟩
  · cases h; exact ⟨by decide, tm 184 (by decide +kernel)⟩
  · cases h; exact ⟨by decide, tm 255 (by decide +kernel)⟩
  · cases h; exact ⟨by decide, tm 286 (by decide +kernel)⟩
  · cases h; exact ⟨by decide, tm 312 (by decide +kernel)⟩
  · cases h; exact ⟨by decide, tm 361 (by decide +kernel)⟩
  · cases h; exact ⟨by decide, tm 377 (by decide +kernel)⟩
  · cases h; exact ⟨by decide, tm 21 (by decide +kernel)⟩
  · cases h; exact ⟨by decide, tm 1128 (by decide +kernel)⟩
  · cases h
theorem ini_ok : ∀ ci, ci < 12 → Cond.initialized (cnm ci) ∈ TB ∧ Cond.instantiable (cnm ci) (nF ci) ∈ TB
  | 0, _ => ⟨tm 4 (by decide +kernel), tm 169 (by decide +kernel)⟩
  | 1, _ => ⟨tm 7 (by decide +kernel), tm 256 (by decide +kernel)⟩
  | 2, _ => ⟨tm 11 (by decide +kernel), tm 378 (by decide +kernel)⟩
  | 3, _ => ⟨tm 10 (by decide +kernel), tm 362 (by decide +kernel)⟩
  | 4, _ => ⟨tm 5 (by decide +kernel), tm 185 (by decide +kernel)⟩
  | 5, _ => ⟨tm 8 (by decide +kernel), tm 287 (by decide +kernel)⟩
  | 6, _ => ⟨tm 9 (by decide +kernel), tm 313 (by decide +kernel)⟩
  | 7, _ => ⟨tm 2 (by decide +kernel), tm 30 (by decide +kernel)⟩
  | 8, _ => ⟨tm 3 (by decide +kernel), tm 153 (by decide +kernel)⟩
  | 9, _ => ⟨tm 6 (by decide +kernel), tm 191 (by decide +kernel)⟩
  | 10, _ => ⟨tm 1 (by decide +kernel), tm 22 (by decide +kernel)⟩
  | 11, _ => ⟨tm 12 (by decide +kernel), tm 1129 (by decide +kernel)⟩
  | k + 12, h => absurd h (by omega)
end LINKS
end
section
section EX
abbrev SG : Type := Nat × List (Option Value) × List Value × HP
def tgt (pc : Nat) (off : Int) : Option Nat := match (pc : Int) + off with
  | .ofNat t => some t
  | .negSucc _ => none
theorem tgt_ok {pc t : Nat} {off : Int} (h : tgt pc off = some t) : (pc : Int) + off = (t : Int) := by
  unfold tgt at h
  split at h
  · rename_i q e; cases h; rw [e]; rfl
  · cases h
def fnd : List (Nat × Instr × Nat) → Nat → Option (Instr × Nat)
  | [], _ => none
  | q :: t, pc => bif Nat.beq q.1 pc then some q.2 else fnd t pc
theorem fnd_mem : ∀ (l : List (Nat × Instr × Nat)) (i : Nat) (q : Instr × Nat), fnd l i = some q → (i, q) ∈ l
  | [], i, q, h => by simp [fnd] at h
  | p :: t, i, q, h => by
    cases hb : Nat.beq p.1 i with
    | true =>
      simp [fnd, hb] at h
      have := Nat.eq_of_beq_eq_true hb
      subst h; subst this
      exact List.mem_cons_self
    | false => exact List.mem_cons_of_mem _ (fnd_mem t i q (by simpa [fnd, hb] using h))
/-- the rows of a method's table are what the machine reads -/
def TOK (M : MI) : Prop := ∀ q ∈ mT M, decode (mB M) q.1 = .ok q.2
def sI (h : HP) (f : Nat → Nat → Int32) : HP := (kN h, kK h, kL h, f, kR h, kA h, kJ h, kQ h)
def sR (h : HP) (f : Nat → Nat → Option Nat) : HP := (kN h, kK h, kL h, kI h, f, kA h, kJ h, kQ h)
def sA (h : HP) (f : Nat → Nat → Int32) : HP := (kN h, kK h, kL h, kI h, kR h, f, kJ h, kQ h)
def sJ (h : HP) (f : Nat → Nat → Int64) : HP := (kN h, kK h, kL h, kI h, kR h, kA h, f, kQ h)
def sQ (h : HP) (f : Nat → Nat → Option Nat) : HP := (kN h, kK h, kL h, kI h, kR h, kA h, kJ h, f)
def oP (o : Option Prop) : Prop := match o with
  | none => True
  | some P => P
def cj (o : Option Prop) (P : Prop) : Prop := match o with
  | none => P
  | some R => R ∧ P
theorem cj_1 {o : Option Prop} {P : Prop} (h : cj o P) : oP o ∧ P := by
  cases o with
  | none => exact ⟨trivial, h⟩
  | some R => exact h
def ini (M : MI) : Bool := decide ((mY M).name = "<init>")
theorem ev_iconst {M : MI} {d bc bs pc : Nat} {lv : List (Option Value)} {st : List Value} {h : HP} {Q : Option Value → HP → Prop} {n : Int} (hd : decode (mB M) pc = .ok (.iconst n, 1))
    (k : Ev M d bc bs (pc + 1) lv (.int (Int32.ofInt n) :: st) h Q) : Ev M d bc bs pc lv (st) h Q :=
  ev_of (fun hx hb hl k => lv_iconst hx hb hd rfl k) k
theorem ev_bipush {M : MI} {d bc bs pc : Nat} {lv : List (Option Value)} {st : List Value} {h : HP} {Q : Option Value → HP → Prop} {n : Int} (hd : decode (mB M) pc = .ok (.bipush n, 2))
    (k : Ev M d bc bs (pc + 2) lv (.int (Int8.ofInt n).toInt32 :: st) h Q) : Ev M d bc bs pc lv (st) h Q :=
  ev_of (fun hx hb hl k => lv_bipush hx hb hd rfl k) k
theorem ev_sipush {M : MI} {d bc bs pc : Nat} {lv : List (Option Value)} {st : List Value} {h : HP} {Q : Option Value → HP → Prop} {n : Int} (hd : decode (mB M) pc = .ok (.sipush n, 3))
    (k : Ev M d bc bs (pc + 3) lv (.int (Int16.ofInt n).toInt32 :: st) h Q) : Ev M d bc bs pc lv (st) h Q :=
  ev_of (fun hx hb hl k => lv_sipush hx hb hd rfl k) k
theorem ev_lconst {M : MI} {d bc bs pc : Nat} {lv : List (Option Value)} {st : List Value} {h : HP} {Q : Option Value → HP → Prop} {n : Fin 2} (hd : decode (mB M) pc = .ok (.lconst n, 1))
    (k : Ev M d bc bs (pc + 1) lv (.long (Int64.ofNat (n : Nat)) :: st) h Q) : Ev M d bc bs pc lv (st) h Q :=
  ev_of (fun hx hb hl k => lv_lconst hx hb hd rfl k) k
theorem ev_null {M : MI} {d bc bs pc : Nat} {lv : List (Option Value)} {st : List Value} {h : HP} {Q : Option Value → HP → Prop}  (hd : decode (mB M) pc = .ok (.aconst_null, 1))
    (k : Ev M d bc bs (pc + 1) lv (.null :: st) h Q) : Ev M d bc bs pc lv (st) h Q :=
  ev_of (fun hx hb hl k => lv_null hx hb hd k) k
theorem ev_iadd {M : MI} {d bc bs pc : Nat} {lv : List (Option Value)} {st : List Value} {h : HP} {Q : Option Value → HP → Prop} {x y : Int32} (hd : decode (mB M) pc = .ok (.iadd, 1))
    (k : Ev M d bc bs (pc + 1) lv (.int (x + y) :: st) h Q) : Ev M d bc bs pc lv (.int y :: .int x :: st) h Q :=
  ev_of (fun hx hb hl k => lv_iadd hx hb hd k) k
theorem ev_isub {M : MI} {d bc bs pc : Nat} {lv : List (Option Value)} {st : List Value} {h : HP} {Q : Option Value → HP → Prop} {x y : Int32} (hd : decode (mB M) pc = .ok (.isub, 1))
    (k : Ev M d bc bs (pc + 1) lv (.int (x - y) :: st) h Q) : Ev M d bc bs pc lv (.int y :: .int x :: st) h Q :=
  ev_of (fun hx hb hl k => lv_isub hx hb hd k) k
theorem ev_imul {M : MI} {d bc bs pc : Nat} {lv : List (Option Value)} {st : List Value} {h : HP} {Q : Option Value → HP → Prop} {x y : Int32} (hd : decode (mB M) pc = .ok (.imul, 1))
    (k : Ev M d bc bs (pc + 1) lv (.int (x * y) :: st) h Q) : Ev M d bc bs pc lv (.int y :: .int x :: st) h Q :=
  ev_of (fun hx hb hl k => lv_imul hx hb hd k) k
theorem ev_iand {M : MI} {d bc bs pc : Nat} {lv : List (Option Value)} {st : List Value} {h : HP} {Q : Option Value → HP → Prop} {x y : Int32} (hd : decode (mB M) pc = .ok (.iand, 1))
    (k : Ev M d bc bs (pc + 1) lv (.int (x &&& y) :: st) h Q) : Ev M d bc bs pc lv (.int y :: .int x :: st) h Q :=
  ev_of (fun hx hb hl k => lv_iand hx hb hd k) k
theorem ev_ior {M : MI} {d bc bs pc : Nat} {lv : List (Option Value)} {st : List Value} {h : HP} {Q : Option Value → HP → Prop} {x y : Int32} (hd : decode (mB M) pc = .ok (.ior, 1))
    (k : Ev M d bc bs (pc + 1) lv (.int (x ||| y) :: st) h Q) : Ev M d bc bs pc lv (.int y :: .int x :: st) h Q :=
  ev_of (fun hx hb hl k => lv_ior hx hb hd k) k
theorem ev_ixor {M : MI} {d bc bs pc : Nat} {lv : List (Option Value)} {st : List Value} {h : HP} {Q : Option Value → HP → Prop} {x y : Int32} (hd : decode (mB M) pc = .ok (.ixor, 1))
    (k : Ev M d bc bs (pc + 1) lv (.int (x ^^^ y) :: st) h Q) : Ev M d bc bs pc lv (.int y :: .int x :: st) h Q :=
  ev_of (fun hx hb hl k => lv_ixor hx hb hd k) k
theorem ev_ishl {M : MI} {d bc bs pc : Nat} {lv : List (Option Value)} {st : List Value} {h : HP} {Q : Option Value → HP → Prop} {x y : Int32} (hd : decode (mB M) pc = .ok (.ishl, 1))
    (k : Ev M d bc bs (pc + 1) lv (.int (x <<< (y &&& 31)) :: st) h Q) : Ev M d bc bs pc lv (.int y :: .int x :: st) h Q :=
  ev_of (fun hx hb hl k => lv_ishl hx hb hd k) k
theorem ev_ishr {M : MI} {d bc bs pc : Nat} {lv : List (Option Value)} {st : List Value} {h : HP} {Q : Option Value → HP → Prop} {x y : Int32} (hd : decode (mB M) pc = .ok (.ishr, 1))
    (k : Ev M d bc bs (pc + 1) lv (.int (x >>> (y &&& 31)) :: st) h Q) : Ev M d bc bs pc lv (.int y :: .int x :: st) h Q :=
  ev_of (fun hx hb hl k => lv_ishr hx hb hd k) k
theorem ev_iushr {M : MI} {d bc bs pc : Nat} {lv : List (Option Value)} {st : List Value} {h : HP} {Q : Option Value → HP → Prop} {x y : Int32} (hd : decode (mB M) pc = .ok (.iushr, 1))
    (k : Ev M d bc bs (pc + 1) lv (.int ((x.toUInt32 >>> (y.toUInt32 &&& Int32.toUInt32 31)).toInt32) :: st) h Q) : Ev M d bc bs pc lv (.int y :: .int x :: st) h Q :=
  ev_of (fun hx hb hl k => lv_iushr hx hb hd rfl k) k
theorem ev_idiv {M : MI} {d bc bs pc : Nat} {lv : List (Option Value)} {st : List Value} {h : HP} {Q : Option Value → HP → Prop} {x y : Int32} (hd : decode (mB M) pc = .ok (.idiv, 1)) (hne : ¬ y = 0)
    (k : Ev M d bc bs (pc + 1) lv (.int (x / y) :: st) h Q) : Ev M d bc bs pc lv (.int y :: .int x :: st) h Q :=
  ev_of (fun hx hb hl k => lv_idiv hx hb hd hne k) k
theorem ev_irem {M : MI} {d bc bs pc : Nat} {lv : List (Option Value)} {st : List Value} {h : HP} {Q : Option Value → HP → Prop} {x y : Int32} (hd : decode (mB M) pc = .ok (.irem, 1)) (hne : ¬ y = 0)
    (k : Ev M d bc bs (pc + 1) lv (.int (x - x / y * y) :: st) h Q) : Ev M d bc bs pc lv (.int y :: .int x :: st) h Q :=
  ev_of (fun hx hb hl k => lv_irem hx hb hd hne k) k
theorem ev_ladd {M : MI} {d bc bs pc : Nat} {lv : List (Option Value)} {st : List Value} {h : HP} {Q : Option Value → HP → Prop} {x y : Int64} (hd : decode (mB M) pc = .ok (.ladd, 1))
    (k : Ev M d bc bs (pc + 1) lv (.long (x + y) :: st) h Q) : Ev M d bc bs pc lv (.long y :: .long x :: st) h Q :=
  ev_of (fun hx hb hl k => lv_ladd hx hb hd k) k
theorem ev_lsub {M : MI} {d bc bs pc : Nat} {lv : List (Option Value)} {st : List Value} {h : HP} {Q : Option Value → HP → Prop} {x y : Int64} (hd : decode (mB M) pc = .ok (.lsub, 1))
    (k : Ev M d bc bs (pc + 1) lv (.long (x - y) :: st) h Q) : Ev M d bc bs pc lv (.long y :: .long x :: st) h Q :=
  ev_of (fun hx hb hl k => lv_lsub hx hb hd k) k
theorem ev_lmul {M : MI} {d bc bs pc : Nat} {lv : List (Option Value)} {st : List Value} {h : HP} {Q : Option Value → HP → Prop} {x y : Int64} (hd : decode (mB M) pc = .ok (.lmul, 1))
    (k : Ev M d bc bs (pc + 1) lv (.long (x * y) :: st) h Q) : Ev M d bc bs pc lv (.long y :: .long x :: st) h Q :=
  ev_of (fun hx hb hl k => lv_lmul hx hb hd k) k
theorem ev_ldiv {M : MI} {d bc bs pc : Nat} {lv : List (Option Value)} {st : List Value} {h : HP} {Q : Option Value → HP → Prop} {x y : Int64} (hd : decode (mB M) pc = .ok (.ldiv, 1)) (hne : ¬ y = 0)
    (k : Ev M d bc bs (pc + 1) lv (.long (x / y) :: st) h Q) : Ev M d bc bs pc lv (.long y :: .long x :: st) h Q :=
  ev_of (fun hx hb hl k => lv_ldiv hx hb hd hne k) k
theorem ev_lrem {M : MI} {d bc bs pc : Nat} {lv : List (Option Value)} {st : List Value} {h : HP} {Q : Option Value → HP → Prop} {x y : Int64} (hd : decode (mB M) pc = .ok (.lrem, 1)) (hne : ¬ y = 0)
    (k : Ev M d bc bs (pc + 1) lv (.long (x - x / y * y) :: st) h Q) : Ev M d bc bs pc lv (.long y :: .long x :: st) h Q :=
  ev_of (fun hx hb hl k => lv_lrem hx hb hd hne k) k
theorem ev_lcmp {M : MI} {d bc bs pc : Nat} {lv : List (Option Value)} {st : List Value} {h : HP} {Q : Option Value → HP → Prop} {x y : Int64} (hd : decode (mB M) pc = .ok (.lcmp, 1))
    (k : Ev M d bc bs (pc + 1) lv (.int (lg_cmp x y) :: st) h Q) : Ev M d bc bs pc lv (.long y :: .long x :: st) h Q :=
  ev_of (fun hx hb hl k => W.lcmp hx hb hd k) k
theorem ev_ineg {M : MI} {d bc bs pc : Nat} {lv : List (Option Value)} {st : List Value} {h : HP} {Q : Option Value → HP → Prop} {x : Int32} (hd : decode (mB M) pc = .ok (.ineg, 1))
    (k : Ev M d bc bs (pc + 1) lv (.int (-x) :: st) h Q) : Ev M d bc bs pc lv (.int x :: st) h Q :=
  ev_of (fun hx hb hl k => lv_ineg hx hb hd k) k
theorem ev_i2l {M : MI} {d bc bs pc : Nat} {lv : List (Option Value)} {st : List Value} {h : HP} {Q : Option Value → HP → Prop} {x : Int32} (hd : decode (mB M) pc = .ok (.i2l, 1))
    (k : Ev M d bc bs (pc + 1) lv (.long x.toInt64 :: st) h Q) : Ev M d bc bs pc lv (.int x :: st) h Q :=
  ev_of (fun hx hb hl k => lv_i2l hx hb hd rfl k) k
theorem ev_i2b {M : MI} {d bc bs pc : Nat} {lv : List (Option Value)} {st : List Value} {h : HP} {Q : Option Value → HP → Prop} {x : Int32} (hd : decode (mB M) pc = .ok (.i2b, 1))
    (k : Ev M d bc bs (pc + 1) lv (.int x.toInt8.toInt32 :: st) h Q) : Ev M d bc bs pc lv (.int x :: st) h Q :=
  ev_of (fun hx hb hl k => lv_i2b hx hb hd rfl k) k
theorem ev_l2i {M : MI} {d bc bs pc : Nat} {lv : List (Option Value)} {st : List Value} {h : HP} {Q : Option Value → HP → Prop} {x : Int64} (hd : decode (mB M) pc = .ok (.l2i, 1))
    (k : Ev M d bc bs (pc + 1) lv (.int x.toInt32 :: st) h Q) : Ev M d bc bs pc lv (.long x :: st) h Q :=
  ev_of (fun hx hb hl k => lv_l2i hx hb hd rfl k) k
theorem ev_dup {M : MI} {d bc bs pc : Nat} {lv : List (Option Value)} {st : List Value} {h : HP} {Q : Option Value → HP → Prop} {a : Value} (hd : decode (mB M) pc = .ok (.dup, 1)) (ha : a.category = 1)
    (k : Ev M d bc bs (pc + 1) lv (a :: a :: st) h Q) : Ev M d bc bs pc lv (a :: st) h Q :=
  ev_of (fun hx hb hl k => lv_dup hx hb hd (by rw [cv_cat]; exact ha) k) k
theorem ev_pop {M : MI} {d bc bs pc : Nat} {lv : List (Option Value)} {st : List Value} {h : HP} {Q : Option Value → HP → Prop} {a : Value} (hd : decode (mB M) pc = .ok (.pop, 1)) (ha : a.category = 1)
    (k : Ev M d bc bs (pc + 1) lv (st) h Q) : Ev M d bc bs pc lv (a :: st) h Q :=
  ev_of (fun hx hb hl k => lv_pop hx hb hd (by rw [cv_cat]; exact ha) k) k
theorem ev_dup_x1 {M : MI} {d bc bs pc : Nat} {lv : List (Option Value)} {st : List Value} {h : HP} {Q : Option Value → HP → Prop} {a b : Value} (hd : decode (mB M) pc = .ok (.dup_x1, 1)) (ha : a.category = 1) (hb2 : b.category = 1)
    (k : Ev M d bc bs (pc + 1) lv (a :: b :: a :: st) h Q) : Ev M d bc bs pc lv (a :: b :: st) h Q :=
  ev_of (fun hx hb hl k => lv_dup_x1 hx hb hd (by rw [cv_cat]; exact ha) (by rw [cv_cat]; exact hb2) k) k
theorem ev_dup2 {M : MI} {d bc bs pc : Nat} {lv : List (Option Value)} {st : List Value} {h : HP} {Q : Option Value → HP → Prop} {a b : Value} (hd : decode (mB M) pc = .ok (.dup2, 1)) (ha : a.category = 1) (hb2 : b.category = 1)
    (k : Ev M d bc bs (pc + 1) lv (a :: b :: a :: b :: st) h Q) : Ev M d bc bs pc lv (a :: b :: st) h Q :=
  ev_of (fun hx hb hl k => lv_dup2_11 hx hb hd (by rw [cv_cat]; exact ha) (by rw [cv_cat]; exact hb2) k) k
theorem ev_icmp_eq {M : MI} {d bc bs pc t : Nat} {off : Int} {x y : Int32} {lv : List (Option Value)} {st : List Value} {h : HP} {Q : Option Value → HP → Prop} (hd : decode (mB M) pc = .ok (.if_icmp .eq off, 3)) (ht : tgt pc off = some t)
    (k : Ev M d bc bs (if x = y then t else pc + 3) lv st h Q) : Ev M d bc bs pc lv (.int y :: .int x :: st) h Q := by
  refine ev_of (fun hx hb hl k => ?_) k
  by_cases q : x = y
  · rw [if_pos q] at k; exact lv_icmp_eq hx hb hd (tgt_ok ht) (fun _ => k) (fun z => absurd q (by simpa using z))
  · rw [if_neg q] at k; exact lv_icmp_eq hx hb hd (tgt_ok ht) (fun z => absurd z q) (fun _ => k)
theorem ev_if_eq {M : MI} {d bc bs pc t : Nat} {off : Int} {x : Int32} {lv : List (Option Value)} {st : List Value} {h : HP} {Q : Option Value → HP → Prop} (hd : decode (mB M) pc = .ok (.ifCond .eq off, 3)) (ht : tgt pc off = some t)
    (k : Ev M d bc bs (if x = 0 then t else pc + 3) lv st h Q) : Ev M d bc bs pc lv (.int x :: st) h Q := by
  refine ev_of (fun hx hb hl k => ?_) k
  by_cases q : x = 0
  · rw [if_pos q] at k; exact lv_if_eq hx hb hd (tgt_ok ht) (fun _ => k) (fun z => absurd q (by simpa using z))
  · rw [if_neg q] at k; exact lv_if_eq hx hb hd (tgt_ok ht) (fun z => absurd z q) (fun _ => k)
theorem ev_icmp_ne {M : MI} {d bc bs pc t : Nat} {off : Int} {x y : Int32} {lv : List (Option Value)} {st : List Value} {h : HP} {Q : Option Value → HP → Prop} (hd : decode (mB M) pc = .ok (.if_icmp .ne off, 3)) (ht : tgt pc off = some t)
    (k : Ev M d bc bs (if ¬ x = y then t else pc + 3) lv st h Q) : Ev M d bc bs pc lv (.int y :: .int x :: st) h Q := by
  refine ev_of (fun hx hb hl k => ?_) k
  by_cases q : ¬ x = y
  · rw [if_pos q] at k; exact lv_icmp_ne hx hb hd (tgt_ok ht) (fun _ => k) (fun z => absurd q (by simpa using z))
  · rw [if_neg q] at k; exact lv_icmp_ne hx hb hd (tgt_ok ht) (fun z => absurd z q) (fun _ => k)
theorem ev_if_ne {M : MI} {d bc bs pc t : Nat} {off : Int} {x : Int32} {lv : List (Option Value)} {st : List Value} {h : HP} {Q : Option Value → HP → Prop} (hd : decode (mB M) pc = .ok (.ifCond .ne off, 3)) (ht : tgt pc off = some t)
    (k : Ev M d bc bs (if ¬ x = 0 then t else pc + 3) lv st h Q) : Ev M d bc bs pc lv (.int x :: st) h Q := by
  refine ev_of (fun hx hb hl k => ?_) k
  by_cases q : ¬ x = 0
  · rw [if_pos q] at k; exact lv_if_ne hx hb hd (tgt_ok ht) (fun _ => k) (fun z => absurd q (by simpa using z))
  · rw [if_neg q] at k; exact lv_if_ne hx hb hd (tgt_ok ht) (fun z => absurd z q) (fun _ => k)
theorem ev_icmp_lt {M : MI} {d bc bs pc t : Nat} {off : Int} {x y : Int32} {lv : List (Option Value)} {st : List Value} {h : HP} {Q : Option Value → HP → Prop} (hd : decode (mB M) pc = .ok (.if_icmp .lt off, 3)) (ht : tgt pc off = some t)
    (k : Ev M d bc bs (if x < y then t else pc + 3) lv st h Q) : Ev M d bc bs pc lv (.int y :: .int x :: st) h Q := by
  refine ev_of (fun hx hb hl k => ?_) k
  by_cases q : x < y
  · rw [if_pos q] at k; exact lv_icmp_lt hx hb hd (tgt_ok ht) (fun _ => k) (fun z => absurd q (by simpa using z))
  · rw [if_neg q] at k; exact lv_icmp_lt hx hb hd (tgt_ok ht) (fun z => absurd z q) (fun _ => k)
theorem ev_if_lt {M : MI} {d bc bs pc t : Nat} {off : Int} {x : Int32} {lv : List (Option Value)} {st : List Value} {h : HP} {Q : Option Value → HP → Prop} (hd : decode (mB M) pc = .ok (.ifCond .lt off, 3)) (ht : tgt pc off = some t)
    (k : Ev M d bc bs (if x < 0 then t else pc + 3) lv st h Q) : Ev M d bc bs pc lv (.int x :: st) h Q := by
  refine ev_of (fun hx hb hl k => ?_) k
  by_cases q : x < 0
  · rw [if_pos q] at k; exact lv_if_lt hx hb hd (tgt_ok ht) (fun _ => k) (fun z => absurd q (by simpa using z))
  · rw [if_neg q] at k; exact lv_if_lt hx hb hd (tgt_ok ht) (fun z => absurd z q) (fun _ => k)
theorem ev_icmp_ge {M : MI} {d bc bs pc t : Nat} {off : Int} {x y : Int32} {lv : List (Option Value)} {st : List Value} {h : HP} {Q : Option Value → HP → Prop} (hd : decode (mB M) pc = .ok (.if_icmp .ge off, 3)) (ht : tgt pc off = some t)
    (k : Ev M d bc bs (if y ≤ x then t else pc + 3) lv st h Q) : Ev M d bc bs pc lv (.int y :: .int x :: st) h Q := by
  refine ev_of (fun hx hb hl k => ?_) k
  by_cases q : y ≤ x
  · rw [if_pos q] at k; exact lv_icmp_ge hx hb hd (tgt_ok ht) (fun _ => k) (fun z => absurd q (by simpa using z))
  · rw [if_neg q] at k; exact lv_icmp_ge hx hb hd (tgt_ok ht) (fun z => absurd z q) (fun _ => k)
theorem ev_if_ge {M : MI} {d bc bs pc t : Nat} {off : Int} {x : Int32} {lv : List (Option Value)} {st : List Value} {h : HP} {Q : Option Value → HP → Prop} (hd : decode (mB M) pc = .ok (.ifCond .ge off, 3)) (ht : tgt pc off = some t)
    (k : Ev M d bc bs (if 0 ≤ x then t else pc + 3) lv st h Q) : Ev M d bc bs pc lv (.int x :: st) h Q := by
  refine ev_of (fun hx hb hl k => ?_) k
  by_cases q : 0 ≤ x
  · rw [if_pos q] at k; exact lv_if_ge hx hb hd (tgt_ok ht) (fun _ => k) (fun z => absurd q (by simpa using z))
  · rw [if_neg q] at k; exact lv_if_ge hx hb hd (tgt_ok ht) (fun z => absurd z q) (fun _ => k)
theorem ev_icmp_gt {M : MI} {d bc bs pc t : Nat} {off : Int} {x y : Int32} {lv : List (Option Value)} {st : List Value} {h : HP} {Q : Option Value → HP → Prop} (hd : decode (mB M) pc = .ok (.if_icmp .gt off, 3)) (ht : tgt pc off = some t)
    (k : Ev M d bc bs (if y < x then t else pc + 3) lv st h Q) : Ev M d bc bs pc lv (.int y :: .int x :: st) h Q := by
  refine ev_of (fun hx hb hl k => ?_) k
  by_cases q : y < x
  · rw [if_pos q] at k; exact lv_icmp_gt hx hb hd (tgt_ok ht) (fun _ => k) (fun z => absurd q (by simpa using z))
  · rw [if_neg q] at k; exact lv_icmp_gt hx hb hd (tgt_ok ht) (fun z => absurd z q) (fun _ => k)
theorem ev_if_gt {M : MI} {d bc bs pc t : Nat} {off : Int} {x : Int32} {lv : List (Option Value)} {st : List Value} {h : HP} {Q : Option Value → HP → Prop} (hd : decode (mB M) pc = .ok (.ifCond .gt off, 3)) (ht : tgt pc off = some t)
    (k : Ev M d bc bs (if 0 < x then t else pc + 3) lv st h Q) : Ev M d bc bs pc lv (.int x :: st) h Q := by
  refine ev_of (fun hx hb hl k => ?_) k
  by_cases q : 0 < x
  · rw [if_pos q] at k; exact lv_if_gt hx hb hd (tgt_ok ht) (fun _ => k) (fun z => absurd q (by simpa using z))
  · rw [if_neg q] at k; exact lv_if_gt hx hb hd (tgt_ok ht) (fun z => absurd z q) (fun _ => k)
theorem ev_icmp_le {M : MI} {d bc bs pc t : Nat} {off : Int} {x y : Int32} {lv : List (Option Value)} {st : List Value} {h : HP} {Q : Option Value → HP → Prop} (hd : decode (mB M) pc = .ok (.if_icmp .le off, 3)) (ht : tgt pc off = some t)
    (k : Ev M d bc bs (if x ≤ y then t else pc + 3) lv st h Q) : Ev M d bc bs pc lv (.int y :: .int x :: st) h Q := by
  refine ev_of (fun hx hb hl k => ?_) k
  by_cases q : x ≤ y
  · rw [if_pos q] at k; exact lv_icmp_le hx hb hd (tgt_ok ht) (fun _ => k) (fun z => absurd q (by simpa using z))
  · rw [if_neg q] at k; exact lv_icmp_le hx hb hd (tgt_ok ht) (fun z => absurd z q) (fun _ => k)
theorem ev_if_le {M : MI} {d bc bs pc t : Nat} {off : Int} {x : Int32} {lv : List (Option Value)} {st : List Value} {h : HP} {Q : Option Value → HP → Prop} (hd : decode (mB M) pc = .ok (.ifCond .le off, 3)) (ht : tgt pc off = some t)
    (k : Ev M d bc bs (if x ≤ 0 then t else pc + 3) lv st h Q) : Ev M d bc bs pc lv (.int x :: st) h Q := by
  refine ev_of (fun hx hb hl k => ?_) k
  by_cases q : x ≤ 0
  · rw [if_pos q] at k; exact lv_if_le hx hb hd (tgt_ok ht) (fun _ => k) (fun z => absurd q (by simpa using z))
  · rw [if_neg q] at k; exact lv_if_le hx hb hd (tgt_ok ht) (fun z => absurd z q) (fun _ => k)
theorem ev_goto {M : MI} {d bc bs pc : Nat} {lv : List (Option Value)} {st : List Value} {h : HP} {Q : Option Value → HP → Prop} {t : Nat} {off : Int} (hd : decode (mB M) pc = .ok (.goto off, 3)) (ht : tgt pc off = some t)
    (k : Ev M d bc bs t lv (st) h Q) : Ev M d bc bs pc lv (st) h Q :=
  ev_of (fun hx hb hl k => lv_goto hx hb hd (tgt_ok ht) k) k
theorem ev_ifnull {M : MI} {d bc bs pc : Nat} {lv : List (Option Value)} {st : List Value} {h : HP} {Q : Option Value → HP → Prop} {a : Nat} {off : Int} (hd : decode (mB M) pc = .ok (.ifnull off, 3))
    (k : Ev M d bc bs (pc + 3) lv (st) h Q) : Ev M d bc bs pc lv (.ref a :: st) h Q :=
  ev_of (fun hx hb hl k => lv_ifnull hx hb hd k) k
theorem ev_ifnullN {M : MI} {d bc bs pc : Nat} {lv : List (Option Value)} {st : List Value} {h : HP} {Q : Option Value → HP → Prop} {t : Nat} {off : Int} (hd : decode (mB M) pc = .ok (.ifnull off, 3)) (ht : tgt pc off = some t)
    (k : Ev M d bc bs t lv (st) h Q) : Ev M d bc bs pc lv (.null :: st) h Q :=
  ev_of (fun hx hb hl k => lv_ifnullN hx hb hd (tgt_ok ht) k) k
theorem ev_iload {M : MI} {d bc bs pc : Nat} {lv : List (Option Value)} {st : List Value} {h : HP} {Q : Option Value → HP → Prop} {i : Nat} {x : Int32} (hd : decode (mB M) pc = .ok (.iload i, 2)) (hv : lg lv i = some (.int x))
    (k : Ev M d bc bs (pc + 2) lv (.int x :: st) h Q) : Ev M d bc bs pc lv (st) h Q :=
  ev_of (fun hx hb hl k => lv_iload hx hb hd (hl.at hv) k) k
theorem ev_iload_n {M : MI} {d bc bs pc : Nat} {lv : List (Option Value)} {st : List Value} {h : HP} {Q : Option Value → HP → Prop} {i : Fin 4} {x : Int32} (hd : decode (mB M) pc = .ok (.iload_n i, 1)) (hv : lg lv i.val = some (.int x))
    (k : Ev M d bc bs (pc + 1) lv (.int x :: st) h Q) : Ev M d bc bs pc lv (st) h Q :=
  ev_of (fun hx hb hl k => lv_iload_n hx hb hd rfl (hl.at hv) k) k
theorem ev_lload {M : MI} {d bc bs pc : Nat} {lv : List (Option Value)} {st : List Value} {h : HP} {Q : Option Value → HP → Prop} {i : Nat} {x : Int64} (hd : decode (mB M) pc = .ok (.lload i, 2)) (hv : lg lv i = some (.long x))
    (k : Ev M d bc bs (pc + 2) lv (.long x :: st) h Q) : Ev M d bc bs pc lv (st) h Q :=
  ev_of (fun hx hb hl k => lv_lload hx hb hd (hl.at hv) k) k
theorem ev_lload_n {M : MI} {d bc bs pc : Nat} {lv : List (Option Value)} {st : List Value} {h : HP} {Q : Option Value → HP → Prop} {i : Fin 4} {x : Int64} (hd : decode (mB M) pc = .ok (.lload_n i, 1)) (hv : lg lv i.val = some (.long x))
    (k : Ev M d bc bs (pc + 1) lv (.long x :: st) h Q) : Ev M d bc bs pc lv (st) h Q :=
  ev_of (fun hx hb hl k => lv_lload_n hx hb hd rfl (hl.at hv) k) k
theorem ev_aload {M : MI} {d bc bs pc : Nat} {lv : List (Option Value)} {st : List Value} {h : HP} {Q : Option Value → HP → Prop} {i : Nat} {x : Nat} (hd : decode (mB M) pc = .ok (.aload i, 2)) (hv : lg lv i = some (.ref x))
    (k : Ev M d bc bs (pc + 2) lv (.ref x :: st) h Q) : Ev M d bc bs pc lv (st) h Q :=
  ev_of (fun hx hb hl k => lv_aload hx hb hd (hl.at hv) k) k
theorem ev_aload_n {M : MI} {d bc bs pc : Nat} {lv : List (Option Value)} {st : List Value} {h : HP} {Q : Option Value → HP → Prop} {i : Fin 4} {x : Nat} (hd : decode (mB M) pc = .ok (.aload_n i, 1)) (hv : lg lv i.val = some (.ref x))
    (k : Ev M d bc bs (pc + 1) lv (.ref x :: st) h Q) : Ev M d bc bs pc lv (st) h Q :=
  ev_of (fun hx hb hl k => lv_aload_n hx hb hd rfl (hl.at hv) k) k
theorem ev_aloadN {M : MI} {d bc bs pc : Nat} {lv : List (Option Value)} {st : List Value} {h : HP} {Q : Option Value → HP → Prop} {i : Nat} (hd : decode (mB M) pc = .ok (.aload i, 2)) (hv : lg lv i = some .null)
    (k : Ev M d bc bs (pc + 2) lv (.null :: st) h Q) : Ev M d bc bs pc lv (st) h Q :=
  ev_of (fun hx hb hl k => lv_aloadN hx hb hd (hl.at hv) k) k
theorem ev_istore {M : MI} {d bc bs pc : Nat} {i : Nat} {x : Int32} {lv : List (Option Value)} {st : List Value} {h : HP} {Q : Option Value → HP → Prop} (hd : decode (mB M) pc = .ok (.istore i, 2)) (hi : i < mX M)
    (k : Ev M d bc bs (pc + 2) (ls1 lv i (.int x)) st h Q) : Ev M d bc bs pc lv (.int x :: st) h Q :=
  ev_full (Nat.le_refl _) (fun C _ _ _ hH hS hl kk => lv_istore C.1 C.2.1 hd hl hi rfl (fun ls1 hl1 => kk _ _ ls1 hH hS (LV.st1 hl1))) k
theorem ev_istore_n {M : MI} {d bc bs pc : Nat} {i : Fin 4} {x : Int32} {lv : List (Option Value)} {st : List Value} {h : HP} {Q : Option Value → HP → Prop} (hd : decode (mB M) pc = .ok (.istore_n i, 1)) (hi : i.val < mX M)
    (k : Ev M d bc bs (pc + 1) (ls1 lv i.val (.int x)) st h Q) : Ev M d bc bs pc lv (.int x :: st) h Q :=
  ev_full (Nat.le_refl _) (fun C _ _ _ hH hS hl kk => lv_istore_n C.1 C.2.1 hd rfl hl hi rfl (fun ls1 hl1 => kk _ _ ls1 hH hS (LV.st1 hl1))) k
theorem ev_lstore {M : MI} {d bc bs pc : Nat} {i : Nat} {x : Int64} {lv : List (Option Value)} {st : List Value} {h : HP} {Q : Option Value → HP → Prop} (hd : decode (mB M) pc = .ok (.lstore i, 2)) (hi : i + 1 < mX M)
    (k : Ev M d bc bs (pc + 2) (ls2 lv i (.long x)) st h Q) : Ev M d bc bs pc lv (.long x :: st) h Q :=
  ev_full (Nat.le_refl _) (fun C _ _ _ hH hS hl kk => lv_lstore C.1 C.2.1 hd hl hi rfl (fun ls1 hl1 => kk _ _ ls1 hH hS (LV.st2 hl1))) k
theorem ev_lstore_n {M : MI} {d bc bs pc : Nat} {i : Fin 4} {x : Int64} {lv : List (Option Value)} {st : List Value} {h : HP} {Q : Option Value → HP → Prop} (hd : decode (mB M) pc = .ok (.lstore_n i, 1)) (hi : i.val + 1 < mX M)
    (k : Ev M d bc bs (pc + 1) (ls2 lv i.val (.long x)) st h Q) : Ev M d bc bs pc lv (.long x :: st) h Q :=
  ev_full (Nat.le_refl _) (fun C _ _ _ hH hS hl kk => lv_lstore_n C.1 C.2.1 hd rfl hl hi rfl (fun ls1 hl1 => kk _ _ ls1 hH hS (LV.st2 hl1))) k
theorem ev_astore {M : MI} {d bc bs pc : Nat} {i : Nat} {x : Nat} {lv : List (Option Value)} {st : List Value} {h : HP} {Q : Option Value → HP → Prop} (hd : decode (mB M) pc = .ok (.astore i, 2)) (hi : i < mX M)
    (k : Ev M d bc bs (pc + 2) (ls1 lv i (.ref x)) st h Q) : Ev M d bc bs pc lv (.ref x :: st) h Q :=
  ev_full (Nat.le_refl _) (fun C _ _ _ hH hS hl kk => lv_astore C.1 C.2.1 hd hl hi rfl (fun ls1 hl1 => kk _ _ ls1 hH hS (LV.st1 hl1))) k
theorem ev_astore_n {M : MI} {d bc bs pc : Nat} {i : Fin 4} {x : Nat} {lv : List (Option Value)} {st : List Value} {h : HP} {Q : Option Value → HP → Prop} (hd : decode (mB M) pc = .ok (.astore_n i, 1)) (hi : i.val < mX M)
    (k : Ev M d bc bs (pc + 1) (ls1 lv i.val (.ref x)) st h Q) : Ev M d bc bs pc lv (.ref x :: st) h Q :=
  ev_full (Nat.le_refl _) (fun C _ _ _ hH hS hl kk => lv_astore_n C.1 C.2.1 hd rfl hl hi rfl (fun ls1 hl1 => kk _ _ ls1 hH hS (LV.st1 hl1))) k
theorem ev_astoreN {M : MI} {d bc bs pc : Nat} {i : Nat}  {lv : List (Option Value)} {st : List Value} {h : HP} {Q : Option Value → HP → Prop} (hd : decode (mB M) pc = .ok (.astore i, 2)) (hi : i < mX M)
    (k : Ev M d bc bs (pc + 2) (ls1 lv i (.null)) st h Q) : Ev M d bc bs pc lv (.null :: st) h Q :=
  ev_full (Nat.le_refl _) (fun C _ _ _ hH hS hl kk => lv_astoreN C.1 C.2.1 hd hl hi rfl (fun ls1 hl1 => kk _ _ ls1 hH hS (LV.st1 hl1))) k
theorem ev_iinc {M : MI} {d bc bs pc i : Nat} {n : Int} {x : Int32} {lv : List (Option Value)} {st : List Value} {h : HP} {Q : Option Value → HP → Prop} (hd : decode (mB M) pc = .ok (.iinc i n, 3)) (hi : i < mX M) (hv : lg lv i = some (.int x))
    (k : Ev M d bc bs (pc + 3) (ls1 lv i (.int (x + Int32.ofInt n))) st h Q) : Ev M d bc bs pc lv st h Q := by
  refine ev_full (Nat.le_refl _) (fun {p l e R s m args below meth c D cy G L xs H locs cells slots ls Z} C _ _ _ hH hS hl kk => ?_) k
  obtain ⟨j, hj⟩ := List.getElem?_of_mem ((asl_mem G lv 0 (i, cv G (.int x))).mpr ⟨.int x, Nat.zero_le _, by simpa using hv, rfl⟩)
  exact lv_iinc C.1 C.2.1 hd hl hj rfl hi rfl (fun ls1 hl1 => kk _ _ ls1 hH hS (LV.st1 (v := .int (x + Int32.ofInt n)) hl1))
theorem ev_ldc {M : MI} {d bc bs pc i : Nat} {v : Int32} {lv : List (Option Value)} {st : List Value} {h : HP} {Q : Option Value → HP → Prop} (hd : decode (mB M) pc = .ok (.ldc i, 2)) (hv : ldk (mO M) i = some v)
    (k : Ev M d bc bs (pc + 2) lv (.int v :: st) h Q) : Ev M d bc bs pc lv st h Q :=
  ev_full (Nat.le_refl _) (fun C _ _ _ hH hS hl kk => lv_ldc C.1 C.2.1 C.2.2.2.2.1 (C.2.2.2.2.2.1 _ (ldk_ok hv)) hd (kk _ _ _ hH hS hl)) k
theorem ev_ldcw {M : MI} {d bc bs pc i : Nat} {v : Int32} {lv : List (Option Value)} {st : List Value} {h : HP} {Q : Option Value → HP → Prop} (hd : decode (mB M) pc = .ok (.ldc_w i, 3)) (hv : ldk (mO M) i = some v)
    (k : Ev M d bc bs (pc + 3) lv (.int v :: st) h Q) : Ev M d bc bs pc lv st h Q :=
  ev_full (Nat.le_refl _) (fun C _ _ _ hH hS hl kk => lv_ldcw C.1 C.2.1 C.2.2.2.2.1 (C.2.2.2.2.2.1 _ (ldk_ok hv)) hd (kk _ _ _ hH hS hl)) k
theorem ev_ldc2 {M : MI} {d bc bs pc i : Nat} {v : Int64} {lv : List (Option Value)} {st : List Value} {h : HP} {Q : Option Value → HP → Prop} (hd : decode (mB M) pc = .ok (.ldc2_w i, 3)) (hv : ldk2 (mO M) i = some v)
    (k : Ev M d bc bs (pc + 3) lv (.long v :: st) h Q) : Ev M d bc bs pc lv st h Q :=
  ev_full (Nat.le_refl _) (fun C _ _ _ hH hS hl kk => lv_ldc2 C.1 C.2.1 C.2.2.2.2.1 (C.2.2.2.2.2.1 _ (ldk2_ok hv)) hd (kk _ _ _ hH hS hl)) k
theorem ev_getf {M : MI} {d bc bs pc i a ci f : Nat} {lv : List (Option Value)} {st : List Value} {h : HP} {Q : Option Value → HP → Prop} (hd : decode (mB M) pc = .ok (.getfield i, 3)) (hf : fd3 (flT (mO M)) i = some (ci, f)) (hk : kK h a = ci)
    (k : Ev M d bc bs (pc + 3) lv (fvA h a f (fT ci f) :: st) h Q) : Ev M d bc bs pc lv (.ref a :: st) h Q := by
  refine ev_full (Nat.le_refl _) (fun {p l e R s m args below meth c D cy G L xs H locs cells slots ls Z} C _ _ hK hH hS hl kk => ?_) k
  obtain ⟨h1, h2, h3⟩ := flk_ok hf
  obtain ⟨c1, c2, c3, c4⟩ := cls_at ci h1
  have hk18 : kK h a < 18 := by rw [hk]; omega
  have hP := hH.P hk18
  rw [ce_obj hk h1] at hP
  have e : cv G (.ref a) = .ref (G.1 + a) := by show Value.ref (ro G a) = _; rw [hH.ro hk18]
  rw [List.map_cons, e]
  exact va_get C.1 C.2.1 (C := cnm ci) (T := tO ci) (N := nF ci) (ref := cnm ci) C.2.2.2.2.2.1 c2 C.2.2.2.2.1 hK.1 hP 0 rfl c1 f h2 (C.2.2.2.2.2.1 _ h3) (fun x hx => by rw [cls_own ci h1 f h2] at hx; exact hx) (fl_at hk h2) hd (kk _ _ _ hH hS hl)
theorem blt_ok {a b : Nat} (h : Nat.blt a b = true) : a < b := by rwa [Nat.blt_eq] at h
theorem fl_upd {G : GG} {h h' : HP} {a ci f : Nat} {v : Value} (hk : kK h a = ci) (hk' : kK h' a = ci) (hf : f < nF ci) (hv : cv G (fvA h' a f (fT ci f)) = v) (ho : ∀ j, j ≠ f → fvA h' a j (fT ci j) = fvA h a j (fT ci j)) : fl G h' a = (fl G h a).set f v := by
  apply List.ext_getElem?
  intro j
  by_cases hj : j < nF ci
  · rw [fl_at hk' hj, List.getElem?_set]
    by_cases e : f = j
    · subst e
      rw [if_pos rfl, if_pos (by rw [fl_len hk]; exact hf), hv]
    · rw [if_neg e, fl_at hk hj, ho j (Ne.symm e)]
  · rw [List.getElem?_eq_none (by rw [fl_len hk']; omega), List.getElem?_eq_none (by rw [List.length_set, fl_len hk]; omega)]
theorem va_S.one {A : Nat → Prop} {H0 H H1 : Heap} {locs : List Loc} {a k : Nat} (h : va_S A H0 H locs) (z : H1.size = H.size) (oq : ∀ q : Nat, q ≠ a → H1[q]? = H[q]?) (ha : A a) : va_S A H0 H1 (locs ++ [⟨a, k⟩]) := h.put z oq ha
theorem W_put {p : Program} {l : Launch} {e : Env} {R : Room} {s : State} {m : MethodId} {args : Array Value} {below : List Frame} {meth : Method} {c : Code} {D : va_G} {cy : Nat → ClassId} {G : GG} {L : Nat} {xs : Nat → Int32} {H : Heap} {locs : List Loc} {cells slots : Nat} {ls : Array Slot} {Z : State → Prop} {M : MI} {h h' : HP} {a ci f i pc : Nat} {v : Value} {rest : List Value} (C : Cx M p s m args meth c L xs) (hK : KE D cy G L xs s) (hH : HR D cy G h H) (hS : va_S (fun q => G.1 ≤ q) s.heap H locs) (hf : fd3 (flT (mO M)) i = some (ci, f)) (hk : kK h a = ci)
    (hn : narrow (tyO ci f) v = v) (hfit : fits (tyO ci f) v = true) (hfin : (tO ci f).2.2.2 = false ∨ ((mY M).name = "<init>" ∧ ci = mO M)) (e1 : kN h' = kN h) (e2 : kK h' = kK h) (e3 : ∀ b, b ≠ a → ce cy G h' b = ce cy G h b) (e4 : fl G h' a = (fl G h a).set f v) (hd : decode (mB M) pc = .ok (.putfield i, 3))
    (kk : ∀ (H1 : Heap) (locs1 : List Loc), HR D cy G h' H1 → va_S (fun q => G.1 ≤ q) s.heap H1 locs1 → W p l e R s m args below meth c H1 locs1 cells slots Z (F0 m (pc + 3) ls rest)) : W p l e R s m args below meth c H locs cells slots Z (F0 m pc ls (v :: .ref (G.1 + a) :: rest)) := by
  obtain ⟨h1, h2, h3⟩ := flk_ok hf
  obtain ⟨c1, c2, c3, c4⟩ := cls_at ci h1
  have hk18 : kK h a < 18 := by rw [hk]; omega
  have hlt : a < kN h := hH.2.2.1 a hk18
  have hat := hH.2.2.2 a hlt
  rw [ce_obj hk h1] at hat
  obtain ⟨r, g1, cell, q1, q2, q3, q4⟩ := hat
  have hr : r = (cnm ci, tO ci, nF ci) := Option.some.inj (g1.symm.trans c1)
  subst hr
  have hts := C.2.2.2.2.2.1
  have hown := C.2.2.2.2.1
  have hap := va_apart (own := cnm (mO M)) hts c2 (tyO ci) c3 c4 hK.1 c1
  obtain ⟨hSl, hfc, kC, hkC, hkind⟩ := hK.1.1 ci _ c1
  obtain ⟨cf, kf, fi, fd, hi, hsl⟩ := hSl f h2
  have hi' : s.fieldFound? (cnm ci) (tO ci f).2.1 (tO ci f).2.2.1 = some (cf, kf, fi, fd) := by rw [cls_own ci h1 f h2] at hi; exact hi
  have hst := (u_facts hfc hkC (u_lays hts c2 h2) hi).1
  have fin : ∀ H' : Heap, H'[G.1 + a]? = some (cell.setSlot ((D.2 ci) f) v) → H'.size = H.size → (∀ q, q ≠ G.1 + a → H'[q]? = H[q]?) → W p l e R s m args below meth c H' (locs ++ [⟨G.1 + a, (D.2 ci) f⟩]) cells slots Z (F0 m (pc + 3) ls rest) := by
    intro H' z1 z2 z3
    refine kk H' _ (hH.put (a := a) e1 e2 e3 z2 z3 ?_) (hS.put z2 z3 (Nat.le_add_right _ _))
    rw [ce_obj (by rw [e2]; exact hk) h1, e4]
    exact ⟨_, c1, t_OB.to (V := updV (vp_V (fl G h a)) f v) ⟨_, z1, q2, q3, t_set q4 hap h2 v⟩ (fun j _ => vp_updV_set (by rw [fl_len hk]; exact h2) v j)⟩
  rcases hfin with hfin | ⟨hnm, hown2⟩
  · have hlay := hts _ (c2 _ (u_in_lay h2))
    unfold u_lay at hlay
    rw [if_neg (by rw [hfin]; decide)] at hlay
    have h6 := u_store hfc hkC hkind hlay hi (c3 f h2) hn hfit
    refine W.putK C.1 C.2.1 (f := fd) ⟨hown, hts _ h3, ⟨_, _, _, hi'⟩, hst⟩ (by rw [q2]; exact h6) q1 q3 (by rw [hsl]; exact k2_hasslot (q4 f h2)) rfl rfl hd fun H' z1 z2 z3 => ?_
    rw [hsl] at z1 ⊢
    exact fin H' z1 z2 z3
  · by_cases hfin : (tO ci f).2.2.2 = true
    · have hlay := hts _ (c2 _ (u_in_lay h2))
      unfold u_lay at hlay
      rw [if_pos hfin] at hlay
      have hcf : m.cls = cf := by
        obtain ⟨_, _, c', _, _, _, -, -, hf', -, -, -, hown3, -⟩ := Cond.laysFinal_spec hlay
        have e1 : c' = cf := by have := hi.symm.trans hf'; simp at this; exact this.1.symm
        rw [cls_own ci h1 f h2, hown2] at hown3
        rw [← e1]; exact Option.some.inj (hown.symm.trans hown3)
      have h6 := u_fits hfc hkC hkind (Or.inr hlay) hi (c3 f h2) hn hfit
      refine W.putFinK C.1 C.2.1 hown (hts _ h3) hi' hst hcf (by rw [C.2.2.2.2.2.2.2.1]; exact hnm) (by rw [q2]; exact h6) q1 q3 (by rw [hsl]; exact k2_hasslot (q4 f h2)) rfl rfl hd fun H' z1 z2 z3 => ?_
      rw [hsl] at z1 ⊢
      exact fin H' z1 z2 z3
    · have hlay := hts _ (c2 _ (u_in_lay h2))
      unfold u_lay at hlay
      rw [if_neg hfin] at hlay
      have h6 := u_store hfc hkC hkind hlay hi (c3 f h2) hn hfit
      refine W.putK C.1 C.2.1 (f := fd) ⟨hown, hts _ h3, ⟨_, _, _, hi'⟩, hst⟩ (by rw [q2]; exact h6) q1 q3 (by rw [hsl]; exact k2_hasslot (q4 f h2)) rfl rfl hd fun H' z1 z2 z3 => ?_
      rw [hsl] at z1 ⊢
      exact fin H' z1 z2 z3
theorem fT_0 {ci f : Nat} (h : fT ci f = 0) : tyO ci f = .int := by
  unfold fT at h
  split at h
  · assumption
  · cases h
  · cases h
theorem fT_1 {ci f : Nat} (h : fT ci f = 1) : tyO ci f = .boolean := by
  unfold fT at h
  split at h
  · cases h
  · assumption
  · cases h
theorem ev_putI {M : MI} {d bc bs pc : Nat} {lv : List (Option Value)} {st : List Value} {h : HP} {Q : Option Value → HP → Prop} {i a ci f : Nat} {x : Int32} (hd : decode (mB M) pc = .ok (.putfield i, 3)) (hf : fd3 (flT (mO M)) i = some (ci, f)) (hk : kK h a = ci) (ht : fT ci f = 0 ∨ (fT ci f = 1 ∧ (x = 0 ∨ x = 1))) (hfin : (tO ci f).2.2.2 = false ∨ ((mY M).name = "<init>" ∧ ci = mO M))
    (k : Ev M d bc bs (pc + 3) lv st (sI h (u2 (kI h) a f x)) Q) : Ev M d bc bs pc lv (.int x :: .ref a :: st) h Q := by
  refine ev_full (h1 := sI h (u2 (kI h) a f x)) (Nat.le_refl (kN h)) (fun {p l e R s m args below meth c D cy G L xs H locs cells slots ls Z} C hdd hrr hK hH hS hl kk => ?_) k
  obtain ⟨h1, h2, h3⟩ := flk_ok hf
  have hk18 : kK h a < 18 := by rw [hk]; omega
  have e : cv G (.ref a) = .ref (G.1 + a) := by show Value.ref (ro G a) = _; rw [hH.ro hk18]
  have ht2 : Nat.beq (fT ci f) 2 = false := by
    rcases ht with h9 | h9
    · rw [h9]; rfl
    · rw [h9.1]; rfl
  rw [List.map_cons, List.map_cons, e]
  refine W_put (v := .int x) (h' := sI h (u2 (kI h) a f x)) C hK hH hS hf hk ?_ ?_ hfin rfl rfl (fun b hb => ce_eq rfl rfl (by show u2 _ _ _ _ b = _; rw [u2, u1_n _ _ hb]) rfl rfl rfl rfl) (fl_upd hk hk h2 ?_ ?_) hd (fun H1 locs1 a1 a2 => kk H1 locs1 ls a1 a2 hl)
  · rcases ht with h | ⟨h, hx⟩
    · rw [fT_0 h]; rfl
    · rw [fT_1 h]; rcases hx with rfl | rfl <;> decide
  · rcases ht with h | ⟨h, hx⟩
    · rw [fT_0 h]; rfl
    · rw [fT_1 h]; rcases hx with rfl | rfl <;> decide
  · show cv G (fvA (sI h (u2 (kI h) a f x)) a f _) = _
    unfold fvA
    rw [ht2]
    show Value.int (u2 (kI h) a f x a f) = _
    rw [u2_s]
  · intro j hj
    unfold fvA
    show (bif _ then va_rf (kR h a j) else Value.int (u2 (kI h) a f x a j)) = _
    rw [u2_k _ _ _ hj]
theorem ev_putR {M : MI} {d bc bs pc : Nat} {lv : List (Option Value)} {st : List Value} {h : HP} {Q : Option Value → HP → Prop} {i a ci f : Nat} {r : Option Nat} (hd : decode (mB M) pc = .ok (.putfield i, 3)) (hf : fd3 (flT (mO M)) i = some (ci, f)) (hk : kK h a = ci) (ht : fT ci f = 2) (hty : ∀ v, fits (tyO ci f) (va_rf v) = true ∧ narrow (tyO ci f) (va_rf v) = va_rf v) (hfin : (tO ci f).2.2.2 = false ∨ ((mY M).name = "<init>" ∧ ci = mO M))
    (k : Ev M d bc bs (pc + 3) lv st (sR h (u2 (kR h) a f r)) Q) : Ev M d bc bs pc lv (va_rf r :: .ref a :: st) h Q := by
  refine ev_full (h1 := sR h (u2 (kR h) a f r)) (Nat.le_refl (kN h)) (fun {p l e R s m args below meth c D cy G L xs H locs cells slots ls Z} C hdd hrr hK hH hS hl kk => ?_) k
  obtain ⟨h1, h2, h3⟩ := flk_ok hf
  have hk18 : kK h a < 18 := by rw [hk]; omega
  have e : cv G (.ref a) = .ref (G.1 + a) := by show Value.ref (ro G a) = _; rw [hH.ro hk18]
  have ht2 : Nat.beq (fT ci f) 2 = true := by rw [ht]; rfl
  rw [List.map_cons, List.map_cons, e, cv_rf]
  refine W_put (v := va_rf (r.map (ro G))) (h' := sR h (u2 (kR h) a f r)) C hK hH hS hf hk (hty _).2 (hty _).1 hfin rfl rfl (fun b hb => ce_eq rfl rfl rfl (by show u2 _ _ _ _ b = _; rw [u2, u1_n _ _ hb]) rfl rfl rfl) (fl_upd hk hk h2 ?_ ?_) hd (fun H1 locs1 a1 a2 => kk H1 locs1 ls a1 a2 hl)
  · show cv G (fvA (sR h (u2 (kR h) a f r)) a f _) = _
    unfold fvA
    rw [ht2]
    show cv G (va_rf (u2 (kR h) a f r a f)) = _
    rw [u2_s, cv_rf]
  · intro j hj
    unfold fvA
    show (bif _ then va_rf (u2 (kR h) a f r a j) else Value.int (kI h a j)) = _
    rw [u2_k _ _ _ hj]
theorem tyR_ok : ∀ ci, ci < 12 → ∀ f, f < nF ci → fT ci f = 2 → (∃ n, tyO ci f = .object n) ∨ ∃ t, tyO ci f = .array t := by
  intro ci h1 f h2 h3
  have key : ∀ ci, ci < 12 → ∀ f, f < nF ci → (match tyO ci f with | .int => true | .boolean => true | .object _ => true | .array _ => true | _ => false) = true := by decide +kernel
  have := key ci h1 f h2
  unfold fT at h3
  split at h3
  · cases h3
  · cases h3
  · rename_i n1 n2
    cases he : tyO ci f <;> rw [he] at this n1 n2 <;> first | exact Or.inl ⟨_, rfl⟩ | exact Or.inr ⟨_, rfl⟩ | exact absurd rfl n1 | exact absurd rfl n2 | cases this
theorem fits_rf {ci f : Nat} (h1 : ci < 12) (h2 : f < nF ci) (h3 : fT ci f = 2) (v : Option Nat) : fits (tyO ci f) (va_rf v) = true ∧ narrow (tyO ci f) (va_rf v) = va_rf v := by
  rcases tyR_ok ci h1 f h2 h3 with ⟨n, e⟩ | ⟨t, e⟩ <;> rw [e] <;> cases v <;> exact ⟨rfl, rfl⟩
theorem ev_iald {M : MI} {d bc bs pc : Nat} {lv : List (Option Value)} {st : List Value} {h : HP} {Q : Option Value → HP → Prop} {a : Nat} {i : Int32} (hd : decode (mB M) pc = .ok (.iaload, 1)) (hk : kK h a = 13) (hin : vp_in i (kL h a))
    (k : Ev M d bc bs (pc + 1) lv (.int (kA h a i.toNatClampNeg) :: st) h Q) : Ev M d bc bs pc lv (.int i :: .ref a :: st) h Q := by
  refine ev_full (Nat.le_refl _) (fun {p l e R s m args below meth c D cy G L xs H locs cells slots ls Z} C hdd hrr hK hH hS hl kk => ?_) k
  have hk18 : kK h a < 18 := by rw [hk]; omega
  have hP := hH.P hk18
  rw [ce_int hk (Or.inr (Or.inl rfl))] at hP
  have e : cv G (.ref a) = .ref (G.1 + a) := by show Value.ref (ro G a) = _; rw [hH.ro hk18]
  rw [List.map_cons, List.map_cons, e]
  exact va_iald C.1 C.2.1 hK.1 hP 0 1 rfl rfl hin hd (kk _ _ _ hH hS hl)
theorem ev_bald {M : MI} {d bc bs pc : Nat} {lv : List (Option Value)} {st : List Value} {h : HP} {Q : Option Value → HP → Prop} {a : Nat} {i : Int32} (hd : decode (mB M) pc = .ok (.baload, 1)) (hk : kK h a = 12) (hin : vp_in i (kL h a))
    (k : Ev M d bc bs (pc + 1) lv (.int (kA h a i.toNatClampNeg) :: st) h Q) : Ev M d bc bs pc lv (.int i :: .ref a :: st) h Q := by
  refine ev_full (Nat.le_refl _) (fun {p l e R s m args below meth c D cy G L xs H locs cells slots ls Z} C hdd hrr hK hH hS hl kk => ?_) k
  have hk18 : kK h a < 18 := by rw [hk]; omega
  have hP := hH.P hk18
  rw [ce_int hk (Or.inl rfl)] at hP
  have e : cv G (.ref a) = .ref (G.1 + a) := by show Value.ref (ro G a) = _; rw [hH.ro hk18]
  rw [List.map_cons, List.map_cons, e]
  exact va_bald C.1 C.2.1 hK.1 hP 0 0 rfl rfl hin hd (kk _ _ _ hH hS hl)
theorem ev_zald {M : MI} {d bc bs pc : Nat} {lv : List (Option Value)} {st : List Value} {h : HP} {Q : Option Value → HP → Prop} {a : Nat} {i : Int32} (hd : decode (mB M) pc = .ok (.baload, 1)) (hk : kK h a = 15) (hin : vp_in i (kL h a))
    (k : Ev M d bc bs (pc + 1) lv (.int (kA h a i.toNatClampNeg) :: st) h Q) : Ev M d bc bs pc lv (.int i :: .ref a :: st) h Q := by
  refine ev_full (Nat.le_refl _) (fun {p l e R s m args below meth c D cy G L xs H locs cells slots ls Z} C hdd hrr hK hH hS hl kk => ?_) k
  have hk18 : kK h a < 18 := by rw [hk]; omega
  have hP := hH.P hk18
  rw [ce_int hk (Or.inr (Or.inr rfl))] at hP
  have e : cv G (.ref a) = .ref (G.1 + a) := by show Value.ref (ro G a) = _; rw [hH.ro hk18]
  rw [List.map_cons, List.map_cons, e]
  exact va_zald C.1 C.2.1 hK.1 hP 0 3 rfl rfl hin hd (kk _ _ _ hH hS hl)
theorem ev_lald {M : MI} {d bc bs pc : Nat} {lv : List (Option Value)} {st : List Value} {h : HP} {Q : Option Value → HP → Prop} {a : Nat} {i : Int32} (hd : decode (mB M) pc = .ok (.laload, 1)) (hk : kK h a = 14) (hin : vp_in i (kL h a))
    (k : Ev M d bc bs (pc + 1) lv (.long (kJ h a i.toNatClampNeg) :: st) h Q) : Ev M d bc bs pc lv (.int i :: .ref a :: st) h Q := by
  refine ev_full (Nat.le_refl _) (fun {p l e R s m args below meth c D cy G L xs H locs cells slots ls Z} C hdd hrr hK hH hS hl kk => ?_) k
  have hk18 : kK h a < 18 := by rw [hk]; omega
  have hP := hH.P hk18
  rw [ce_long hk] at hP
  have e : cv G (.ref a) = .ref (G.1 + a) := by show Value.ref (ro G a) = _; rw [hH.ro hk18]
  rw [List.map_cons, List.map_cons, e]
  exact va_lald C.1 C.2.1 hK.1 hP 0 2 rfl rfl hin hd (kk _ _ _ hH hS hl)
theorem ev_qald16 {M : MI} {d bc bs pc : Nat} {lv : List (Option Value)} {st : List Value} {h : HP} {Q : Option Value → HP → Prop} {a : Nat} {i : Int32} (hd : decode (mB M) pc = .ok (.aaload, 1)) (hk : kK h a = 16) (hin : vp_in i (kL h a))
    (k : Ev M d bc bs (pc + 1) lv (va_rf (kQ h a i.toNatClampNeg) :: st) h Q) : Ev M d bc bs pc lv (.int i :: .ref a :: st) h Q := by
  refine ev_full (Nat.le_refl _) (fun {p l e R s m args below meth c D cy G L xs H locs cells slots ls Z} C hdd hrr hK hH hS hl kk => ?_) k
  have hk18 : kK h a < 18 := by rw [hk]; omega
  have hP := hH.P hk18
  rw [ce_ref hk (Or.inl rfl)] at hP
  have e : cv G (.ref a) = .ref (G.1 + a) := by show Value.ref (ro G a) = _; rw [hH.ro hk18]
  rw [List.map_cons, List.map_cons, e]
  exact va_aldq C.1 C.2.1 hK.1 hP 0 4 rfl rfl hin hd (by have kk2 := kk _ _ _ hH hS hl; rw [List.map_cons, cv_rf] at kk2; exact kk2)
theorem ev_qald17 {M : MI} {d bc bs pc : Nat} {lv : List (Option Value)} {st : List Value} {h : HP} {Q : Option Value → HP → Prop} {a : Nat} {i : Int32} (hd : decode (mB M) pc = .ok (.aaload, 1)) (hk : kK h a = 17) (hin : vp_in i (kL h a))
    (k : Ev M d bc bs (pc + 1) lv (va_rf (kQ h a i.toNatClampNeg) :: st) h Q) : Ev M d bc bs pc lv (.int i :: .ref a :: st) h Q := by
  refine ev_full (Nat.le_refl _) (fun {p l e R s m args below meth c D cy G L xs H locs cells slots ls Z} C hdd hrr hK hH hS hl kk => ?_) k
  have hk18 : kK h a < 18 := by rw [hk]; omega
  have hP := hH.P hk18
  rw [ce_ref hk (Or.inr rfl)] at hP
  have e : cv G (.ref a) = .ref (G.1 + a) := by show Value.ref (ro G a) = _; rw [hH.ro hk18]
  rw [List.map_cons, List.map_cons, e]
  exact va_aldq C.1 C.2.1 hK.1 hP 0 5 rfl rfl hin hd (by have kk2 := kk _ _ _ hH hS hl; rw [List.map_cons, cv_rf] at kk2; exact kk2)
theorem ev_iast {M : MI} {d bc bs pc : Nat} {lv : List (Option Value)} {st : List Value} {h : HP} {Q : Option Value → HP → Prop} {a : Nat} {i : Int32} {x : Int32} (hd : decode (mB M) pc = .ok (.iastore, 1)) (hk : kK h a = 13) (hin : vp_in i (kL h a))
    (k : Ev M d bc bs (pc + 1) lv st (sA h (u2 (kA h) a i.toNatClampNeg (x))) Q) : Ev M d bc bs pc lv (.int x :: .int i :: .ref a :: st) h Q := by
  refine ev_full (h1 := sA h (u2 (kA h) a i.toNatClampNeg (x))) (Nat.le_refl (kN h)) (fun {p l e R s m args below meth c D cy G L xs H locs cells slots ls Z} C hdd hrr hK hH hS hl kk => ?_) k
  have hk18 : kK h a < 18 := by rw [hk]; omega
  have hat := hH.2.2.2 a (hH.2.2.1 a hk18)
  rw [ce_int hk (Or.inr (Or.inl rfl))] at hat
  have e : cv G (.ref a) = .ref (G.1 + a) := by show Value.ref (ro G a) = _; rw [hH.ro hk18]
  rw [List.map_cons, List.map_cons, List.map_cons, e]
  refine W.iast C.1 C.2.1 hat ((hK.1.2 1 _ rfl).1 (kL h a) (fun j => .int (kA h a j))) (fun q => by cases q) (by show ¬ (i < 0 ∨ (arrV _ _ _).slots.size ≤ _); rw [arrV_size]; exact hin) rfl rfl hd fun H1 z1 z2 z3 => ?_
  refine kk H1 _ ls (hH.put (a := a) rfl rfl (fun b hb => ce_eq rfl rfl rfl rfl (by show u2 _ _ _ _ b = _; rw [u2, u1_n _ _ hb]) rfl rfl) z2 z3 ?_) (hS.put z2 z3 (Nat.le_add_right _ _)) hl
  rw [ce_int (h := sA h (u2 (kA h) a i.toNatClampNeg (x))) hk (Or.inr (Or.inl rfl))]
  show H1[G.1 + a]? = some (arrV (cy 13) (kL h a) (fun j => .int (u2 (kA h) a i.toNatClampNeg (x) a j)))
  refine (show H1[G.1 + a]? = some ((arrV (cy 13) (kL h a) (fun j => .int (kA h a j))).setSlot i.toNatClampNeg (.int x)) from z1).trans ?_
  rw [arrV_store]
  congr 2
  funext q
  show updV _ _ _ q = .int (u2 (kA h) a i.toNatClampNeg (x) a q)
  by_cases hq : q = i.toNatClampNeg
  · subst hq; rw [u2_s]; simp [updV]
  · rw [u2_k _ _ _ hq]; simp [updV, hq]
theorem ev_bast {M : MI} {d bc bs pc : Nat} {lv : List (Option Value)} {st : List Value} {h : HP} {Q : Option Value → HP → Prop} {a : Nat} {i : Int32} {x : Int32} (hd : decode (mB M) pc = .ok (.bastore, 1)) (hk : kK h a = 12) (hin : vp_in i (kL h a))
    (k : Ev M d bc bs (pc + 1) lv st (sA h (u2 (kA h) a i.toNatClampNeg (x.toInt8.toInt32))) Q) : Ev M d bc bs pc lv (.int x :: .int i :: .ref a :: st) h Q := by
  refine ev_full (h1 := sA h (u2 (kA h) a i.toNatClampNeg (x.toInt8.toInt32))) (Nat.le_refl (kN h)) (fun {p l e R s m args below meth c D cy G L xs H locs cells slots ls Z} C hdd hrr hK hH hS hl kk => ?_) k
  have hk18 : kK h a < 18 := by rw [hk]; omega
  have hat := hH.2.2.2 a (hH.2.2.1 a hk18)
  rw [ce_int hk (Or.inl rfl)] at hat
  have e : cv G (.ref a) = .ref (G.1 + a) := by show Value.ref (ro G a) = _; rw [hH.ro hk18]
  rw [List.map_cons, List.map_cons, List.map_cons, e]
  refine W.bast C.1 C.2.1 hat ((hK.1.2 0 _ rfl).1 (kL h a) (fun j => .int (kA h a j))) (fun q => by cases q) (by show ¬ (i < 0 ∨ (arrV _ _ _).slots.size ≤ _); rw [arrV_size]; exact hin) rfl rfl hd fun H1 z1 z2 z3 => ?_
  refine kk H1 _ ls (hH.put (a := a) rfl rfl (fun b hb => ce_eq rfl rfl rfl rfl (by show u2 _ _ _ _ b = _; rw [u2, u1_n _ _ hb]) rfl rfl) z2 z3 ?_) (hS.put z2 z3 (Nat.le_add_right _ _)) hl
  rw [ce_int (h := sA h (u2 (kA h) a i.toNatClampNeg (x.toInt8.toInt32))) hk (Or.inl rfl)]
  show H1[G.1 + a]? = some (arrV (cy 12) (kL h a) (fun j => .int (u2 (kA h) a i.toNatClampNeg (x.toInt8.toInt32) a j)))
  refine (show H1[G.1 + a]? = some ((arrV (cy 12) (kL h a) (fun j => .int (kA h a j))).setSlot i.toNatClampNeg (narrow .byte (.int x))) from z1).trans ?_
  rw [arrV_store]
  congr 2
  funext q
  show updV _ _ _ q = .int (u2 (kA h) a i.toNatClampNeg (x.toInt8.toInt32) a q)
  by_cases hq : q = i.toNatClampNeg
  · subst hq; rw [u2_s]; simp [updV]; try rfl
  · rw [u2_k _ _ _ hq]; simp [updV, hq]
theorem ev_zast {M : MI} {d bc bs pc : Nat} {lv : List (Option Value)} {st : List Value} {h : HP} {Q : Option Value → HP → Prop} {a : Nat} {i : Int32} {x : Int32} (hd : decode (mB M) pc = .ok (.bastore, 1)) (hk : kK h a = 15) (hin : vp_in i (kL h a))
    (k : Ev M d bc bs (pc + 1) lv st (sA h (u2 (kA h) a i.toNatClampNeg (vp_nar .boolean x))) Q) : Ev M d bc bs pc lv (.int x :: .int i :: .ref a :: st) h Q := by
  refine ev_full (h1 := sA h (u2 (kA h) a i.toNatClampNeg (vp_nar .boolean x))) (Nat.le_refl (kN h)) (fun {p l e R s m args below meth c D cy G L xs H locs cells slots ls Z} C hdd hrr hK hH hS hl kk => ?_) k
  have hk18 : kK h a < 18 := by rw [hk]; omega
  have hat := hH.2.2.2 a (hH.2.2.1 a hk18)
  rw [ce_int hk (Or.inr (Or.inr rfl))] at hat
  have e : cv G (.ref a) = .ref (G.1 + a) := by show Value.ref (ro G a) = _; rw [hH.ro hk18]
  rw [List.map_cons, List.map_cons, List.map_cons, e]
  refine W.zast C.1 C.2.1 hat ((hK.1.2 3 _ rfl).1 (kL h a) (fun j => .int (kA h a j))) (fun q => by cases q) (by show ¬ (i < 0 ∨ (arrV _ _ _).slots.size ≤ _); rw [arrV_size]; exact hin) rfl rfl hd fun H1 z1 z2 z3 => ?_
  refine kk H1 _ ls (hH.put (a := a) rfl rfl (fun b hb => ce_eq rfl rfl rfl rfl (by show u2 _ _ _ _ b = _; rw [u2, u1_n _ _ hb]) rfl rfl) z2 z3 ?_) (hS.put z2 z3 (Nat.le_add_right _ _)) hl
  rw [ce_int (h := sA h (u2 (kA h) a i.toNatClampNeg (vp_nar .boolean x))) hk (Or.inr (Or.inr rfl))]
  show H1[G.1 + a]? = some (arrV (cy 15) (kL h a) (fun j => .int (u2 (kA h) a i.toNatClampNeg (vp_nar .boolean x) a j)))
  refine (show H1[G.1 + a]? = some ((arrV (cy 15) (kL h a) (fun j => .int (kA h a j))).setSlot i.toNatClampNeg (narrow .boolean (.int x))) from z1).trans ?_
  rw [arrV_store]
  congr 2
  funext q
  show updV _ _ _ q = .int (u2 (kA h) a i.toNatClampNeg (vp_nar .boolean x) a q)
  by_cases hq : q = i.toNatClampNeg
  · subst hq; rw [u2_s]; simp [updV]; try rfl
  · rw [u2_k _ _ _ hq]; simp [updV, hq]
theorem ev_last {M : MI} {d bc bs pc : Nat} {lv : List (Option Value)} {st : List Value} {h : HP} {Q : Option Value → HP → Prop} {a : Nat} {i : Int32} {x : Int64} (hd : decode (mB M) pc = .ok (.lastore, 1)) (hk : kK h a = 14) (hin : vp_in i (kL h a))
    (k : Ev M d bc bs (pc + 1) lv st (sJ h (u2 (kJ h) a i.toNatClampNeg (x))) Q) : Ev M d bc bs pc lv (.long x :: .int i :: .ref a :: st) h Q := by
  refine ev_full (h1 := sJ h (u2 (kJ h) a i.toNatClampNeg (x))) (Nat.le_refl (kN h)) (fun {p l e R s m args below meth c D cy G L xs H locs cells slots ls Z} C hdd hrr hK hH hS hl kk => ?_) k
  have hk18 : kK h a < 18 := by rw [hk]; omega
  have hat := hH.2.2.2 a (hH.2.2.1 a hk18)
  rw [ce_long hk] at hat
  have e : cv G (.ref a) = .ref (G.1 + a) := by show Value.ref (ro G a) = _; rw [hH.ro hk18]
  rw [List.map_cons, List.map_cons, List.map_cons, e]
  refine W.last C.1 C.2.1 hat ((hK.1.2 2 _ rfl).1 (kL h a) (fun j => .long (kJ h a j))) (fun q => by cases q) (by show ¬ (i < 0 ∨ (arrV _ _ _).slots.size ≤ _); rw [arrV_size]; exact hin) rfl rfl hd fun H1 z1 z2 z3 => ?_
  refine kk H1 _ ls (hH.put (a := a) rfl rfl (fun b hb => ce_eq rfl rfl rfl rfl rfl (by show u2 _ _ _ _ b = _; rw [u2, u1_n _ _ hb]) rfl) z2 z3 ?_) (hS.put z2 z3 (Nat.le_add_right _ _)) hl
  rw [ce_long (h := sJ h (u2 (kJ h) a i.toNatClampNeg (x))) hk]
  show H1[G.1 + a]? = some (arrV (cy 14) (kL h a) (fun j => .long (u2 (kJ h) a i.toNatClampNeg (x) a j)))
  refine (show H1[G.1 + a]? = some ((arrV (cy 14) (kL h a) (fun j => .long (kJ h a j))).setSlot i.toNatClampNeg (.long x)) from z1).trans ?_
  rw [arrV_store]
  congr 2
  funext q
  show updV _ _ _ q = .long (u2 (kJ h) a i.toNatClampNeg (x) a q)
  by_cases hq : q = i.toNatClampNeg
  · subst hq; rw [u2_s]; simp [updV]
  · rw [u2_k _ _ _ hq]; simp [updV, hq]
theorem ev_alen {M : MI} {d bc bs pc : Nat} {lv : List (Option Value)} {st : List Value} {h : HP} {Q : Option Value → HP → Prop} {a j : Nat} (hd : decode (mB M) pc = .ok (.arraylength, 1)) (hk : kK h a = j) (hj : 12 ≤ j ∧ j < 18)
    (k : Ev M d bc bs (pc + 1) lv (.int (Int32.ofNat (kL h a)) :: st) h Q) : Ev M d bc bs pc lv (.ref a :: st) h Q := by
  refine ev_full (Nat.le_refl _) (fun {p l e R s m args below meth c D cy G L xs H locs cells slots ls Z} C hdd hrr hK hH hS hl kk => ?_) k
  have hk18 : kK h a < 18 := by rw [hk]; omega
  have hP := hH.P hk18
  have e : cv G (.ref a) = .ref (G.1 + a) := by show Value.ref (ro G a) = _; rw [hH.ro hk18]
  rw [List.map_cons, e]
  have hw := kk _ _ _ hH hS hl
  rcases (show j = 12 ∨ j = 13 ∨ j = 14 ∨ j = 15 ∨ j = 16 ∨ j = 17 by omega) with rfl | rfl | rfl | rfl | rfl | rfl
  · rw [ce_int hk (Or.inl rfl)] at hP; exact va_alen C.1 C.2.1 hK.1 hP 0 0 rfl rfl rfl hd hw
  · rw [ce_int hk (Or.inr (Or.inl rfl))] at hP; exact va_alen C.1 C.2.1 hK.1 hP 0 1 rfl rfl rfl hd hw
  · rw [ce_long hk] at hP; exact va_alen C.1 C.2.1 hK.1 hP 0 2 rfl rfl rfl hd hw
  · rw [ce_int hk (Or.inr (Or.inr rfl))] at hP; exact va_alen C.1 C.2.1 hK.1 hP 0 3 rfl rfl rfl hd hw
  · rw [ce_ref hk (Or.inl rfl)] at hP; exact va_alen C.1 C.2.1 hK.1 hP 0 4 rfl rfl rfl hd hw
  · rw [ce_ref hk (Or.inr rfl)] at hP; exact va_alen C.1 C.2.1 hK.1 hP 0 5 rfl rfl rfl hd hw
/-- one step of the picture: what must hold, and where it is then -/
def ex (M : MI) (i : Instr) (pc : Nat) (lv : List (Option Value)) (st : List Value) (h : HP) : Option (Option Prop × SG) := match i with
  | .iconst n => some (none, pc + 1, lv, .int (Int32.ofInt n) :: st, h)
  | .bipush n => some (none, pc + 2, lv, .int (Int8.ofInt n).toInt32 :: st, h)
  | .sipush n => some (none, pc + 3, lv, .int (Int16.ofInt n).toInt32 :: st, h)
  | .lconst n => some (none, pc + 1, lv, .long (Int64.ofNat (n : Nat)) :: st, h)
  | .aconst_null => some (none, pc + 1, lv, .null :: st, h)
  | .iadd => match st with
    | .int y :: .int x :: st => some (none, pc + 1, lv, .int (x + y) :: st, h)
    | _ => none
  | .isub => match st with
    | .int y :: .int x :: st => some (none, pc + 1, lv, .int (x - y) :: st, h)
    | _ => none
  | .imul => match st with
    | .int y :: .int x :: st => some (none, pc + 1, lv, .int (x * y) :: st, h)
    | _ => none
  | .iand => match st with
    | .int y :: .int x :: st => some (none, pc + 1, lv, .int (x &&& y) :: st, h)
    | _ => none
  | .ior => match st with
    | .int y :: .int x :: st => some (none, pc + 1, lv, .int (x ||| y) :: st, h)
    | _ => none
  | .ixor => match st with
    | .int y :: .int x :: st => some (none, pc + 1, lv, .int (x ^^^ y) :: st, h)
    | _ => none
  | .ishl => match st with
    | .int y :: .int x :: st => some (none, pc + 1, lv, .int (x <<< (y &&& 31)) :: st, h)
    | _ => none
  | .ishr => match st with
    | .int y :: .int x :: st => some (none, pc + 1, lv, .int (x >>> (y &&& 31)) :: st, h)
    | _ => none
  | .iushr => match st with
    | .int y :: .int x :: st => some (none, pc + 1, lv, .int ((x.toUInt32 >>> (y.toUInt32 &&& Int32.toUInt32 31)).toInt32) :: st, h)
    | _ => none
  | .idiv => match st with
    | .int y :: .int x :: st => some (some (¬ y = 0), pc + 1, lv, .int (x / y) :: st, h)
    | _ => none
  | .irem => match st with
    | .int y :: .int x :: st => some (some (¬ y = 0), pc + 1, lv, .int (x - x / y * y) :: st, h)
    | _ => none
  | .ladd => match st with
    | .long y :: .long x :: st => some (none, pc + 1, lv, .long (x + y) :: st, h)
    | _ => none
  | .lsub => match st with
    | .long y :: .long x :: st => some (none, pc + 1, lv, .long (x - y) :: st, h)
    | _ => none
  | .lmul => match st with
    | .long y :: .long x :: st => some (none, pc + 1, lv, .long (x * y) :: st, h)
    | _ => none
  | .ldiv => match st with
    | .long y :: .long x :: st => some (some (¬ y = 0), pc + 1, lv, .long (x / y) :: st, h)
    | _ => none
  | .lrem => match st with
    | .long y :: .long x :: st => some (some (¬ y = 0), pc + 1, lv, .long (x - x / y * y) :: st, h)
    | _ => none
  | .lcmp => match st with
    | .long y :: .long x :: st => some (none, pc + 1, lv, .int (lg_cmp x y) :: st, h)
    | _ => none
  | .ineg => match st with
    | .int x :: st => some (none, pc + 1, lv, .int (-x) :: st, h)
    | _ => none
  | .i2l => match st with
    | .int x :: st => some (none, pc + 1, lv, .long x.toInt64 :: st, h)
    | _ => none
  | .i2b => match st with
    | .int x :: st => some (none, pc + 1, lv, .int x.toInt8.toInt32 :: st, h)
    | _ => none
  | .l2i => match st with
    | .long x :: st => some (none, pc + 1, lv, .int x.toInt32 :: st, h)
    | _ => none
  | .dup => match st with
    | .int x :: st => some (none, pc + 1, lv, .int x :: .int x :: st, h)
    | .ref x :: st => some (none, pc + 1, lv, .ref x :: .ref x :: st, h)
    | _ => none
  | .pop => match st with
    | .int _ :: st => some (none, pc + 1, lv, st, h)
    | .ref _ :: st => some (none, pc + 1, lv, st, h)
    | _ => none
  | .dup_x1 => match st with
    | .int x :: .ref y :: st => some (none, pc + 1, lv, .int x :: .ref y :: .int x :: st, h)
    | .int x :: .int y :: st => some (none, pc + 1, lv, .int x :: .int y :: .int x :: st, h)
    | _ => none
  | .dup2 => match st with
    | .int x :: .ref y :: st => some (none, pc + 1, lv, .int x :: .ref y :: .int x :: .ref y :: st, h)
    | _ => none
  | .if_icmp c off => match st with
    | .int y :: .int x :: st => (match tgt pc off with
      | some t => (match c with
        | .eq => some (none, (if x = y then t else pc + 3), lv, st, h)
        | .ne => some (none, (if ¬ x = y then t else pc + 3), lv, st, h)
        | .lt => some (none, (if x < y then t else pc + 3), lv, st, h)
        | .ge => some (none, (if y ≤ x then t else pc + 3), lv, st, h)
        | .gt => some (none, (if y < x then t else pc + 3), lv, st, h)
        | .le => some (none, (if x ≤ y then t else pc + 3), lv, st, h))
      | none => none)
    | _ => none
  | .ifCond c off => match st with
    | .int x :: st => (match tgt pc off with
      | some t => (match c with
        | .eq => some (none, (if x = 0 then t else pc + 3), lv, st, h)
        | .ne => some (none, (if ¬ x = 0 then t else pc + 3), lv, st, h)
        | .lt => some (none, (if x < 0 then t else pc + 3), lv, st, h)
        | .ge => some (none, (if 0 ≤ x then t else pc + 3), lv, st, h)
        | .gt => some (none, (if 0 < x then t else pc + 3), lv, st, h)
        | .le => some (none, (if x ≤ 0 then t else pc + 3), lv, st, h))
      | none => none)
    | _ => none
  | .goto off => match tgt pc off with
    | some t => some (none, t, lv, st, h)
    | none => none
  | .ifnull off => match st with
    | .ref _ :: st => some (none, pc + 3, lv, st, h)
    | .null :: st => (match tgt pc off with
      | some t => some (none, t, lv, st, h)
      | none => none)
    | _ => none
  | .iload i => match lg lv i with
    | some (.int x) => some (none, pc + 2, lv, .int x :: st, h)
    | _ => none
  | .iload_n i => match lg lv i.val with
    | some (.int x) => some (none, pc + 1, lv, .int x :: st, h)
    | _ => none
  | .lload i => match lg lv i with
    | some (.long x) => some (none, pc + 2, lv, .long x :: st, h)
    | _ => none
  | .lload_n i => match lg lv i.val with
    | some (.long x) => some (none, pc + 1, lv, .long x :: st, h)
    | _ => none
  | .aload i => match lg lv i with
    | some (.ref x) => some (none, pc + 2, lv, .ref x :: st, h)
    | some .null => some (none, pc + 2, lv, .null :: st, h)
    | _ => none
  | .aload_n i => match lg lv i.val with
    | some (.ref x) => some (none, pc + 1, lv, .ref x :: st, h)
    | _ => none
  | .istore i => match st with
    | .int x :: st => bif Nat.blt (i) (mX M) then some (none, pc + 2, ls1 lv i (.int x), st, h) else none
    | _ => none
  | .istore_n i => match st with
    | .int x :: st => bif Nat.blt (i.val) (mX M) then some (none, pc + 1, ls1 lv i.val (.int x), st, h) else none
    | _ => none
  | .lstore i => match st with
    | .long x :: st => bif Nat.blt (i + 1) (mX M) then some (none, pc + 2, ls2 lv i (.long x), st, h) else none
    | _ => none
  | .lstore_n i => match st with
    | .long x :: st => bif Nat.blt (i.val + 1) (mX M) then some (none, pc + 1, ls2 lv i.val (.long x), st, h) else none
    | _ => none
  | .astore i => match st with
    | .ref x :: st => bif Nat.blt (i) (mX M) then some (none, pc + 2, ls1 lv i (.ref x), st, h) else none
    | .null :: st => bif Nat.blt i (mX M) then some (none, pc + 2, ls1 lv i .null, st, h) else none
    | _ => none
  | .astore_n i => match st with
    | .ref x :: st => bif Nat.blt (i.val) (mX M) then some (none, pc + 1, ls1 lv i.val (.ref x), st, h) else none
    | _ => none
  | .iinc i n => match lg lv i with
    | some (.int x) => bif Nat.blt i (mX M) then some (none, pc + 3, ls1 lv i (.int (x + Int32.ofInt n)), st, h) else none
    | _ => none
  | .ldc i => match ldk (mO M) i with
    | some v => some (none, pc + 2, lv, .int v :: st, h)
    | none => none
  | .ldc_w i => match ldk (mO M) i with
    | some v => some (none, pc + 3, lv, .int v :: st, h)
    | none => none
  | .ldc2_w i => match ldk2 (mO M) i with
    | some v => some (none, pc + 3, lv, .long v :: st, h)
    | none => none
  | .getfield i => match st with
    | .ref a :: st => (match fd3 (flT (mO M)) i with
      | some (ci, f) => bif Nat.beq (kK h a) ci then some (none, pc + 3, lv, fvA h a f (fT ci f) :: st, h) else none
      | none => none)
    | _ => none
  | .putfield i => match st with
    | .int x :: .ref a :: st => (match fd3 (flT (mO M)) i with
      | some (ci, f) => bif Nat.beq (kK h a) ci && (!(tO ci f).2.2.2 || (Nat.beq ci (mO M) && ini M)) then (bif Nat.beq (fT ci f) 0 then some (none, pc + 3, lv, st, sI h (u2 (kI h) a f x)) else bif Nat.beq (fT ci f) 1 then some (some (x = 0 ∨ x = 1), pc + 3, lv, st, sI h (u2 (kI h) a f x)) else none) else none
      | none => none)
    | .ref b :: .ref a :: st => (match fd3 (flT (mO M)) i with
      | some (ci, f) => bif Nat.beq (kK h a) ci && (!(tO ci f).2.2.2 || (Nat.beq ci (mO M) && ini M)) then (bif Nat.beq (fT ci f) 2 then some (none, pc + 3, lv, st, sR h (u2 (kR h) a f (some b))) else none) else none
      | none => none)
    | _ => none
  | .iaload => match st with
    | .int i :: .ref a :: st => bif Nat.beq (kK h a) 13 then some (some (vp_in i (kL h a)), pc + 1, lv, .int (kA h a i.toNatClampNeg) :: st, h) else none
    | _ => none
  | .laload => match st with
    | .int i :: .ref a :: st => bif Nat.beq (kK h a) 14 then some (some (vp_in i (kL h a)), pc + 1, lv, .long (kJ h a i.toNatClampNeg) :: st, h) else none
    | _ => none
  | .baload => match st with
    | .int i :: .ref a :: st => bif Nat.beq (kK h a) 12 then some (some (vp_in i (kL h a)), pc + 1, lv, .int (kA h a i.toNatClampNeg) :: st, h) else bif Nat.beq (kK h a) 15 then some (some (vp_in i (kL h a)), pc + 1, lv, .int (kA h a i.toNatClampNeg) :: st, h) else none
    | _ => none
  | .aaload => match st with
    | .int i :: .ref a :: st => bif Nat.beq (kK h a) 16 then some (some (vp_in i (kL h a)), pc + 1, lv, va_rf (kQ h a i.toNatClampNeg) :: st, h) else bif Nat.beq (kK h a) 17 then some (some (vp_in i (kL h a)), pc + 1, lv, va_rf (kQ h a i.toNatClampNeg) :: st, h) else none
    | _ => none
  | .iastore => match st with
    | .int x :: .int i :: .ref a :: st => bif Nat.beq (kK h a) 13 then some (some (vp_in i (kL h a)), pc + 1, lv, st, sA h (u2 (kA h) a i.toNatClampNeg x)) else none
    | _ => none
  | .lastore => match st with
    | .long x :: .int i :: .ref a :: st => bif Nat.beq (kK h a) 14 then some (some (vp_in i (kL h a)), pc + 1, lv, st, sJ h (u2 (kJ h) a i.toNatClampNeg x)) else none
    | _ => none
  | .bastore => match st with
    | .int x :: .int i :: .ref a :: st => bif Nat.beq (kK h a) 12 then some (some (vp_in i (kL h a)), pc + 1, lv, st, sA h (u2 (kA h) a i.toNatClampNeg x.toInt8.toInt32)) else bif Nat.beq (kK h a) 15 then some (some (vp_in i (kL h a)), pc + 1, lv, st, sA h (u2 (kA h) a i.toNatClampNeg (vp_nar .boolean x))) else none
    | _ => none
  | .arraylength => match st with
    | .ref a :: st => bif Nat.blt 11 (kK h a) && Nat.blt (kK h a) 18 then some (none, pc + 1, lv, .int (Int32.ofNat (kL h a)) :: st, h) else none
    | _ => none
  | _ => none
def ilen : Instr → Nat
  | .iconst _ => 1
  | .bipush _ => 2
  | .sipush _ => 3
  | .lconst _ => 1
  | .aconst_null => 1
  | .iadd => 1
  | .isub => 1
  | .imul => 1
  | .iand => 1
  | .ior => 1
  | .ixor => 1
  | .ishl => 1
  | .ishr => 1
  | .iushr => 1
  | .idiv => 1
  | .irem => 1
  | .ladd => 1
  | .lsub => 1
  | .lmul => 1
  | .ldiv => 1
  | .lrem => 1
  | .lcmp => 1
  | .ineg => 1
  | .i2l => 1
  | .i2b => 1
  | .l2i => 1
  | .dup => 1
  | .pop => 1
  | .dup_x1 => 1
  | .dup2 => 1
  | .if_icmp _ _ => 3
  | .ifCond _ _ => 3
  | .goto _ => 3
  | .ifnull _ => 3
  | .iload _ => 2
  | .iload_n _ => 1
  | .lload _ => 2
  | .lload_n _ => 1
  | .aload _ => 2
  | .aload_n _ => 1
  | .istore _ => 2
  | .istore_n _ => 1
  | .lstore _ => 2
  | .lstore_n _ => 1
  | .astore _ => 2
  | .astore_n _ => 1
  | .iinc _ _ => 3
  | .ldc _ => 2
  | .ldc_w _ => 3
  | .ldc2_w _ => 3
  | .getfield _ => 3
  | .putfield _ => 3
  | .iaload => 1
  | .laload => 1
  | .baload => 1
  | .aaload => 1
  | .iastore => 1
  | .lastore => 1
  | .bastore => 1
  | .arraylength => 1
  | _ => 0
theorem ex_ok {M : MI} {d bc bs pc : Nat} {lv : List (Option Value)} {st : List Value} {h : HP} {Q : Option Value → HP → Prop} {i : Instr} {len : Nat} {P : Option Prop} {pc' : Nat} {lv' : List (Option Value)} {st' : List Value} {h' : HP} (hd : decode (mB M) pc = .ok (i, len)) (hlen : ilen i = len) (he : ex M i pc lv st h = some (P, pc', lv', st', h')) (hP : oP P) (k : Ev M d bc bs pc' lv' st' h' Q) : Ev M d bc bs pc lv st h Q := by
  subst hlen
  cases i
  case iconst n =>
    simp only [ex] at he
    simp only [ilen] at hd
    simp only [Option.some.injEq, Prod.mk.injEq] at he
    obtain ⟨rfl, rfl, rfl, rfl, rfl⟩ := he
    exact ev_iconst hd k
  case bipush n =>
    simp only [ex] at he
    simp only [ilen] at hd
    simp only [Option.some.injEq, Prod.mk.injEq] at he
    obtain ⟨rfl, rfl, rfl, rfl, rfl⟩ := he
    exact ev_bipush hd k
  case sipush n =>
    simp only [ex] at he
    simp only [ilen] at hd
    simp only [Option.some.injEq, Prod.mk.injEq] at he
    obtain ⟨rfl, rfl, rfl, rfl, rfl⟩ := he
    exact ev_sipush hd k
  case lconst n =>
    simp only [ex] at he
    simp only [ilen] at hd
    simp only [Option.some.injEq, Prod.mk.injEq] at he
    obtain ⟨rfl, rfl, rfl, rfl, rfl⟩ := he
    exact ev_lconst hd k
  case aconst_null =>
    simp only [ex] at he
    simp only [ilen] at hd
    simp only [Option.some.injEq, Prod.mk.injEq] at he
    obtain ⟨rfl, rfl, rfl, rfl, rfl⟩ := he
    exact ev_null hd k
  case iadd =>
    simp only [ex] at he
    simp only [ilen] at hd
    repeat (any_goals (split at he))
    all_goals first | (cases he; done) | skip
    all_goals (
      simp only [Option.some.injEq, Prod.mk.injEq] at he
      obtain ⟨rfl, rfl, rfl, rfl, rfl⟩ := he
      exact ev_iadd hd k)
  case isub =>
    simp only [ex] at he
    simp only [ilen] at hd
    repeat (any_goals (split at he))
    all_goals first | (cases he; done) | skip
    all_goals (
      simp only [Option.some.injEq, Prod.mk.injEq] at he
      obtain ⟨rfl, rfl, rfl, rfl, rfl⟩ := he
      exact ev_isub hd k)
  case imul =>
    simp only [ex] at he
    simp only [ilen] at hd
    repeat (any_goals (split at he))
    all_goals first | (cases he; done) | skip
    all_goals (
      simp only [Option.some.injEq, Prod.mk.injEq] at he
      obtain ⟨rfl, rfl, rfl, rfl, rfl⟩ := he
      exact ev_imul hd k)
  case iand =>
    simp only [ex] at he
    simp only [ilen] at hd
    repeat (any_goals (split at he))
    all_goals first | (cases he; done) | skip
    all_goals (
      simp only [Option.some.injEq, Prod.mk.injEq] at he
      obtain ⟨rfl, rfl, rfl, rfl, rfl⟩ := he
      exact ev_iand hd k)
  case ior =>
    simp only [ex] at he
    simp only [ilen] at hd
    repeat (any_goals (split at he))
    all_goals first | (cases he; done) | skip
    all_goals (
      simp only [Option.some.injEq, Prod.mk.injEq] at he
      obtain ⟨rfl, rfl, rfl, rfl, rfl⟩ := he
      exact ev_ior hd k)
  case ixor =>
    simp only [ex] at he
    simp only [ilen] at hd
    repeat (any_goals (split at he))
    all_goals first | (cases he; done) | skip
    all_goals (
      simp only [Option.some.injEq, Prod.mk.injEq] at he
      obtain ⟨rfl, rfl, rfl, rfl, rfl⟩ := he
      exact ev_ixor hd k)
  case ishl =>
    simp only [ex] at he
    simp only [ilen] at hd
    repeat (any_goals (split at he))
    all_goals first | (cases he; done) | skip
    all_goals (
      simp only [Option.some.injEq, Prod.mk.injEq] at he
      obtain ⟨rfl, rfl, rfl, rfl, rfl⟩ := he
      exact ev_ishl hd k)
  case ishr =>
    simp only [ex] at he
    simp only [ilen] at hd
    repeat (any_goals (split at he))
    all_goals first | (cases he; done) | skip
    all_goals (
      simp only [Option.some.injEq, Prod.mk.injEq] at he
      obtain ⟨rfl, rfl, rfl, rfl, rfl⟩ := he
      exact ev_ishr hd k)
  case iushr =>
    simp only [ex] at he
    simp only [ilen] at hd
    repeat (any_goals (split at he))
    all_goals first | (cases he; done) | skip
    all_goals (
      simp only [Option.some.injEq, Prod.mk.injEq] at he
      obtain ⟨rfl, rfl, rfl, rfl, rfl⟩ := he
      exact ev_iushr hd k)
  case idiv =>
    simp only [ex] at he
    simp only [ilen] at hd
    repeat (any_goals (split at he))
    all_goals first | (cases he; done) | skip
    all_goals (
      simp only [Option.some.injEq, Prod.mk.injEq] at he
      obtain ⟨rfl, rfl, rfl, rfl, rfl⟩ := he
      exact ev_idiv hd hP k)
  case irem =>
    simp only [ex] at he
    simp only [ilen] at hd
    repeat (any_goals (split at he))
    all_goals first | (cases he; done) | skip
    all_goals (
      simp only [Option.some.injEq, Prod.mk.injEq] at he
      obtain ⟨rfl, rfl, rfl, rfl, rfl⟩ := he
      exact ev_irem hd hP k)
  case ladd =>
    simp only [ex] at he
    simp only [ilen] at hd
    repeat (any_goals (split at he))
    all_goals first | (cases he; done) | skip
    all_goals (
      simp only [Option.some.injEq, Prod.mk.injEq] at he
      obtain ⟨rfl, rfl, rfl, rfl, rfl⟩ := he
      exact ev_ladd hd k)
  case lsub =>
    simp only [ex] at he
    simp only [ilen] at hd
    repeat (any_goals (split at he))
    all_goals first | (cases he; done) | skip
    all_goals (
      simp only [Option.some.injEq, Prod.mk.injEq] at he
      obtain ⟨rfl, rfl, rfl, rfl, rfl⟩ := he
      exact ev_lsub hd k)
  case lmul =>
    simp only [ex] at he
    simp only [ilen] at hd
    repeat (any_goals (split at he))
    all_goals first | (cases he; done) | skip
    all_goals (
      simp only [Option.some.injEq, Prod.mk.injEq] at he
      obtain ⟨rfl, rfl, rfl, rfl, rfl⟩ := he
      exact ev_lmul hd k)
  case ldiv =>
    simp only [ex] at he
    simp only [ilen] at hd
    repeat (any_goals (split at he))
    all_goals first | (cases he; done) | skip
    all_goals (
      simp only [Option.some.injEq, Prod.mk.injEq] at he
      obtain ⟨rfl, rfl, rfl, rfl, rfl⟩ := he
      exact ev_ldiv hd hP k)
  case lrem =>
    simp only [ex] at he
    simp only [ilen] at hd
    repeat (any_goals (split at he))
    all_goals first | (cases he; done) | skip
    all_goals (
      simp only [Option.some.injEq, Prod.mk.injEq] at he
      obtain ⟨rfl, rfl, rfl, rfl, rfl⟩ := he
      exact ev_lrem hd hP k)
  case lcmp =>
    simp only [ex] at he
    simp only [ilen] at hd
    repeat (any_goals (split at he))
    all_goals first | (cases he; done) | skip
    all_goals (
      simp only [Option.some.injEq, Prod.mk.injEq] at he
      obtain ⟨rfl, rfl, rfl, rfl, rfl⟩ := he
      exact ev_lcmp hd k)
  case ineg =>
    simp only [ex] at he
    simp only [ilen] at hd
    repeat (any_goals (split at he))
    all_goals first | (cases he; done) | skip
    all_goals (
      simp only [Option.some.injEq, Prod.mk.injEq] at he
      obtain ⟨rfl, rfl, rfl, rfl, rfl⟩ := he
      exact ev_ineg hd k)
  case i2l =>
    simp only [ex] at he
    simp only [ilen] at hd
    repeat (any_goals (split at he))
    all_goals first | (cases he; done) | skip
    all_goals (
      simp only [Option.some.injEq, Prod.mk.injEq] at he
      obtain ⟨rfl, rfl, rfl, rfl, rfl⟩ := he
      exact ev_i2l hd k)
  case i2b =>
    simp only [ex] at he
    simp only [ilen] at hd
    repeat (any_goals (split at he))
    all_goals first | (cases he; done) | skip
    all_goals (
      simp only [Option.some.injEq, Prod.mk.injEq] at he
      obtain ⟨rfl, rfl, rfl, rfl, rfl⟩ := he
      exact ev_i2b hd k)
  case l2i =>
    simp only [ex] at he
    simp only [ilen] at hd
    repeat (any_goals (split at he))
    all_goals first | (cases he; done) | skip
    all_goals (
      simp only [Option.some.injEq, Prod.mk.injEq] at he
      obtain ⟨rfl, rfl, rfl, rfl, rfl⟩ := he
      exact ev_l2i hd k)
  case dup =>
    simp only [ex] at he
    simp only [ilen] at hd
    repeat (any_goals (split at he))
    all_goals first | (cases he; done) | skip
    all_goals (
      simp only [Option.some.injEq, Prod.mk.injEq] at he
      obtain ⟨rfl, rfl, rfl, rfl, rfl⟩ := he
      exact ev_dup hd rfl k)
  case pop =>
    simp only [ex] at he
    simp only [ilen] at hd
    repeat (any_goals (split at he))
    all_goals first | (cases he; done) | skip
    all_goals (
      simp only [Option.some.injEq, Prod.mk.injEq] at he
      obtain ⟨rfl, rfl, rfl, rfl, rfl⟩ := he
      exact ev_pop hd rfl k)
  case dup_x1 =>
    simp only [ex] at he
    simp only [ilen] at hd
    repeat (any_goals (split at he))
    all_goals first | (cases he; done) | skip
    all_goals (
      simp only [Option.some.injEq, Prod.mk.injEq] at he
      obtain ⟨rfl, rfl, rfl, rfl, rfl⟩ := he
      exact ev_dup_x1 hd rfl rfl k)
  case dup2 =>
    simp only [ex] at he
    simp only [ilen] at hd
    repeat (any_goals (split at he))
    all_goals first | (cases he; done) | skip
    all_goals (
      simp only [Option.some.injEq, Prod.mk.injEq] at he
      obtain ⟨rfl, rfl, rfl, rfl, rfl⟩ := he
      exact ev_dup2 hd rfl rfl k)
  case if_icmp c off =>
    simp only [ex] at he
    simp only [ilen] at hd
    split at he
    · split at he
      · rename_i t ht
        cases c <;> (simp only [Option.some.injEq, Prod.mk.injEq] at he; obtain ⟨rfl, rfl, rfl, rfl, rfl⟩ := he)
        · exact ev_icmp_eq hd ht k
        · exact ev_icmp_ne hd ht k
        · exact ev_icmp_lt hd ht k
        · exact ev_icmp_ge hd ht k
        · exact ev_icmp_gt hd ht k
        · exact ev_icmp_le hd ht k
      · cases he
    · cases he
  case ifCond c off =>
    simp only [ex] at he
    simp only [ilen] at hd
    split at he
    · split at he
      · rename_i t ht
        cases c <;> (simp only [Option.some.injEq, Prod.mk.injEq] at he; obtain ⟨rfl, rfl, rfl, rfl, rfl⟩ := he)
        · exact ev_if_eq hd ht k
        · exact ev_if_ne hd ht k
        · exact ev_if_lt hd ht k
        · exact ev_if_ge hd ht k
        · exact ev_if_gt hd ht k
        · exact ev_if_le hd ht k
      · cases he
    · cases he
  case goto off =>
    simp only [ex] at he
    simp only [ilen] at hd
    repeat (any_goals (split at he))
    all_goals first | (cases he; done) | skip
    all_goals (
      simp only [Option.some.injEq, Prod.mk.injEq] at he
      obtain ⟨rfl, rfl, rfl, rfl, rfl⟩ := he
      exact ev_goto hd (by assumption) k)
  case ifnull off =>
    simp only [ex] at he
    simp only [ilen] at hd
    repeat (any_goals (split at he))
    all_goals first | (cases he; done) | skip
    all_goals (
      simp only [Option.some.injEq, Prod.mk.injEq] at he
      obtain ⟨rfl, rfl, rfl, rfl, rfl⟩ := he
      first | exact ev_ifnull hd k | exact ev_ifnullN hd (by assumption) k)
  case iload i =>
    simp only [ex] at he
    simp only [ilen] at hd
    repeat (any_goals (split at he))
    all_goals first | (cases he; done) | skip
    all_goals (
      simp only [Option.some.injEq, Prod.mk.injEq] at he
      obtain ⟨rfl, rfl, rfl, rfl, rfl⟩ := he
      exact ev_iload hd (by assumption) k)
  case iload_n i =>
    simp only [ex] at he
    simp only [ilen] at hd
    repeat (any_goals (split at he))
    all_goals first | (cases he; done) | skip
    all_goals (
      simp only [Option.some.injEq, Prod.mk.injEq] at he
      obtain ⟨rfl, rfl, rfl, rfl, rfl⟩ := he
      exact ev_iload_n hd (by assumption) k)
  case lload i =>
    simp only [ex] at he
    simp only [ilen] at hd
    repeat (any_goals (split at he))
    all_goals first | (cases he; done) | skip
    all_goals (
      simp only [Option.some.injEq, Prod.mk.injEq] at he
      obtain ⟨rfl, rfl, rfl, rfl, rfl⟩ := he
      exact ev_lload hd (by assumption) k)
  case lload_n i =>
    simp only [ex] at he
    simp only [ilen] at hd
    repeat (any_goals (split at he))
    all_goals first | (cases he; done) | skip
    all_goals (
      simp only [Option.some.injEq, Prod.mk.injEq] at he
      obtain ⟨rfl, rfl, rfl, rfl, rfl⟩ := he
      exact ev_lload_n hd (by assumption) k)
  case aload i =>
    simp only [ex] at he
    simp only [ilen] at hd
    repeat (any_goals (split at he))
    all_goals first | (cases he; done) | skip
    all_goals (
      simp only [Option.some.injEq, Prod.mk.injEq] at he
      obtain ⟨rfl, rfl, rfl, rfl, rfl⟩ := he
      first | exact ev_aload hd (by assumption) k | exact ev_aloadN hd (by assumption) k)
  case aload_n i =>
    simp only [ex] at he
    simp only [ilen] at hd
    repeat (any_goals (split at he))
    all_goals first | (cases he; done) | skip
    all_goals (
      simp only [Option.some.injEq, Prod.mk.injEq] at he
      obtain ⟨rfl, rfl, rfl, rfl, rfl⟩ := he
      exact ev_aload_n hd (by assumption) k)
  case istore i =>
    simp only [ex] at he
    simp only [ilen] at hd
    repeat (any_goals (split at he))
    all_goals first | (cases he; done) | skip
    all_goals (
      rw [cond_eq_ite] at he
      split at he
      · rename_i hb
        simp only [Option.some.injEq, Prod.mk.injEq] at he
        obtain ⟨rfl, rfl, rfl, rfl, rfl⟩ := he
        first | exact ev_istore hd (blt_ok hb) k | exact ev_astoreN hd (blt_ok hb) k
      · cases he)
  case istore_n i =>
    simp only [ex] at he
    simp only [ilen] at hd
    repeat (any_goals (split at he))
    all_goals first | (cases he; done) | skip
    all_goals (
      rw [cond_eq_ite] at he
      split at he
      · rename_i hb
        simp only [Option.some.injEq, Prod.mk.injEq] at he
        obtain ⟨rfl, rfl, rfl, rfl, rfl⟩ := he
        exact ev_istore_n hd (blt_ok hb) k
      · cases he)
  case lstore i =>
    simp only [ex] at he
    simp only [ilen] at hd
    repeat (any_goals (split at he))
    all_goals first | (cases he; done) | skip
    all_goals (
      rw [cond_eq_ite] at he
      split at he
      · rename_i hb
        simp only [Option.some.injEq, Prod.mk.injEq] at he
        obtain ⟨rfl, rfl, rfl, rfl, rfl⟩ := he
        first | exact ev_lstore hd (blt_ok hb) k | exact ev_astoreN hd (blt_ok hb) k
      · cases he)
  case lstore_n i =>
    simp only [ex] at he
    simp only [ilen] at hd
    repeat (any_goals (split at he))
    all_goals first | (cases he; done) | skip
    all_goals (
      rw [cond_eq_ite] at he
      split at he
      · rename_i hb
        simp only [Option.some.injEq, Prod.mk.injEq] at he
        obtain ⟨rfl, rfl, rfl, rfl, rfl⟩ := he
        exact ev_lstore_n hd (blt_ok hb) k
      · cases he)
  case astore i =>
    simp only [ex] at he
    simp only [ilen] at hd
    repeat (any_goals (split at he))
    all_goals first | (cases he; done) | skip
    all_goals (
      rw [cond_eq_ite] at he
      split at he
      · rename_i hb
        simp only [Option.some.injEq, Prod.mk.injEq] at he
        obtain ⟨rfl, rfl, rfl, rfl, rfl⟩ := he
        first | exact ev_astore hd (blt_ok hb) k | exact ev_astoreN hd (blt_ok hb) k
      · cases he)
  case astore_n i =>
    simp only [ex] at he
    simp only [ilen] at hd
    repeat (any_goals (split at he))
    all_goals first | (cases he; done) | skip
    all_goals (
      rw [cond_eq_ite] at he
      split at he
      · rename_i hb
        simp only [Option.some.injEq, Prod.mk.injEq] at he
        obtain ⟨rfl, rfl, rfl, rfl, rfl⟩ := he
        exact ev_astore_n hd (blt_ok hb) k
      · cases he)
  case iinc i n =>
    simp only [ex] at he
    simp only [ilen] at hd
    repeat (any_goals (split at he))
    all_goals first | (cases he; done) | skip
    all_goals (
      rw [cond_eq_ite] at he
      split at he
      · rename_i hb
        simp only [Option.some.injEq, Prod.mk.injEq] at he
        obtain ⟨rfl, rfl, rfl, rfl, rfl⟩ := he
        exact ev_iinc hd (blt_ok hb) (by assumption) k
      · cases he)
  case ldc i =>
    simp only [ex] at he
    simp only [ilen] at hd
    repeat (any_goals (split at he))
    all_goals first | (cases he; done) | skip
    all_goals (
      simp only [Option.some.injEq, Prod.mk.injEq] at he
      obtain ⟨rfl, rfl, rfl, rfl, rfl⟩ := he
      exact ev_ldc hd (by assumption) k)
  case ldc_w i =>
    simp only [ex] at he
    simp only [ilen] at hd
    repeat (any_goals (split at he))
    all_goals first | (cases he; done) | skip
    all_goals (
      simp only [Option.some.injEq, Prod.mk.injEq] at he
      obtain ⟨rfl, rfl, rfl, rfl, rfl⟩ := he
      exact ev_ldcw hd (by assumption) k)
  case ldc2_w i =>
    simp only [ex] at he
    simp only [ilen] at hd
    repeat (any_goals (split at he))
    all_goals first | (cases he; done) | skip
    all_goals (
      simp only [Option.some.injEq, Prod.mk.injEq] at he
      obtain ⟨rfl, rfl, rfl, rfl, rfl⟩ := he
      exact ev_ldc2 hd (by assumption) k)
  case getfield i =>
    simp only [ex] at he
    simp only [ilen] at hd
    repeat (any_goals (split at he))
    all_goals first | (cases he; done) | skip
    all_goals (
      rw [cond_eq_ite] at he
      split at he
      · rename_i hb
        simp only [Option.some.injEq, Prod.mk.injEq] at he
        obtain ⟨rfl, rfl, rfl, rfl, rfl⟩ := he
        exact ev_getf hd (by assumption) (Nat.eq_of_beq_eq_true hb) k
      · cases he)
  case putfield i =>
    simp only [ex] at he
    simp only [ilen] at hd
    split at he
    · split at he
      · rename_i ci f hf
        cases hb : (Nat.beq (kK h _) ci && (!(tO ci f).2.2.2 || (Nat.beq ci (mO M) && ini M))) with
        | false => rw [hb] at he; cases he
        | true =>
          rw [hb] at he
          rw [Bool.and_eq_true] at hb
          have hfin : (tO ci f).2.2.2 = false ∨ ((mY M).name = "<init>" ∧ ci = mO M) := by
            have h2 := hb.2
            rw [Bool.or_eq_true, Bool.and_eq_true] at h2
            rcases h2 with h2 | h2
            · exact Or.inl (by simpa using h2)
            · exact Or.inr ⟨by simpa [ini] using h2.2, Nat.eq_of_beq_eq_true h2.1⟩
          cases h0 : Nat.beq (fT ci f) 0 with
          | true =>
            rw [h0] at he
            simp only [cond_true, Option.some.injEq, Prod.mk.injEq] at he
            obtain ⟨rfl, rfl, rfl, rfl, rfl⟩ := he
            exact ev_putI hd hf (Nat.eq_of_beq_eq_true hb.1) (Or.inl (Nat.eq_of_beq_eq_true h0)) hfin k
          | false =>
            rw [h0] at he
            cases h1 : Nat.beq (fT ci f) 1 with
            | true =>
              rw [h1] at he
              simp only [cond_true, cond_false, Option.some.injEq, Prod.mk.injEq] at he
              obtain ⟨rfl, rfl, rfl, rfl, rfl⟩ := he
              exact ev_putI hd hf (Nat.eq_of_beq_eq_true hb.1) (Or.inr ⟨Nat.eq_of_beq_eq_true h1, hP⟩) hfin k
            | false => rw [h1] at he; cases he
      · cases he
    · split at he
      · rename_i ci f hf
        cases hb : (Nat.beq (kK h _) ci && (!(tO ci f).2.2.2 || (Nat.beq ci (mO M) && ini M))) with
        | false => rw [hb] at he; cases he
        | true =>
          rw [hb] at he
          rw [Bool.and_eq_true] at hb
          have hfin : (tO ci f).2.2.2 = false ∨ ((mY M).name = "<init>" ∧ ci = mO M) := by
            have h2 := hb.2
            rw [Bool.or_eq_true, Bool.and_eq_true] at h2
            rcases h2 with h2 | h2
            · exact Or.inl (by simpa using h2)
            · exact Or.inr ⟨by simpa [ini] using h2.2, Nat.eq_of_beq_eq_true h2.1⟩
          cases h0 : Nat.beq (fT ci f) 2 with
          | true =>
            rw [h0] at he
            simp only [cond_true, Option.some.injEq, Prod.mk.injEq] at he
            obtain ⟨rfl, rfl, rfl, rfl, rfl⟩ := he
            have hff := flk_ok hf
            exact ev_putR (r := some _) hd hf (Nat.eq_of_beq_eq_true hb.1) (Nat.eq_of_beq_eq_true h0) (fits_rf hff.1 hff.2.1 (Nat.eq_of_beq_eq_true h0)) hfin k
          | false => rw [h0] at he; cases he
      · cases he
    · cases he
  case iaload =>
    simp only [ex] at he
    simp only [ilen] at hd
    repeat (any_goals (split at he))
    all_goals first | (cases he; done) | skip
    all_goals (
      rw [cond_eq_ite] at he
      split at he
      · rename_i hb
        simp only [Option.some.injEq, Prod.mk.injEq] at he
        obtain ⟨rfl, rfl, rfl, rfl, rfl⟩ := he
        exact ev_iald hd (Nat.eq_of_beq_eq_true hb) hP k
      · cases he)
  case laload =>
    simp only [ex] at he
    simp only [ilen] at hd
    repeat (any_goals (split at he))
    all_goals first | (cases he; done) | skip
    all_goals (
      rw [cond_eq_ite] at he
      split at he
      · rename_i hb
        simp only [Option.some.injEq, Prod.mk.injEq] at he
        obtain ⟨rfl, rfl, rfl, rfl, rfl⟩ := he
        exact ev_lald hd (Nat.eq_of_beq_eq_true hb) hP k
      · cases he)
  case baload =>
    simp only [ex] at he
    simp only [ilen] at hd
    split at he
    · rw [cond_eq_ite] at he
      split at he
      · rename_i hb
        simp only [Option.some.injEq, Prod.mk.injEq] at he
        obtain ⟨rfl, rfl, rfl, rfl, rfl⟩ := he
        exact ev_bald hd (Nat.eq_of_beq_eq_true hb) hP k
      · rw [cond_eq_ite] at he
        split at he
        · rename_i hb
          simp only [Option.some.injEq, Prod.mk.injEq] at he
          obtain ⟨rfl, rfl, rfl, rfl, rfl⟩ := he
          exact ev_zald hd (Nat.eq_of_beq_eq_true hb) hP k
        · cases he
    · cases he
  case aaload =>
    simp only [ex] at he
    simp only [ilen] at hd
    split at he
    · rw [cond_eq_ite] at he
      split at he
      · rename_i hb
        simp only [Option.some.injEq, Prod.mk.injEq] at he
        obtain ⟨rfl, rfl, rfl, rfl, rfl⟩ := he
        exact ev_qald16 hd (Nat.eq_of_beq_eq_true hb) hP k
      · rw [cond_eq_ite] at he
        split at he
        · rename_i hb
          simp only [Option.some.injEq, Prod.mk.injEq] at he
          obtain ⟨rfl, rfl, rfl, rfl, rfl⟩ := he
          exact ev_qald17 hd (Nat.eq_of_beq_eq_true hb) hP k
        · cases he
    · cases he
  case iastore =>
    simp only [ex] at he
    simp only [ilen] at hd
    repeat (any_goals (split at he))
    all_goals first | (cases he; done) | skip
    all_goals (
      rw [cond_eq_ite] at he
      split at he
      · rename_i hb
        simp only [Option.some.injEq, Prod.mk.injEq] at he
        obtain ⟨rfl, rfl, rfl, rfl, rfl⟩ := he
        exact ev_iast hd (Nat.eq_of_beq_eq_true hb) hP k
      · cases he)
  case lastore =>
    simp only [ex] at he
    simp only [ilen] at hd
    repeat (any_goals (split at he))
    all_goals first | (cases he; done) | skip
    all_goals (
      rw [cond_eq_ite] at he
      split at he
      · rename_i hb
        simp only [Option.some.injEq, Prod.mk.injEq] at he
        obtain ⟨rfl, rfl, rfl, rfl, rfl⟩ := he
        exact ev_last hd (Nat.eq_of_beq_eq_true hb) hP k
      · cases he)
  case bastore =>
    simp only [ex] at he
    simp only [ilen] at hd
    split at he
    · rw [cond_eq_ite] at he
      split at he
      · rename_i hb
        simp only [Option.some.injEq, Prod.mk.injEq] at he
        obtain ⟨rfl, rfl, rfl, rfl, rfl⟩ := he
        exact ev_bast hd (Nat.eq_of_beq_eq_true hb) hP k
      · rw [cond_eq_ite] at he
        split at he
        · rename_i hb
          simp only [Option.some.injEq, Prod.mk.injEq] at he
          obtain ⟨rfl, rfl, rfl, rfl, rfl⟩ := he
          exact ev_zast hd (Nat.eq_of_beq_eq_true hb) hP k
        · cases he
    · cases he
  case arraylength =>
    simp only [ex] at he
    simp only [ilen] at hd
    repeat (any_goals (split at he))
    all_goals first | (cases he; done) | skip
    all_goals (
      rw [cond_eq_ite] at he
      split at he
      · rename_i hb
        simp only [Option.some.injEq, Prod.mk.injEq] at he
        obtain ⟨rfl, rfl, rfl, rfl, rfl⟩ := he
        rw [Bool.and_eq_true] at hb; exact ev_alen hd rfl ⟨blt_ok hb.1, blt_ok hb.2⟩ k
      · cases he)
  all_goals (simp only [ex] at he; cases he)
end EX
end
section
section STPS
/-- k steps; what must hold is gathered -/
def stps (M : MI) : Nat → SG → Option (Prop × SG)
  | 0, g => some (True, g)
  | n + 1, g => match fnd (mT M) g.1 with
    | none => none
    | some (i, len) => bif Nat.beq (ilen i) len then (match ex M i g.1 g.2.1 g.2.2.1 g.2.2.2 with
      | none => none
      | some (P, g') => (match stps M n g' with
        | none => none
        | some (P', g'') => some (cj P P', g''))) else none
theorem stps_ok {M : MI} {d bc bs : Nat} {Q : Option Value → HP → Prop} (hT : TOK M) : ∀ (n : Nat) (pc : Nat) (lv : List (Option Value)) (st : List Value) (h : HP) (pc' : Nat) (lv' : List (Option Value)) (st' : List Value) (h' : HP) (P : Prop), stps M n (pc, lv, st, h) = some (P, pc', lv', st', h') → P → Ev M d bc bs pc' lv' st' h' Q → Ev M d bc bs pc lv st h Q
  | 0, pc, lv, st, h, pc', lv', st', h', P, hs, _, k => by
    simp only [stps, Option.some.injEq, Prod.mk.injEq] at hs
    obtain ⟨-, rfl, rfl, rfl, rfl⟩ := hs
    exact k
  | n + 1, pc, lv, st, h, pc', lv', st', h', P, hs, hP, k => by
    simp only [stps] at hs
    cases hf : fnd (mT M) pc with
    | none => rw [hf] at hs; cases hs
    | some q =>
      obtain ⟨i, len⟩ := q
      rw [hf] at hs
      dsimp only at hs
      cases hl : Nat.beq (ilen i) len with
      | false => rw [hl, cond_false] at hs; cases hs
      | true =>
        rw [hl, cond_true] at hs
        cases he : ex M i pc lv st h with
        | none => rw [he] at hs; cases hs
        | some q1 =>
          obtain ⟨P1, pc1, lv1, st1, h1⟩ := q1
          rw [he] at hs
          dsimp only at hs
          cases hn : stps M n (pc1, lv1, st1, h1) with
          | none => rw [hn] at hs; cases hs
          | some q2 =>
            obtain ⟨P2, pc2, lv2, st2, h2⟩ := q2
            rw [hn] at hs
            simp only [Option.some.injEq, Prod.mk.injEq] at hs
            obtain ⟨rfl, rfl, rfl, rfl, rfl⟩ := hs
            have hd : decode (mB M) pc = .ok (i, len) := hT (pc, i, len) (fnd_mem _ _ _ hf)
            have hle : ilen i = len := Nat.eq_of_beq_eq_true hl
            have kk := stps_ok hT n pc1 lv1 st1 h1 _ _ _ _ P2 hn (cj_1 hP).2 k
            exact ex_ok (i := i) (len := len) (P := P1) (pc' := pc1) (lv' := lv1) (st' := st1) (h' := h1) hd hle he (cj_1 hP).1 kk
theorem Ev.steps {M : MI} {d bc bs pc pc' : Nat} {lv lv' : List (Option Value)} {st st' : List Value} {h h' : HP} {Q : Option Value → HP → Prop} (hT : TOK M) (n : Nat) {P : Prop} (he : stps M n (pc, lv, st, h) = some (P, pc', lv', st', h')) (hP : P) (k : Ev M d bc bs pc' lv' st' h' Q) : Ev M d bc bs pc lv st h Q :=
  stps_ok hT n pc lv st h pc' lv' st' h' P he hP k
end STPS
end
section
section CALLS
theorem goodTB {ws : List Cond} (h : ∀ w ∈ ws, w ∈ TB) : GoodIn TB ws := fun w hw => ⟨h w hw, good_of_word (List.all_eq_true.mp good_tb w (h w hw))⟩
/-- what the tables say of a method: its code, its class made ready; its locals are few -/
def OKm (N : MI) : Prop := Cond.code (mY N) (mB N) (mX N) (mR N) ∈ TB ∧ Cond.initialized (mY N).cls ∈ TB ∧ ((mY N).cls ≠ "java/lang/invoke/MethodHandle" ∧ (mY N).cls ≠ "java/lang/invoke/VarHandle") ∧ mX N ≤ 45
theorem OKm.ws {N : MI} (ok : OKm N) : ∀ w ∈ (Cond.code (mY N) (mB N) (mX N) (mR N) :: TB), w ∈ TB := fun w hw => (List.mem_cons.mp hw).elim (fun e => e ▸ ok.1) id
theorem KE.at {D : va_G} {cy : Nat → ClassId} {G : GG} {L : Nat} {xs : Nat → Int32} {s U : State} {H : Heap} {locs : List Loc} (hK : KE D cy G L xs s) (hS : va_S (fun q => G.1 ≤ q) s.heap H locs) (hU : U.heap = H) (hW : s.WarmedH U.vm) : KE D cy G L xs U := by
  refine ⟨va_K.moved hW.alike hK.1, ?_⟩
  rw [hU]
  exact (hK.2.kept hS.1 hS.2.1).moved hW
theorem KE.blind {D : va_G} {cy : Nat → ClassId} {G : GG} {L : Nat} {xs : Nat → Int32} {h : HP} {av : List Value} : FrameBlind (va_Pc av (fun U => KE D cy G L xs U ∧ HR D cy G h U.heap)) := by
  intro a U g mk q
  obtain ⟨q1, q2, q3⟩ := q
  exact ⟨q1, ⟨va_K.moved (u := U) (U := U.calling g mk a) (Vm.Alike.refl U.vm) q2.1, EN.same (s := U) (U := U.calling g mk a) rfl q2.2⟩, q3⟩
theorem run_back {p : Program} {l : Launch} {e : Env} {R : Room} {s : State} {m : MethodId} {args : Array Value} {below : List Frame} {meth : Method} {c : Code} {D : va_G} {cy : Nat → ClassId} {G : GG} {H : Heap} {locs : List Loc} {cells slots mc ms pc : Nat} {ls : Array Slot} {Z : State → Prop} {h : HP} {st0 rest : List Value} {Qc : Option Value → HP → Prop}
    (hr : va_Run p l e R s m args below meth c H locs cells slots mc ms (F0 m pc ls st0) rest (fun st oc t => ∃ (v : Option Value) (h' : HP), oc = .returned (v.map (cv G)) ∧ Qc v h' ∧ kN h ≤ kN h' ∧ HR D cy G h' t.heap ∧ va_F (fun q => G.1 ≤ q) st t) (fun q => G.1 ≤ q)) (hS : va_S (fun q => G.1 ≤ q) s.heap H locs)
    (kk : ∀ (v : Option Value) (h' : HP) (H1 : Heap) (locs1 : List Loc), Qc v h' → kN h ≤ kN h' → HR D cy G h' H1 → va_S (fun q => G.1 ≤ q) s.heap H1 locs1 → W p l e R s m args below meth c H1 locs1 (cells + mc) (slots + ms) Z (F0 m (pc + 3) ls ((v.map (cv G)).toList ++ rest))) :
    W p l e R s m args below meth c H locs cells slots Z (F0 m pc ls st0) := by
  intro T hT X
  obtain ⟨v, st₀, t, T', L', h0, X', hL, e1, e2, ⟨v', h', hv, hq, hn, hH', hz, hk⟩, st⟩ := hr T hT X
  cases hv
  rw [h0] at hz hk
  obtain ⟨t2, a1, b1⟩ := kk v' h' T'.heap (locs ++ L') hq hn (by rw [e1]; exact hH') ⟨Nat.le_trans hS.1 (by rw [e1]; exact hz), fun q h1 h2 => by rw [e1, hk q (Nat.lt_of_lt_of_le h1 hS.1) h2]; exact hS.2.1 q h1 h2, fun q hq => by
      rcases List.mem_append.mp hq with h | h
      · exact hS.2.2 q h
      · exact hL q h⟩ T' rfl X'
  exact ⟨t2, st t2 a1, b1⟩
theorem cat_cv (G : GG) (rest : List Value) : ((rest.map (cv G)).map fun v => v.category).sum = (rest.map fun v => v.category).sum := by
  rw [List.map_map]
  congr 1
  apply List.map_congr_left
  intro v _
  exact cv_cat G v
theorem LQ_le {d' d mx x : Nat} (h : d' + 1 ≤ d) (hm : mx ≤ 45) (hx : LQ d ≤ x) : 8 + (mx + 11) + LQ d' ≤ x := by unfold LQ at *; omega
theorem toL_cv (G : GG) (v : Option Value) (rest : List Value) : (v.map (cv G)).toList ++ rest.map (cv G) = (v.toList ++ rest).map (cv G) := by cases v <;> simp
theorem ev_callV {M : MI} {d bc bs pc : Nat} {lv : List (Option Value)} {h : HP} {Q : Option Value → HP → Prop} {N : MI} {d' bc' bs' i a ci : Nat} {as rest : List Value} {Qc : Option Value → HP → Prop} (hd : decode (mB M) pc = .ok (.invokevirtual i, 3)) (ok : OKm N) (hi : Cond.instanceMethod (mY N) ∈ TB) (hs : Cond.selects (mY N).cls (mY N) (mY N) ∈ TB) (hlk : Cond.methodLink (cnm (mO M)) i (mY N) ∈ TB) (hnp : (parseMethodDescriptor (mY N).desc).map (fun d => d.parameters.length) = some as.length) (hdd : d' + 1 ≤ d) (hrest : (rest.map fun v => v.category).sum ≤ 8) (hk : kK h a = ci) (hci : ci < 12 ∧ cnm ci = (mY N).cls)
    (hC : Ct N d' bc' bs' (.ref a :: as) h Qc) (k : ∀ v h', Qc v h' → kN h ≤ kN h' → Ev M d bc bs (pc + 3) lv (v.toList ++ rest) h' Q) : Ev M d (bc + bc') (bs + bs') pc lv (as.reverse ++ .ref a :: rest) h Q := by
  intro p l e R s m args below meth c D cy G L xs H locs cells slots ls Z C hdr hrr hK hH hS hl hZ
  have hk18 : kK h a < 18 := by rw [hk]; omega
  have hst : (as.reverse ++ Value.ref a :: rest).map (cv G) = (as.map (cv G)).reverse ++ .ref (G.1 + a) :: rest.map (cv G) := by
    rw [List.map_append, List.map_reverse, List.map_cons]
    show _ ++ Value.ref (ro G a) :: _ = _
    rw [hH.ro hk18]
  rw [hst]
  have hcc := cls_at ci hci.1
  have hP := hH.P hk18
  rw [ce_obj hk hci.1] at hP
  have hrec := va_recv hK.1 hP hcc.1 (q0 := 0) rfl
  have has : (.ref (G.1 + a) :: as.map (cv G) : List Value) = (Value.ref a :: as).map (cv G) := by
    rw [List.map_cons]
    show _ = Value.ref (ro G a) :: _
    rw [hH.ro hk18]
  have hG := goodTB (ws := wsV (cnm (mO M)) i (mY N).cls (mY N) (Cond.code (mY N) (mB N) (mX N) (mR N) :: TB)) (by
    intro w hw
    simp only [wsV, List.mem_append, List.mem_cons, List.not_mem_nil, or_false] at hw
    rcases hw with (rfl | rfl | rfl | rfl) | rfl | hw
    · exact hlk
    · exact hi
    · exact hs
    · exact ok.2.1
    · exact ok.1
    · exact hw)
  have hr := va_runV (As := as.map (cv G)) (rest := rest.map (cv G)) (b := G.1 + a) (C := (mY N).cls) (locs := locs) (cells := cells) (slots := slots) (below := below) (meth := meth) (H := H) (R := R) (e := e) (g := F0 m pc ls ((as.map (cv G)).reverse ++ .ref (G.1 + a) :: rest.map (cv G))) ⟨C.1, C.2.1, C.2.2.2.1, C.2.2.2.2.1, C.2.2.2.2.2.1⟩ (hC l D cy G L xs)
    (cwV as.length C.2.2.2.2.2.1 hG rfl rfl rfl ⟨rfl, ok.2.2.1.1, ok.2.2.1.2, hnp⟩ ⟨by show d' + 1 ≤ R.frames; omega, LQ_le hdd ok.2.2.2 hdr.2⟩)
    ⟨KE.blind, by rw [← hci.2]; exact hrec, fun U hU hW => ⟨by rw [has], hK.at hS hU hW, by rw [hU]; exact hH⟩⟩ rfl (by rw [List.length_map]) hl.1 rfl (lv_room (by rw [cat_cv]; exact hrest)) hd ⟨by omega, by omega⟩
  refine run_back hr hS (fun v h' H1 locs1 hq hn hH1 hS1 => ?_)
  rw [toL_cv]
  exact k v h' hq hn p l e R s m args below meth c D cy G L xs H1 locs1 (cells + bc') (slots + bs') ls Z C hdr ⟨by omega, by omega⟩ hK hH1 hS1 hl (fun v h'' H' locs' cells' slots' ls' pc' a1 a2 a3 a4 a5 a6 a7 => hZ v h'' H' locs' cells' slots' ls' pc' a1 a2 (Nat.le_trans hn a3) a4 a5 (by omega) (by omega))
theorem ev_callS {M : MI} {d bc bs pc : Nat} {lv : List (Option Value)} {h : HP} {Q : Option Value → HP → Prop} {N : MI} {d' bc' bs' i : Nat} {as rest : List Value} {Qc : Option Value → HP → Prop} (hd : decode (mB M) pc = .ok (.invokestatic i, 3)) (ok : OKm N) (hi : Cond.static (mY N) ∈ TB) (hlk : Cond.methodLink (cnm (mO M)) i (mY N) ∈ TB) (hnp : (parseMethodDescriptor (mY N).desc).map (fun d => d.parameters.length) = some as.length) (hdd : d' + 1 ≤ d) (hrest : (rest.map fun v => v.category).sum ≤ 8)
    (hC : Ct N d' bc' bs' as h Qc) (k : ∀ v h', Qc v h' → kN h ≤ kN h' → Ev M d bc bs (pc + 3) lv (v.toList ++ rest) h' Q) : Ev M d (bc + bc') (bs + bs') pc lv (as.reverse ++ rest) h Q := by
  intro p l e R s m args below meth c D cy G L xs H locs cells slots ls Z C hdr hrr hK hH hS hl hZ
  rw [List.map_append, List.map_reverse]
  have hG := goodTB (ws := va_wsS (cnm (mO M)) i (mY N) (Cond.code (mY N) (mB N) (mX N) (mR N) :: TB)) (by
    intro w hw
    simp only [va_wsS, List.mem_append, List.mem_cons, List.not_mem_nil, or_false] at hw
    rcases hw with (rfl | rfl | rfl) | rfl | hw
    · exact hlk
    · exact hi
    · exact ok.2.1
    · exact ok.1
    · exact hw)
  have hr := va_runS (As := as.map (cv G)) (rest := rest.map (cv G)) (locs := locs) (cells := cells) (slots := slots) (below := below) (meth := meth) (H := H) (R := R) (e := e) (g := F0 m pc ls ((as.map (cv G)).reverse ++ rest.map (cv G))) ⟨C.1, C.2.1, C.2.2.2.1, C.2.2.2.2.1, C.2.2.2.2.2.1⟩ (hC l D cy G L xs)
    (va_cwS as.length C.2.2.2.2.2.1 hG rfl rfl rfl ⟨ok.2.2.1.1, ok.2.2.1.2, hnp⟩ ⟨by show d' + 1 ≤ R.frames; omega, LQ_le hdd ok.2.2.2 hdr.2⟩)
    ⟨KE.blind, fun U hU hW => ⟨rfl, hK.at hS hU hW, by rw [hU]; exact hH⟩⟩ rfl (by rw [List.length_map]) hl.1 rfl (lv_room (by rw [cat_cv]; exact hrest)) hd ⟨by omega, by omega⟩
  refine run_back hr hS (fun v h' H1 locs1 hq hn hH1 hS1 => ?_)
  rw [toL_cv]
  exact k v h' hq hn p l e R s m args below meth c D cy G L xs H1 locs1 (cells + bc') (slots + bs') ls Z C hdr ⟨by omega, by omega⟩ hK hH1 hS1 hl (fun v h'' H' locs' cells' slots' ls' pc' a1 a2 a3 a4 a5 a6 a7 => hZ v h'' H' locs' cells' slots' ls' pc' a1 a2 (Nat.le_trans hn a3) a4 a5 (by omega) (by omega))
theorem ev_callSN {M : MI} {d bc bs pc : Nat} {lv : List (Option Value)} {h : HP} {Q : Option Value → HP → Prop} {N : MI} {d' bc' bs' i : Nat} {host : String} {as rest : List Value} {Qc : Option Value → HP → Prop} (hd : decode (mB M) pc = .ok (.invokestatic i, 3)) (ok : OKm N) (hi : Cond.static (mY N) ∈ TB) (hlk : Cond.methodLinkNest (cnm (mO M)) i (mY N) host ∈ NW) (hnp : (parseMethodDescriptor (mY N).desc).map (fun d => d.parameters.length) = some as.length) (hdd : d' + 1 ≤ d) (hrest : (rest.map fun v => v.category).sum ≤ 8)
    (hC : Ct N d' bc' bs' as h Qc) (k : ∀ v h', Qc v h' → kN h ≤ kN h' → Ev M d bc bs (pc + 3) lv (v.toList ++ rest) h' Q) : Ev M d (bc + bc') (bs + bs') pc lv (as.reverse ++ rest) h Q := by
  intro p l e R s m args below meth c D cy G L xs H locs cells slots ls Z C hdr hrr hK hH hS hl hZ
  rw [List.map_append, List.map_reverse]
  have hr := va_runSN (As := as.map (cv G)) (rest := rest.map (cv G)) (locs := locs) (cells := cells) (slots := slots) (below := below) (meth := meth) (H := H) (R := R) (e := e) (g := F0 m pc ls ((as.map (cv G)).reverse ++ rest.map (cv G))) ⟨C.1, C.2.1, C.2.2.2.1, C.2.2.2.2.1, C.2.2.2.2.2.1⟩ (hC l D cy G L xs)
    ⟨va_cnB as.length C.2.2.2.2.2.1 (goodTB ok.ws) rfl rfl rfl (hK.2.2.2.2.2.2.2.2.1 _ hlk) (C.2.2.2.2.2.1 _ ok.2.1) ⟨ok.2.2.1.1, ok.2.2.1.2, hnp⟩ ⟨by show d' + 1 ≤ R.frames; omega, LQ_le hdd ok.2.2.2 hdr.2⟩, C.2.2.2.2.2.1 _ hi, trivial⟩
    ⟨KE.blind, fun U hU hW => ⟨rfl, hK.at hS hU hW, by rw [hU]; exact hH⟩⟩ rfl (by rw [List.length_map]) hl.1 rfl (lv_room (by rw [cat_cv]; exact hrest)) hd ⟨by omega, by omega⟩
  refine run_back hr hS (fun v h' H1 locs1 hq hn hH1 hS1 => ?_)
  rw [toL_cv]
  exact k v h' hq hn p l e R s m args below meth c D cy G L xs H1 locs1 (cells + bc') (slots + bs') ls Z C hdr ⟨by omega, by omega⟩ hK hH1 hS1 hl (fun v h'' H' locs' cells' slots' ls' pc' a1 a2 a3 a4 a5 a6 a7 => hZ v h'' H' locs' cells' slots' ls' pc' a1 a2 (Nat.le_trans hn a3) a4 a5 (by omega) (by omega))
theorem ev_callI {M : MI} {d bc bs pc : Nat} {lv : List (Option Value)} {h : HP} {Q : Option Value → HP → Prop} {N : MI} {d' bc' bs' i a : Nat} {as rest : List Value} {Qc : Option Value → HP → Prop} (hd : decode (mB M) pc = .ok (.invokespecial i, 3)) (ok : OKm N) (hret : mR N = none) (hi : Cond.instanceMethod (mY N) ∈ TB) (hnm : (mY N).name = "<init>") (hlk : Cond.methodLink (cnm (mO M)) i (mY N) ∈ TB) (hnp : (parseMethodDescriptor (mY N).desc).map (fun d => d.parameters.length) = some as.length) (hdd : d' + 1 ≤ d) (hrest : (rest.map fun v => v.category).sum ≤ 8)
    (hC : Ct N d' bc' bs' (.ref a :: as) h Qc) (k : ∀ v h', Qc v h' → kN h ≤ kN h' → Ev M d bc bs (pc + 3) lv (v.toList ++ rest) h' Q) : Ev M d (bc + bc') (bs + bs') pc lv (as.reverse ++ .ref a :: rest) h Q := by
  intro p l e R s m args below meth c D cy G L xs H locs cells slots ls Z C hdr hrr hK hH hS hl hZ
  rw [List.map_append, List.map_reverse, List.map_cons]
  have hM := hC l D cy G L xs
  have hc1 := ok.1
  have hws := ok.ws
  rw [hret] at hM hc1 hws
  have hr := va_runI (As := as.map (cv G)) (rest := rest.map (cv G)) (b := ro G a) (locs := locs) (cells := cells) (slots := slots) (below := below) (meth := meth) (H := H) (R := R) (e := e) (g := F0 m pc ls ((as.map (cv G)).reverse ++ .ref (ro G a) :: rest.map (cv G))) ⟨C.1, C.2.1, C.2.2.2.1, C.2.2.2.2.1, C.2.2.2.2.2.1⟩ hM
    (cwI as.length C.2.2.2.2.2.1 (goodTB hws) rfl rfl rfl (C.2.2.2.2.2.1 _ ok.2.1) (C.2.2.2.2.2.1 _ hlk) (C.2.2.2.2.2.1 _ hi) hnm ⟨ok.2.2.1.1, ok.2.2.1.2, hnp⟩ ⟨by show d' + 1 ≤ R.frames; omega, LQ_le hdd ok.2.2.2 hdr.2⟩)
    ⟨KE.blind, fun U hU hW => ⟨rfl, hK.at hS hU hW, by rw [hU]; exact hH⟩⟩ rfl (by rw [List.length_map]) hl.1 rfl (lv_room (by rw [cat_cv]; exact hrest)) hd ⟨by omega, by omega⟩
  refine run_back hr hS (fun v h' H1 locs1 hq hn hH1 hS1 => ?_)
  rw [toL_cv]
  exact k v h' hq hn p l e R s m args below meth c D cy G L xs H1 locs1 (cells + bc') (slots + bs') ls Z C hdr ⟨by omega, by omega⟩ hK hH1 hS1 hl (fun v h'' H' locs' cells' slots' ls' pc' a1 a2 a3 a4 a5 a6 a7 => hZ v h'' H' locs' cells' slots' ls' pc' a1 a2 (Nat.le_trans hn a3) a4 a5 (by omega) (by omega))
theorem ev_callIN {M : MI} {d bc bs pc : Nat} {lv : List (Option Value)} {h : HP} {Q : Option Value → HP → Prop} {N : MI} {d' bc' bs' i a : Nat} {host : String} {as rest : List Value} {Qc : Option Value → HP → Prop} (hd : decode (mB M) pc = .ok (.invokespecial i, 3)) (ok : OKm N) (hret : mR N = none) (hi : Cond.instanceMethod (mY N) ∈ TB) (hnm : (mY N).name = "<init>") (hlk : Cond.methodLinkNest (cnm (mO M)) i (mY N) host ∈ NW) (hnp : (parseMethodDescriptor (mY N).desc).map (fun d => d.parameters.length) = some as.length) (hdd : d' + 1 ≤ d) (hrest : (rest.map fun v => v.category).sum ≤ 8)
    (hC : Ct N d' bc' bs' (.ref a :: as) h Qc) (k : ∀ v h', Qc v h' → kN h ≤ kN h' → Ev M d bc bs (pc + 3) lv (v.toList ++ rest) h' Q) : Ev M d (bc + bc') (bs + bs') pc lv (as.reverse ++ .ref a :: rest) h Q := by
  intro p l e R s m args below meth c D cy G L xs H locs cells slots ls Z C hdr hrr hK hH hS hl hZ
  rw [List.map_append, List.map_reverse, List.map_cons]
  have hM := hC l D cy G L xs
  have hws := ok.ws
  rw [hret] at hM hws
  have hr := va_runIN (As := as.map (cv G)) (rest := rest.map (cv G)) (b := ro G a) (locs := locs) (cells := cells) (slots := slots) (below := below) (meth := meth) (H := H) (R := R) (e := e) (g := F0 m pc ls ((as.map (cv G)).reverse ++ .ref (ro G a) :: rest.map (cv G))) ⟨C.1, C.2.1, C.2.2.2.1, C.2.2.2.2.1, C.2.2.2.2.2.1⟩ hM
    ⟨va_cnB as.length C.2.2.2.2.2.1 (goodTB hws) rfl rfl rfl (hK.2.2.2.2.2.2.2.2.1 _ hlk) (C.2.2.2.2.2.1 _ ok.2.1) ⟨ok.2.2.1.1, ok.2.2.1.2, hnp⟩ ⟨by show d' + 1 ≤ R.frames; omega, LQ_le hdd ok.2.2.2 hdr.2⟩, hnm, C.2.2.2.2.2.1 _ hi⟩
    ⟨KE.blind, fun U hU hW => ⟨rfl, hK.at hS hU hW, by rw [hU]; exact hH⟩⟩ rfl (by rw [List.length_map]) hl.1 rfl (lv_room (by rw [cat_cv]; exact hrest)) hd ⟨by omega, by omega⟩
  refine run_back hr hS (fun v h' H1 locs1 hq hn hH1 hS1 => ?_)
  rw [toL_cv]
  exact k v h' hq hn p l e R s m args below meth c D cy G L xs H1 locs1 (cells + bc') (slots + bs') ls Z C hdr ⟨by omega, by omega⟩ hK hH1 hS1 hl (fun v h'' H' locs' cells' slots' ls' pc' a1 a2 a3 a4 a5 a6 a7 => hZ v h'' H' locs' cells' slots' ls' pc' a1 a2 (Nat.le_trans hn a3) a4 a5 (by omega) (by omega))
/-- Ct of fewer cells, with a weaker end -/
theorem Ct.mono {M : MI} {d bc bs : Nat} {as : List Value} {h : HP} {Q Q' : Option Value → HP → Prop} (hC : Ct M d bc bs as h Q) (hq : ∀ v h', Q v h' → Q' v h') : Ct M d bc bs as h Q' := by
  intro l D cy G L xs p e ha hc hk s m args below hf hnn hP htt
  obtain ⟨k, o, a1, a2, a3, ⟨v, h', b1, b2, b3⟩, b4⟩ := hC l D cy G L xs p e ha hc hk s m args below hf hnn hP htt
  exact ⟨k, o, a1, a2, a3, ⟨v, h', b1, hq v h' b2, b3⟩, b4⟩
end CALLS
end
section
section SHAPE
def K0 (a : Nat) : Nat := (bif Nat.blt a 79 then (bif Nat.blt a 39 then (bif Nat.blt a 19 then (bif Nat.blt a 9 then (bif Nat.blt a 4 then (bif Nat.blt a 2 then (bif Nat.blt a 1 then 10 else 7) else (bif Nat.blt a 3 then 13 else 13)) else (bif Nat.blt a 6 then (bif Nat.blt a 5 then 13 else 13) else (bif Nat.blt a 7 then 15 else (bif Nat.blt a 8 then 13 else 13)))) else (bif Nat.blt a 14 then (bif Nat.blt a 11 then (bif Nat.blt a 10 then 13 else 13) else (bif Nat.blt a 12 then 13 else (bif Nat.blt a 13 then 13 else 13))) else (bif Nat.blt a 16 then (bif Nat.blt a 15 then 13 else 17) else (bif Nat.blt a 17 then 16 else (bif Nat.blt a 18 then 15 else 8))))) else (bif Nat.blt a 29 then (bif Nat.blt a 24 then (bif Nat.blt a 21 then (bif Nat.blt a 20 then 13 else 0) else (bif Nat.blt a 22 then 13 else (bif Nat.blt a 23 then 13 else 13))) else (bif Nat.blt a 26 then (bif Nat.blt a 25 then 4 else 9) else (bif Nat.blt a 27 then 13 else (bif Nat.blt a 28 then 13 else 13)))) else (bif Nat.blt a 34 then (bif Nat.blt a 31 then (bif Nat.blt a 30 then 13 else 13) else (bif Nat.blt a 32 then 13 else (bif Nat.blt a 33 then 13 else 1))) else (bif Nat.blt a 36 then (bif Nat.blt a 35 then 13 else 7) else (bif Nat.blt a 37 then 13 else (bif Nat.blt a 38 then 13 else 13)))))) else (bif Nat.blt a 59 then (bif Nat.blt a 49 then (bif Nat.blt a 44 then (bif Nat.blt a 41 then (bif Nat.blt a 40 then 13 else 15) else (bif Nat.blt a 42 then 13 else (bif Nat.blt a 43 then 13 else 13))) else (bif Nat.blt a 46 then (bif Nat.blt a 45 then 13 else 13) else (bif Nat.blt a 47 then 13 else (bif Nat.blt a 48 then 13 else 13)))) else (bif Nat.blt a 54 then (bif Nat.blt a 51 then (bif Nat.blt a 50 then 17 else 13) else (bif Nat.blt a 52 then 5 else (bif Nat.blt a 53 then 13 else 13))) else (bif Nat.blt a 56 then (bif Nat.blt a 55 then 6 else 7) else (bif Nat.blt a 57 then 13 else (bif Nat.blt a 58 then 13 else 13))))) else (bif Nat.blt a 69 then (bif Nat.blt a 64 then (bif Nat.blt a 61 then (bif Nat.blt a 60 then 13 else 15) else (bif Nat.blt a 62 then 13 else (bif Nat.blt a 63 then 13 else 13))) else (bif Nat.blt a 66 then (bif Nat.blt a 65 then 13 else 13) else (bif Nat.blt a 67 then 13 else (bif Nat.blt a 68 then 13 else 13)))) else (bif Nat.blt a 74 then (bif Nat.blt a 71 then (bif Nat.blt a 70 then 17 else 13) else (bif Nat.blt a 72 then 13 else (bif Nat.blt a 73 then 13 else 13))) else (bif Nat.blt a 76 then (bif Nat.blt a 75 then 13 else 13) else (bif Nat.blt a 77 then 13 else (bif Nat.blt a 78 then 13 else 14))))))) else (bif Nat.blt a 118 then (bif Nat.blt a 98 then (bif Nat.blt a 88 then (bif Nat.blt a 83 then (bif Nat.blt a 81 then (bif Nat.blt a 80 then 14 else 3) else (bif Nat.blt a 82 then 13 else 14)) else (bif Nat.blt a 85 then (bif Nat.blt a 84 then 2 else 7) else (bif Nat.blt a 86 then 13 else (bif Nat.blt a 87 then 13 else 13)))) else (bif Nat.blt a 93 then (bif Nat.blt a 90 then (bif Nat.blt a 89 then 13 else 15) else (bif Nat.blt a 91 then 13 else (bif Nat.blt a 92 then 13 else 13))) else (bif Nat.blt a 95 then (bif Nat.blt a 94 then 13 else 13) else (bif Nat.blt a 96 then 13 else (bif Nat.blt a 97 then 13 else 13))))) else (bif Nat.blt a 108 then (bif Nat.blt a 103 then (bif Nat.blt a 100 then (bif Nat.blt a 99 then 17 else 13) else (bif Nat.blt a 101 then 7 else (bif Nat.blt a 102 then 13 else 13))) else (bif Nat.blt a 105 then (bif Nat.blt a 104 then 13 else 13) else (bif Nat.blt a 106 then 15 else (bif Nat.blt a 107 then 13 else 13)))) else (bif Nat.blt a 113 then (bif Nat.blt a 110 then (bif Nat.blt a 109 then 13 else 13) else (bif Nat.blt a 111 then 13 else (bif Nat.blt a 112 then 13 else 13))) else (bif Nat.blt a 115 then (bif Nat.blt a 114 then 13 else 17) else (bif Nat.blt a 116 then 7 else (bif Nat.blt a 117 then 13 else 13)))))) else (bif Nat.blt a 138 then (bif Nat.blt a 128 then (bif Nat.blt a 123 then (bif Nat.blt a 120 then (bif Nat.blt a 119 then 13 else 13) else (bif Nat.blt a 121 then 15 else (bif Nat.blt a 122 then 13 else 13))) else (bif Nat.blt a 125 then (bif Nat.blt a 124 then 13 else 13) else (bif Nat.blt a 126 then 13 else (bif Nat.blt a 127 then 13 else 13)))) else (bif Nat.blt a 133 then (bif Nat.blt a 130 then (bif Nat.blt a 129 then 13 else 17) else (bif Nat.blt a 131 then 11 else (bif Nat.blt a 132 then 13 else 13))) else (bif Nat.blt a 135 then (bif Nat.blt a 134 then 13 else 15) else (bif Nat.blt a 136 then 13 else (bif Nat.blt a 137 then 12 else 12))))) else (bif Nat.blt a 148 then (bif Nat.blt a 143 then (bif Nat.blt a 140 then (bif Nat.blt a 139 then 13 else 13) else (bif Nat.blt a 141 then 13 else (bif Nat.blt a 142 then 13 else 13))) else (bif Nat.blt a 145 then (bif Nat.blt a 144 then 13 else 13) else (bif Nat.blt a 146 then 13 else (bif Nat.blt a 147 then 13 else 13)))) else (bif Nat.blt a 153 then (bif Nat.blt a 150 then (bif Nat.blt a 149 then 13 else 13) else (bif Nat.blt a 151 then 14 else (bif Nat.blt a 152 then 14 else 13))) else (bif Nat.blt a 155 then (bif Nat.blt a 154 then 13 else 13) else (bif Nat.blt a 156 then 14 else (bif Nat.blt a 157 then 14 else 13))))))))
def L0 (a : Nat) : Nat := (bif Nat.blt a 79 then (bif Nat.blt a 39 then (bif Nat.blt a 19 then (bif Nat.blt a 9 then (bif Nat.blt a 4 then (bif Nat.blt a 2 then (bif Nat.blt a 1 then 0 else 0) else (bif Nat.blt a 3 then 10 else 10)) else (bif Nat.blt a 6 then (bif Nat.blt a 5 then 10 else 10) else (bif Nat.blt a 7 then 10 else (bif Nat.blt a 8 then 5 else 5)))) else (bif Nat.blt a 14 then (bif Nat.blt a 11 then (bif Nat.blt a 10 then 5 else 5) else (bif Nat.blt a 12 then 6 else (bif Nat.blt a 13 then 6 else 6))) else (bif Nat.blt a 16 then (bif Nat.blt a 15 then 3 else 6) else (bif Nat.blt a 17 then 2 else (bif Nat.blt a 18 then 2 else 0))))) else (bif Nat.blt a 29 then (bif Nat.blt a 24 then (bif Nat.blt a 21 then (bif Nat.blt a 20 then 400 else 0) else (bif Nat.blt a 22 then 8 else (bif Nat.blt a 23 then 50 else 20))) else (bif Nat.blt a 26 then (bif Nat.blt a 25 then 0 else 0) else (bif Nat.blt a 27 then 12 else (bif Nat.blt a 28 then 12 else 48)))) else (bif Nat.blt a 34 then (bif Nat.blt a 31 then (bif Nat.blt a 30 then 400 else 401) else (bif Nat.blt a 32 then 401 else (bif Nat.blt a 33 then 401 else 0))) else (bif Nat.blt a 36 then (bif Nat.blt a 35 then 80 else 0) else (bif Nat.blt a 37 then 10 else (bif Nat.blt a 38 then 10 else 10)))))) else (bif Nat.blt a 59 then (bif Nat.blt a 49 then (bif Nat.blt a 44 then (bif Nat.blt a 41 then (bif Nat.blt a 40 then 10 else 10) else (bif Nat.blt a 42 then 5 else (bif Nat.blt a 43 then 5 else 5))) else (bif Nat.blt a 46 then (bif Nat.blt a 45 then 5 else 6) else (bif Nat.blt a 47 then 6 else (bif Nat.blt a 48 then 6 else 3)))) else (bif Nat.blt a 54 then (bif Nat.blt a 51 then (bif Nat.blt a 50 then 6 else 80) else (bif Nat.blt a 52 then 0 else (bif Nat.blt a 53 then 24 else 50))) else (bif Nat.blt a 56 then (bif Nat.blt a 55 then 0 else 0) else (bif Nat.blt a 57 then 10 else (bif Nat.blt a 58 then 10 else 10))))) else (bif Nat.blt a 69 then (bif Nat.blt a 64 then (bif Nat.blt a 61 then (bif Nat.blt a 60 then 10 else 10) else (bif Nat.blt a 62 then 5 else (bif Nat.blt a 63 then 5 else 5))) else (bif Nat.blt a 66 then (bif Nat.blt a 65 then 5 else 6) else (bif Nat.blt a 67 then 6 else (bif Nat.blt a 68 then 6 else 3)))) else (bif Nat.blt a 74 then (bif Nat.blt a 71 then (bif Nat.blt a 70 then 6 else 200) else (bif Nat.blt a 72 then 120 else (bif Nat.blt a 73 then 120 else 120))) else (bif Nat.blt a 76 then (bif Nat.blt a 75 then 120 else 120) else (bif Nat.blt a 77 then 120 else (bif Nat.blt a 78 then 120 else 120))))))) else (bif Nat.blt a 118 then (bif Nat.blt a 98 then (bif Nat.blt a 88 then (bif Nat.blt a 83 then (bif Nat.blt a 81 then (bif Nat.blt a 80 then 120 else 0) else (bif Nat.blt a 82 then 8 else 20)) else (bif Nat.blt a 85 then (bif Nat.blt a 84 then 0 else 0) else (bif Nat.blt a 86 then 10 else (bif Nat.blt a 87 then 10 else 10)))) else (bif Nat.blt a 93 then (bif Nat.blt a 90 then (bif Nat.blt a 89 then 10 else 10) else (bif Nat.blt a 91 then 5 else (bif Nat.blt a 92 then 5 else 5))) else (bif Nat.blt a 95 then (bif Nat.blt a 94 then 5 else 6) else (bif Nat.blt a 96 then 6 else (bif Nat.blt a 97 then 6 else 3))))) else (bif Nat.blt a 108 then (bif Nat.blt a 103 then (bif Nat.blt a 100 then (bif Nat.blt a 99 then 6 else 7) else (bif Nat.blt a 101 then 0 else (bif Nat.blt a 102 then 10 else 10))) else (bif Nat.blt a 105 then (bif Nat.blt a 104 then 10 else 10) else (bif Nat.blt a 106 then 10 else (bif Nat.blt a 107 then 5 else 5)))) else (bif Nat.blt a 113 then (bif Nat.blt a 110 then (bif Nat.blt a 109 then 5 else 5) else (bif Nat.blt a 111 then 6 else (bif Nat.blt a 112 then 6 else 6))) else (bif Nat.blt a 115 then (bif Nat.blt a 114 then 3 else 6) else (bif Nat.blt a 116 then 0 else (bif Nat.blt a 117 then 10 else 10)))))) else (bif Nat.blt a 138 then (bif Nat.blt a 128 then (bif Nat.blt a 123 then (bif Nat.blt a 120 then (bif Nat.blt a 119 then 10 else 10) else (bif Nat.blt a 121 then 10 else (bif Nat.blt a 122 then 5 else 5))) else (bif Nat.blt a 125 then (bif Nat.blt a 124 then 5 else 5) else (bif Nat.blt a 126 then 6 else (bif Nat.blt a 127 then 6 else 6)))) else (bif Nat.blt a 133 then (bif Nat.blt a 130 then (bif Nat.blt a 129 then 3 else 6) else (bif Nat.blt a 131 then 0 else (bif Nat.blt a 132 then 7 else 5703))) else (bif Nat.blt a 135 then (bif Nat.blt a 134 then 11406 else 2) else (bif Nat.blt a 136 then 72 else (bif Nat.blt a 137 then 122 else 400))))) else (bif Nat.blt a 148 then (bif Nat.blt a 143 then (bif Nat.blt a 140 then (bif Nat.blt a 139 then 5 else 401) else (bif Nat.blt a 141 then 401 else (bif Nat.blt a 142 then 401 else 8))) else (bif Nat.blt a 145 then (bif Nat.blt a 144 then 592 else 592) else (bif Nat.blt a 146 then 200 else (bif Nat.blt a 147 then 200 else 120)))) else (bif Nat.blt a 153 then (bif Nat.blt a 150 then (bif Nat.blt a 149 then 120 else 120) else (bif Nat.blt a 151 then 120 else (bif Nat.blt a 152 then 120 else 20))) else (bif Nat.blt a 155 then (bif Nat.blt a 154 then 120 else 21) else (bif Nat.blt a 156 then 21 else (bif Nat.blt a 157 then 2 else 36))))))))
def R0_0 (k : Nat) : Option Nat := (bif Nat.blt k 6 then (bif Nat.blt k 3 then (bif Nat.blt k 1 then (bif Nat.beq k 0 then some 1 else none) else (bif Nat.blt k 2 then (bif Nat.beq k 1 then some 16 else none) else (bif Nat.beq k 2 then some 17 else none))) else (bif Nat.blt k 4 then (bif Nat.beq k 3 then some 18 else none) else (bif Nat.blt k 5 then (bif Nat.beq k 4 then some 20 else none) else (bif Nat.beq k 5 then some 24 else none)))) else (bif Nat.blt k 9 then (bif Nat.blt k 7 then (bif Nat.beq k 6 then some 33 else none) else (bif Nat.blt k 8 then (bif Nat.beq k 7 then some 51 else none) else (bif Nat.beq k 8 then some 54 else none))) else (bif Nat.blt k 10 then (bif Nat.beq k 9 then some 80 else none) else (bif Nat.blt k 11 then (bif Nat.beq k 10 then some 83 else none) else (bif Nat.beq k 11 then some 99 else none)))))
def R0_1 (k : Nat) : Option Nat := (bif Nat.blt k 9 then (bif Nat.blt k 4 then (bif Nat.blt k 2 then (bif Nat.beq k 1 then some 2 else none) else (bif Nat.blt k 3 then (bif Nat.beq k 2 then some 3 else none) else (bif Nat.beq k 3 then some 4 else none))) else (bif Nat.blt k 7 then (bif Nat.blt k 5 then (bif Nat.beq k 4 then some 5 else none) else (bif Nat.beq k 5 then some 6 else none)) else (bif Nat.blt k 8 then (bif Nat.beq k 7 then some 7 else none) else (bif Nat.beq k 8 then some 8 else none)))) else (bif Nat.blt k 13 then (bif Nat.blt k 10 then (bif Nat.beq k 9 then some 9 else none) else (bif Nat.blt k 12 then (bif Nat.beq k 10 then some 10 else none) else (bif Nat.beq k 12 then some 11 else none))) else (bif Nat.blt k 15 then (bif Nat.blt k 14 then (bif Nat.beq k 13 then some 12 else none) else (bif Nat.beq k 14 then some 13 else none)) else (bif Nat.blt k 17 then (bif Nat.beq k 15 then some 14 else none) else (bif Nat.beq k 17 then some 15 else none)))))
def R0_18 (k : Nat) : Option Nat := (bif Nat.beq k 0 then some 19 else none)
def R0_20 (k : Nat) : Option Nat := (bif Nat.blt k 1 then (bif Nat.beq k 0 then some 21 else none) else (bif Nat.blt k 2 then (bif Nat.beq k 1 then some 22 else none) else (bif Nat.beq k 2 then some 23 else none)))
def R0_24 (k : Nat) : Option Nat := (bif Nat.blt k 3 then (bif Nat.blt k 2 then (bif Nat.beq k 0 then some 25 else none) else (bif Nat.beq k 2 then some 30 else none)) else (bif Nat.blt k 4 then (bif Nat.beq k 3 then some 31 else none) else (bif Nat.beq k 4 then some 32 else none)))
def R0_25 (k : Nat) : Option Nat := (bif Nat.blt k 4 then (bif Nat.blt k 3 then (bif Nat.beq k 2 then some 26 else none) else (bif Nat.beq k 3 then some 27 else none)) else (bif Nat.blt k 5 then (bif Nat.beq k 4 then some 28 else none) else (bif Nat.beq k 5 then some 29 else none)))
def R0_33 (k : Nat) : Option Nat := (bif Nat.blt k 3 then (bif Nat.blt k 2 then (bif Nat.beq k 1 then some 34 else none) else (bif Nat.beq k 2 then some 1 else none)) else (bif Nat.blt k 4 then (bif Nat.beq k 3 then some 20 else none) else (bif Nat.blt k 5 then (bif Nat.beq k 4 then some 35 else none) else (bif Nat.beq k 5 then some 50 else none))))
def R0_35 (k : Nat) : Option Nat := (bif Nat.blt k 9 then (bif Nat.blt k 4 then (bif Nat.blt k 2 then (bif Nat.beq k 1 then some 36 else none) else (bif Nat.blt k 3 then (bif Nat.beq k 2 then some 37 else none) else (bif Nat.beq k 3 then some 38 else none))) else (bif Nat.blt k 7 then (bif Nat.blt k 5 then (bif Nat.beq k 4 then some 39 else none) else (bif Nat.beq k 5 then some 40 else none)) else (bif Nat.blt k 8 then (bif Nat.beq k 7 then some 41 else none) else (bif Nat.beq k 8 then some 42 else none)))) else (bif Nat.blt k 13 then (bif Nat.blt k 10 then (bif Nat.beq k 9 then some 43 else none) else (bif Nat.blt k 12 then (bif Nat.beq k 10 then some 44 else none) else (bif Nat.beq k 12 then some 45 else none))) else (bif Nat.blt k 15 then (bif Nat.blt k 14 then (bif Nat.beq k 13 then some 46 else none) else (bif Nat.beq k 14 then some 47 else none)) else (bif Nat.blt k 17 then (bif Nat.beq k 15 then some 48 else none) else (bif Nat.beq k 17 then some 49 else none)))))
def R0_51 (k : Nat) : Option Nat := (bif Nat.blt k 4 then (bif Nat.blt k 3 then (bif Nat.beq k 2 then some 1 else none) else (bif Nat.beq k 3 then some 33 else none)) else (bif Nat.blt k 5 then (bif Nat.beq k 4 then some 52 else none) else (bif Nat.beq k 5 then some 53 else none)))
def R0_54 (k : Nat) : Option Nat := (bif Nat.blt k 7 then (bif Nat.blt k 4 then (bif Nat.blt k 1 then (bif Nat.beq k 0 then some 55 else none) else (bif Nat.blt k 3 then (bif Nat.beq k 1 then some 20 else none) else (bif Nat.beq k 3 then some 70 else none))) else (bif Nat.blt k 5 then (bif Nat.beq k 4 then some 71 else none) else (bif Nat.blt k 6 then (bif Nat.beq k 5 then some 72 else none) else (bif Nat.beq k 6 then some 73 else none)))) else (bif Nat.blt k 10 then (bif Nat.blt k 8 then (bif Nat.beq k 7 then some 74 else none) else (bif Nat.blt k 9 then (bif Nat.beq k 8 then some 75 else none) else (bif Nat.beq k 9 then some 76 else none))) else (bif Nat.blt k 11 then (bif Nat.beq k 10 then some 77 else none) else (bif Nat.blt k 12 then (bif Nat.beq k 11 then some 78 else none) else (bif Nat.beq k 12 then some 79 else none)))))
def R0_55 (k : Nat) : Option Nat := (bif Nat.blt k 9 then (bif Nat.blt k 4 then (bif Nat.blt k 2 then (bif Nat.beq k 1 then some 56 else none) else (bif Nat.blt k 3 then (bif Nat.beq k 2 then some 57 else none) else (bif Nat.beq k 3 then some 58 else none))) else (bif Nat.blt k 7 then (bif Nat.blt k 5 then (bif Nat.beq k 4 then some 59 else none) else (bif Nat.beq k 5 then some 60 else none)) else (bif Nat.blt k 8 then (bif Nat.beq k 7 then some 61 else none) else (bif Nat.beq k 8 then some 62 else none)))) else (bif Nat.blt k 13 then (bif Nat.blt k 10 then (bif Nat.beq k 9 then some 63 else none) else (bif Nat.blt k 12 then (bif Nat.beq k 10 then some 64 else none) else (bif Nat.beq k 12 then some 65 else none))) else (bif Nat.blt k 15 then (bif Nat.blt k 14 then (bif Nat.beq k 13 then some 66 else none) else (bif Nat.beq k 14 then some 67 else none)) else (bif Nat.blt k 17 then (bif Nat.beq k 15 then some 68 else none) else (bif Nat.beq k 17 then some 69 else none)))))
def R0_80 (k : Nat) : Option Nat := (bif Nat.blt k 1 then (bif Nat.beq k 0 then some 20 else none) else (bif Nat.blt k 2 then (bif Nat.beq k 1 then some 81 else none) else (bif Nat.beq k 2 then some 82 else none)))
def R0_83 (k : Nat) : Option Nat := (bif Nat.blt k 1 then (bif Nat.beq k 0 then some 84 else none) else (bif Nat.beq k 1 then some 20 else none))
def R0_84 (k : Nat) : Option Nat := (bif Nat.blt k 9 then (bif Nat.blt k 4 then (bif Nat.blt k 2 then (bif Nat.beq k 1 then some 85 else none) else (bif Nat.blt k 3 then (bif Nat.beq k 2 then some 86 else none) else (bif Nat.beq k 3 then some 87 else none))) else (bif Nat.blt k 7 then (bif Nat.blt k 5 then (bif Nat.beq k 4 then some 88 else none) else (bif Nat.beq k 5 then some 89 else none)) else (bif Nat.blt k 8 then (bif Nat.beq k 7 then some 90 else none) else (bif Nat.beq k 8 then some 91 else none)))) else (bif Nat.blt k 13 then (bif Nat.blt k 10 then (bif Nat.beq k 9 then some 92 else none) else (bif Nat.blt k 12 then (bif Nat.beq k 10 then some 93 else none) else (bif Nat.beq k 12 then some 94 else none))) else (bif Nat.blt k 15 then (bif Nat.blt k 14 then (bif Nat.beq k 13 then some 95 else none) else (bif Nat.beq k 14 then some 96 else none)) else (bif Nat.blt k 17 then (bif Nat.beq k 15 then some 97 else none) else (bif Nat.beq k 17 then some 98 else none)))))
def R0_100 (k : Nat) : Option Nat := (bif Nat.blt k 9 then (bif Nat.blt k 4 then (bif Nat.blt k 2 then (bif Nat.beq k 1 then some 101 else none) else (bif Nat.blt k 3 then (bif Nat.beq k 2 then some 102 else none) else (bif Nat.beq k 3 then some 103 else none))) else (bif Nat.blt k 7 then (bif Nat.blt k 5 then (bif Nat.beq k 4 then some 104 else none) else (bif Nat.beq k 5 then some 105 else none)) else (bif Nat.blt k 8 then (bif Nat.beq k 7 then some 106 else none) else (bif Nat.beq k 8 then some 107 else none)))) else (bif Nat.blt k 13 then (bif Nat.blt k 10 then (bif Nat.beq k 9 then some 108 else none) else (bif Nat.blt k 12 then (bif Nat.beq k 10 then some 109 else none) else (bif Nat.beq k 12 then some 110 else none))) else (bif Nat.blt k 15 then (bif Nat.blt k 14 then (bif Nat.beq k 13 then some 111 else none) else (bif Nat.beq k 14 then some 112 else none)) else (bif Nat.blt k 17 then (bif Nat.beq k 15 then some 113 else none) else (bif Nat.beq k 17 then some 114 else none)))))
def R0_115 (k : Nat) : Option Nat := (bif Nat.blt k 9 then (bif Nat.blt k 4 then (bif Nat.blt k 2 then (bif Nat.beq k 1 then some 116 else none) else (bif Nat.blt k 3 then (bif Nat.beq k 2 then some 117 else none) else (bif Nat.beq k 3 then some 118 else none))) else (bif Nat.blt k 7 then (bif Nat.blt k 5 then (bif Nat.beq k 4 then some 119 else none) else (bif Nat.beq k 5 then some 120 else none)) else (bif Nat.blt k 8 then (bif Nat.beq k 7 then some 121 else none) else (bif Nat.beq k 8 then some 122 else none)))) else (bif Nat.blt k 13 then (bif Nat.blt k 10 then (bif Nat.beq k 9 then some 123 else none) else (bif Nat.blt k 12 then (bif Nat.beq k 10 then some 124 else none) else (bif Nat.beq k 12 then some 125 else none))) else (bif Nat.blt k 15 then (bif Nat.blt k 14 then (bif Nat.beq k 13 then some 126 else none) else (bif Nat.beq k 14 then some 127 else none)) else (bif Nat.blt k 17 then (bif Nat.beq k 15 then some 128 else none) else (bif Nat.beq k 17 then some 129 else none)))))
def R0_130 (k : Nat) : Option Nat := (bif Nat.blt k 30 then (bif Nat.blt k 11 then (bif Nat.blt k 4 then (bif Nat.blt k 2 then (bif Nat.beq k 1 then some 131 else none) else (bif Nat.blt k 3 then (bif Nat.beq k 2 then some 132 else none) else (bif Nat.beq k 3 then some 133 else none))) else (bif Nat.blt k 5 then (bif Nat.beq k 4 then some 134 else none) else (bif Nat.blt k 7 then (bif Nat.beq k 5 then some 135 else none) else (bif Nat.beq k 7 then some 136 else none)))) else (bif Nat.blt k 16 then (bif Nat.blt k 12 then (bif Nat.beq k 11 then some 137 else none) else (bif Nat.blt k 15 then (bif Nat.beq k 12 then some 138 else none) else (bif Nat.beq k 15 then some 139 else none))) else (bif Nat.blt k 26 then (bif Nat.blt k 17 then (bif Nat.beq k 16 then some 140 else none) else (bif Nat.beq k 17 then some 141 else none)) else (bif Nat.blt k 29 then (bif Nat.beq k 26 then some 142 else none) else (bif Nat.beq k 29 then some 143 else none))))) else (bif Nat.blt k 38 then (bif Nat.blt k 34 then (bif Nat.blt k 32 then (bif Nat.beq k 30 then some 144 else none) else (bif Nat.blt k 33 then (bif Nat.beq k 32 then some 145 else none) else (bif Nat.beq k 33 then some 146 else none))) else (bif Nat.blt k 36 then (bif Nat.blt k 35 then (bif Nat.beq k 34 then some 147 else none) else (bif Nat.beq k 35 then some 148 else none)) else (bif Nat.blt k 37 then (bif Nat.beq k 36 then some 149 else none) else (bif Nat.beq k 37 then some 150 else none)))) else (bif Nat.blt k 41 then (bif Nat.blt k 39 then (bif Nat.beq k 38 then some 151 else none) else (bif Nat.blt k 40 then (bif Nat.beq k 39 then some 152 else none) else (bif Nat.beq k 40 then some 153 else none))) else (bif Nat.blt k 49 then (bif Nat.blt k 42 then (bif Nat.beq k 41 then some 154 else none) else (bif Nat.beq k 42 then some 155 else none)) else (bif Nat.blt k 50 then (bif Nat.beq k 49 then some 156 else none) else (bif Nat.beq k 50 then some 157 else none))))))
def R0 (a k : Nat) : Option Nat := (bif Nat.blt a 51 then (bif Nat.blt a 24 then (bif Nat.blt a 18 then (bif Nat.blt a 1 then (bif Nat.beq a 0 then R0_0 k else none) else (bif Nat.beq a 1 then R0_1 k else none)) else (bif Nat.blt a 20 then (bif Nat.beq a 18 then R0_18 k else none) else (bif Nat.beq a 20 then R0_20 k else none))) else (bif Nat.blt a 33 then (bif Nat.blt a 25 then (bif Nat.beq a 24 then R0_24 k else none) else (bif Nat.beq a 25 then R0_25 k else none)) else (bif Nat.blt a 35 then (bif Nat.beq a 33 then R0_33 k else none) else (bif Nat.beq a 35 then R0_35 k else none)))) else (bif Nat.blt a 83 then (bif Nat.blt a 55 then (bif Nat.blt a 54 then (bif Nat.beq a 51 then R0_51 k else none) else (bif Nat.beq a 54 then R0_54 k else none)) else (bif Nat.blt a 80 then (bif Nat.beq a 55 then R0_55 k else none) else (bif Nat.beq a 80 then R0_80 k else none))) else (bif Nat.blt a 100 then (bif Nat.blt a 84 then (bif Nat.beq a 83 then R0_83 k else none) else (bif Nat.beq a 84 then R0_84 k else none)) else (bif Nat.blt a 115 then (bif Nat.beq a 100 then R0_100 k else none) else (bif Nat.blt a 130 then (bif Nat.beq a 115 then R0_115 k else none) else (bif Nat.beq a 130 then R0_130 k else none))))))
/-- cells that came later (texts of laws): how many, their kinds, lengths, cells in their fields -/
abbrev XT : Type := Nat × (Nat → Nat) × (Nat → Nat) × (Nat → Nat → Option Nat)
abbrev mK (x : XT) : Nat → Nat := fun a => bif Nat.blt a 158 then K0 a else x.2.1 a
abbrev mL (x : XT) : Nat → Nat := fun a => bif Nat.blt a 158 then L0 a else x.2.2.1 a
abbrev mRr (x : XT) : Nat → Nat → Option Nat := fun a k => bif Nat.blt a 158 then R0 a k else x.2.2.2 a k
abbrev mkH (x : XT) (fi : Nat → Nat → Int32) (ai : Nat → Nat → Int32) (aj : Nat → Nat → Int64) (aq : Nat → Nat → Option Nat) : HP := (158 + x.1, mK x, mL x, fi, mRr x, ai, aj, aq)
theorem TOK.of {M : MI} (h : ((mT M).all fun q => decide (decode (mB M) q.1 = .ok q.2)) = true) : TOK M := fun q hq => of_decide_eq_true (List.all_eq_true.mp h q hq)
end SHAPE
end
section
section MORE
theorem Ev.reti {M : MI} {d bc bs pc : Nat} {lv : List (Option Value)} {x : Int32} {h : HP} {Q : Option Value → HP → Prop} (hT : TOK M) (hf : fnd (mT M) pc = some (.ireturn, 1)) (hr : mR M = some .int) (hq : Q (some (.int x)) h) : Ev M d bc bs pc lv [.int x] h Q :=
  Ev.ret (v := some (.int x)) (Or.inr (Or.inl ⟨x, .int, rfl, hT (pc, .ireturn, 1) (fnd_mem _ _ _ hf), hr, rfl⟩)) hq
theorem Ev.retz {M : MI} {d bc bs pc : Nat} {lv : List (Option Value)} {x : Int32} {h : HP} {Q : Option Value → HP → Prop} (hT : TOK M) (hf : fnd (mT M) pc = some (.ireturn, 1)) (hr : mR M = some .boolean) (hx : x = 0 ∨ x = 1) (hq : Q (some (.int x)) h) : Ev M d bc bs pc lv [.int x] h Q :=
  Ev.ret (v := some (.int x)) (Or.inr (Or.inl ⟨x, .boolean, rfl, hT (pc, .ireturn, 1) (fnd_mem _ _ _ hf), hr, by rcases hx with rfl | rfl <;> decide⟩)) hq
theorem Ev.retl {M : MI} {d bc bs pc : Nat} {lv : List (Option Value)} {x : Int64} {h : HP} {Q : Option Value → HP → Prop} (hT : TOK M) (hf : fnd (mT M) pc = some (.lreturn, 1)) (hr : mR M = some .long) (hq : Q (some (.long x)) h) : Ev M d bc bs pc lv [.long x] h Q :=
  Ev.ret (v := some (.long x)) (Or.inr (Or.inr (Or.inl ⟨x, rfl, hT (pc, .lreturn, 1) (fnd_mem _ _ _ hf), hr⟩))) hq
theorem Ev.retr {M : MI} {d bc bs pc : Nat} {lv : List (Option Value)} {r : Option Nat} {n : String} {h : HP} {Q : Option Value → HP → Prop} (hT : TOK M) (hf : fnd (mT M) pc = some (.areturn, 1)) (hr : mR M = some (.object n)) (hq : Q (some (va_rf r)) h) : Ev M d bc bs pc lv [va_rf r] h Q :=
  Ev.ret (v := some (va_rf r)) (Or.inr (Or.inr (Or.inr ⟨r, rfl, hT (pc, .areturn, 1) (fnd_mem _ _ _ hf), n, hr⟩))) hq
theorem Ev.retv {M : MI} {d bc bs pc : Nat} {lv : List (Option Value)} {h : HP} {Q : Option Value → HP → Prop} (hT : TOK M) (hf : fnd (mT M) pc = some (.return_, 1)) (hr : mR M = none) (hq : Q none h) : Ev M d bc bs pc lv [] h Q :=
  Ev.ret (v := none) (Or.inl ⟨rfl, hT (pc, .return_, 1) (fnd_mem _ _ _ hf), hr⟩) hq
theorem dcd {M : MI} (hT : TOK M) {pc n : Nat} {i : Instr} (hf : fnd (mT M) pc = some (i, n)) : decode (mB M) pc = .ok (i, n) := hT (pc, i, n) (fnd_mem _ _ _ hf)
theorem Ev.retn {M : MI} {d bc bs pc : Nat} {lv : List (Option Value)} {x : Int32} {ty : FieldType} {h : HP} {Q : Option Value → HP → Prop} (hT : TOK M) (hf : fnd (mT M) pc = some (.ireturn, 1)) (hr : mR M = some ty) (hx : narrow ty (.int x) = .int x) (hq : Q (some (.int x)) h) : Ev M d bc bs pc lv [.int x] h Q :=
  Ev.ret (v := some (.int x)) (Or.inr (Or.inl ⟨x, ty, rfl, hT (pc, .ireturn, 1) (fnd_mem _ _ _ hf), hr, hx⟩)) hq
/-- Object() -/
theorem ev_objInit {M : MI} {d bc bs pc : Nat} {lv : List (Option Value)} {st : List Value} {h : HP} {Q : Option Value → HP → Prop} {i a : Nat} (hd : decode (mB M) pc = .ok (.invokespecial i, 3)) (hlk : Cond.methodLink (cnm (mO M)) i objectInit ∈ TB) (h1 : Cond.instanceMethod objectInit ∈ TB) (h2 : Cond.code objectInit ⟨#[0xb1]⟩ 1 none ∈ TB) (hdd : 1 ≤ d) (hrest : (st.map fun v => v.category).sum ≤ 8)
    (k : Ev M d bc bs (pc + 3) lv st h Q) : Ev M d bc bs pc lv (.ref a :: st) h Q := by
  refine ev_full (Nat.le_refl _) (fun {p l e R s m args below meth c D cy G L xs H locs cells slots ls Z} C hdr hrr hK hH hS hl kk => ?_) k
  have hts := C.2.2.2.2.2.1
  refine W.objInit C.1 C.2.1 C.2.2.2.2.1 (hts _ hlk) (hts _ h1) (hts _ h2) rfl (hl.1.trans C.2.2.2.1.symm) rfl hd (by omega) ?_ (kk _ _ _ hH hS hl)
  show 2 * 0 + _ + 12 ≤ _
  rw [cat_cv]
  have := hdr.2
  unfold LQ at this
  omega
/-- Math.max, Math.min -/
theorem ev_max {M : MI} {d bc bs pc : Nat} {lv : List (Option Value)} {st : List Value} {h : HP} {Q : Option Value → HP → Prop} {i : Nat} {x y : Int32} (hd : decode (mB M) pc = .ok (.invokestatic i, 3)) (hlk : Cond.methodLink (cnm (mO M)) i Lib.Math.max.name ∈ TB) (h1 : Cond.static Lib.Math.max.name ∈ TB) (h2 : Cond.initialized "java/lang/Math" ∈ TB) (h3 : Cond.code Lib.Math.max.name Lib.Math.max.code 2 (some .int) ∈ TB) (hdd : 1 ≤ d) (hrest : (st.map fun v => v.category).sum ≤ 8)
    (k : Ev M d bc bs (pc + 3) lv (.int (if x < y then y else x) :: st) h Q) : Ev M d bc bs pc lv (.int y :: .int x :: st) h Q := by
  refine ev_full (Nat.le_refl _) (fun {p l e R s m args below meth c D cy G L xs H locs cells slots ls Z} C hdr hrr hK hH hS hl kk => ?_) k
  have hts := C.2.2.2.2.2.1
  refine va_mmax C.1 C.2.1 (C.2.2.2.1.trans hl.1.symm) C.2.2.2.2.1 (hts _ hlk) (hts _ h1) (hts _ h2) (hts _ h3) (by omega) ?_ (by omega) (by omega) hd (kk _ _ _ hH hS hl)
  rw [cat_cv]
  have := hdr.2
  unfold LQ at this
  omega
theorem ev_min {M : MI} {d bc bs pc : Nat} {lv : List (Option Value)} {st : List Value} {h : HP} {Q : Option Value → HP → Prop} {i : Nat} {x y : Int32} (hd : decode (mB M) pc = .ok (.invokestatic i, 3)) (hlk : Cond.methodLink (cnm (mO M)) i Lib.Math.min.name ∈ TB) (h1 : Cond.static Lib.Math.min.name ∈ TB) (h2 : Cond.initialized "java/lang/Math" ∈ TB) (h3 : Cond.code Lib.Math.min.name Lib.Math.min.code 2 (some .int) ∈ TB) (hdd : 1 ≤ d) (hrest : (st.map fun v => v.category).sum ≤ 8)
    (k : Ev M d bc bs (pc + 3) lv (.int (if y < x then y else x) :: st) h Q) : Ev M d bc bs pc lv (.int y :: .int x :: st) h Q := by
  refine ev_full (Nat.le_refl _) (fun {p l e R s m args below meth c D cy G L xs H locs cells slots ls Z} C hdr hrr hK hH hS hl kk => ?_) k
  have hts := C.2.2.2.2.2.1
  refine va_mmin C.1 C.2.1 (C.2.2.2.1.trans hl.1.symm) C.2.2.2.2.1 (hts _ hlk) (hts _ h1) (hts _ h2) (hts _ h3) (by omega) ?_ (by omega) (by omega) hd (kk _ _ _ hH hS hl)
  rw [cat_cv]
  have := hdr.2
  unfold LQ at this
  omega
/-- switches -/
theorem ev_tIn {M : MI} {d bc bs pc : Nat} {lv : List (Option Value)} {st : List Value} {h : HP} {Q : Option Value → HP → Prop} {dflt lo hi off : Int} {offs : Array Int} {len t : Nat} {x : Int32} (hd : decode (mB M) pc = .ok (.tableswitch dflt lo hi offs, len)) (h1 : ¬ x.toInt < lo) (h2 : ¬ hi < x.toInt) (ho : offs[(x.toInt - lo).toNat]? = some off) (ht : tgt pc off = some t)
    (k : Ev M d bc bs t lv st h Q) : Ev M d bc bs pc lv (.int x :: st) h Q :=
  ev_of (fun hx hb hl k => lv_tableIn hx hb hd h1 h2 ho (tgt_ok ht) k) k
theorem ev_tOut {M : MI} {d bc bs pc : Nat} {lv : List (Option Value)} {st : List Value} {h : HP} {Q : Option Value → HP → Prop} {dflt lo hi : Int} {offs : Array Int} {len t : Nat} {x : Int32} (hd : decode (mB M) pc = .ok (.tableswitch dflt lo hi offs, len)) (h1 : x.toInt < lo ∨ hi < x.toInt) (ht : tgt pc dflt = some t)
    (k : Ev M d bc bs t lv st h Q) : Ev M d bc bs pc lv (.int x :: st) h Q :=
  ev_of (fun hx hb hl k => lv_tableOut hx hb hd h1 (tgt_ok ht) k) k
theorem ev_look {M : MI} {d bc bs pc : Nat} {lv : List (Option Value)} {st : List Value} {h : HP} {Q : Option Value → HP → Prop} {dflt off : Int} {ps : Array (Int × Int)} {len t : Nat} {x : Int32} (hd : decode (mB M) pc = .ok (.lookupswitch dflt ps, len)) (hp : (ps.toList.zip (ps.toList.drop 1)).all (fun (a, next) => a.1 < next.1) = true) (ho : Op.lookupswitch.offset ps.toList dflt x.toInt = off) (ht : tgt pc off = some t)
    (k : Ev M d bc bs t lv st h Q) : Ev M d bc bs pc lv (.int x :: st) h Q :=
  ev_of (fun hx hb hl k => lv_lookup hx hb hd hp ho (tgt_ok ht) k) k
/-- the script -/
def sXs (L : Nat) (xs : Nat → Int32) : Prop := True
end MORE
end
section
section MADE
/-- a new cell of kind k, n places long -/
def mk1 (h : HP) (k n : Nat) : HP := (kN h + 1, u1 (kK h) (kN h) k, u1 (kL h) (kN h) n, u1 (kI h) (kN h) (fun _ => 0), u1 (kR h) (kN h) (fun _ => none), u1 (kA h) (kN h) (fun _ => 0), u1 (kJ h) (kN h) (fun _ => 0), u1 (kQ h) (kN h) (fun _ => none))
theorem mk1_old {cy : Nat → ClassId} {G : GG} {h : HP} {k n b : Nat} (hb : b < kN h) : ce cy G (mk1 h k n) b = ce cy G h b := by
  have hne : b ≠ kN h := by omega
  exact ce_eq (u1_n _ _ hne) (u1_n _ _ hne) (u1_n _ _ hne) (u1_n _ _ hne) (u1_n _ _ hne) (u1_n _ _ hne) (u1_n _ _ hne)
theorem mk1_kd {h : HP} {k n b : Nat} (hb : kK (mk1 h k n) b < 18) : b = kN h ∨ kK h b < 18 := by
  by_cases e : b = kN h
  · exact Or.inl e
  · right
    have : kK (mk1 h k n) b = kK h b := u1_n _ _ e
    omega
theorem cv_new {D : va_G} {cy : Nat → ClassId} {G : GG} {h : HP} {H : Heap} (hH : HR D cy G h H) (hn : kN h < 1000000) : cv G (.ref (kN h)) = .ref H.size := by
  show Value.ref (ro G (kN h)) = _
  rw [ro_lt G hn, hH.1]
theorem va_S.more {A : Nat → Prop} {H0 H H1 : Heap} {locs : List Loc} (hS : va_S A H0 H locs) (z : H1.size = H.size + 1) (oq : ∀ q, q < H.size → H1[q]? = H[q]?) : va_S A H0 H1 locs :=
  ⟨Nat.le_trans hS.1 (by omega), fun q h1 h2 => (oq q (Nat.lt_of_lt_of_le h1 hS.1)).trans (hS.2.1 q h1 h2), hS.2.2⟩
theorem ev_new {M : MI} {d bc bs pc : Nat} {lv : List (Option Value)} {st : List Value} {h : HP} {Q : Option Value → HP → Prop} {i ci : Nat} (hd : decode (mB M) pc = .ok (.new i, 3)) (hc : clk (mO M) i = some ci) (hn : kN h < 1000000)
    (k : Ev M d bc bs (pc + 3) lv (.ref (kN h) :: st) (mk1 h ci 0) Q) : Ev M d (bc + 1) (bs + nF ci) pc lv st h Q := by
  refine ev_made (n := nF ci) (h1 := mk1 h ci 0) (Nat.le_succ _) (fun {p l e R s m args below meth c D cy G L xs H locs cells slots ls Z} C hrr hK hH hS kk => ?_) k
  have hts := C.2.2.2.2.2.1
  obtain ⟨hc1, hc2⟩ := clk_ok hc
  obtain ⟨c1, c2, c3, c4⟩ := cls_at ci hc1
  have hKn := hK.1.1 ci _ c1
  refine W.newcK C.1 C.2.1 C.2.2.2.2.1 (hts _ hc2) (hts _ (ini_ok ci hc1).2) (hts _ (ini_ok ci hc1).1) rfl hd hrr.1 hrr.2 hKn.2.1 rfl fun H1 kC hkC e1 z1 o1 => ?_
  have hw := kk H1 (hH.push hn rfl (fun b hb => mk1_kd hb) (fun b hb => mk1_old hb) z1 o1 ?_) (hS.more z1 o1)
  · rw [List.map_cons, cv_new hH hn] at hw
    exact hw
  · have hkk : kK (mk1 h ci 0) (kN h) = ci := u1_s _ _ _
    rw [ce_obj hkk hc1]
    refine ⟨_, c1, (u_born (tyO ci) hts c2 hKn hkC (by rw [← hH.1]; exact e1) c3).to (fun j hj => ?_)⟩
    have hj2 := fl_at (G := G) hkk hj
    show defaultValue (tyO ci j) = (fl G (mk1 h ci 0) (kN h)).getD j .null
    rw [List.getD_eq_getElem?_getD, hj2]
    show _ = cv G (fvA (mk1 h ci 0) (kN h) j (fT ci j))
    unfold fvA
    have e2 : kR (mk1 h ci 0) (kN h) j = none := by show (u1 (kR h) (kN h) (fun _ => none) (kN h)) j = none; rw [u1_s]
    have e3 : kI (mk1 h ci 0) (kN h) j = 0 := by show (u1 (kI h) (kN h) (fun _ => 0) (kN h)) j = 0; rw [u1_s]
    rw [e2, e3]
    by_cases ht : fT ci j = 2
    · rw [ht]
      rcases tyR_ok ci hc1 j hj ht with ⟨n, e⟩ | ⟨t, e⟩ <;> rw [e] <;> rfl
    · have hb : Nat.beq (fT ci j) 2 = false := by
        cases hb : Nat.beq (fT ci j) 2 with
        | false => rfl
        | true => exact absurd (Nat.eq_of_beq_eq_true hb) ht
      rw [hb]
      show _ = Value.int 0
      unfold fT at ht
      split at ht
      · rename_i e; rw [e]; rfl
      · rename_i e; rw [e]; rfl
      · exact absurd rfl ht
def akd (t : ArrayType) : Nat := match newarray.typeOf t with
  | .byte => 12
  | .int => 13
  | .long => 14
  | .boolean => 15
  | _ => 99
theorem ac_ok : Cond.arrayClass .byte ∈ TB ∧ Cond.arrayClass .int ∈ TB ∧ Cond.arrayClass .long ∈ TB ∧ Cond.arrayClass .boolean ∈ TB := by
  have h1 : Cond.arrayClass .byte ∈ tables_1 ∧ Cond.arrayClass .int ∈ tables_1 ∧ Cond.arrayClass .long ∈ tables_1 ∧ Cond.arrayClass .boolean ∈ tables_1 := by decide +kernel
  exact ⟨tbm (List.mem_append_right _ h1.1) rfl, tbm (List.mem_append_right _ h1.2.1) rfl, tbm (List.mem_append_right _ h1.2.2.1) rfl, tbm (List.mem_append_right _ h1.2.2.2) rfl⟩
theorem ev_newa {M : MI} {d bc bs pc : Nat} {lv : List (Option Value)} {st : List Value} {h : HP} {Q : Option Value → HP → Prop} {t : ArrayType} {n : Int32} {N k : Nat} (hd : decode (mB M) pc = .ok (.newarray t, 2)) (ha : akd t = k) (hk : k < 18) (hn : kN h < 1000000) (h0 : ¬ n < 0) (hN : n.toNatClampNeg = N) (hN2 : N ≤ 1000000)
    (kx : Ev M d bc bs (pc + 2) lv (.ref (kN h) :: st) (mk1 h k N) Q) : Ev M d (bc + 1) (bs + N) pc lv (.int n :: st) h Q := by
  refine ev_made (n := N) (h1 := mk1 h k N) (Nat.le_succ _) (fun {p l e R s m args below meth c D cy G L xs H locs cells slots ls Z} C hrr hK hH hS kk => ?_) kx
  have hts := C.2.2.2.2.2.1
  have hbyt : N * componentBytes (newarray.typeOf t) ≤ 536870912 := by
    have : componentBytes (newarray.typeOf t) ≤ 8 := by cases t <;> decide
    calc N * componentBytes (newarray.typeOf t) ≤ 1000000 * 8 := Nat.mul_le_mul hN2 this
      _ ≤ _ := by decide
  have hharr : (Cond.arrayClass (newarray.typeOf t)).before args s = true := by
    unfold akd at ha
    split at ha
    · rename_i e; rw [e]; exact hts _ ac_ok.1
    · rename_i e; rw [e]; exact hts _ ac_ok.2.1
    · rename_i e; rw [e]; exact hts _ ac_ok.2.2.1
    · rename_i e; rw [e]; exact hts _ ac_ok.2.2.2
    · omega
  refine va_newaK C.1 C.2.1 hharr rfl hd rfl h0 hN hbyt hrr.1 hrr.2 rfl fun H1 cA e1 z1 o1 hAr hNm => ?_
  have hw := kk H1 (hH.push hn rfl (fun b hb => mk1_kd hb) (fun b hb => mk1_old hb) z1 o1 ?_) (hS.more z1 o1)
  · rw [List.map_cons, cv_new hH hn] at hw
    exact hw
  · have hkk : kK (mk1 h k N) (kN h) = k := u1_s _ _ _
    have e2 : kL (mk1 h k N) (kN h) = N := u1_s _ _ _
    have e3 : kA (mk1 h k N) (kN h) = fun _ => 0 := u1_s _ _ _
    have e4 : kJ (mk1 h k N) (kN h) = fun _ => 0 := u1_s _ _ _
    rw [hH.1] at e1
    unfold akd at ha
    split at ha
    · rename_i e; subst ha; rw [e] at e1 hNm
      have hc : cA = cy 12 := Option.some.inj (hNm.symm.trans (hK.1.2 0 _ rfl).2)
      subst hc
      rw [ce_int hkk (Or.inl rfl), e2, e3]; exact e1
    · rename_i e; subst ha; rw [e] at e1 hNm
      have hc : cA = cy 13 := Option.some.inj (hNm.symm.trans (hK.1.2 1 _ rfl).2)
      subst hc
      rw [ce_int hkk (Or.inr (Or.inl rfl)), e2, e3]; exact e1
    · rename_i e; subst ha; rw [e] at e1 hNm
      have hc : cA = cy 14 := Option.some.inj (hNm.symm.trans (hK.1.2 2 _ rfl).2)
      subst hc
      rw [ce_long hkk, e2, e4]; exact e1
    · rename_i e; subst ha; rw [e] at e1 hNm
      have hc : cA = cy 15 := Option.some.inj (hNm.symm.trans (hK.1.2 3 _ rfl).2)
      subst hc
      rw [ce_int hkk (Or.inr (Or.inr rfl)), e2, e3]; exact e1
    · omega
theorem ev_anew {M : MI} {d bc bs pc : Nat} {lv : List (Option Value)} {st : List Value} {h : HP} {Q : Option Value → HP → Prop} {i ci k : Nat} {n : Int32} {N : Nat} (hd : decode (mB M) pc = .ok (.anewarray i, 3)) (hc : clk (mO M) i = some ci) (hk : (ci = 7 ∧ k = 16) ∨ (ci = 9 ∧ k = 17)) (hn : kN h < 1000000) (h0 : ¬ n < 0) (hN : n.toNatClampNeg = N) (hN2 : N ≤ 1000000)
    (kx : Ev M d bc bs (pc + 3) lv (.ref (kN h) :: st) (mk1 h k N) Q) : Ev M d (bc + 1) (bs + N) pc lv (.int n :: st) h Q := by
  refine ev_made (n := N) (h1 := mk1 h k N) (Nat.le_succ _) (fun {p l e R s m args below meth c D cy G L xs H locs cells slots ls Z} C hrr hK hH hS kk => ?_) kx
  have hts := C.2.2.2.2.2.1
  obtain ⟨hc1, hc2⟩ := clk_ok hc
  subst hN
  have hover : (Cond.arrayOver (.object (cnm ci))).before args s = true := by
    rcases hk with ⟨rfl, -⟩ | ⟨rfl, -⟩
    · exact va_AO.use hK.2.2.2.2.2.2.2.2.2.1
    · exact va_AO.use hK.2.2.2.2.2.2.2.2.2.2
  refine W.anew C.1 C.2.1 C.2.2.2.2.1 (hts _ hc2) hover rfl hd rfl h0 (by omega) hrr.1 hrr.2 fun cA kA0 comp f1 f2 f3 f4 => ?_
  generalize hH1 : H.push ({ cls := cA, slots := Array.replicate n.toNatClampNeg .null, vm := .none } : Cell) = H1
  have z1 : H1.size = H.size + 1 := by rw [← hH1, Array.size_push]
  have e1 : H1[H.size]? = some (arrV cA n.toNatClampNeg (fun _ => .null)) := by rw [← hH1, Array.getElem?_push_size, ← arrV_new]
  have o1 : ∀ q : Nat, q < H.size → H1[q]? = H[q]? := fun q hq => by rw [← hH1, Array.getElem?_push, if_neg (Nat.ne_of_lt hq)]
  have hw := kk H1 (hH.push hn rfl (fun b hb => mk1_kd hb) (fun b hb => mk1_old hb) z1 o1 ?_) (hS.more z1 o1)
  · rw [List.map_cons, cv_new hH hn] at hw
    exact hw
  · have hkk : kK (mk1 h k n.toNatClampNeg) (kN h) = k := u1_s _ _ _
    have e2 : kL (mk1 h k n.toNatClampNeg) (kN h) = n.toNatClampNeg := u1_s _ _ _
    have e3 : kQ (mk1 h k n.toNatClampNeg) (kN h) = fun _ => none := u1_s _ _ _
    rw [hH.1] at e1
    rcases hk with ⟨rfl, rfl⟩ | ⟨rfl, rfl⟩
    · have hr := (hK.1.2 4 _ rfl).2
      obtain ⟨kA1, comp1, g1, g2, g3, g4⟩ := hr
      have hc : cA = cy 16 := Option.some.inj (f1.symm.trans g4)
      subst hc
      rw [ce_ref hkk (Or.inl rfl), e2, e3]; exact e1
    · have hr := (hK.1.2 5 _ rfl).2
      obtain ⟨kA1, comp1, g1, g2, g3, g4⟩ := hr
      have hc : cA = cy 17 := Option.some.inj (f1.symm.trans g4)
      subst hc
      rw [ce_ref hkk (Or.inr rfl), e2, e3]; exact e1
/-- a cell, or none, into a row of cells -/
theorem ev_aast {M : MI} {d bc bs pc : Nat} {lv : List (Option Value)} {st : List Value} {h : HP} {Q : Option Value → HP → Prop} {a kd ci : Nat} {i : Int32} {r : Option Nat} (hd : decode (mB M) pc = .ok (.aastore, 1)) (hk : kK h a = kd) (hkd : (kd = 16 ∧ ci = 7) ∨ (kd = 17 ∧ ci = 9)) (hin : vp_in i (kL h a)) (hr : ∀ b, r = some b → kK h b = ci)
    (k : Ev M d bc bs (pc + 1) lv st (sQ h (u2 (kQ h) a i.toNatClampNeg r)) Q) : Ev M d bc bs pc lv (va_rf r :: .int i :: .ref a :: st) h Q := by
  refine ev_full (h1 := sQ h (u2 (kQ h) a i.toNatClampNeg r)) (Nat.le_refl (kN h)) (fun {p l e R s m args below meth c D cy G L xs H locs cells slots ls Z} C hdr hrr hK hH hS hl kk => ?_) k
  have hk18 : kK h a < 18 := by rw [hk]; omega
  have hat := hH.2.2.2 a (hH.2.2.1 a hk18)
  have hkr : kd = 16 ∨ kd = 17 := by omega
  rw [ce_ref hk hkr] at hat
  have ea : cv G (.ref a) = .ref (G.1 + a) := by show Value.ref (ro G a) = _; rw [hH.ro hk18]
  rw [List.map_cons, List.map_cons, List.map_cons, ea, cv_rf]
  have hty : ∃ (t0 : Nat), (tyl cy)[t0]? = some (cy kd, .object (cnm ci)) := by
    rcases hkd with ⟨rfl, rfl⟩ | ⟨rfl, rfl⟩
    · exact ⟨4, rfl⟩
    · exact ⟨5, rfl⟩
  obtain ⟨t0, ht0⟩ := hty
  have hci : ci < 12 := by omega
  have hlt : i.toNatClampNeg < kL h a := Nat.not_le.mp fun q => hin (Or.inr q)
  have h0 : ¬ i < 0 := fun q => hin (Or.inl q)
  have fin : ∀ H1 : Heap, H1[G.1 + a]? = some ((arrV (cy kd) (kL h a) (fun j => va_rf ((kQ h a j).map (ro G)))).setSlot i.toNatClampNeg (va_rf (r.map (ro G)))) → H1.size = H.size → (∀ q, q ≠ G.1 + a → H1[q]? = H[q]?) → W p l e R s m args below meth c H1 (locs ++ [⟨G.1 + a, i.toNatClampNeg⟩]) cells slots Z (F0 m (pc + 1) ls (st.map (cv G))) := by
    intro H1 z1 z2 z3
    refine kk H1 _ ls (hH.put (a := a) rfl rfl (fun b hb => ce_eq rfl rfl rfl rfl rfl rfl (by show u2 _ _ _ _ b = _; rw [u2, u1_n _ _ hb])) z2 z3 ?_) (hS.put z2 z3 (Nat.le_add_right _ _)) hl
    rw [ce_ref (h := sQ h (u2 (kQ h) a i.toNatClampNeg r)) hk hkr]
    show H1[G.1 + a]? = some (arrV (cy kd) (kL h a) (fun j => va_rf ((u2 (kQ h) a i.toNatClampNeg r a j).map (ro G))))
    rw [z1, arrV_store]
    congr 2
    funext q
    by_cases hq : q = i.toNatClampNeg
    · subst hq; rw [u2_s]; simp [updV]
    · rw [u2_k _ _ _ hq]; simp [updV, hq]
  cases r with
  | none =>
    refine va_WaastN (C := cnm ci) C.1 C.2.1 hat ((hK.1.2 t0 _ ht0).1 (kL h a) (fun j => va_rf ((kQ h a j).map (ro G)))) (fun h => by cases h) (by show ¬ (i < 0 ∨ (arrV _ _ _).slots.size ≤ _); rw [arrV_size]; exact hin) rfl rfl hd fun H1 z1 z2 z3 => ?_
    exact fin H1 z1 z2 z3
  | some b =>
    have hb := hr b rfl
    have hb18 : kK h b < 18 := by rw [hb]; omega
    have hatb := hH.2.2.2 b (hH.2.2.1 b hb18)
    rw [ce_obj hb hci] at hatb
    obtain ⟨rr, g0, cellV, g1, g2, g3, -⟩ := hatb
    have hcls := (hK.1.1 ci _ (cls_at ci hci).1).2
    obtain ⟨kA0, comp, k1, k2, k3, -⟩ := (hK.1.2 t0 _ ht0).2
    have hcomp : comp = D.1 ci := Option.some.inj (k3.symm.trans hcls.1)
    subst hcomp
    obtain ⟨kC, hkC, -⟩ := hcls.2
    have eb : (va_rf ((some b).map (ro G))) = .ref (G.1 + b) := by show Value.ref (ro G b) = _; rw [hH.ro hb18]
    rw [eb] at fin ⊢
    refine W.aast C.1 C.2.1 hat (fun q h => by cases h) (fun h => by cases h) k1 k2 rfl hkC ⟨h0, by show _ < (arrV _ _ _).slots.size; rw [arrV_size]; exact hlt⟩ g1 (fun q h => by rw [g3] at h; cases h) (by rw [g2]; exact hkC) (by rw [g2]; exact va_assign hcls) rfl rfl hd fun H1 z1 z2 z3 => ?_
    exact fin H1 z1 z2 z3
/-- the script -/
theorem ro_sc (G : GG) : ro G 1000000 = G.2.1 := rfl
theorem ev_sld {M : MI} {d bc bs pc : Nat} {lv : List (Option Value)} {st : List Value} {h : HP} {Q : Option Value → HP → Prop} {i : Int32} {L0 : Nat} {xs0 : Nat → Int32} (hd : decode (mB M) pc = .ok (.iaload, 1)) (hs : mS M = some (L0, xs0)) (hin : vp_in i L0)
    (k : Ev M d bc bs (pc + 1) lv (.int (xs0 i.toNatClampNeg) :: st) h Q) : Ev M d bc bs pc lv (.int i :: .ref 1000000 :: st) h Q := by
  refine ev_full (Nat.le_refl _) (fun {p l e R s m args below meth c D cy G L xs H locs cells slots ls Z} C hdr hrr hK hH hS hl kk => ?_) k
  have hq := C.2.2.2.2.2.2.2.2 _ hs
  cases hq
  exact va_sld C.1 C.2.1 hK.2.1 (Nat.lt_of_lt_of_le hK.2.2.1 hK.2.2.2.1) (Nat.not_le.mpr hK.2.2.1) hS hin hd (kk _ _ _ hH hS hl)
theorem ev_slen {M : MI} {d bc bs pc : Nat} {lv : List (Option Value)} {st : List Value} {h : HP} {Q : Option Value → HP → Prop} {L0 : Nat} {xs0 : Nat → Int32} (hd : decode (mB M) pc = .ok (.arraylength, 1)) (hs : mS M = some (L0, xs0))
    (k : Ev M d bc bs (pc + 1) lv (.int (Int32.ofNat L0) :: st) h Q) : Ev M d bc bs pc lv (.ref 1000000 :: st) h Q := by
  refine ev_full (Nat.le_refl _) (fun {p l e R s m args below meth c D cy G L xs H locs cells slots ls Z} C hdr hrr hK hH hS hl kk => ?_) k
  have hq := C.2.2.2.2.2.2.2.2 _ hs
  cases hq
  exact va_slen C.1 C.2.1 hK.2.1 (Nat.lt_of_lt_of_le hK.2.2.1 hK.2.2.2.1) (Nat.not_le.mpr hK.2.2.1) hS hd (kk _ _ _ hH hS hl)
end MADE
end
section
section WORDS
theorem tokX0_init : TOK mX0_init := TOK.of tkX0_init
set_option maxRecDepth 20000 in
theorem okX0_init : OKm mX0_init := ⟨tm 172 rfl, tm 4 rfl, ⟨by decide, by decide⟩, by decide⟩
set_option maxRecDepth 20000 in
theorem inX0_init : Cond.instanceMethod (mY mX0_init) ∈ TB := tm 171 rfl
theorem tokX0_regard : TOK mX0_regard := TOK.of tkX0_regard
set_option maxRecDepth 20000 in
theorem okX0_regard : OKm mX0_regard := ⟨tm 501 rfl, tm 4 rfl, ⟨by decide, by decide⟩, by decide⟩
set_option maxRecDepth 20000 in
theorem inX0_regard : Cond.instanceMethod (mY mX0_regard) ∈ TB := tm 499 rfl
set_option maxRecDepth 20000 in
theorem seX0_regard : Cond.selects (mY mX0_regard).cls (mY mX0_regard) (mY mX0_regard) ∈ TB := tm 500 rfl
theorem tokX0_regardUnknown : TOK mX0_regardUnknown := TOK.of tkX0_regardUnknown
set_option maxRecDepth 20000 in
theorem okX0_regardUnknown : OKm mX0_regardUnknown := ⟨tm 505 rfl, tm 4 rfl, ⟨by decide, by decide⟩, by decide⟩
set_option maxRecDepth 20000 in
theorem inX0_regardUnknown : Cond.instanceMethod (mY mX0_regardUnknown) ∈ TB := tm 503 rfl
set_option maxRecDepth 20000 in
theorem seX0_regardUnknown : Cond.selects (mY mX0_regardUnknown).cls (mY mX0_regardUnknown) (mY mX0_regardUnknown) ∈ TB := tm 504 rfl
theorem tokX0_told : TOK mX0_told := TOK.of tkX0_told
set_option maxRecDepth 20000 in
theorem okX0_told : OKm mX0_told := ⟨tm 509 rfl, tm 4 rfl, ⟨by decide, by decide⟩, by decide⟩
set_option maxRecDepth 20000 in
theorem inX0_told : Cond.instanceMethod (mY mX0_told) ∈ TB := tm 507 rfl
set_option maxRecDepth 20000 in
theorem seX0_told : Cond.selects (mY mX0_told).cls (mY mX0_told) (mY mX0_told) ∈ TB := tm 508 rfl
theorem tokX0_can : TOK mX0_can := TOK.of tkX0_can
set_option maxRecDepth 20000 in
theorem okX0_can : OKm mX0_can := ⟨tm 497 rfl, tm 4 rfl, ⟨by decide, by decide⟩, by decide⟩
set_option maxRecDepth 20000 in
theorem inX0_can : Cond.instanceMethod (mY mX0_can) ∈ TB := tm 495 rfl
set_option maxRecDepth 20000 in
theorem seX0_can : Cond.selects (mY mX0_can).cls (mY mX0_can) (mY mX0_can) ∈ TB := tm 496 rfl
theorem tokX0_canBits : TOK mX0_canBits := TOK.of tkX0_canBits
set_option maxRecDepth 20000 in
theorem okX0_canBits : OKm mX0_canBits := ⟨tm 493 rfl, tm 4 rfl, ⟨by decide, by decide⟩, by decide⟩
set_option maxRecDepth 20000 in
theorem inX0_canBits : Cond.instanceMethod (mY mX0_canBits) ∈ TB := tm 491 rfl
set_option maxRecDepth 20000 in
theorem seX0_canBits : Cond.selects (mY mX0_canBits).cls (mY mX0_canBits) (mY mX0_canBits) ∈ TB := tm 492 rfl
theorem tokX0_move : TOK mX0_move := TOK.of tkX0_move
set_option maxRecDepth 20000 in
theorem okX0_move : OKm mX0_move := ⟨tm 800 rfl, tm 4 rfl, ⟨by decide, by decide⟩, by decide⟩
set_option maxRecDepth 20000 in
theorem inX0_move : Cond.instanceMethod (mY mX0_move) ∈ TB := tm 798 rfl
set_option maxRecDepth 20000 in
theorem seX0_move : Cond.selects (mY mX0_move).cls (mY mX0_move) (mY mX0_move) ∈ TB := tm 799 rfl
theorem tokX0_roundAndRound : TOK mX0_roundAndRound := TOK.of tkX0_roundAndRound
set_option maxRecDepth 20000 in
theorem okX0_roundAndRound : OKm mX0_roundAndRound := ⟨tm 969 rfl, tm 4 rfl, ⟨by decide, by decide⟩, by decide⟩
set_option maxRecDepth 20000 in
theorem inX0_roundAndRound : Cond.instanceMethod (mY mX0_roundAndRound) ∈ TB := tm 967 rfl
set_option maxRecDepth 20000 in
theorem seX0_roundAndRound : Cond.selects (mY mX0_roundAndRound).cls (mY mX0_roundAndRound) (mY mX0_roundAndRound) ∈ TB := tm 968 rfl
theorem tokX1_init : TOK mX1_init := TOK.of tkX1_init
set_option maxRecDepth 20000 in
theorem okX1_init : OKm mX1_init := ⟨tm 259 rfl, tm 7 rfl, ⟨by decide, by decide⟩, by decide⟩
set_option maxRecDepth 20000 in
theorem inX1_init : Cond.instanceMethod (mY mX1_init) ∈ TB := tm 258 rfl
theorem tokX1_sendThrough : TOK mX1_sendThrough := TOK.of tkX1_sendThrough
set_option maxRecDepth 20000 in
theorem okX1_sendThrough : OKm mX1_sendThrough := ⟨tm 789 rfl, tm 7 rfl, ⟨by decide, by decide⟩, by decide⟩
set_option maxRecDepth 20000 in
theorem inX1_sendThrough : Cond.instanceMethod (mY mX1_sendThrough) ∈ TB := tm 787 rfl
set_option maxRecDepth 20000 in
theorem seX1_sendThrough : Cond.selects (mY mX1_sendThrough).cls (mY mX1_sendThrough) (mY mX1_sendThrough) ∈ TB := tm 788 rfl
theorem tokX1_flip : TOK mX1_flip := TOK.of tkX1_flip
set_option maxRecDepth 20000 in
theorem okX1_flip : OKm mX1_flip := ⟨tm 804 rfl, tm 7 rfl, ⟨by decide, by decide⟩, by decide⟩
set_option maxRecDepth 20000 in
theorem inX1_flip : Cond.instanceMethod (mY mX1_flip) ∈ TB := tm 802 rfl
set_option maxRecDepth 20000 in
theorem seX1_flip : Cond.selects (mY mX1_flip).cls (mY mX1_flip) (mY mX1_flip) ∈ TB := tm 803 rfl
theorem tokX1_changeArm : TOK mX1_changeArm := TOK.of tkX1_changeArm
set_option maxRecDepth 20000 in
theorem okX1_changeArm : OKm mX1_changeArm := ⟨tm 808 rfl, tm 7 rfl, ⟨by decide, by decide⟩, by decide⟩
set_option maxRecDepth 20000 in
theorem inX1_changeArm : Cond.instanceMethod (mY mX1_changeArm) ∈ TB := tm 806 rfl
set_option maxRecDepth 20000 in
theorem seX1_changeArm : Cond.selects (mY mX1_changeArm).cls (mY mX1_changeArm) (mY mX1_changeArm) ∈ TB := tm 807 rfl
theorem tokX1_nextDay : TOK mX1_nextDay := TOK.of tkX1_nextDay
set_option maxRecDepth 20000 in
theorem okX1_nextDay : OKm mX1_nextDay := ⟨tm 813 rfl, tm 7 rfl, ⟨by decide, by decide⟩, by decide⟩
set_option maxRecDepth 20000 in
theorem inX1_nextDay : Cond.instanceMethod (mY mX1_nextDay) ∈ TB := tm 811 rfl
set_option maxRecDepth 20000 in
theorem seX1_nextDay : Cond.selects (mY mX1_nextDay).cls (mY mX1_nextDay) (mY mX1_nextDay) ∈ TB := tm 812 rfl
theorem tokX1_takeBack : TOK mX1_takeBack := TOK.of tkX1_takeBack
set_option maxRecDepth 20000 in
theorem okX1_takeBack : OKm mX1_takeBack := ⟨tm 858 rfl, tm 7 rfl, ⟨by decide, by decide⟩, by decide⟩
set_option maxRecDepth 20000 in
theorem inX1_takeBack : Cond.instanceMethod (mY mX1_takeBack) ∈ TB := tm 856 rfl
set_option maxRecDepth 20000 in
theorem seX1_takeBack : Cond.selects (mY mX1_takeBack).cls (mY mX1_takeBack) (mY mX1_takeBack) ∈ TB := tm 857 rfl
theorem tokX1_keep : TOK mX1_keep := TOK.of tkX1_keep
set_option maxRecDepth 20000 in
theorem okX1_keep : OKm mX1_keep := ⟨tm 796 rfl, tm 7 rfl, ⟨by decide, by decide⟩, by decide⟩
set_option maxRecDepth 20000 in
theorem inX1_keep : Cond.instanceMethod (mY mX1_keep) ∈ TB := tm 795 rfl
set_option maxRecDepth 20000 in
theorem seX1_keep : Cond.selects (mY mX1_keep).cls (mY mX1_keep) (mY mX1_keep) ∈ TB := tbm (List.mem_append_left _ (by decide +kernel)) rfl
theorem tokX1_keepAhead : TOK mX1_keepAhead := TOK.of tkX1_keepAhead
set_option maxRecDepth 20000 in
theorem okX1_keepAhead : OKm mX1_keepAhead := ⟨tm 763 rfl, tm 7 rfl, ⟨by decide, by decide⟩, by decide⟩
set_option maxRecDepth 20000 in
theorem inX1_keepAhead : Cond.instanceMethod (mY mX1_keepAhead) ∈ TB := tm 761 rfl
set_option maxRecDepth 20000 in
theorem seX1_keepAhead : Cond.selects (mY mX1_keepAhead).cls (mY mX1_keepAhead) (mY mX1_keepAhead) ∈ TB := tm 762 rfl
theorem tokX1_restoreAhead : TOK mX1_restoreAhead := TOK.of tkX1_restoreAhead
set_option maxRecDepth 20000 in
theorem okX1_restoreAhead : OKm mX1_restoreAhead := ⟨tm 817 rfl, tm 7 rfl, ⟨by decide, by decide⟩, by decide⟩
set_option maxRecDepth 20000 in
theorem inX1_restoreAhead : Cond.instanceMethod (mY mX1_restoreAhead) ∈ TB := tm 815 rfl
set_option maxRecDepth 20000 in
theorem seX1_restoreAhead : Cond.selects (mY mX1_restoreAhead).cls (mY mX1_restoreAhead) (mY mX1_restoreAhead) ∈ TB := tm 816 rfl
theorem tokX2_init : TOK mX2_init := TOK.of tkX2_init
set_option maxRecDepth 20000 in
theorem okX2_init : OKm mX2_init := ⟨tm 381 rfl, tm 11 rfl, ⟨by decide, by decide⟩, by decide⟩
set_option maxRecDepth 20000 in
theorem inX2_init : Cond.instanceMethod (mY mX2_init) ∈ TB := tm 380 rfl
theorem tokX2_run : TOK mX2_run := TOK.of tkX2_run
set_option maxRecDepth 20000 in
theorem okX2_run : OKm mX2_run := ⟨tm 1088 rfl, tm 11 rfl, ⟨by decide, by decide⟩, by decide⟩
set_option maxRecDepth 20000 in
theorem inX2_run : Cond.instanceMethod (mY mX2_run) ∈ TB := tm 1086 rfl
set_option maxRecDepth 20000 in
theorem seX2_run : Cond.selects (mY mX2_run).cls (mY mX2_run) (mY mX2_run) ∈ TB := tm 1087 rfl
theorem tokX2_draw : TOK mX2_draw := TOK.of tkX2_draw
set_option maxRecDepth 20000 in
theorem okX2_draw : OKm mX2_draw := ⟨tm 1093 rfl, tm 11 rfl, ⟨by decide, by decide⟩, by decide⟩
set_option maxRecDepth 20000 in
theorem inX2_draw : Cond.instanceMethod (mY mX2_draw) ∈ TB := tm 1092 rfl
set_option maxRecDepth 20000 in
theorem seX2_draw : Cond.selects (mY mX2_draw).cls (mY mX2_draw) (mY mX2_draw) ∈ TB := tbm (List.mem_append_left _ (by decide +kernel)) rfl
theorem tokX2_behind : TOK mX2_behind := TOK.of tkX2_behind
set_option maxRecDepth 20000 in
theorem okX2_behind : OKm mX2_behind := ⟨tm 1106 rfl, tm 11 rfl, ⟨by decide, by decide⟩, by decide⟩
set_option maxRecDepth 20000 in
theorem inX2_behind : Cond.instanceMethod (mY mX2_behind) ∈ TB := tm 1104 rfl
set_option maxRecDepth 20000 in
theorem seX2_behind : Cond.selects (mY mX2_behind).cls (mY mX2_behind) (mY mX2_behind) ∈ TB := tm 1105 rfl
theorem tokX3_init : TOK mX3_init := TOK.of tkX3_init
set_option maxRecDepth 20000 in
theorem okX3_init : OKm mX3_init := ⟨tm 365 rfl, tm 10 rfl, ⟨by decide, by decide⟩, by decide⟩
set_option maxRecDepth 20000 in
theorem inX3_init : Cond.instanceMethod (mY mX3_init) ∈ TB := tm 364 rfl
theorem tokX3_comesOut : TOK mX3_comesOut := TOK.of tkX3_comesOut
set_option maxRecDepth 20000 in
theorem okX3_comesOut : OKm mX3_comesOut := ⟨tm 1044 rfl, tm 10 rfl, ⟨by decide, by decide⟩, by decide⟩
set_option maxRecDepth 20000 in
theorem inX3_comesOut : Cond.instanceMethod (mY mX3_comesOut) ∈ TB := tm 1043 rfl
set_option maxRecDepth 20000 in
theorem seX3_comesOut : Cond.selects (mY mX3_comesOut).cls (mY mX3_comesOut) (mY mX3_comesOut) ∈ TB := tbm (List.mem_append_left _ (by decide +kernel)) rfl
theorem tokX3_possible : TOK mX3_possible := TOK.of tkX3_possible
set_option maxRecDepth 20000 in
theorem okX3_possible : OKm mX3_possible := ⟨tm 1040 rfl, tm 10 rfl, ⟨by decide, by decide⟩, by decide⟩
set_option maxRecDepth 20000 in
theorem inX3_possible : Cond.instanceMethod (mY mX3_possible) ∈ TB := tm 1038 rfl
set_option maxRecDepth 20000 in
theorem seX3_possible : Cond.selects (mY mX3_possible).cls (mY mX3_possible) (mY mX3_possible) ∈ TB := tm 1039 rfl
theorem tokX3_bestTrial : TOK mX3_bestTrial := TOK.of tkX3_bestTrial
set_option maxRecDepth 20000 in
theorem okX3_bestTrial : OKm mX3_bestTrial := ⟨tm 1054 rfl, tm 10 rfl, ⟨by decide, by decide⟩, by decide⟩
set_option maxRecDepth 20000 in
theorem inX3_bestTrial : Cond.instanceMethod (mY mX3_bestTrial) ∈ TB := tm 1052 rfl
set_option maxRecDepth 20000 in
theorem seX3_bestTrial : Cond.selects (mY mX3_bestTrial).cls (mY mX3_bestTrial) (mY mX3_bestTrial) ∈ TB := tm 1053 rfl
theorem tokX3_mostAlike : TOK mX3_mostAlike := TOK.of tkX3_mostAlike
set_option maxRecDepth 20000 in
theorem okX3_mostAlike : OKm mX3_mostAlike := ⟨tm 1059 rfl, tm 10 rfl, ⟨by decide, by decide⟩, by decide⟩
set_option maxRecDepth 20000 in
theorem inX3_mostAlike : Cond.instanceMethod (mY mX3_mostAlike) ∈ TB := tm 1058 rfl
set_option maxRecDepth 20000 in
theorem seX3_mostAlike : Cond.selects (mY mX3_mostAlike).cls (mY mX3_mostAlike) (mY mX3_mostAlike) ∈ TB := tbm (List.mem_append_left _ (by decide +kernel)) rfl
theorem tokX3_fewerBitten : TOK mX3_fewerBitten := TOK.of tkX3_fewerBitten
set_option maxRecDepth 20000 in
theorem okX3_fewerBitten : OKm mX3_fewerBitten := ⟨tm 1068 rfl, tm 10 rfl, ⟨by decide, by decide⟩, by decide⟩
set_option maxRecDepth 20000 in
theorem inX3_fewerBitten : Cond.instanceMethod (mY mX3_fewerBitten) ∈ TB := tm 1066 rfl
set_option maxRecDepth 20000 in
theorem seX3_fewerBitten : Cond.selects (mY mX3_fewerBitten).cls (mY mX3_fewerBitten) (mY mX3_fewerBitten) ∈ TB := tm 1067 rfl
theorem tokX4_init : TOK mX4_init := TOK.of tkX4_init
set_option maxRecDepth 20000 in
theorem okX4_init : OKm mX4_init := ⟨tm 188 rfl, tm 5 rfl, ⟨by decide, by decide⟩, by decide⟩
set_option maxRecDepth 20000 in
theorem inX4_init : Cond.instanceMethod (mY mX4_init) ∈ TB := tm 187 rfl
theorem tokX4_read : TOK mX4_read := TOK.of tkX4_read
set_option maxRecDepth 20000 in
theorem okX4_read : OKm mX4_read := ⟨tm 601 rfl, tm 5 rfl, ⟨by decide, by decide⟩, by decide⟩
set_option maxRecDepth 20000 in
theorem inX4_read : Cond.instanceMethod (mY mX4_read) ∈ TB := tm 599 rfl
set_option maxRecDepth 20000 in
theorem seX4_read : Cond.selects (mY mX4_read).cls (mY mX4_read) (mY mX4_read) ∈ TB := tm 600 rfl
theorem tokX4_split : TOK mX4_split := TOK.of tkX4_split
set_option maxRecDepth 20000 in
theorem okX4_split : OKm mX4_split := ⟨tm 605 rfl, tm 5 rfl, ⟨by decide, by decide⟩, by decide⟩
set_option maxRecDepth 20000 in
theorem inX4_split : Cond.instanceMethod (mY mX4_split) ∈ TB := tm 604 rfl
set_option maxRecDepth 20000 in
theorem seX4_split : Cond.selects (mY mX4_split).cls (mY mX4_split) (mY mX4_split) ∈ TB := tbm (List.mem_append_left _ (by decide +kernel)) rfl
theorem tokX4_behindToken : TOK mX4_behindToken := TOK.of tkX4_behindToken
set_option maxRecDepth 20000 in
theorem okX4_behindToken : OKm mX4_behindToken := ⟨tm 609 rfl, tm 5 rfl, ⟨by decide, by decide⟩, by decide⟩
set_option maxRecDepth 20000 in
theorem inX4_behindToken : Cond.instanceMethod (mY mX4_behindToken) ∈ TB := tm 608 rfl
set_option maxRecDepth 20000 in
theorem seX4_behindToken : Cond.selects (mY mX4_behindToken).cls (mY mX4_behindToken) (mY mX4_behindToken) ∈ TB := tbm (List.mem_append_left _ (by decide +kernel)) rfl
theorem tokX4_addToken : TOK mX4_addToken := TOK.of tkX4_addToken
set_option maxRecDepth 20000 in
theorem okX4_addToken : OKm mX4_addToken := ⟨tm 616 rfl, tm 5 rfl, ⟨by decide, by decide⟩, by decide⟩
set_option maxRecDepth 20000 in
theorem inX4_addToken : Cond.instanceMethod (mY mX4_addToken) ∈ TB := tm 615 rfl
set_option maxRecDepth 20000 in
theorem seX4_addToken : Cond.selects (mY mX4_addToken).cls (mY mX4_addToken) (mY mX4_addToken) ∈ TB := tbm (List.mem_append_left _ (by decide +kernel)) rfl
theorem tokX4_sortOf : TOK mX4_sortOf := TOK.of tkX4_sortOf
set_option maxRecDepth 20000 in
theorem okX4_sortOf : OKm mX4_sortOf := ⟨tm 612 rfl, tm 5 rfl, ⟨by decide, by decide⟩, by decide⟩
set_option maxRecDepth 20000 in
theorem inX4_sortOf : Cond.static (mY mX4_sortOf) ∈ TB := tm 611 rfl
theorem tokX4_wordOf : TOK mX4_wordOf := TOK.of tkX4_wordOf
set_option maxRecDepth 20000 in
theorem okX4_wordOf : OKm mX4_wordOf := ⟨tm 619 rfl, tm 5 rfl, ⟨by decide, by decide⟩, by decide⟩
set_option maxRecDepth 20000 in
theorem inX4_wordOf : Cond.static (mY mX4_wordOf) ∈ TB := tm 618 rfl
theorem tokX4_here : TOK mX4_here := TOK.of tkX4_here
set_option maxRecDepth 20000 in
theorem okX4_here : OKm mX4_here := ⟨tm 681 rfl, tm 5 rfl, ⟨by decide, by decide⟩, by decide⟩
set_option maxRecDepth 20000 in
theorem inX4_here : Cond.instanceMethod (mY mX4_here) ∈ TB := tm 680 rfl
set_option maxRecDepth 20000 in
theorem seX4_here : Cond.selects (mY mX4_here).cls (mY mX4_here) (mY mX4_here) ∈ TB := tbm (List.mem_append_left _ (by decide +kernel)) rfl
theorem tokX4_faulty : TOK mX4_faulty := TOK.of tkX4_faulty
set_option maxRecDepth 20000 in
theorem okX4_faulty : OKm mX4_faulty := ⟨tm 685 rfl, tm 5 rfl, ⟨by decide, by decide⟩, by decide⟩
set_option maxRecDepth 20000 in
theorem inX4_faulty : Cond.instanceMethod (mY mX4_faulty) ∈ TB := tm 684 rfl
set_option maxRecDepth 20000 in
theorem seX4_faulty : Cond.selects (mY mX4_faulty).cls (mY mX4_faulty) (mY mX4_faulty) ∈ TB := tbm (List.mem_append_left _ (by decide +kernel)) rfl
theorem tokX4_take : TOK mX4_take := TOK.of tkX4_take
set_option maxRecDepth 20000 in
theorem okX4_take : OKm mX4_take := ⟨tm 725 rfl, tm 5 rfl, ⟨by decide, by decide⟩, by decide⟩
set_option maxRecDepth 20000 in
theorem inX4_take : Cond.instanceMethod (mY mX4_take) ∈ TB := tm 724 rfl
set_option maxRecDepth 20000 in
theorem seX4_take : Cond.selects (mY mX4_take).cls (mY mX4_take) (mY mX4_take) ∈ TB := tbm (List.mem_append_left _ (by decide +kernel)) rfl
theorem tokX4_clause : TOK mX4_clause := TOK.of tkX4_clause
set_option maxRecDepth 20000 in
theorem okX4_clause : OKm mX4_clause := ⟨tm 677 rfl, tm 5 rfl, ⟨by decide, by decide⟩, by decide⟩
set_option maxRecDepth 20000 in
theorem inX4_clause : Cond.instanceMethod (mY mX4_clause) ∈ TB := tm 676 rfl
set_option maxRecDepth 20000 in
theorem seX4_clause : Cond.selects (mY mX4_clause).cls (mY mX4_clause) (mY mX4_clause) ∈ TB := tbm (List.mem_append_left _ (by decide +kernel)) rfl
theorem tokX4_times : TOK mX4_times := TOK.of tkX4_times
set_option maxRecDepth 20000 in
theorem okX4_times : OKm mX4_times := ⟨tm 741 rfl, tm 5 rfl, ⟨by decide, by decide⟩, by decide⟩
set_option maxRecDepth 20000 in
theorem inX4_times : Cond.instanceMethod (mY mX4_times) ∈ TB := tm 740 rfl
set_option maxRecDepth 20000 in
theorem seX4_times : Cond.selects (mY mX4_times).cls (mY mX4_times) (mY mX4_times) ∈ TB := tbm (List.mem_append_left _ (by decide +kernel)) rfl
theorem tokX4_test : TOK mX4_test := TOK.of tkX4_test
set_option maxRecDepth 20000 in
theorem okX4_test : OKm mX4_test := ⟨tm 705 rfl, tm 5 rfl, ⟨by decide, by decide⟩, by decide⟩
set_option maxRecDepth 20000 in
theorem inX4_test : Cond.instanceMethod (mY mX4_test) ∈ TB := tm 704 rfl
set_option maxRecDepth 20000 in
theorem seX4_test : Cond.selects (mY mX4_test).cls (mY mX4_test) (mY mX4_test) ∈ TB := tbm (List.mem_append_left _ (by decide +kernel)) rfl
theorem tokX4_plain : TOK mX4_plain := TOK.of tkX4_plain
set_option maxRecDepth 20000 in
theorem okX4_plain : OKm mX4_plain := ⟨tm 709 rfl, tm 5 rfl, ⟨by decide, by decide⟩, by decide⟩
set_option maxRecDepth 20000 in
theorem inX4_plain : Cond.instanceMethod (mY mX4_plain) ∈ TB := tm 708 rfl
set_option maxRecDepth 20000 in
theorem seX4_plain : Cond.selects (mY mX4_plain).cls (mY mX4_plain) (mY mX4_plain) ∈ TB := tbm (List.mem_append_left _ (by decide +kernel)) rfl
theorem tokX4_comparison : TOK mX4_comparison := TOK.of tkX4_comparison
set_option maxRecDepth 20000 in
theorem okX4_comparison : OKm mX4_comparison := ⟨tm 713 rfl, tm 5 rfl, ⟨by decide, by decide⟩, by decide⟩
set_option maxRecDepth 20000 in
theorem inX4_comparison : Cond.instanceMethod (mY mX4_comparison) ∈ TB := tm 712 rfl
set_option maxRecDepth 20000 in
theorem seX4_comparison : Cond.selects (mY mX4_comparison).cls (mY mX4_comparison) (mY mX4_comparison) ∈ TB := tbm (List.mem_append_left _ (by decide +kernel)) rfl
theorem tokX4_inBrackets : TOK mX4_inBrackets := TOK.of tkX4_inBrackets
set_option maxRecDepth 20000 in
theorem okX4_inBrackets : OKm mX4_inBrackets := ⟨tm 701 rfl, tm 5 rfl, ⟨by decide, by decide⟩, by decide⟩
set_option maxRecDepth 20000 in
theorem inX4_inBrackets : Cond.instanceMethod (mY mX4_inBrackets) ∈ TB := tm 700 rfl
set_option maxRecDepth 20000 in
theorem seX4_inBrackets : Cond.selects (mY mX4_inBrackets).cls (mY mX4_inBrackets) (mY mX4_inBrackets) ∈ TB := tbm (List.mem_append_left _ (by decide +kernel)) rfl
theorem tokX4_sum : TOK mX4_sum := TOK.of tkX4_sum
set_option maxRecDepth 20000 in
theorem okX4_sum : OKm mX4_sum := ⟨tm 689 rfl, tm 5 rfl, ⟨by decide, by decide⟩, by decide⟩
set_option maxRecDepth 20000 in
theorem inX4_sum : Cond.instanceMethod (mY mX4_sum) ∈ TB := tm 688 rfl
set_option maxRecDepth 20000 in
theorem seX4_sum : Cond.selects (mY mX4_sum).cls (mY mX4_sum) (mY mX4_sum) ∈ TB := tbm (List.mem_append_left _ (by decide +kernel)) rfl
theorem tokX4_term : TOK mX4_term := TOK.of tkX4_term
set_option maxRecDepth 20000 in
theorem okX4_term : OKm mX4_term := ⟨tm 693 rfl, tm 5 rfl, ⟨by decide, by decide⟩, by decide⟩
set_option maxRecDepth 20000 in
theorem inX4_term : Cond.instanceMethod (mY mX4_term) ∈ TB := tm 692 rfl
set_option maxRecDepth 20000 in
theorem seX4_term : Cond.selects (mY mX4_term).cls (mY mX4_term) (mY mX4_term) ∈ TB := tbm (List.mem_append_left _ (by decide +kernel)) rfl
theorem tokX4_part : TOK mX4_part := TOK.of tkX4_part
set_option maxRecDepth 20000 in
theorem okX4_part : OKm mX4_part := ⟨tm 697 rfl, tm 5 rfl, ⟨by decide, by decide⟩, by decide⟩
set_option maxRecDepth 20000 in
theorem inX4_part : Cond.instanceMethod (mY mX4_part) ∈ TB := tm 696 rfl
set_option maxRecDepth 20000 in
theorem seX4_part : Cond.selects (mY mX4_part).cls (mY mX4_part) (mY mX4_part) ∈ TB := tbm (List.mem_append_left _ (by decide +kernel)) rfl
theorem tokX4_lawWord : TOK mX4_lawWord := TOK.of tkX4_lawWord
set_option maxRecDepth 20000 in
theorem okX4_lawWord : OKm mX4_lawWord := ⟨tm 737 rfl, tm 5 rfl, ⟨by decide, by decide⟩, by decide⟩
set_option maxRecDepth 20000 in
theorem inX4_lawWord : Cond.instanceMethod (mY mX4_lawWord) ∈ TB := tm 736 rfl
set_option maxRecDepth 20000 in
theorem seX4_lawWord : Cond.selects (mY mX4_lawWord).cls (mY mX4_lawWord) (mY mX4_lawWord) ∈ TB := tbm (List.mem_append_left _ (by decide +kernel)) rfl
theorem tokX4_orderWord : TOK mX4_orderWord := TOK.of tkX4_orderWord
set_option maxRecDepth 20000 in
theorem okX4_orderWord : OKm mX4_orderWord := ⟨tm 729 rfl, tm 5 rfl, ⟨by decide, by decide⟩, by decide⟩
set_option maxRecDepth 20000 in
theorem inX4_orderWord : Cond.instanceMethod (mY mX4_orderWord) ∈ TB := tm 728 rfl
set_option maxRecDepth 20000 in
theorem seX4_orderWord : Cond.selects (mY mX4_orderWord).cls (mY mX4_orderWord) (mY mX4_orderWord) ∈ TB := tbm (List.mem_append_left _ (by decide +kernel)) rfl
theorem tokX4_numberedWord : TOK mX4_numberedWord := TOK.of tkX4_numberedWord
set_option maxRecDepth 20000 in
theorem okX4_numberedWord : OKm mX4_numberedWord := ⟨tm 733 rfl, tm 5 rfl, ⟨by decide, by decide⟩, by decide⟩
set_option maxRecDepth 20000 in
theorem inX4_numberedWord : Cond.instanceMethod (mY mX4_numberedWord) ∈ TB := tm 732 rfl
set_option maxRecDepth 20000 in
theorem seX4_numberedWord : Cond.selects (mY mX4_numberedWord).cls (mY mX4_numberedWord) (mY mX4_numberedWord) ∈ TB := tbm (List.mem_append_left _ (by decide +kernel)) rfl
theorem tokX5_init : TOK mX5_init := TOK.of tkX5_init
set_option maxRecDepth 20000 in
theorem okX5_init : OKm mX5_init := ⟨tm 290 rfl, tm 8 rfl, ⟨by decide, by decide⟩, by decide⟩
set_option maxRecDepth 20000 in
theorem inX5_init : Cond.instanceMethod (mY mX5_init) ∈ TB := tm 289 rfl
theorem tokX5_run : TOK mX5_run := TOK.of tkX5_run
set_option maxRecDepth 20000 in
theorem okX5_run : OKm mX5_run := ⟨tm 772 rfl, tm 8 rfl, ⟨by decide, by decide⟩, by decide⟩
set_option maxRecDepth 20000 in
theorem inX5_run : Cond.instanceMethod (mY mX5_run) ∈ TB := tm 770 rfl
set_option maxRecDepth 20000 in
theorem seX5_run : Cond.selects (mY mX5_run).cls (mY mX5_run) (mY mX5_run) ∈ TB := tm 771 rfl
theorem tokX5_runOnce : TOK mX5_runOnce := TOK.of tkX5_runOnce
set_option maxRecDepth 20000 in
theorem okX5_runOnce : OKm mX5_runOnce := ⟨tm 776 rfl, tm 8 rfl, ⟨by decide, by decide⟩, by decide⟩
set_option maxRecDepth 20000 in
theorem inX5_runOnce : Cond.instanceMethod (mY mX5_runOnce) ∈ TB := tm 775 rfl
set_option maxRecDepth 20000 in
theorem seX5_runOnce : Cond.selects (mY mX5_runOnce).cls (mY mX5_runOnce) (mY mX5_runOnce) ∈ TB := tbm (List.mem_append_left _ (by decide +kernel)) rfl
theorem tokX5_lookRound : TOK mX5_lookRound := TOK.of tkX5_lookRound
set_option maxRecDepth 20000 in
theorem okX5_lookRound : OKm mX5_lookRound := ⟨tm 780 rfl, tm 8 rfl, ⟨by decide, by decide⟩, by decide⟩
set_option maxRecDepth 20000 in
theorem inX5_lookRound : Cond.instanceMethod (mY mX5_lookRound) ∈ TB := tm 779 rfl
set_option maxRecDepth 20000 in
theorem seX5_lookRound : Cond.selects (mY mX5_lookRound).cls (mY mX5_lookRound) (mY mX5_lookRound) ∈ TB := tbm (List.mem_append_left _ (by decide +kernel)) rfl
theorem tokX6_init : TOK mX6_init := TOK.of tkX6_init
set_option maxRecDepth 20000 in
theorem okX6_init : OKm mX6_init := ⟨tm 316 rfl, tm 9 rfl, ⟨by decide, by decide⟩, by decide⟩
set_option maxRecDepth 20000 in
theorem inX6_init : Cond.instanceMethod (mY mX6_init) ∈ TB := tm 315 rfl
theorem tokX6_begin : TOK mX6_begin := TOK.of tkX6_begin
set_option maxRecDepth 20000 in
theorem okX6_begin : OKm mX6_begin := ⟨tm 870 rfl, tm 9 rfl, ⟨by decide, by decide⟩, by decide⟩
set_option maxRecDepth 20000 in
theorem inX6_begin : Cond.instanceMethod (mY mX6_begin) ∈ TB := tm 868 rfl
set_option maxRecDepth 20000 in
theorem seX6_begin : Cond.selects (mY mX6_begin).cls (mY mX6_begin) (mY mX6_begin) ∈ TB := tm 869 rfl
theorem tokX6_tryLaw : TOK mX6_tryLaw := TOK.of tkX6_tryLaw
set_option maxRecDepth 20000 in
theorem okX6_tryLaw : OKm mX6_tryLaw := ⟨tm 1079 rfl, tm 9 rfl, ⟨by decide, by decide⟩, by decide⟩
set_option maxRecDepth 20000 in
theorem inX6_tryLaw : Cond.instanceMethod (mY mX6_tryLaw) ∈ TB := tm 1077 rfl
set_option maxRecDepth 20000 in
theorem seX6_tryLaw : Cond.selects (mY mX6_tryLaw).cls (mY mX6_tryLaw) (mY mX6_tryLaw) ∈ TB := tm 1078 rfl
theorem tokX6_tryArm : TOK mX6_tryArm := TOK.of tkX6_tryArm
set_option maxRecDepth 20000 in
theorem okX6_tryArm : OKm mX6_tryArm := ⟨tm 982 rfl, tm 9 rfl, ⟨by decide, by decide⟩, by decide⟩
set_option maxRecDepth 20000 in
theorem inX6_tryArm : Cond.instanceMethod (mY mX6_tryArm) ∈ TB := tm 981 rfl
set_option maxRecDepth 20000 in
theorem seX6_tryArm : Cond.selects (mY mX6_tryArm).cls (mY mX6_tryArm) (mY mX6_tryArm) ∈ TB := tbm (List.mem_append_left _ (by decide +kernel)) rfl
theorem tokX6_start : TOK mX6_start := TOK.of tkX6_start
set_option maxRecDepth 20000 in
theorem okX6_start : OKm mX6_start := ⟨tm 886 rfl, tm 9 rfl, ⟨by decide, by decide⟩, by decide⟩
set_option maxRecDepth 20000 in
theorem inX6_start : Cond.instanceMethod (mY mX6_start) ∈ TB := tm 885 rfl
set_option maxRecDepth 20000 in
theorem seX6_start : Cond.selects (mY mX6_start).cls (mY mX6_start) (mY mX6_start) ∈ TB := tbm (List.mem_append_left _ (by decide +kernel)) rfl
theorem tokX6_isAt : TOK mX6_isAt := TOK.of tkX6_isAt
set_option maxRecDepth 20000 in
theorem okX6_isAt : OKm mX6_isAt := ⟨tm 889 rfl, tm 9 rfl, ⟨by decide, by decide⟩, by decide⟩
set_option maxRecDepth 20000 in
theorem inX6_isAt : Cond.static (mY mX6_isAt) ∈ TB := tm 888 rfl
theorem tokX6_behind : TOK mX6_behind := TOK.of tkX6_behind
set_option maxRecDepth 20000 in
theorem okX6_behind : OKm mX6_behind := ⟨tm 893 rfl, tm 9 rfl, ⟨by decide, by decide⟩, by decide⟩
set_option maxRecDepth 20000 in
theorem inX6_behind : Cond.instanceMethod (mY mX6_behind) ∈ TB := tm 892 rfl
set_option maxRecDepth 20000 in
theorem seX6_behind : Cond.selects (mY mX6_behind).cls (mY mX6_behind) (mY mX6_behind) ∈ TB := tbm (List.mem_append_left _ (by decide +kernel)) rfl
theorem tokX6_find : TOK mX6_find := TOK.of tkX6_find
set_option maxRecDepth 20000 in
theorem okX6_find : OKm mX6_find := ⟨tm 882 rfl, tm 9 rfl, ⟨by decide, by decide⟩, by decide⟩
set_option maxRecDepth 20000 in
theorem inX6_find : Cond.instanceMethod (mY mX6_find) ∈ TB := tm 881 rfl
set_option maxRecDepth 20000 in
theorem seX6_find : Cond.selects (mY mX6_find).cls (mY mX6_find) (mY mX6_find) ∈ TB := tbm (List.mem_append_left _ (by decide +kernel)) rfl
theorem tokX6_findAll : TOK mX6_findAll := TOK.of tkX6_findAll
set_option maxRecDepth 20000 in
theorem okX6_findAll : OKm mX6_findAll := ⟨tm 927 rfl, tm 9 rfl, ⟨by decide, by decide⟩, by decide⟩
set_option maxRecDepth 20000 in
theorem inX6_findAll : Cond.instanceMethod (mY mX6_findAll) ∈ TB := tm 926 rfl
set_option maxRecDepth 20000 in
theorem seX6_findAll : Cond.selects (mY mX6_findAll).cls (mY mX6_findAll) (mY mX6_findAll) ∈ TB := tbm (List.mem_append_left _ (by decide +kernel)) rfl
theorem tokX6_wayLength : TOK mX6_wayLength := TOK.of tkX6_wayLength
set_option maxRecDepth 20000 in
theorem okX6_wayLength : OKm mX6_wayLength := ⟨tm 878 rfl, tm 9 rfl, ⟨by decide, by decide⟩, by decide⟩
set_option maxRecDepth 20000 in
theorem inX6_wayLength : Cond.instanceMethod (mY mX6_wayLength) ∈ TB := tm 876 rfl
set_option maxRecDepth 20000 in
theorem seX6_wayLength : Cond.selects (mY mX6_wayLength).cls (mY mX6_wayLength) (mY mX6_wayLength) ∈ TB := tm 877 rfl
theorem tokX6_wayGate : TOK mX6_wayGate := TOK.of tkX6_wayGate
set_option maxRecDepth 20000 in
theorem okX6_wayGate : OKm mX6_wayGate := ⟨tm 899 rfl, tm 9 rfl, ⟨by decide, by decide⟩, by decide⟩
set_option maxRecDepth 20000 in
theorem inX6_wayGate : Cond.instanceMethod (mY mX6_wayGate) ∈ TB := tm 897 rfl
set_option maxRecDepth 20000 in
theorem seX6_wayGate : Cond.selects (mY mX6_wayGate).cls (mY mX6_wayGate) (mY mX6_wayGate) ∈ TB := tm 898 rfl
theorem tokX6_manyBits : TOK mX6_manyBits := TOK.of tkX6_manyBits
set_option maxRecDepth 20000 in
theorem okX6_manyBits : OKm mX6_manyBits := ⟨tm 923 rfl, tm 9 rfl, ⟨by decide, by decide⟩, by decide⟩
set_option maxRecDepth 20000 in
theorem inX6_manyBits : Cond.instanceMethod (mY mX6_manyBits) ∈ TB := tm 921 rfl
set_option maxRecDepth 20000 in
theorem seX6_manyBits : Cond.selects (mY mX6_manyBits).cls (mY mX6_manyBits) (mY mX6_manyBits) ∈ TB := tm 922 rfl
theorem tokX6_parkBits : TOK mX6_parkBits := TOK.of tkX6_parkBits
set_option maxRecDepth 20000 in
theorem okX6_parkBits : OKm mX6_parkBits := ⟨tm 935 rfl, tm 9 rfl, ⟨by decide, by decide⟩, by decide⟩
set_option maxRecDepth 20000 in
theorem inX6_parkBits : Cond.instanceMethod (mY mX6_parkBits) ∈ TB := tm 933 rfl
set_option maxRecDepth 20000 in
theorem seX6_parkBits : Cond.selects (mY mX6_parkBits).cls (mY mX6_parkBits) (mY mX6_parkBits) ∈ TB := tm 934 rfl
theorem tokX6_leastToll : TOK mX6_leastToll := TOK.of tkX6_leastToll
set_option maxRecDepth 20000 in
theorem okX6_leastToll : OKm mX6_leastToll := ⟨tm 907 rfl, tm 9 rfl, ⟨by decide, by decide⟩, by decide⟩
set_option maxRecDepth 20000 in
theorem inX6_leastToll : Cond.instanceMethod (mY mX6_leastToll) ∈ TB := tm 905 rfl
set_option maxRecDepth 20000 in
theorem seX6_leastToll : Cond.selects (mY mX6_leastToll).cls (mY mX6_leastToll) (mY mX6_leastToll) ∈ TB := tm 906 rfl
theorem tokX6_cheapestUnsettled : TOK mX6_cheapestUnsettled := TOK.of tkX6_cheapestUnsettled
set_option maxRecDepth 20000 in
theorem okX6_cheapestUnsettled : OKm mX6_cheapestUnsettled := ⟨tm 911 rfl, tm 9 rfl, ⟨by decide, by decide⟩, by decide⟩
set_option maxRecDepth 20000 in
theorem inX6_cheapestUnsettled : Cond.instanceMethod (mY mX6_cheapestUnsettled) ∈ TB := tm 910 rfl
set_option maxRecDepth 20000 in
theorem seX6_cheapestUnsettled : Cond.selects (mY mX6_cheapestUnsettled).cls (mY mX6_cheapestUnsettled) (mY mX6_cheapestUnsettled) ∈ TB := tbm (List.mem_append_left _ (by decide +kernel)) rfl
theorem tokX6_payInto : TOK mX6_payInto := TOK.of tkX6_payInto
set_option maxRecDepth 20000 in
theorem okX6_payInto : OKm mX6_payInto := ⟨tm 915 rfl, tm 9 rfl, ⟨by decide, by decide⟩, by decide⟩
set_option maxRecDepth 20000 in
theorem inX6_payInto : Cond.instanceMethod (mY mX6_payInto) ∈ TB := tm 914 rfl
set_option maxRecDepth 20000 in
theorem seX6_payInto : Cond.selects (mY mX6_payInto).cls (mY mX6_payInto) (mY mX6_payInto) ∈ TB := tbm (List.mem_append_left _ (by decide +kernel)) rfl
theorem tokX6_flow : TOK mX6_flow := TOK.of tkX6_flow
set_option maxRecDepth 20000 in
theorem okX6_flow : OKm mX6_flow := ⟨tm 944 rfl, tm 9 rfl, ⟨by decide, by decide⟩, by decide⟩
set_option maxRecDepth 20000 in
theorem inX6_flow : Cond.instanceMethod (mY mX6_flow) ∈ TB := tm 942 rfl
set_option maxRecDepth 20000 in
theorem seX6_flow : Cond.selects (mY mX6_flow).cls (mY mX6_flow) (mY mX6_flow) ∈ TB := tm 943 rfl
theorem tokX6_flowFrom : TOK mX6_flowFrom := TOK.of tkX6_flowFrom
set_option maxRecDepth 20000 in
theorem okX6_flowFrom : OKm mX6_flowFrom := ⟨tm 951 rfl, tm 9 rfl, ⟨by decide, by decide⟩, by decide⟩
set_option maxRecDepth 20000 in
theorem inX6_flowFrom : Cond.instanceMethod (mY mX6_flowFrom) ∈ TB := tm 950 rfl
set_option maxRecDepth 20000 in
theorem seX6_flowFrom : Cond.selects (mY mX6_flowFrom).cls (mY mX6_flowFrom) (mY mX6_flowFrom) ∈ TB := tbm (List.mem_append_left _ (by decide +kernel)) rfl
theorem tokX6_flowed : TOK mX6_flowed := TOK.of tkX6_flowed
set_option maxRecDepth 20000 in
theorem okX6_flowed : OKm mX6_flowed := ⟨tm 956 rfl, tm 9 rfl, ⟨by decide, by decide⟩, by decide⟩
set_option maxRecDepth 20000 in
theorem inX6_flowed : Cond.instanceMethod (mY mX6_flowed) ∈ TB := tm 954 rfl
set_option maxRecDepth 20000 in
theorem seX6_flowed : Cond.selects (mY mX6_flowed).cls (mY mX6_flowed) (mY mX6_flowed) ∈ TB := tm 955 rfl
theorem tokX6_firstFix : TOK mX6_firstFix := TOK.of tkX6_firstFix
set_option maxRecDepth 20000 in
theorem okX6_firstFix : OKm mX6_firstFix := ⟨tm 978 rfl, tm 9 rfl, ⟨by decide, by decide⟩, by decide⟩
set_option maxRecDepth 20000 in
theorem inX6_firstFix : Cond.instanceMethod (mY mX6_firstFix) ∈ TB := tm 976 rfl
set_option maxRecDepth 20000 in
theorem seX6_firstFix : Cond.selects (mY mX6_firstFix).cls (mY mX6_firstFix) (mY mX6_firstFix) ∈ TB := tm 977 rfl
theorem tokX6_fewestShut : TOK mX6_fewestShut := TOK.of tkX6_fewestShut
set_option maxRecDepth 20000 in
theorem okX6_fewestShut : OKm mX6_fewestShut := ⟨tm 990 rfl, tm 9 rfl, ⟨by decide, by decide⟩, by decide⟩
set_option maxRecDepth 20000 in
theorem inX6_fewestShut : Cond.instanceMethod (mY mX6_fewestShut) ∈ TB := tm 988 rfl
set_option maxRecDepth 20000 in
theorem seX6_fewestShut : Cond.selects (mY mX6_fewestShut).cls (mY mX6_fewestShut) (mY mX6_fewestShut) ∈ TB := tm 989 rfl
theorem tokX6_shuts : TOK mX6_shuts := TOK.of tkX6_shuts
set_option maxRecDepth 20000 in
theorem okX6_shuts : OKm mX6_shuts := ⟨tm 1000 rfl, tm 9 rfl, ⟨by decide, by decide⟩, by decide⟩
set_option maxRecDepth 20000 in
theorem inX6_shuts : Cond.instanceMethod (mY mX6_shuts) ∈ TB := tm 999 rfl
set_option maxRecDepth 20000 in
theorem seX6_shuts : Cond.selects (mY mX6_shuts).cls (mY mX6_shuts) (mY mX6_shuts) ∈ TB := tbm (List.mem_append_left _ (by decide +kernel)) rfl
theorem tokX6_keepSteps : TOK mX6_keepSteps := TOK.of tkX6_keepSteps
set_option maxRecDepth 20000 in
theorem okX6_keepSteps : OKm mX6_keepSteps := ⟨tm 1009 rfl, tm 9 rfl, ⟨by decide, by decide⟩, by decide⟩
set_option maxRecDepth 20000 in
theorem inX6_keepSteps : Cond.instanceMethod (mY mX6_keepSteps) ∈ TB := tm 1007 rfl
set_option maxRecDepth 20000 in
theorem seX6_keepSteps : Cond.selects (mY mX6_keepSteps).cls (mY mX6_keepSteps) (mY mX6_keepSteps) ∈ TB := tm 1008 rfl
theorem tokX6_meetingPlace : TOK mX6_meetingPlace := TOK.of tkX6_meetingPlace
set_option maxRecDepth 20000 in
theorem okX6_meetingPlace : OKm mX6_meetingPlace := ⟨tm 1013 rfl, tm 9 rfl, ⟨by decide, by decide⟩, by decide⟩
set_option maxRecDepth 20000 in
theorem inX6_meetingPlace : Cond.instanceMethod (mY mX6_meetingPlace) ∈ TB := tm 1011 rfl
set_option maxRecDepth 20000 in
theorem seX6_meetingPlace : Cond.selects (mY mX6_meetingPlace).cls (mY mX6_meetingPlace) (mY mX6_meetingPlace) ∈ TB := tm 1012 rfl
theorem tokX6_longerSteps : TOK mX6_longerSteps := TOK.of tkX6_longerSteps
set_option maxRecDepth 20000 in
theorem okX6_longerSteps : OKm mX6_longerSteps := ⟨tm 1017 rfl, tm 9 rfl, ⟨by decide, by decide⟩, by decide⟩
set_option maxRecDepth 20000 in
theorem inX6_longerSteps : Cond.instanceMethod (mY mX6_longerSteps) ∈ TB := tm 1015 rfl
set_option maxRecDepth 20000 in
theorem seX6_longerSteps : Cond.selects (mY mX6_longerSteps).cls (mY mX6_longerSteps) (mY mX6_longerSteps) ∈ TB := tm 1016 rfl
theorem tokX7_init : TOK mX7_init := TOK.of tkX7_init
set_option maxRecDepth 20000 in
theorem okX7_init : OKm mX7_init := ⟨tm 33 rfl, tm 2 rfl, ⟨by decide, by decide⟩, by decide⟩
set_option maxRecDepth 20000 in
theorem inX7_init : Cond.instanceMethod (mY mX7_init) ∈ TB := tm 32 rfl
theorem tokX7_hasGate : TOK mX7_hasGate := TOK.of tkX7_hasGate
set_option maxRecDepth 20000 in
theorem okX7_hasGate : OKm mX7_hasGate := ⟨tm 473 rfl, tm 2 rfl, ⟨by decide, by decide⟩, by decide⟩
set_option maxRecDepth 20000 in
theorem inX7_hasGate : Cond.instanceMethod (mY mX7_hasGate) ∈ TB := tm 471 rfl
set_option maxRecDepth 20000 in
theorem seX7_hasGate : Cond.selects (mY mX7_hasGate).cls (mY mX7_hasGate) (mY mX7_hasGate) ∈ TB := tm 472 rfl
theorem tokX7_hasGoer : TOK mX7_hasGoer := TOK.of tkX7_hasGoer
set_option maxRecDepth 20000 in
theorem okX7_hasGoer : OKm mX7_hasGoer := ⟨tm 489 rfl, tm 2 rfl, ⟨by decide, by decide⟩, by decide⟩
set_option maxRecDepth 20000 in
theorem inX7_hasGoer : Cond.instanceMethod (mY mX7_hasGoer) ∈ TB := tm 487 rfl
set_option maxRecDepth 20000 in
theorem seX7_hasGoer : Cond.selects (mY mX7_hasGoer).cls (mY mX7_hasGoer) (mY mX7_hasGoer) ∈ TB := tm 488 rfl
theorem tokX7_hasLaw : TOK mX7_hasLaw := TOK.of tkX7_hasLaw
set_option maxRecDepth 20000 in
theorem okX7_hasLaw : OKm mX7_hasLaw := ⟨tm 518 rfl, tm 2 rfl, ⟨by decide, by decide⟩, by decide⟩
set_option maxRecDepth 20000 in
theorem inX7_hasLaw : Cond.instanceMethod (mY mX7_hasLaw) ∈ TB := tm 516 rfl
set_option maxRecDepth 20000 in
theorem seX7_hasLaw : Cond.selects (mY mX7_hasLaw).cls (mY mX7_hasLaw) (mY mX7_hasLaw) ∈ TB := tm 517 rfl
theorem tokX7_inForce : TOK mX7_inForce := TOK.of tkX7_inForce
set_option maxRecDepth 20000 in
theorem okX7_inForce : OKm mX7_inForce := ⟨tm 514 rfl, tm 2 rfl, ⟨by decide, by decide⟩, by decide⟩
set_option maxRecDepth 20000 in
theorem inX7_inForce : Cond.instanceMethod (mY mX7_inForce) ∈ TB := tm 512 rfl
set_option maxRecDepth 20000 in
theorem seX7_inForce : Cond.selects (mY mX7_inForce).cls (mY mX7_inForce) (mY mX7_inForce) ∈ TB := tm 513 rfl
theorem tokX7_addGate : TOK mX7_addGate := TOK.of tkX7_addGate
set_option maxRecDepth 20000 in
theorem okX7_addGate : OKm mX7_addGate := ⟨tm 451 rfl, tm 2 rfl, ⟨by decide, by decide⟩, by decide⟩
set_option maxRecDepth 20000 in
theorem inX7_addGate : Cond.instanceMethod (mY mX7_addGate) ∈ TB := tm 449 rfl
set_option maxRecDepth 20000 in
theorem seX7_addGate : Cond.selects (mY mX7_addGate).cls (mY mX7_addGate) (mY mX7_addGate) ∈ TB := tm 450 rfl
theorem tokX7_addGoer : TOK mX7_addGoer := TOK.of tkX7_addGoer
set_option maxRecDepth 20000 in
theorem okX7_addGoer : OKm mX7_addGoer := ⟨tm 481 rfl, tm 2 rfl, ⟨by decide, by decide⟩, by decide⟩
set_option maxRecDepth 20000 in
theorem inX7_addGoer : Cond.instanceMethod (mY mX7_addGoer) ∈ TB := tm 479 rfl
set_option maxRecDepth 20000 in
theorem seX7_addGoer : Cond.selects (mY mX7_addGoer).cls (mY mX7_addGoer) (mY mX7_addGoer) ∈ TB := tm 480 rfl
theorem tokX7_addSight : TOK mX7_addSight := TOK.of tkX7_addSight
set_option maxRecDepth 20000 in
theorem okX7_addSight : OKm mX7_addSight := ⟨tm 1028 rfl, tm 2 rfl, ⟨by decide, by decide⟩, by decide⟩
set_option maxRecDepth 20000 in
theorem inX7_addSight : Cond.instanceMethod (mY mX7_addSight) ∈ TB := tm 1026 rfl
set_option maxRecDepth 20000 in
theorem seX7_addSight : Cond.selects (mY mX7_addSight).cls (mY mX7_addSight) (mY mX7_addSight) ∈ TB := tm 1027 rfl
theorem tokX7_addLaw : TOK mX7_addLaw := TOK.of tkX7_addLaw
set_option maxRecDepth 20000 in
theorem okX7_addLaw : OKm mX7_addLaw := ⟨tm 754 rfl, tm 2 rfl, ⟨by decide, by decide⟩, by decide⟩
set_option maxRecDepth 20000 in
theorem inX7_addLaw : Cond.instanceMethod (mY mX7_addLaw) ∈ TB := tm 752 rfl
set_option maxRecDepth 20000 in
theorem seX7_addLaw : Cond.selects (mY mX7_addLaw).cls (mY mX7_addLaw) (mY mX7_addLaw) ∈ TB := tm 753 rfl
theorem tokX7_changeTerm : TOK mX7_changeTerm := TOK.of tkX7_changeTerm
set_option maxRecDepth 20000 in
theorem okX7_changeTerm : OKm mX7_changeTerm := ⟨tm 553 rfl, tm 2 rfl, ⟨by decide, by decide⟩, by decide⟩
set_option maxRecDepth 20000 in
theorem inX7_changeTerm : Cond.instanceMethod (mY mX7_changeTerm) ∈ TB := tm 551 rfl
set_option maxRecDepth 20000 in
theorem seX7_changeTerm : Cond.selects (mY mX7_changeTerm).cls (mY mX7_changeTerm) (mY mX7_changeTerm) ∈ TB := tm 552 rfl
theorem tokX7_allMany : TOK mX7_allMany := TOK.of tkX7_allMany
set_option maxRecDepth 20000 in
theorem okX7_allMany : OKm mX7_allMany := ⟨tm 1123 rfl, tm 2 rfl, ⟨by decide, by decide⟩, by decide⟩
set_option maxRecDepth 20000 in
theorem inX7_allMany : Cond.instanceMethod (mY mX7_allMany) ∈ TB := tm 1121 rfl
set_option maxRecDepth 20000 in
theorem seX7_allMany : Cond.selects (mY mX7_allMany).cls (mY mX7_allMany) (mY mX7_allMany) ∈ TB := tm 1122 rfl
theorem tokX7_copyFrom : TOK mX7_copyFrom := TOK.of tkX7_copyFrom
set_option maxRecDepth 20000 in
theorem okX7_copyFrom : OKm mX7_copyFrom := ⟨tm 767 rfl, tm 2 rfl, ⟨by decide, by decide⟩, by decide⟩
set_option maxRecDepth 20000 in
theorem inX7_copyFrom : Cond.instanceMethod (mY mX7_copyFrom) ∈ TB := tm 765 rfl
set_option maxRecDepth 20000 in
theorem seX7_copyFrom : Cond.selects (mY mX7_copyFrom).cls (mY mX7_copyFrom) (mY mX7_copyFrom) ∈ TB := tm 766 rfl
theorem tokX8_init : TOK mX8_init := TOK.of tkX8_init
set_option maxRecDepth 20000 in
theorem okX8_init : OKm mX8_init := ⟨tm 156 rfl, tm 3 rfl, ⟨by decide, by decide⟩, by decide⟩
set_option maxRecDepth 20000 in
theorem inX8_init : Cond.instanceMethod (mY mX8_init) ∈ TB := tm 155 rfl
theorem tokX8_take : TOK mX8_take := TOK.of tkX8_take
set_option maxRecDepth 20000 in
theorem okX8_take : OKm mX8_take := ⟨tm 561 rfl, tm 3 rfl, ⟨by decide, by decide⟩, by decide⟩
set_option maxRecDepth 20000 in
theorem inX8_take : Cond.instanceMethod (mY mX8_take) ∈ TB := tm 559 rfl
set_option maxRecDepth 20000 in
theorem seX8_take : Cond.selects (mY mX8_take).cls (mY mX8_take) (mY mX8_take) ∈ TB := tm 560 rfl
theorem tokX8_takeFour : TOK mX8_takeFour := TOK.of tkX8_takeFour
set_option maxRecDepth 20000 in
theorem okX8_takeFour : OKm mX8_takeFour := ⟨tm 565 rfl, tm 3 rfl, ⟨by decide, by decide⟩, by decide⟩
set_option maxRecDepth 20000 in
theorem inX8_takeFour : Cond.instanceMethod (mY mX8_takeFour) ∈ TB := tm 564 rfl
set_option maxRecDepth 20000 in
theorem seX8_takeFour : Cond.selects (mY mX8_takeFour).cls (mY mX8_takeFour) (mY mX8_takeFour) ∈ TB := tbm (List.mem_append_left _ (by decide +kernel)) rfl
theorem tokX8_shorten : TOK mX8_shorten := TOK.of tkX8_shorten
set_option maxRecDepth 20000 in
theorem okX8_shorten : OKm mX8_shorten := ⟨tm 573 rfl, tm 3 rfl, ⟨by decide, by decide⟩, by decide⟩
set_option maxRecDepth 20000 in
theorem inX8_shorten : Cond.instanceMethod (mY mX8_shorten) ∈ TB := tm 571 rfl
set_option maxRecDepth 20000 in
theorem seX8_shorten : Cond.selects (mY mX8_shorten).cls (mY mX8_shorten) (mY mX8_shorten) ∈ TB := tm 572 rfl
theorem tokX8_clear : TOK mX8_clear := TOK.of tkX8_clear
set_option maxRecDepth 20000 in
theorem okX8_clear : OKm mX8_clear := ⟨tm 585 rfl, tm 3 rfl, ⟨by decide, by decide⟩, by decide⟩
set_option maxRecDepth 20000 in
theorem inX8_clear : Cond.instanceMethod (mY mX8_clear) ∈ TB := tm 583 rfl
set_option maxRecDepth 20000 in
theorem seX8_clear : Cond.selects (mY mX8_clear).cls (mY mX8_clear) (mY mX8_clear) ∈ TB := tm 584 rfl
theorem tokX8_byteAt : TOK mX8_byteAt := TOK.of tkX8_byteAt
set_option maxRecDepth 20000 in
theorem okX8_byteAt : OKm mX8_byteAt := ⟨tm 581 rfl, tm 3 rfl, ⟨by decide, by decide⟩, by decide⟩
set_option maxRecDepth 20000 in
theorem inX8_byteAt : Cond.instanceMethod (mY mX8_byteAt) ∈ TB := tm 579 rfl
set_option maxRecDepth 20000 in
theorem seX8_byteAt : Cond.selects (mY mX8_byteAt).cls (mY mX8_byteAt) (mY mX8_byteAt) ∈ TB := tm 580 rfl
theorem tokX9_init : TOK mX9_init := TOK.of tkX9_init
set_option maxRecDepth 20000 in
theorem okX9_init : OKm mX9_init := ⟨tm 194 rfl, tm 6 rfl, ⟨by decide, by decide⟩, by decide⟩
set_option maxRecDepth 20000 in
theorem inX9_init : Cond.instanceMethod (mY mX9_init) ∈ TB := tm 193 rfl
theorem tokX9_copy : TOK mX9_copy := TOK.of tkX9_copy
set_option maxRecDepth 20000 in
theorem okX9_copy : OKm mX9_copy := ⟨tm 745 rfl, tm 6 rfl, ⟨by decide, by decide⟩, by decide⟩
set_option maxRecDepth 20000 in
theorem inX9_copy : Cond.instanceMethod (mY mX9_copy) ∈ TB := tm 743 rfl
set_option maxRecDepth 20000 in
theorem seX9_copy : Cond.selects (mY mX9_copy).cls (mY mX9_copy) (mY mX9_copy) ∈ TB := tm 744 rfl
theorem tokX9_clear : TOK mX9_clear := TOK.of tkX9_clear
set_option maxRecDepth 20000 in
theorem okX9_clear : OKm mX9_clear := ⟨tm 673 rfl, tm 6 rfl, ⟨by decide, by decide⟩, by decide⟩
set_option maxRecDepth 20000 in
theorem inX9_clear : Cond.instanceMethod (mY mX9_clear) ∈ TB := tm 671 rfl
set_option maxRecDepth 20000 in
theorem seX9_clear : Cond.selects (mY mX9_clear).cls (mY mX9_clear) (mY mX9_clear) ∈ TB := tm 672 rfl
theorem tokX9_add : TOK mX9_add := TOK.of tkX9_add
set_option maxRecDepth 20000 in
theorem okX9_add : OKm mX9_add := ⟨tm 717 rfl, tm 6 rfl, ⟨by decide, by decide⟩, by decide⟩
set_option maxRecDepth 20000 in
theorem inX9_add : Cond.instanceMethod (mY mX9_add) ∈ TB := tm 715 rfl
set_option maxRecDepth 20000 in
theorem seX9_add : Cond.selects (mY mX9_add).cls (mY mX9_add) (mY mX9_add) ∈ TB := tm 716 rfl
theorem tokX9_aim : TOK mX9_aim := TOK.of tkX9_aim
set_option maxRecDepth 20000 in
theorem okX9_aim : OKm mX9_aim := ⟨tm 721 rfl, tm 6 rfl, ⟨by decide, by decide⟩, by decide⟩
set_option maxRecDepth 20000 in
theorem inX9_aim : Cond.instanceMethod (mY mX9_aim) ∈ TB := tm 719 rfl
set_option maxRecDepth 20000 in
theorem seX9_aim : Cond.selects (mY mX9_aim).cls (mY mX9_aim) (mY mX9_aim) ∈ TB := tm 720 rfl
theorem tokX9_has : TOK mX9_has := TOK.of tkX9_has
set_option maxRecDepth 20000 in
theorem okX9_has : OKm mX9_has := ⟨tm 522 rfl, tm 6 rfl, ⟨by decide, by decide⟩, by decide⟩
set_option maxRecDepth 20000 in
theorem inX9_has : Cond.instanceMethod (mY mX9_has) ∈ TB := tm 520 rfl
set_option maxRecDepth 20000 in
theorem seX9_has : Cond.selects (mY mX9_has).cls (mY mX9_has) (mY mX9_has) ∈ TB := tm 521 rfl
theorem tokX9_reckon : TOK mX9_reckon := TOK.of tkX9_reckon
set_option maxRecDepth 20000 in
theorem okX9_reckon : OKm mX9_reckon := ⟨tm 526 rfl, tm 6 rfl, ⟨by decide, by decide⟩, by decide⟩
set_option maxRecDepth 20000 in
theorem inX9_reckon : Cond.instanceMethod (mY mX9_reckon) ∈ TB := tm 524 rfl
set_option maxRecDepth 20000 in
theorem seX9_reckon : Cond.selects (mY mX9_reckon).cls (mY mX9_reckon) (mY mX9_reckon) ∈ TB := tm 525 rfl
theorem tokX9_join : TOK mX9_join := TOK.of tkX9_join
set_option maxRecDepth 20000 in
theorem okX9_join : OKm mX9_join := ⟨tm 534 rfl, tm 6 rfl, ⟨by decide, by decide⟩, by decide⟩
set_option maxRecDepth 20000 in
theorem inX9_join : Cond.static (mY mX9_join) ∈ TB := tm 533 rfl
theorem tokX10_init : TOK mX10_init := TOK.of tkX10_init
set_option maxRecDepth 20000 in
theorem okX10_init : OKm mX10_init := ⟨tm 25 rfl, tm 1 rfl, ⟨by decide, by decide⟩, by decide⟩
set_option maxRecDepth 20000 in
theorem inX10_init : Cond.instanceMethod (mY mX10_init) ∈ TB := tm 24 rfl
theorem tokX10_gate : TOK mX10_gate := TOK.of tkX10_gate
set_option maxRecDepth 20000 in
theorem okX10_gate : OKm mX10_gate := ⟨tm 447 rfl, tm 1 rfl, ⟨by decide, by decide⟩, by decide⟩
set_option maxRecDepth 20000 in
theorem inX10_gate : Cond.instanceMethod (mY mX10_gate) ∈ TB := tm 445 rfl
set_option maxRecDepth 20000 in
theorem seX10_gate : Cond.selects (mY mX10_gate).cls (mY mX10_gate) (mY mX10_gate) ∈ TB := tm 446 rfl
theorem tokX10_at : TOK mX10_at := TOK.of tkX10_at
set_option maxRecDepth 20000 in
theorem okX10_at : OKm mX10_at := ⟨tm 469 rfl, tm 1 rfl, ⟨by decide, by decide⟩, by decide⟩
set_option maxRecDepth 20000 in
theorem inX10_at : Cond.instanceMethod (mY mX10_at) ∈ TB := tm 467 rfl
set_option maxRecDepth 20000 in
theorem seX10_at : Cond.selects (mY mX10_at).cls (mY mX10_at) (mY mX10_at) ∈ TB := tm 468 rfl
theorem tokX10_goer : TOK mX10_goer := TOK.of tkX10_goer
set_option maxRecDepth 20000 in
theorem okX10_goer : OKm mX10_goer := ⟨tm 477 rfl, tm 1 rfl, ⟨by decide, by decide⟩, by decide⟩
set_option maxRecDepth 20000 in
theorem inX10_goer : Cond.instanceMethod (mY mX10_goer) ∈ TB := tm 475 rfl
set_option maxRecDepth 20000 in
theorem seX10_goer : Cond.selects (mY mX10_goer).cls (mY mX10_goer) (mY mX10_goer) ∈ TB := tm 476 rfl
theorem tokX10_of : TOK mX10_of := TOK.of tkX10_of
set_option maxRecDepth 20000 in
theorem okX10_of : OKm mX10_of := ⟨tm 485 rfl, tm 1 rfl, ⟨by decide, by decide⟩, by decide⟩
set_option maxRecDepth 20000 in
theorem inX10_of : Cond.instanceMethod (mY mX10_of) ∈ TB := tm 483 rfl
set_option maxRecDepth 20000 in
theorem seX10_of : Cond.selects (mY mX10_of).cls (mY mX10_of) (mY mX10_of) ∈ TB := tm 484 rfl
theorem tokX10_asks : TOK mX10_asks := TOK.of tkX10_asks
set_option maxRecDepth 20000 in
theorem okX10_asks : OKm mX10_asks := ⟨tm 542 rfl, tm 1 rfl, ⟨by decide, by decide⟩, by decide⟩
set_option maxRecDepth 20000 in
theorem inX10_asks : Cond.instanceMethod (mY mX10_asks) ∈ TB := tm 540 rfl
set_option maxRecDepth 20000 in
theorem seX10_asks : Cond.selects (mY mX10_asks).cls (mY mX10_asks) (mY mX10_asks) ∈ TB := tm 541 rfl
theorem tokX10_terms : TOK mX10_terms := TOK.of tkX10_terms
set_option maxRecDepth 20000 in
theorem okX10_terms : OKm mX10_terms := ⟨tm 549 rfl, tm 1 rfl, ⟨by decide, by decide⟩, by decide⟩
set_option maxRecDepth 20000 in
theorem inX10_terms : Cond.instanceMethod (mY mX10_terms) ∈ TB := tm 547 rfl
set_option maxRecDepth 20000 in
theorem seX10_terms : Cond.selects (mY mX10_terms).cls (mY mX10_terms) (mY mX10_terms) ∈ TB := tm 548 rfl
theorem tokX10_feed : TOK mX10_feed := TOK.of tkX10_feed
set_option maxRecDepth 20000 in
theorem okX10_feed : OKm mX10_feed := ⟨tm 557 rfl, tm 1 rfl, ⟨by decide, by decide⟩, by decide⟩
set_option maxRecDepth 20000 in
theorem inX10_feed : Cond.instanceMethod (mY mX10_feed) ∈ TB := tm 555 rfl
set_option maxRecDepth 20000 in
theorem seX10_feed : Cond.selects (mY mX10_feed).cls (mY mX10_feed) (mY mX10_feed) ∈ TB := tm 556 rfl
theorem tokX10_end : TOK mX10_end := TOK.of tkX10_end
set_option maxRecDepth 20000 in
theorem okX10_end : OKm mX10_end := ⟨tm 569 rfl, tm 1 rfl, ⟨by decide, by decide⟩, by decide⟩
set_option maxRecDepth 20000 in
theorem inX10_end : Cond.instanceMethod (mY mX10_end) ∈ TB := tm 567 rfl
set_option maxRecDepth 20000 in
theorem seX10_end : Cond.selects (mY mX10_end).cls (mY mX10_end) (mY mX10_end) ∈ TB := tm 568 rfl
theorem tokX10_row : TOK mX10_row := TOK.of tkX10_row
set_option maxRecDepth 20000 in
theorem okX10_row : OKm mX10_row := ⟨tm 577 rfl, tm 1 rfl, ⟨by decide, by decide⟩, by decide⟩
set_option maxRecDepth 20000 in
theorem inX10_row : Cond.instanceMethod (mY mX10_row) ∈ TB := tm 575 rfl
set_option maxRecDepth 20000 in
theorem seX10_row : Cond.selects (mY mX10_row).cls (mY mX10_row) (mY mX10_row) ∈ TB := tm 576 rfl
theorem tokX10_rust : TOK mX10_rust := TOK.of tkX10_rust
set_option maxRecDepth 20000 in
theorem okX10_rust : OKm mX10_rust := ⟨tm 589 rfl, tm 1 rfl, ⟨by decide, by decide⟩, by decide⟩
set_option maxRecDepth 20000 in
theorem inX10_rust : Cond.instanceMethod (mY mX10_rust) ∈ TB := tm 587 rfl
set_option maxRecDepth 20000 in
theorem seX10_rust : Cond.selects (mY mX10_rust).cls (mY mX10_rust) (mY mX10_rust) ∈ TB := tm 588 rfl
theorem tokX10_law : TOK mX10_law := TOK.of tkX10_law
set_option maxRecDepth 20000 in
theorem okX10_law : OKm mX10_law := ⟨tm 593 rfl, tm 1 rfl, ⟨by decide, by decide⟩, by decide⟩
set_option maxRecDepth 20000 in
theorem inX10_law : Cond.instanceMethod (mY mX10_law) ∈ TB := tm 591 rfl
set_option maxRecDepth 20000 in
theorem seX10_law : Cond.selects (mY mX10_law).cls (mY mX10_law) (mY mX10_law) ∈ TB := tm 592 rfl
theorem tokX10_orders : TOK mX10_orders := TOK.of tkX10_orders
set_option maxRecDepth 20000 in
theorem okX10_orders : OKm mX10_orders := ⟨tm 759 rfl, tm 1 rfl, ⟨by decide, by decide⟩, by decide⟩
set_option maxRecDepth 20000 in
theorem inX10_orders : Cond.instanceMethod (mY mX10_orders) ∈ TB := tm 757 rfl
set_option maxRecDepth 20000 in
theorem seX10_orders : Cond.selects (mY mX10_orders).cls (mY mX10_orders) (mY mX10_orders) ∈ TB := tm 758 rfl
theorem tokX10_fault : TOK mX10_fault := TOK.of tkX10_fault
set_option maxRecDepth 20000 in
theorem okX10_fault : OKm mX10_fault := ⟨tm 821 rfl, tm 1 rfl, ⟨by decide, by decide⟩, by decide⟩
set_option maxRecDepth 20000 in
theorem inX10_fault : Cond.instanceMethod (mY mX10_fault) ∈ TB := tm 819 rfl
set_option maxRecDepth 20000 in
theorem seX10_fault : Cond.selects (mY mX10_fault).cls (mY mX10_fault) (mY mX10_fault) ∈ TB := tm 820 rfl
theorem tokX10_stopped : TOK mX10_stopped := TOK.of tkX10_stopped
set_option maxRecDepth 20000 in
theorem okX10_stopped : OKm mX10_stopped := ⟨tm 825 rfl, tm 1 rfl, ⟨by decide, by decide⟩, by decide⟩
set_option maxRecDepth 20000 in
theorem inX10_stopped : Cond.instanceMethod (mY mX10_stopped) ∈ TB := tm 823 rfl
set_option maxRecDepth 20000 in
theorem seX10_stopped : Cond.selects (mY mX10_stopped).cls (mY mX10_stopped) (mY mX10_stopped) ∈ TB := tm 824 rfl
theorem tokX10_force : TOK mX10_force := TOK.of tkX10_force
set_option maxRecDepth 20000 in
theorem okX10_force : OKm mX10_force := ⟨tm 829 rfl, tm 1 rfl, ⟨by decide, by decide⟩, by decide⟩
set_option maxRecDepth 20000 in
theorem inX10_force : Cond.instanceMethod (mY mX10_force) ∈ TB := tm 827 rfl
set_option maxRecDepth 20000 in
theorem seX10_force : Cond.selects (mY mX10_force).cls (mY mX10_force) (mY mX10_force) ∈ TB := tm 828 rfl
theorem tokX10_go : TOK mX10_go := TOK.of tkX10_go
set_option maxRecDepth 20000 in
theorem okX10_go : OKm mX10_go := ⟨tm 834 rfl, tm 1 rfl, ⟨by decide, by decide⟩, by decide⟩
set_option maxRecDepth 20000 in
theorem inX10_go : Cond.instanceMethod (mY mX10_go) ∈ TB := tm 832 rfl
set_option maxRecDepth 20000 in
theorem seX10_go : Cond.selects (mY mX10_go).cls (mY mX10_go) (mY mX10_go) ∈ TB := tm 833 rfl
theorem tokX10_latch : TOK mX10_latch := TOK.of tkX10_latch
set_option maxRecDepth 20000 in
theorem okX10_latch : OKm mX10_latch := ⟨tm 839 rfl, tm 1 rfl, ⟨by decide, by decide⟩, by decide⟩
set_option maxRecDepth 20000 in
theorem inX10_latch : Cond.instanceMethod (mY mX10_latch) ∈ TB := tm 837 rfl
set_option maxRecDepth 20000 in
theorem seX10_latch : Cond.selects (mY mX10_latch).cls (mY mX10_latch) (mY mX10_latch) ∈ TB := tm 838 rfl
theorem tokX10_set : TOK mX10_set := TOK.of tkX10_set
set_option maxRecDepth 20000 in
theorem okX10_set : OKm mX10_set := ⟨tm 844 rfl, tm 1 rfl, ⟨by decide, by decide⟩, by decide⟩
set_option maxRecDepth 20000 in
theorem inX10_set : Cond.instanceMethod (mY mX10_set) ∈ TB := tm 842 rfl
set_option maxRecDepth 20000 in
theorem seX10_set : Cond.selects (mY mX10_set).cls (mY mX10_set) (mY mX10_set) ∈ TB := tm 843 rfl
theorem tokX10_pass : TOK mX10_pass := TOK.of tkX10_pass
set_option maxRecDepth 20000 in
theorem okX10_pass : OKm mX10_pass := ⟨tm 849 rfl, tm 1 rfl, ⟨by decide, by decide⟩, by decide⟩
set_option maxRecDepth 20000 in
theorem inX10_pass : Cond.instanceMethod (mY mX10_pass) ∈ TB := tm 847 rfl
set_option maxRecDepth 20000 in
theorem seX10_pass : Cond.selects (mY mX10_pass).cls (mY mX10_pass) (mY mX10_pass) ∈ TB := tm 848 rfl
theorem tokX10_undo : TOK mX10_undo := TOK.of tkX10_undo
set_option maxRecDepth 20000 in
theorem okX10_undo : OKm mX10_undo := ⟨tm 854 rfl, tm 1 rfl, ⟨by decide, by decide⟩, by decide⟩
set_option maxRecDepth 20000 in
theorem inX10_undo : Cond.instanceMethod (mY mX10_undo) ∈ TB := tm 852 rfl
set_option maxRecDepth 20000 in
theorem seX10_undo : Cond.selects (mY mX10_undo).cls (mY mX10_undo) (mY mX10_undo) ∈ TB := tm 853 rfl
theorem tokX10_way : TOK mX10_way := TOK.of tkX10_way
set_option maxRecDepth 20000 in
theorem okX10_way : OKm mX10_way := ⟨tm 862 rfl, tm 1 rfl, ⟨by decide, by decide⟩, by decide⟩
set_option maxRecDepth 20000 in
theorem inX10_way : Cond.instanceMethod (mY mX10_way) ∈ TB := tm 860 rfl
set_option maxRecDepth 20000 in
theorem seX10_way : Cond.selects (mY mX10_way).cls (mY mX10_way) (mY mX10_way) ∈ TB := tm 861 rfl
theorem tokX10_cheap : TOK mX10_cheap := TOK.of tkX10_cheap
set_option maxRecDepth 20000 in
theorem okX10_cheap : OKm mX10_cheap := ⟨tm 903 rfl, tm 1 rfl, ⟨by decide, by decide⟩, by decide⟩
set_option maxRecDepth 20000 in
theorem inX10_cheap : Cond.instanceMethod (mY mX10_cheap) ∈ TB := tm 901 rfl
set_option maxRecDepth 20000 in
theorem seX10_cheap : Cond.selects (mY mX10_cheap).cls (mY mX10_cheap) (mY mX10_cheap) ∈ TB := tm 902 rfl
theorem tokX10_manys : TOK mX10_manys := TOK.of tkX10_manys
set_option maxRecDepth 20000 in
theorem okX10_manys : OKm mX10_manys := ⟨tm 919 rfl, tm 1 rfl, ⟨by decide, by decide⟩, by decide⟩
set_option maxRecDepth 20000 in
theorem inX10_manys : Cond.instanceMethod (mY mX10_manys) ∈ TB := tm 917 rfl
set_option maxRecDepth 20000 in
theorem seX10_manys : Cond.selects (mY mX10_manys).cls (mY mX10_manys) (mY mX10_manys) ∈ TB := tm 918 rfl
theorem tokX10_reach : TOK mX10_reach := TOK.of tkX10_reach
set_option maxRecDepth 20000 in
theorem okX10_reach : OKm mX10_reach := ⟨tm 931 rfl, tm 1 rfl, ⟨by decide, by decide⟩, by decide⟩
set_option maxRecDepth 20000 in
theorem inX10_reach : Cond.instanceMethod (mY mX10_reach) ∈ TB := tm 929 rfl
set_option maxRecDepth 20000 in
theorem seX10_reach : Cond.selects (mY mX10_reach).cls (mY mX10_reach) (mY mX10_reach) ∈ TB := tm 930 rfl
theorem tokX10_ways : TOK mX10_ways := TOK.of tkX10_ways
set_option maxRecDepth 20000 in
theorem okX10_ways : OKm mX10_ways := ⟨tm 939 rfl, tm 1 rfl, ⟨by decide, by decide⟩, by decide⟩
set_option maxRecDepth 20000 in
theorem inX10_ways : Cond.instanceMethod (mY mX10_ways) ∈ TB := tm 937 rfl
set_option maxRecDepth 20000 in
theorem seX10_ways : Cond.selects (mY mX10_ways).cls (mY mX10_ways) (mY mX10_ways) ∈ TB := tm 938 rfl
theorem tokX10_likely : TOK mX10_likely := TOK.of tkX10_likely
set_option maxRecDepth 20000 in
theorem okX10_likely : OKm mX10_likely := ⟨tm 960 rfl, tm 1 rfl, ⟨by decide, by decide⟩, by decide⟩
set_option maxRecDepth 20000 in
theorem inX10_likely : Cond.instanceMethod (mY mX10_likely) ∈ TB := tm 958 rfl
set_option maxRecDepth 20000 in
theorem seX10_likely : Cond.selects (mY mX10_likely).cls (mY mX10_likely) (mY mX10_likely) ∈ TB := tm 959 rfl
theorem tokX10_again : TOK mX10_again := TOK.of tkX10_again
set_option maxRecDepth 20000 in
theorem okX10_again : OKm mX10_again := ⟨tm 965 rfl, tm 1 rfl, ⟨by decide, by decide⟩, by decide⟩
set_option maxRecDepth 20000 in
theorem inX10_again : Cond.instanceMethod (mY mX10_again) ∈ TB := tm 963 rfl
set_option maxRecDepth 20000 in
theorem seX10_again : Cond.selects (mY mX10_again).cls (mY mX10_again) (mY mX10_again) ∈ TB := tm 964 rfl
theorem tokX10_fixed : TOK mX10_fixed := TOK.of tkX10_fixed
set_option maxRecDepth 20000 in
theorem okX10_fixed : OKm mX10_fixed := ⟨tm 974 rfl, tm 1 rfl, ⟨by decide, by decide⟩, by decide⟩
set_option maxRecDepth 20000 in
theorem inX10_fixed : Cond.instanceMethod (mY mX10_fixed) ∈ TB := tm 972 rfl
set_option maxRecDepth 20000 in
theorem seX10_fixed : Cond.selects (mY mX10_fixed).cls (mY mX10_fixed) (mY mX10_fixed) ∈ TB := tm 973 rfl
theorem tokX10_cut : TOK mX10_cut := TOK.of tkX10_cut
set_option maxRecDepth 20000 in
theorem okX10_cut : OKm mX10_cut := ⟨tm 986 rfl, tm 1 rfl, ⟨by decide, by decide⟩, by decide⟩
set_option maxRecDepth 20000 in
theorem inX10_cut : Cond.instanceMethod (mY mX10_cut) ∈ TB := tm 984 rfl
set_option maxRecDepth 20000 in
theorem seX10_cut : Cond.selects (mY mX10_cut).cls (mY mX10_cut) (mY mX10_cut) ∈ TB := tm 985 rfl
theorem tokX10_meet : TOK mX10_meet := TOK.of tkX10_meet
set_option maxRecDepth 20000 in
theorem okX10_meet : OKm mX10_meet := ⟨tm 1005 rfl, tm 1 rfl, ⟨by decide, by decide⟩, by decide⟩
set_option maxRecDepth 20000 in
theorem inX10_meet : Cond.instanceMethod (mY mX10_meet) ∈ TB := tm 1003 rfl
set_option maxRecDepth 20000 in
theorem seX10_meet : Cond.selects (mY mX10_meet).cls (mY mX10_meet) (mY mX10_meet) ∈ TB := tm 1004 rfl
theorem tokX10_seen : TOK mX10_seen := TOK.of tkX10_seen
set_option maxRecDepth 20000 in
theorem okX10_seen : OKm mX10_seen := ⟨tm 1024 rfl, tm 1 rfl, ⟨by decide, by decide⟩, by decide⟩
set_option maxRecDepth 20000 in
theorem inX10_seen : Cond.instanceMethod (mY mX10_seen) ∈ TB := tm 1022 rfl
set_option maxRecDepth 20000 in
theorem seX10_seen : Cond.selects (mY mX10_seen).cls (mY mX10_seen) (mY mX10_seen) ∈ TB := tm 1023 rfl
theorem tokX10_forget : TOK mX10_forget := TOK.of tkX10_forget
set_option maxRecDepth 20000 in
theorem okX10_forget : OKm mX10_forget := ⟨tm 1032 rfl, tm 1 rfl, ⟨by decide, by decide⟩, by decide⟩
set_option maxRecDepth 20000 in
theorem inX10_forget : Cond.instanceMethod (mY mX10_forget) ∈ TB := tm 1030 rfl
set_option maxRecDepth 20000 in
theorem seX10_forget : Cond.selects (mY mX10_forget).cls (mY mX10_forget) (mY mX10_forget) ∈ TB := tm 1031 rfl
theorem tokX10_kinds : TOK mX10_kinds := TOK.of tkX10_kinds
set_option maxRecDepth 20000 in
theorem okX10_kinds : OKm mX10_kinds := ⟨tm 1036 rfl, tm 1 rfl, ⟨by decide, by decide⟩, by decide⟩
set_option maxRecDepth 20000 in
theorem inX10_kinds : Cond.instanceMethod (mY mX10_kinds) ∈ TB := tm 1034 rfl
set_option maxRecDepth 20000 in
theorem seX10_kinds : Cond.selects (mY mX10_kinds).cls (mY mX10_kinds) (mY mX10_kinds) ∈ TB := tm 1035 rfl
theorem tokX10_ask : TOK mX10_ask := TOK.of tkX10_ask
set_option maxRecDepth 20000 in
theorem okX10_ask : OKm mX10_ask := ⟨tm 1050 rfl, tm 1 rfl, ⟨by decide, by decide⟩, by decide⟩
set_option maxRecDepth 20000 in
theorem inX10_ask : Cond.instanceMethod (mY mX10_ask) ∈ TB := tm 1048 rfl
set_option maxRecDepth 20000 in
theorem seX10_ask : Cond.selects (mY mX10_ask).cls (mY mX10_ask) (mY mX10_ask) ∈ TB := tm 1049 rfl
theorem tokX10_few : TOK mX10_few := TOK.of tkX10_few
set_option maxRecDepth 20000 in
theorem okX10_few : OKm mX10_few := ⟨tm 1064 rfl, tm 1 rfl, ⟨by decide, by decide⟩, by decide⟩
set_option maxRecDepth 20000 in
theorem inX10_few : Cond.instanceMethod (mY mX10_few) ∈ TB := tm 1062 rfl
set_option maxRecDepth 20000 in
theorem seX10_few : Cond.selects (mY mX10_few).cls (mY mX10_few) (mY mX10_few) ∈ TB := tm 1063 rfl
theorem tokX10_compare : TOK mX10_compare := TOK.of tkX10_compare
set_option maxRecDepth 20000 in
theorem okX10_compare : OKm mX10_compare := ⟨tm 1075 rfl, tm 1 rfl, ⟨by decide, by decide⟩, by decide⟩
set_option maxRecDepth 20000 in
theorem inX10_compare : Cond.instanceMethod (mY mX10_compare) ∈ TB := tm 1073 rfl
set_option maxRecDepth 20000 in
theorem seX10_compare : Cond.selects (mY mX10_compare).cls (mY mX10_compare) (mY mX10_compare) ∈ TB := tm 1074 rfl
theorem tokX10_days : TOK mX10_days := TOK.of tkX10_days
set_option maxRecDepth 20000 in
theorem okX10_days : OKm mX10_days := ⟨tm 1083 rfl, tm 1 rfl, ⟨by decide, by decide⟩, by decide⟩
set_option maxRecDepth 20000 in
theorem inX10_days : Cond.instanceMethod (mY mX10_days) ∈ TB := tm 1081 rfl
set_option maxRecDepth 20000 in
theorem seX10_days : Cond.selects (mY mX10_days).cls (mY mX10_days) (mY mX10_days) ∈ TB := tm 1082 rfl
theorem tokX10_drawn : TOK mX10_drawn := TOK.of tkX10_drawn
set_option maxRecDepth 20000 in
theorem okX10_drawn : OKm mX10_drawn := ⟨tm 1102 rfl, tm 1 rfl, ⟨by decide, by decide⟩, by decide⟩
set_option maxRecDepth 20000 in
theorem inX10_drawn : Cond.instanceMethod (mY mX10_drawn) ∈ TB := tm 1100 rfl
set_option maxRecDepth 20000 in
theorem seX10_drawn : Cond.selects (mY mX10_drawn).cls (mY mX10_drawn) (mY mX10_drawn) ∈ TB := tm 1101 rfl
theorem tokX10_image : TOK mX10_image := TOK.of tkX10_image
set_option maxRecDepth 20000 in
theorem okX10_image : OKm mX10_image := ⟨tm 1110 rfl, tm 1 rfl, ⟨by decide, by decide⟩, by decide⟩
set_option maxRecDepth 20000 in
theorem inX10_image : Cond.instanceMethod (mY mX10_image) ∈ TB := tm 1108 rfl
set_option maxRecDepth 20000 in
theorem seX10_image : Cond.selects (mY mX10_image).cls (mY mX10_image) (mY mX10_image) ∈ TB := tm 1109 rfl
theorem tokX10_back : TOK mX10_back := TOK.of tkX10_back
set_option maxRecDepth 20000 in
theorem okX10_back : OKm mX10_back := ⟨tm 1115 rfl, tm 1 rfl, ⟨by decide, by decide⟩, by decide⟩
set_option maxRecDepth 20000 in
theorem inX10_back : Cond.instanceMethod (mY mX10_back) ∈ TB := tm 1113 rfl
set_option maxRecDepth 20000 in
theorem seX10_back : Cond.selects (mY mX10_back).cls (mY mX10_back) (mY mX10_back) ∈ TB := tm 1114 rfl
theorem tokX10_count : TOK mX10_count := TOK.of tkX10_count
set_option maxRecDepth 20000 in
theorem okX10_count : OKm mX10_count := ⟨tm 1119 rfl, tm 1 rfl, ⟨by decide, by decide⟩, by decide⟩
set_option maxRecDepth 20000 in
theorem inX10_count : Cond.instanceMethod (mY mX10_count) ∈ TB := tm 1117 rfl
set_option maxRecDepth 20000 in
theorem seX10_count : Cond.selects (mY mX10_count).cls (mY mX10_count) (mY mX10_count) ∈ TB := tm 1118 rfl
theorem tokX10_status : TOK mX10_status := TOK.of tkX10_status
set_option maxRecDepth 20000 in
theorem okX10_status : OKm mX10_status := ⟨tm 1127 rfl, tm 1 rfl, ⟨by decide, by decide⟩, by decide⟩
set_option maxRecDepth 20000 in
theorem inX10_status : Cond.instanceMethod (mY mX10_status) ∈ TB := tm 1125 rfl
set_option maxRecDepth 20000 in
theorem seX10_status : Cond.selects (mY mX10_status).cls (mY mX10_status) (mY mX10_status) ∈ TB := tm 1126 rfl
theorem tokX10_told : TOK mX10_told := TOK.of tkX10_told
set_option maxRecDepth 20000 in
theorem okX10_told : OKm mX10_told := ⟨tm 462 rfl, tm 1 rfl, ⟨by decide, by decide⟩, by decide⟩
set_option maxRecDepth 20000 in
theorem inX10_told : Cond.instanceMethod (mY mX10_told) ∈ TB := tm 461 rfl
set_option maxRecDepth 20000 in
theorem seX10_told : Cond.selects (mY mX10_told).cls (mY mX10_told) (mY mX10_told) ∈ TB := tbm (List.mem_append_left _ (by decide +kernel)) rfl
theorem tokX10_toldAnew : TOK mX10_toldAnew := TOK.of tkX10_toldAnew
set_option maxRecDepth 20000 in
theorem okX10_toldAnew : OKm mX10_toldAnew := ⟨tm 458 rfl, tm 1 rfl, ⟨by decide, by decide⟩, by decide⟩
set_option maxRecDepth 20000 in
theorem inX10_toldAnew : Cond.instanceMethod (mY mX10_toldAnew) ∈ TB := tm 457 rfl
set_option maxRecDepth 20000 in
theorem seX10_toldAnew : Cond.selects (mY mX10_toldAnew).cls (mY mX10_toldAnew) (mY mX10_toldAnew) ∈ TB := tbm (List.mem_append_left _ (by decide +kernel)) rfl
theorem tokX10_readTape : TOK mX10_readTape := TOK.of tkX10_readTape
set_option maxRecDepth 20000 in
theorem okX10_readTape : OKm mX10_readTape := ⟨tm 597 rfl, tm 1 rfl, ⟨by decide, by decide⟩, by decide⟩
set_option maxRecDepth 20000 in
theorem inX10_readTape : Cond.instanceMethod (mY mX10_readTape) ∈ TB := tm 596 rfl
set_option maxRecDepth 20000 in
theorem seX10_readTape : Cond.selects (mY mX10_readTape).cls (mY mX10_readTape) (mY mX10_readTape) ∈ TB := tbm (List.mem_append_left _ (by decide +kernel)) rfl
theorem tokX10_canSeek : TOK mX10_canSeek := TOK.of tkX10_canSeek
set_option maxRecDepth 20000 in
theorem okX10_canSeek : OKm mX10_canSeek := ⟨tm 866 rfl, tm 1 rfl, ⟨by decide, by decide⟩, by decide⟩
set_option maxRecDepth 20000 in
theorem inX10_canSeek : Cond.instanceMethod (mY mX10_canSeek) ∈ TB := tm 865 rfl
set_option maxRecDepth 20000 in
theorem seX10_canSeek : Cond.selects (mY mX10_canSeek).cls (mY mX10_canSeek) (mY mX10_canSeek) ∈ TB := tbm (List.mem_append_left _ (by decide +kernel)) rfl
theorem tokX10_within : TOK mX10_within := TOK.of tkX10_within
set_option maxRecDepth 20000 in
theorem okX10_within : OKm mX10_within := ⟨tm 454 rfl, tm 1 rfl, ⟨by decide, by decide⟩, by decide⟩
set_option maxRecDepth 20000 in
theorem inX10_within : Cond.static (mY mX10_within) ∈ TB := tm 453 rfl
theorem tokX11_lies : TOK mX11_lies := TOK.of tkX11_lies
set_option maxRecDepth 20000 in
theorem okX11_lies : OKm mX11_lies := ⟨tm 1300 rfl, tm 12 rfl, ⟨by decide, by decide⟩, by decide⟩
set_option maxRecDepth 20000 in
theorem inX11_lies : Cond.static (mY mX11_lies) ∈ TB := tm 1299 rfl
theorem tokX11_lesser : TOK mX11_lesser := TOK.of tkX11_lesser
set_option maxRecDepth 20000 in
theorem okX11_lesser : OKm mX11_lesser := ⟨tm 1608 rfl, tm 12 rfl, ⟨by decide, by decide⟩, by decide⟩
set_option maxRecDepth 20000 in
theorem inX11_lesser : Cond.static (mY mX11_lesser) ∈ TB := tm 1607 rfl
theorem tokX11_greater : TOK mX11_greater := TOK.of tkX11_greater
set_option maxRecDepth 20000 in
theorem okX11_greater : OKm mX11_greater := ⟨tm 1448 rfl, tm 12 rfl, ⟨by decide, by decide⟩, by decide⟩
set_option maxRecDepth 20000 in
theorem inX11_greater : Cond.static (mY mX11_greater) ∈ TB := tm 1447 rfl
theorem tokX11_refuses : TOK mX11_refuses := TOK.of tkX11_refuses
set_option maxRecDepth 20000 in
theorem okX11_refuses : OKm mX11_refuses := ⟨tm 1304 rfl, tm 12 rfl, ⟨by decide, by decide⟩, by decide⟩
set_option maxRecDepth 20000 in
theorem inX11_refuses : Cond.instanceMethod (mY mX11_refuses) ∈ TB := tm 1303 rfl
set_option maxRecDepth 20000 in
theorem seX11_refuses : Cond.selects (mY mX11_refuses).cls (mY mX11_refuses) (mY mX11_refuses) ∈ TB := tbm (List.mem_append_left _ (by decide +kernel)) rfl
theorem tokX11_good : TOK mX11_good := TOK.of tkX11_good
set_option maxRecDepth 20000 in
theorem okX11_good : OKm mX11_good := ⟨tm 1308 rfl, tm 12 rfl, ⟨by decide, by decide⟩, by decide⟩
set_option maxRecDepth 20000 in
theorem inX11_good : Cond.instanceMethod (mY mX11_good) ∈ TB := tm 1307 rfl
set_option maxRecDepth 20000 in
theorem seX11_good : Cond.selects (mY mX11_good).cls (mY mX11_good) (mY mX11_good) ∈ TB := tbm (List.mem_append_left _ (by decide +kernel)) rfl
theorem tokX11_settled : TOK mX11_settled := TOK.of tkX11_settled
set_option maxRecDepth 20000 in
theorem okX11_settled : OKm mX11_settled := ⟨tm 1316 rfl, tm 12 rfl, ⟨by decide, by decide⟩, by decide⟩
set_option maxRecDepth 20000 in
theorem inX11_settled : Cond.instanceMethod (mY mX11_settled) ∈ TB := tm 1315 rfl
set_option maxRecDepth 20000 in
theorem seX11_settled : Cond.selects (mY mX11_settled).cls (mY mX11_settled) (mY mX11_settled) ∈ TB := tbm (List.mem_append_left _ (by decide +kernel)) rfl
theorem tokX11_isIn : TOK mX11_isIn := TOK.of tkX11_isIn
set_option maxRecDepth 20000 in
theorem okX11_isIn : OKm mX11_isIn := ⟨tm 1686 rfl, tm 12 rfl, ⟨by decide, by decide⟩, by decide⟩
set_option maxRecDepth 20000 in
theorem inX11_isIn : Cond.static (mY mX11_isIn) ∈ TB := tm 1685 rfl
theorem tokX11_ones : TOK mX11_ones := TOK.of tkX11_ones
set_option maxRecDepth 20000 in
theorem okX11_ones : OKm mX11_ones := ⟨tm 1743 rfl, tm 12 rfl, ⟨by decide, by decide⟩, by decide⟩
set_option maxRecDepth 20000 in
theorem inX11_ones : Cond.static (mY mX11_ones) ∈ TB := tm 1742 rfl
theorem tokX11_isPark : TOK mX11_isPark := TOK.of tkX11_isPark
set_option maxRecDepth 20000 in
theorem okX11_isPark : OKm mX11_isPark := ⟨tm 1326 rfl, tm 12 rfl, ⟨by decide, by decide⟩, by decide⟩
set_option maxRecDepth 20000 in
theorem inX11_isPark : Cond.static (mY mX11_isPark) ∈ TB := tm 1325 rfl
theorem tokX11_isMany : TOK mX11_isMany := TOK.of tkX11_isMany
set_option maxRecDepth 20000 in
theorem okX11_isMany : OKm mX11_isMany := ⟨tm 1352 rfl, tm 12 rfl, ⟨by decide, by decide⟩, by decide⟩
set_option maxRecDepth 20000 in
theorem inX11_isMany : Cond.static (mY mX11_isMany) ∈ TB := tm 1351 rfl
theorem tokX11_isArm : TOK mX11_isArm := TOK.of tkX11_isArm
set_option maxRecDepth 20000 in
theorem okX11_isArm : OKm mX11_isArm := ⟨tm 1329 rfl, tm 12 rfl, ⟨by decide, by decide⟩, by decide⟩
set_option maxRecDepth 20000 in
theorem inX11_isArm : Cond.static (mY mX11_isArm) ∈ TB := tm 1328 rfl
set_option maxRecDepth 20000 in
theorem okX11_init : OKm mX11_init := ⟨tm 1132 rfl, tm 12 rfl, ⟨by decide, by decide⟩, by decide⟩
set_option maxRecDepth 20000 in
theorem inX11_init : Cond.instanceMethod (mY mX11_init) ∈ TB := tm 1131 rfl
theorem tokX11_laysAside : TOK mX11_laysAside := TOK.of tkX11_laysAside
set_option maxRecDepth 20000 in
theorem okX11_laysAside : OKm mX11_laysAside := ⟨tm 1793 rfl, tm 12 rfl, ⟨by decide, by decide⟩, by decide⟩
set_option maxRecDepth 20000 in
theorem inX11_laysAside : Cond.instanceMethod (mY mX11_laysAside) ∈ TB := tm 1792 rfl
set_option maxRecDepth 20000 in
theorem seX11_laysAside : Cond.selects (mY mX11_laysAside).cls (mY mX11_laysAside) (mY mX11_laysAside) ∈ TB := tbm (List.mem_append_left _ (by decide +kernel)) rfl
theorem tokX11_takesBack : TOK mX11_takesBack := TOK.of tkX11_takesBack
set_option maxRecDepth 20000 in
theorem okX11_takesBack : OKm mX11_takesBack := ⟨tm 1813 rfl, tm 12 rfl, ⟨by decide, by decide⟩, by decide⟩
set_option maxRecDepth 20000 in
theorem inX11_takesBack : Cond.instanceMethod (mY mX11_takesBack) ∈ TB := tm 1812 rfl
set_option maxRecDepth 20000 in
theorem seX11_takesBack : Cond.selects (mY mX11_takesBack).cls (mY mX11_takesBack) (mY mX11_takesBack) ∈ TB := tbm (List.mem_append_left _ (by decide +kernel)) rfl
theorem tokX11_image : TOK mX11_image := TOK.of tkX11_image
set_option maxRecDepth 20000 in
theorem okX11_image : OKm mX11_image := ⟨tm 1297 rfl, tm 12 rfl, ⟨by decide, by decide⟩, by decide⟩
set_option maxRecDepth 20000 in
theorem inX11_image : Cond.instanceMethod (mY mX11_image) ∈ TB := tm 1295 rfl
set_option maxRecDepth 20000 in
theorem seX11_image : Cond.selects (mY mX11_image).cls (mY mX11_image) (mY mX11_image) ∈ TB := tm 1296 rfl
end WORDS
end
section
section WORDS
theorem tokX11_back : TOK mX11_back := TOK.of tkX11_back
set_option maxRecDepth 20000 in
theorem okX11_back : OKm mX11_back := ⟨tm 1312 rfl, tm 12 rfl, ⟨by decide, by decide⟩, by decide⟩
set_option maxRecDepth 20000 in
theorem inX11_back : Cond.instanceMethod (mY mX11_back) ∈ TB := tm 1310 rfl
set_option maxRecDepth 20000 in
theorem seX11_back : Cond.selects (mY mX11_back).cls (mY mX11_back) (mY mX11_back) ∈ TB := tm 1311 rfl
theorem tokX11_gateMany : TOK mX11_gateMany := TOK.of tkX11_gateMany
set_option maxRecDepth 20000 in
theorem okX11_gateMany : OKm mX11_gateMany := ⟨tm 1333 rfl, tm 12 rfl, ⟨by decide, by decide⟩, by decide⟩
set_option maxRecDepth 20000 in
theorem inX11_gateMany : Cond.instanceMethod (mY mX11_gateMany) ∈ TB := tm 1332 rfl
set_option maxRecDepth 20000 in
theorem seX11_gateMany : Cond.selects (mY mX11_gateMany).cls (mY mX11_gateMany) (mY mX11_gateMany) ∈ TB := tbm (List.mem_append_left _ (by decide +kernel)) rfl
theorem tokX11_isGate : TOK mX11_isGate := TOK.of tkX11_isGate
set_option maxRecDepth 20000 in
theorem okX11_isGate : OKm mX11_isGate := ⟨tm 1345 rfl, tm 12 rfl, ⟨by decide, by decide⟩, by decide⟩
set_option maxRecDepth 20000 in
theorem inX11_isGate : Cond.instanceMethod (mY mX11_isGate) ∈ TB := tm 1344 rfl
set_option maxRecDepth 20000 in
theorem seX11_isGate : Cond.selects (mY mX11_isGate).cls (mY mX11_isGate) (mY mX11_isGate) ∈ TB := tbm (List.mem_append_left _ (by decide +kernel)) rfl
theorem tokX11_isGoer : TOK mX11_isGoer := TOK.of tkX11_isGoer
set_option maxRecDepth 20000 in
theorem okX11_isGoer : OKm mX11_isGoer := ⟨tm 1360 rfl, tm 12 rfl, ⟨by decide, by decide⟩, by decide⟩
set_option maxRecDepth 20000 in
theorem inX11_isGoer : Cond.instanceMethod (mY mX11_isGoer) ∈ TB := tm 1359 rfl
set_option maxRecDepth 20000 in
theorem seX11_isGoer : Cond.selects (mY mX11_isGoer).cls (mY mX11_isGoer) (mY mX11_isGoer) ∈ TB := tbm (List.mem_append_left _ (by decide +kernel)) rfl
theorem tokX11_canGate : TOK mX11_canGate := TOK.of tkX11_canGate
set_option maxRecDepth 20000 in
theorem okX11_canGate : OKm mX11_canGate := ⟨tm 1323 rfl, tm 12 rfl, ⟨by decide, by decide⟩, by decide⟩
set_option maxRecDepth 20000 in
theorem inX11_canGate : Cond.static (mY mX11_canGate) ∈ TB := tm 1322 rfl
theorem tokX11_adds : TOK mX11_adds := TOK.of tkX11_adds
set_option maxRecDepth 20000 in
theorem okX11_adds : OKm mX11_adds := ⟨tm 1337 rfl, tm 12 rfl, ⟨by decide, by decide⟩, by decide⟩
set_option maxRecDepth 20000 in
theorem inX11_adds : Cond.instanceMethod (mY mX11_adds) ∈ TB := tm 1336 rfl
set_option maxRecDepth 20000 in
theorem seX11_adds : Cond.selects (mY mX11_adds).cls (mY mX11_adds) (mY mX11_adds) ∈ TB := tbm (List.mem_append_left _ (by decide +kernel)) rfl
theorem tokX11_gate : TOK mX11_gate := TOK.of tkX11_gate
set_option maxRecDepth 20000 in
theorem okX11_gate : OKm mX11_gate := ⟨tm 1320 rfl, tm 12 rfl, ⟨by decide, by decide⟩, by decide⟩
set_option maxRecDepth 20000 in
theorem inX11_gate : Cond.instanceMethod (mY mX11_gate) ∈ TB := tm 1318 rfl
set_option maxRecDepth 20000 in
theorem seX11_gate : Cond.selects (mY mX11_gate).cls (mY mX11_gate) (mY mX11_gate) ∈ TB := tm 1319 rfl
theorem tokX11_at : TOK mX11_at := TOK.of tkX11_at
set_option maxRecDepth 20000 in
theorem okX11_at : OKm mX11_at := ⟨tm 1341 rfl, tm 12 rfl, ⟨by decide, by decide⟩, by decide⟩
set_option maxRecDepth 20000 in
theorem inX11_at : Cond.instanceMethod (mY mX11_at) ∈ TB := tm 1339 rfl
set_option maxRecDepth 20000 in
theorem seX11_at : Cond.selects (mY mX11_at).cls (mY mX11_at) (mY mX11_at) ∈ TB := tm 1340 rfl
theorem tokX11_goer : TOK mX11_goer := TOK.of tkX11_goer
set_option maxRecDepth 20000 in
theorem okX11_goer : OKm mX11_goer := ⟨tm 1349 rfl, tm 12 rfl, ⟨by decide, by decide⟩, by decide⟩
set_option maxRecDepth 20000 in
theorem inX11_goer : Cond.instanceMethod (mY mX11_goer) ∈ TB := tm 1347 rfl
set_option maxRecDepth 20000 in
theorem seX11_goer : Cond.selects (mY mX11_goer).cls (mY mX11_goer) (mY mX11_goer) ∈ TB := tm 1348 rfl
theorem tokX11_of : TOK mX11_of := TOK.of tkX11_of
set_option maxRecDepth 20000 in
theorem okX11_of : OKm mX11_of := ⟨tm 1356 rfl, tm 12 rfl, ⟨by decide, by decide⟩, by decide⟩
set_option maxRecDepth 20000 in
theorem inX11_of : Cond.instanceMethod (mY mX11_of) ∈ TB := tm 1354 rfl
set_option maxRecDepth 20000 in
theorem seX11_of : Cond.selects (mY mX11_of).cls (mY mX11_of) (mY mX11_of) ∈ TB := tm 1355 rfl
theorem tokX11_gatesOf : TOK mX11_gatesOf := TOK.of tkX11_gatesOf
set_option maxRecDepth 20000 in
theorem okX11_gatesOf : OKm mX11_gatesOf := ⟨tm 1364 rfl, tm 12 rfl, ⟨by decide, by decide⟩, by decide⟩
set_option maxRecDepth 20000 in
theorem inX11_gatesOf : Cond.instanceMethod (mY mX11_gatesOf) ∈ TB := tm 1363 rfl
set_option maxRecDepth 20000 in
theorem seX11_gatesOf : Cond.selects (mY mX11_gatesOf).cls (mY mX11_gatesOf) (mY mX11_gatesOf) ∈ TB := tbm (List.mem_append_left _ (by decide +kernel)) rfl
theorem tokX11_asks : TOK mX11_asks := TOK.of tkX11_asks
set_option maxRecDepth 20000 in
theorem okX11_asks : OKm mX11_asks := ⟨tm 1441 rfl, tm 12 rfl, ⟨by decide, by decide⟩, by decide⟩
set_option maxRecDepth 20000 in
theorem inX11_asks : Cond.instanceMethod (mY mX11_asks) ∈ TB := tm 1439 rfl
set_option maxRecDepth 20000 in
theorem seX11_asks : Cond.selects (mY mX11_asks).cls (mY mX11_asks) (mY mX11_asks) ∈ TB := tm 1440 rfl
theorem tokX11_isTerm : TOK mX11_isTerm := TOK.of tkX11_isTerm
set_option maxRecDepth 20000 in
theorem okX11_isTerm : OKm mX11_isTerm := ⟨tm 1459 rfl, tm 12 rfl, ⟨by decide, by decide⟩, by decide⟩
set_option maxRecDepth 20000 in
theorem inX11_isTerm : Cond.static (mY mX11_isTerm) ∈ TB := tm 1458 rfl
theorem tokX11_termAt : TOK mX11_termAt := TOK.of tkX11_termAt
set_option maxRecDepth 20000 in
theorem okX11_termAt : OKm mX11_termAt := ⟨tm 1462 rfl, tm 12 rfl, ⟨by decide, by decide⟩, by decide⟩
set_option maxRecDepth 20000 in
theorem inX11_termAt : Cond.static (mY mX11_termAt) ∈ TB := tm 1461 rfl
theorem tokX11_terms : TOK mX11_terms := TOK.of tkX11_terms
set_option maxRecDepth 20000 in
theorem okX11_terms : OKm mX11_terms := ⟨tm 1456 rfl, tm 12 rfl, ⟨by decide, by decide⟩, by decide⟩
set_option maxRecDepth 20000 in
theorem inX11_terms : Cond.instanceMethod (mY mX11_terms) ∈ TB := tm 1454 rfl
set_option maxRecDepth 20000 in
theorem seX11_terms : Cond.selects (mY mX11_terms).cls (mY mX11_terms) (mY mX11_terms) ∈ TB := tm 1455 rfl
theorem tokX11_row : TOK mX11_row := TOK.of tkX11_row
set_option maxRecDepth 20000 in
theorem okX11_row : OKm mX11_row := ⟨tm 1466 rfl, tm 12 rfl, ⟨by decide, by decide⟩, by decide⟩
set_option maxRecDepth 20000 in
theorem inX11_row : Cond.instanceMethod (mY mX11_row) ∈ TB := tm 1464 rfl
set_option maxRecDepth 20000 in
theorem seX11_row : Cond.selects (mY mX11_row).cls (mY mX11_row) (mY mX11_row) ∈ TB := tm 1465 rfl
theorem tokX11_rust : TOK mX11_rust := TOK.of tkX11_rust
set_option maxRecDepth 20000 in
theorem okX11_rust : OKm mX11_rust := ⟨tm 1470 rfl, tm 12 rfl, ⟨by decide, by decide⟩, by decide⟩
set_option maxRecDepth 20000 in
theorem inX11_rust : Cond.instanceMethod (mY mX11_rust) ∈ TB := tm 1468 rfl
set_option maxRecDepth 20000 in
theorem seX11_rust : Cond.selects (mY mX11_rust).cls (mY mX11_rust) (mY mX11_rust) ∈ TB := tm 1469 rfl
theorem tokX11_feed : TOK mX11_feed := TOK.of tkX11_feed
set_option maxRecDepth 20000 in
theorem okX11_feed : OKm mX11_feed := ⟨tm 1474 rfl, tm 12 rfl, ⟨by decide, by decide⟩, by decide⟩
set_option maxRecDepth 20000 in
theorem inX11_feed : Cond.instanceMethod (mY mX11_feed) ∈ TB := tm 1472 rfl
set_option maxRecDepth 20000 in
theorem seX11_feed : Cond.selects (mY mX11_feed).cls (mY mX11_feed) (mY mX11_feed) ∈ TB := tm 1473 rfl
theorem tokX11_end : TOK mX11_end := TOK.of tkX11_end
set_option maxRecDepth 20000 in
theorem okX11_end : OKm mX11_end := ⟨tm 1478 rfl, tm 12 rfl, ⟨by decide, by decide⟩, by decide⟩
set_option maxRecDepth 20000 in
theorem inX11_end : Cond.instanceMethod (mY mX11_end) ∈ TB := tm 1476 rfl
set_option maxRecDepth 20000 in
theorem seX11_end : Cond.selects (mY mX11_end).cls (mY mX11_end) (mY mX11_end) ∈ TB := tm 1477 rfl
theorem tokX11_isSmall : TOK mX11_isSmall := TOK.of tkX11_isSmall
set_option maxRecDepth 20000 in
theorem okX11_isSmall : OKm mX11_isSmall := ⟨tm 1497 rfl, tm 12 rfl, ⟨by decide, by decide⟩, by decide⟩
set_option maxRecDepth 20000 in
theorem inX11_isSmall : Cond.static (mY mX11_isSmall) ∈ TB := tm 1496 rfl
theorem tokX11_isDigit : TOK mX11_isDigit := TOK.of tkX11_isDigit
set_option maxRecDepth 20000 in
theorem okX11_isDigit : OKm mX11_isDigit := ⟨tm 1500 rfl, tm 12 rfl, ⟨by decide, by decide⟩, by decide⟩
set_option maxRecDepth 20000 in
theorem inX11_isDigit : Cond.static (mY mX11_isDigit) ∈ TB := tm 1499 rfl
theorem tokX11_wordOf : TOK mX11_wordOf := TOK.of tkX11_wordOf
set_option maxRecDepth 20000 in
theorem okX11_wordOf : OKm mX11_wordOf := ⟨tm 1504 rfl, tm 12 rfl, ⟨by decide, by decide⟩, by decide⟩
set_option maxRecDepth 20000 in
theorem inX11_wordOf : Cond.instanceMethod (mY mX11_wordOf) ∈ TB := tm 1503 rfl
set_option maxRecDepth 20000 in
theorem seX11_wordOf : Cond.selects (mY mX11_wordOf).cls (mY mX11_wordOf) (mY mX11_wordOf) ∈ TB := tbm (List.mem_append_left _ (by decide +kernel)) rfl
theorem tokX11_splits : TOK mX11_splits := TOK.of tkX11_splits
set_option maxRecDepth 20000 in
theorem okX11_splits : OKm mX11_splits := ⟨tm 1494 rfl, tm 12 rfl, ⟨by decide, by decide⟩, by decide⟩
set_option maxRecDepth 20000 in
theorem inX11_splits : Cond.instanceMethod (mY mX11_splits) ∈ TB := tm 1493 rfl
set_option maxRecDepth 20000 in
theorem seX11_splits : Cond.selects (mY mX11_splits).cls (mY mX11_splits) (mY mX11_splits) ∈ TB := tbm (List.mem_append_left _ (by decide +kernel)) rfl
theorem tokX11_fine : TOK mX11_fine := TOK.of tkX11_fine
set_option maxRecDepth 20000 in
theorem okX11_fine : OKm mX11_fine := ⟨tm 1521 rfl, tm 12 rfl, ⟨by decide, by decide⟩, by decide⟩
set_option maxRecDepth 20000 in
theorem inX11_fine : Cond.instanceMethod (mY mX11_fine) ∈ TB := tm 1520 rfl
set_option maxRecDepth 20000 in
theorem seX11_fine : Cond.selects (mY mX11_fine).cls (mY mX11_fine) (mY mX11_fine) ∈ TB := tbm (List.mem_append_left _ (by decide +kernel)) rfl
theorem tokX11_faults : TOK mX11_faults := TOK.of tkX11_faults
set_option maxRecDepth 20000 in
theorem okX11_faults : OKm mX11_faults := ⟨tm 1541 rfl, tm 12 rfl, ⟨by decide, by decide⟩, by decide⟩
set_option maxRecDepth 20000 in
theorem inX11_faults : Cond.instanceMethod (mY mX11_faults) ∈ TB := tm 1540 rfl
set_option maxRecDepth 20000 in
theorem seX11_faults : Cond.selects (mY mX11_faults).cls (mY mX11_faults) (mY mX11_faults) ∈ TB := tbm (List.mem_append_left _ (by decide +kernel)) rfl
theorem tokX11_takes0 : TOK mX11_takes0 := TOK.of tkX11_takes0
set_option maxRecDepth 20000 in
theorem okX11_takes0 : OKm mX11_takes0 := ⟨tm 1517 rfl, tm 12 rfl, ⟨by decide, by decide⟩, by decide⟩
set_option maxRecDepth 20000 in
theorem inX11_takes0 : Cond.instanceMethod (mY mX11_takes0) ∈ TB := tm 1516 rfl
set_option maxRecDepth 20000 in
theorem seX11_takes0 : Cond.selects (mY mX11_takes0).cls (mY mX11_takes0) (mY mX11_takes0) ∈ TB := tbm (List.mem_append_left _ (by decide +kernel)) rfl
theorem tokX11_must : TOK mX11_must := TOK.of tkX11_must
set_option maxRecDepth 20000 in
theorem okX11_must : OKm mX11_must := ⟨tm 1545 rfl, tm 12 rfl, ⟨by decide, by decide⟩, by decide⟩
set_option maxRecDepth 20000 in
theorem inX11_must : Cond.instanceMethod (mY mX11_must) ∈ TB := tm 1544 rfl
set_option maxRecDepth 20000 in
theorem seX11_must : Cond.selects (mY mX11_must).cls (mY mX11_must) (mY mX11_must) ∈ TB := tbm (List.mem_append_left _ (by decide +kernel)) rfl
theorem tokX11_leaf : TOK mX11_leaf := TOK.of tkX11_leaf
set_option maxRecDepth 20000 in
theorem okX11_leaf : OKm mX11_leaf := ⟨tm 1549 rfl, tm 12 rfl, ⟨by decide, by decide⟩, by decide⟩
set_option maxRecDepth 20000 in
theorem inX11_leaf : Cond.instanceMethod (mY mX11_leaf) ∈ TB := tm 1548 rfl
set_option maxRecDepth 20000 in
theorem seX11_leaf : Cond.selects (mY mX11_leaf).cls (mY mX11_leaf) (mY mX11_leaf) ∈ TB := tbm (List.mem_append_left _ (by decide +kernel)) rfl
theorem tokX11_sign : TOK mX11_sign := TOK.of tkX11_sign
set_option maxRecDepth 20000 in
theorem okX11_sign : OKm mX11_sign := ⟨tm 1403 rfl, tm 12 rfl, ⟨by decide, by decide⟩, by decide⟩
set_option maxRecDepth 20000 in
theorem inX11_sign : Cond.static (mY mX11_sign) ∈ TB := tm 1402 rfl
theorem tokX11_mustNumber : TOK mX11_mustNumber := TOK.of tkX11_mustNumber
set_option maxRecDepth 20000 in
theorem okX11_mustNumber : OKm mX11_mustNumber := ⟨tm 1553 rfl, tm 12 rfl, ⟨by decide, by decide⟩, by decide⟩
set_option maxRecDepth 20000 in
theorem inX11_mustNumber : Cond.instanceMethod (mY mX11_mustNumber) ∈ TB := tm 1552 rfl
set_option maxRecDepth 20000 in
theorem seX11_mustNumber : Cond.selects (mY mX11_mustNumber).cls (mY mX11_mustNumber) (mY mX11_mustNumber) ∈ TB := tbm (List.mem_append_left _ (by decide +kernel)) rfl
theorem tokX11_readClause : TOK mX11_readClause := TOK.of tkX11_readClause
set_option maxRecDepth 20000 in
theorem okX11_readClause : OKm mX11_readClause := ⟨tm 1569 rfl, tm 12 rfl, ⟨by decide, by decide⟩, by decide⟩
set_option maxRecDepth 20000 in
theorem inX11_readClause : Cond.instanceMethod (mY mX11_readClause) ∈ TB := tm 1568 rfl
set_option maxRecDepth 20000 in
theorem seX11_readClause : Cond.selects (mY mX11_readClause).cls (mY mX11_readClause) (mY mX11_readClause) ∈ TB := tbm (List.mem_append_left _ (by decide +kernel)) rfl
theorem tokX11_readTwo : TOK mX11_readTwo := TOK.of tkX11_readTwo
set_option maxRecDepth 20000 in
theorem okX11_readTwo : OKm mX11_readTwo := ⟨tm 1525 rfl, tm 12 rfl, ⟨by decide, by decide⟩, by decide⟩
set_option maxRecDepth 20000 in
theorem inX11_readTwo : Cond.instanceMethod (mY mX11_readTwo) ∈ TB := tm 1524 rfl
set_option maxRecDepth 20000 in
theorem seX11_readTwo : Cond.selects (mY mX11_readTwo).cls (mY mX11_readTwo) (mY mX11_readTwo) ∈ TB := tbm (List.mem_append_left _ (by decide +kernel)) rfl
theorem tokX11_readOrder : TOK mX11_readOrder := TOK.of tkX11_readOrder
set_option maxRecDepth 20000 in
theorem okX11_readOrder : OKm mX11_readOrder := ⟨tm 1513 rfl, tm 12 rfl, ⟨by decide, by decide⟩, by decide⟩
set_option maxRecDepth 20000 in
theorem inX11_readOrder : Cond.instanceMethod (mY mX11_readOrder) ∈ TB := tm 1512 rfl
set_option maxRecDepth 20000 in
theorem seX11_readOrder : Cond.selects (mY mX11_readOrder).cls (mY mX11_readOrder) (mY mX11_readOrder) ∈ TB := tbm (List.mem_append_left _ (by decide +kernel)) rfl
theorem tokX11_readOne : TOK mX11_readOne := TOK.of tkX11_readOne
set_option maxRecDepth 20000 in
theorem okX11_readOne : OKm mX11_readOne := ⟨tm 1509 rfl, tm 12 rfl, ⟨by decide, by decide⟩, by decide⟩
set_option maxRecDepth 20000 in
theorem inX11_readOne : Cond.instanceMethod (mY mX11_readOne) ∈ TB := tm 1508 rfl
set_option maxRecDepth 20000 in
theorem seX11_readOne : Cond.selects (mY mX11_readOne).cls (mY mX11_readOne) (mY mX11_readOne) ∈ TB := tbm (List.mem_append_left _ (by decide +kernel)) rfl
theorem tokX11_readTest : TOK mX11_readTest := TOK.of tkX11_readTest
set_option maxRecDepth 20000 in
theorem okX11_readTest : OKm mX11_readTest := ⟨tm 1557 rfl, tm 12 rfl, ⟨by decide, by decide⟩, by decide⟩
set_option maxRecDepth 20000 in
theorem inX11_readTest : Cond.instanceMethod (mY mX11_readTest) ∈ TB := tm 1556 rfl
set_option maxRecDepth 20000 in
theorem seX11_readTest : Cond.selects (mY mX11_readTest).cls (mY mX11_readTest) (mY mX11_readTest) ∈ TB := tbm (List.mem_append_left _ (by decide +kernel)) rfl
theorem tokX11_readBoth : TOK mX11_readBoth := TOK.of tkX11_readBoth
set_option maxRecDepth 20000 in
theorem okX11_readBoth : OKm mX11_readBoth := ⟨tm 1561 rfl, tm 12 rfl, ⟨by decide, by decide⟩, by decide⟩
set_option maxRecDepth 20000 in
theorem inX11_readBoth : Cond.instanceMethod (mY mX11_readBoth) ∈ TB := tm 1560 rfl
set_option maxRecDepth 20000 in
theorem seX11_readBoth : Cond.selects (mY mX11_readBoth).cls (mY mX11_readBoth) (mY mX11_readBoth) ∈ TB := tbm (List.mem_append_left _ (by decide +kernel)) rfl
theorem tokX11_readPlain : TOK mX11_readPlain := TOK.of tkX11_readPlain
set_option maxRecDepth 20000 in
theorem okX11_readPlain : OKm mX11_readPlain := ⟨tm 1565 rfl, tm 12 rfl, ⟨by decide, by decide⟩, by decide⟩
set_option maxRecDepth 20000 in
theorem inX11_readPlain : Cond.instanceMethod (mY mX11_readPlain) ∈ TB := tm 1564 rfl
set_option maxRecDepth 20000 in
theorem seX11_readPlain : Cond.selects (mY mX11_readPlain).cls (mY mX11_readPlain) (mY mX11_readPlain) ∈ TB := tbm (List.mem_append_left _ (by decide +kernel)) rfl
theorem tokX11_readSum : TOK mX11_readSum := TOK.of tkX11_readSum
set_option maxRecDepth 20000 in
theorem okX11_readSum : OKm mX11_readSum := ⟨tm 1529 rfl, tm 12 rfl, ⟨by decide, by decide⟩, by decide⟩
set_option maxRecDepth 20000 in
theorem inX11_readSum : Cond.instanceMethod (mY mX11_readSum) ∈ TB := tm 1528 rfl
set_option maxRecDepth 20000 in
theorem seX11_readSum : Cond.selects (mY mX11_readSum).cls (mY mX11_readSum) (mY mX11_readSum) ∈ TB := tbm (List.mem_append_left _ (by decide +kernel)) rfl
theorem tokX11_readTerm : TOK mX11_readTerm := TOK.of tkX11_readTerm
set_option maxRecDepth 20000 in
theorem okX11_readTerm : OKm mX11_readTerm := ⟨tm 1533 rfl, tm 12 rfl, ⟨by decide, by decide⟩, by decide⟩
set_option maxRecDepth 20000 in
theorem inX11_readTerm : Cond.instanceMethod (mY mX11_readTerm) ∈ TB := tm 1532 rfl
set_option maxRecDepth 20000 in
theorem seX11_readTerm : Cond.selects (mY mX11_readTerm).cls (mY mX11_readTerm) (mY mX11_readTerm) ∈ TB := tbm (List.mem_append_left _ (by decide +kernel)) rfl
theorem tokX11_readPart : TOK mX11_readPart := TOK.of tkX11_readPart
set_option maxRecDepth 20000 in
theorem okX11_readPart : OKm mX11_readPart := ⟨tm 1537 rfl, tm 12 rfl, ⟨by decide, by decide⟩, by decide⟩
set_option maxRecDepth 20000 in
theorem inX11_readPart : Cond.instanceMethod (mY mX11_readPart) ∈ TB := tm 1536 rfl
set_option maxRecDepth 20000 in
theorem seX11_readPart : Cond.selects (mY mX11_readPart).cls (mY mX11_readPart) (mY mX11_readPart) ∈ TB := tbm (List.mem_append_left _ (by decide +kernel)) rfl
theorem tokX11_reads : TOK mX11_reads := TOK.of tkX11_reads
set_option maxRecDepth 20000 in
theorem okX11_reads : OKm mX11_reads := ⟨tm 1490 rfl, tm 12 rfl, ⟨by decide, by decide⟩, by decide⟩
set_option maxRecDepth 20000 in
theorem inX11_reads : Cond.instanceMethod (mY mX11_reads) ∈ TB := tm 1489 rfl
set_option maxRecDepth 20000 in
theorem seX11_reads : Cond.selects (mY mX11_reads).cls (mY mX11_reads) (mY mX11_reads) ∈ TB := tbm (List.mem_append_left _ (by decide +kernel)) rfl
theorem tokX11_readsAs : TOK mX11_readsAs := TOK.of tkX11_readsAs
set_option maxRecDepth 20000 in
theorem okX11_readsAs : OKm mX11_readsAs := ⟨tm 1486 rfl, tm 12 rfl, ⟨by decide, by decide⟩, by decide⟩
set_option maxRecDepth 20000 in
theorem inX11_readsAs : Cond.instanceMethod (mY mX11_readsAs) ∈ TB := tm 1485 rfl
set_option maxRecDepth 20000 in
theorem seX11_readsAs : Cond.selects (mY mX11_readsAs).cls (mY mX11_readsAs) (mY mX11_readsAs) ∈ TB := tbm (List.mem_append_left _ (by decide +kernel)) rfl
theorem tokX11_lays : TOK mX11_lays := TOK.of tkX11_lays
set_option maxRecDepth 20000 in
theorem okX11_lays : OKm mX11_lays := ⟨tm 1573 rfl, tm 12 rfl, ⟨by decide, by decide⟩, by decide⟩
set_option maxRecDepth 20000 in
theorem inX11_lays : Cond.instanceMethod (mY mX11_lays) ∈ TB := tm 1572 rfl
set_option maxRecDepth 20000 in
theorem seX11_lays : Cond.selects (mY mX11_lays).cls (mY mX11_lays) (mY mX11_lays) ∈ TB := tbm (List.mem_append_left _ (by decide +kernel)) rfl
theorem tokX11_law : TOK mX11_law := TOK.of tkX11_law
set_option maxRecDepth 20000 in
theorem okX11_law : OKm mX11_law := ⟨tm 1482 rfl, tm 12 rfl, ⟨by decide, by decide⟩, by decide⟩
set_option maxRecDepth 20000 in
theorem inX11_law : Cond.instanceMethod (mY mX11_law) ∈ TB := tm 1480 rfl
set_option maxRecDepth 20000 in
theorem seX11_law : Cond.selects (mY mX11_law).cls (mY mX11_law) (mY mX11_law) ∈ TB := tm 1481 rfl
theorem tokX11_fault : TOK mX11_fault := TOK.of tkX11_fault
set_option maxRecDepth 20000 in
theorem okX11_fault : OKm mX11_fault := ⟨tm 1577 rfl, tm 12 rfl, ⟨by decide, by decide⟩, by decide⟩
set_option maxRecDepth 20000 in
theorem inX11_fault : Cond.instanceMethod (mY mX11_fault) ∈ TB := tm 1575 rfl
set_option maxRecDepth 20000 in
theorem seX11_fault : Cond.selects (mY mX11_fault).cls (mY mX11_fault) (mY mX11_fault) ∈ TB := tm 1576 rfl
theorem tokX11_isLaw : TOK mX11_isLaw := TOK.of tkX11_isLaw
set_option maxRecDepth 20000 in
theorem okX11_isLaw : OKm mX11_isLaw := ⟨tm 1585 rfl, tm 12 rfl, ⟨by decide, by decide⟩, by decide⟩
set_option maxRecDepth 20000 in
theorem inX11_isLaw : Cond.instanceMethod (mY mX11_isLaw) ∈ TB := tm 1584 rfl
set_option maxRecDepth 20000 in
theorem seX11_isLaw : Cond.selects (mY mX11_isLaw).cls (mY mX11_isLaw) (mY mX11_isLaw) ∈ TB := tbm (List.mem_append_left _ (by decide +kernel)) rfl
theorem tokX11_force : TOK mX11_force := TOK.of tkX11_force
set_option maxRecDepth 20000 in
theorem okX11_force : OKm mX11_force := ⟨tm 1581 rfl, tm 12 rfl, ⟨by decide, by decide⟩, by decide⟩
set_option maxRecDepth 20000 in
theorem inX11_force : Cond.instanceMethod (mY mX11_force) ∈ TB := tm 1579 rfl
set_option maxRecDepth 20000 in
theorem seX11_force : Cond.selects (mY mX11_force).cls (mY mX11_force) (mY mX11_force) ∈ TB := tm 1580 rfl
theorem tokX11_codeAt : TOK mX11_codeAt := TOK.of tkX11_codeAt
set_option maxRecDepth 20000 in
theorem okX11_codeAt : OKm mX11_codeAt := ⟨tm 1388 rfl, tm 12 rfl, ⟨by decide, by decide⟩, by decide⟩
set_option maxRecDepth 20000 in
theorem inX11_codeAt : Cond.instanceMethod (mY mX11_codeAt) ∈ TB := tm 1387 rfl
set_option maxRecDepth 20000 in
theorem seX11_codeAt : Cond.selects (mY mX11_codeAt).cls (mY mX11_codeAt) (mY mX11_codeAt) ∈ TB := tbm (List.mem_append_left _ (by decide +kernel)) rfl
theorem tokX11_passes0 : TOK mX11_passes0 := TOK.of tkX11_passes0
set_option maxRecDepth 20000 in
theorem okX11_passes0 : OKm mX11_passes0 := ⟨tm 1407 rfl, tm 12 rfl, ⟨by decide, by decide⟩, by decide⟩
set_option maxRecDepth 20000 in
theorem inX11_passes0 : Cond.instanceMethod (mY mX11_passes0) ∈ TB := tm 1406 rfl
set_option maxRecDepth 20000 in
theorem seX11_passes0 : Cond.selects (mY mX11_passes0).cls (mY mX11_passes0) (mY mX11_passes0) ∈ TB := tbm (List.mem_append_left _ (by decide +kernel)) rfl
theorem tokX11_bounded : TOK mX11_bounded := TOK.of tkX11_bounded
set_option maxRecDepth 20000 in
theorem okX11_bounded : OKm mX11_bounded := ⟨tm 1419 rfl, tm 12 rfl, ⟨by decide, by decide⟩, by decide⟩
set_option maxRecDepth 20000 in
theorem inX11_bounded : Cond.instanceMethod (mY mX11_bounded) ∈ TB := tm 1418 rfl
set_option maxRecDepth 20000 in
theorem seX11_bounded : Cond.selects (mY mX11_bounded).cls (mY mX11_bounded) (mY mX11_bounded) ∈ TB := tbm (List.mem_append_left _ (by decide +kernel)) rfl
theorem tokX11_sumOf : TOK mX11_sumOf := TOK.of tkX11_sumOf
set_option maxRecDepth 20000 in
theorem okX11_sumOf : OKm mX11_sumOf := ⟨tm 1392 rfl, tm 12 rfl, ⟨by decide, by decide⟩, by decide⟩
set_option maxRecDepth 20000 in
theorem inX11_sumOf : Cond.instanceMethod (mY mX11_sumOf) ∈ TB := tm 1391 rfl
set_option maxRecDepth 20000 in
theorem seX11_sumOf : Cond.selects (mY mX11_sumOf).cls (mY mX11_sumOf) (mY mX11_sumOf) ∈ TB := tbm (List.mem_append_left _ (by decide +kernel)) rfl
theorem tokX11_termOf : TOK mX11_termOf := TOK.of tkX11_termOf
set_option maxRecDepth 20000 in
theorem okX11_termOf : OKm mX11_termOf := ⟨tm 1396 rfl, tm 12 rfl, ⟨by decide, by decide⟩, by decide⟩
set_option maxRecDepth 20000 in
theorem inX11_termOf : Cond.instanceMethod (mY mX11_termOf) ∈ TB := tm 1395 rfl
set_option maxRecDepth 20000 in
theorem seX11_termOf : Cond.selects (mY mX11_termOf).cls (mY mX11_termOf) (mY mX11_termOf) ∈ TB := tbm (List.mem_append_left _ (by decide +kernel)) rfl
theorem tokX11_partOf : TOK mX11_partOf := TOK.of tkX11_partOf
set_option maxRecDepth 20000 in
theorem okX11_partOf : OKm mX11_partOf := ⟨tm 1400 rfl, tm 12 rfl, ⟨by decide, by decide⟩, by decide⟩
set_option maxRecDepth 20000 in
theorem inX11_partOf : Cond.instanceMethod (mY mX11_partOf) ∈ TB := tm 1399 rfl
set_option maxRecDepth 20000 in
theorem seX11_partOf : Cond.selects (mY mX11_partOf).cls (mY mX11_partOf) (mY mX11_partOf) ∈ TB := tbm (List.mem_append_left _ (by decide +kernel)) rfl
theorem tokX11_wholeMany : TOK mX11_wholeMany := TOK.of tkX11_wholeMany
set_option maxRecDepth 20000 in
theorem okX11_wholeMany : OKm mX11_wholeMany := ⟨tm 1415 rfl, tm 12 rfl, ⟨by decide, by decide⟩, by decide⟩
set_option maxRecDepth 20000 in
theorem inX11_wholeMany : Cond.instanceMethod (mY mX11_wholeMany) ∈ TB := tm 1414 rfl
set_option maxRecDepth 20000 in
theorem seX11_wholeMany : Cond.selects (mY mX11_wholeMany).cls (mY mX11_wholeMany) (mY mX11_wholeMany) ∈ TB := tbm (List.mem_append_left _ (by decide +kernel)) rfl
theorem tokX11_orderValue : TOK mX11_orderValue := TOK.of tkX11_orderValue
set_option maxRecDepth 20000 in
theorem okX11_orderValue : OKm mX11_orderValue := ⟨tm 1411 rfl, tm 12 rfl, ⟨by decide, by decide⟩, by decide⟩
set_option maxRecDepth 20000 in
theorem inX11_orderValue : Cond.instanceMethod (mY mX11_orderValue) ∈ TB := tm 1410 rfl
set_option maxRecDepth 20000 in
theorem seX11_orderValue : Cond.selects (mY mX11_orderValue).cls (mY mX11_orderValue) (mY mX11_orderValue) ∈ TB := tbm (List.mem_append_left _ (by decide +kernel)) rfl
theorem tokX11_testOf : TOK mX11_testOf := TOK.of tkX11_testOf
set_option maxRecDepth 20000 in
theorem okX11_testOf : OKm mX11_testOf := ⟨tm 1425 rfl, tm 12 rfl, ⟨by decide, by decide⟩, by decide⟩
set_option maxRecDepth 20000 in
theorem inX11_testOf : Cond.instanceMethod (mY mX11_testOf) ∈ TB := tm 1424 rfl
set_option maxRecDepth 20000 in
theorem seX11_testOf : Cond.selects (mY mX11_testOf).cls (mY mX11_testOf) (mY mX11_testOf) ∈ TB := tbm (List.mem_append_left _ (by decide +kernel)) rfl
theorem tokX11_bothOf : TOK mX11_bothOf := TOK.of tkX11_bothOf
set_option maxRecDepth 20000 in
theorem okX11_bothOf : OKm mX11_bothOf := ⟨tm 1429 rfl, tm 12 rfl, ⟨by decide, by decide⟩, by decide⟩
set_option maxRecDepth 20000 in
theorem inX11_bothOf : Cond.instanceMethod (mY mX11_bothOf) ∈ TB := tm 1428 rfl
set_option maxRecDepth 20000 in
theorem seX11_bothOf : Cond.selects (mY mX11_bothOf).cls (mY mX11_bothOf) (mY mX11_bothOf) ∈ TB := tbm (List.mem_append_left _ (by decide +kernel)) rfl
theorem tokX11_plainOf : TOK mX11_plainOf := TOK.of tkX11_plainOf
set_option maxRecDepth 20000 in
theorem okX11_plainOf : OKm mX11_plainOf := ⟨tm 1433 rfl, tm 12 rfl, ⟨by decide, by decide⟩, by decide⟩
set_option maxRecDepth 20000 in
theorem inX11_plainOf : Cond.instanceMethod (mY mX11_plainOf) ∈ TB := tm 1432 rfl
set_option maxRecDepth 20000 in
theorem seX11_plainOf : Cond.selects (mY mX11_plainOf).cls (mY mX11_plainOf) (mY mX11_plainOf) ∈ TB := tbm (List.mem_append_left _ (by decide +kernel)) rfl
theorem tokX11_positiveOf : TOK mX11_positiveOf := TOK.of tkX11_positiveOf
set_option maxRecDepth 20000 in
theorem okX11_positiveOf : OKm mX11_positiveOf := ⟨tm 1437 rfl, tm 12 rfl, ⟨by decide, by decide⟩, by decide⟩
set_option maxRecDepth 20000 in
theorem inX11_positiveOf : Cond.instanceMethod (mY mX11_positiveOf) ∈ TB := tm 1436 rfl
set_option maxRecDepth 20000 in
theorem seX11_positiveOf : Cond.selects (mY mX11_positiveOf).cls (mY mX11_positiveOf) (mY mX11_positiveOf) ∈ TB := tbm (List.mem_append_left _ (by decide +kernel)) rfl
theorem tokX11_setsAsked : TOK mX11_setsAsked := TOK.of tkX11_setsAsked
set_option maxRecDepth 20000 in
theorem okX11_setsAsked : OKm mX11_setsAsked := ⟨tm 1376 rfl, tm 12 rfl, ⟨by decide, by decide⟩, by decide⟩
set_option maxRecDepth 20000 in
theorem inX11_setsAsked : Cond.instanceMethod (mY mX11_setsAsked) ∈ TB := tm 1375 rfl
set_option maxRecDepth 20000 in
theorem seX11_setsAsked : Cond.selects (mY mX11_setsAsked).cls (mY mX11_setsAsked) (mY mX11_setsAsked) ∈ TB := tbm (List.mem_append_left _ (by decide +kernel)) rfl
theorem tokX11_setsGate : TOK mX11_setsGate := TOK.of tkX11_setsGate
set_option maxRecDepth 20000 in
theorem okX11_setsGate : OKm mX11_setsGate := ⟨tm 1372 rfl, tm 12 rfl, ⟨by decide, by decide⟩, by decide⟩
set_option maxRecDepth 20000 in
theorem inX11_setsGate : Cond.instanceMethod (mY mX11_setsGate) ∈ TB := tm 1371 rfl
set_option maxRecDepth 20000 in
theorem seX11_setsGate : Cond.selects (mY mX11_setsGate).cls (mY mX11_setsGate) (mY mX11_setsGate) ∈ TB := tbm (List.mem_append_left _ (by decide +kernel)) rfl
theorem tokX11_tells : TOK mX11_tells := TOK.of tkX11_tells
set_option maxRecDepth 20000 in
theorem okX11_tells : OKm mX11_tells := ⟨tm 1384 rfl, tm 12 rfl, ⟨by decide, by decide⟩, by decide⟩
set_option maxRecDepth 20000 in
theorem inX11_tells : Cond.instanceMethod (mY mX11_tells) ∈ TB := tm 1383 rfl
set_option maxRecDepth 20000 in
theorem seX11_tells : Cond.selects (mY mX11_tells).cls (mY mX11_tells) (mY mX11_tells) ∈ TB := tbm (List.mem_append_left _ (by decide +kernel)) rfl
theorem tokX11_turnsNow : TOK mX11_turnsNow := TOK.of tkX11_turnsNow
set_option maxRecDepth 20000 in
theorem okX11_turnsNow : OKm mX11_turnsNow := ⟨tm 1445 rfl, tm 12 rfl, ⟨by decide, by decide⟩, by decide⟩
set_option maxRecDepth 20000 in
theorem inX11_turnsNow : Cond.instanceMethod (mY mX11_turnsNow) ∈ TB := tm 1444 rfl
set_option maxRecDepth 20000 in
theorem seX11_turnsNow : Cond.selects (mY mX11_turnsNow).cls (mY mX11_turnsNow) (mY mX11_turnsNow) ∈ TB := tbm (List.mem_append_left _ (by decide +kernel)) rfl
theorem tokX11_paysNow : TOK mX11_paysNow := TOK.of tkX11_paysNow
set_option maxRecDepth 20000 in
theorem okX11_paysNow : OKm mX11_paysNow := ⟨tm 1452 rfl, tm 12 rfl, ⟨by decide, by decide⟩, by decide⟩
set_option maxRecDepth 20000 in
theorem inX11_paysNow : Cond.instanceMethod (mY mX11_paysNow) ∈ TB := tm 1451 rfl
set_option maxRecDepth 20000 in
theorem seX11_paysNow : Cond.selects (mY mX11_paysNow).cls (mY mX11_paysNow) (mY mX11_paysNow) ∈ TB := tbm (List.mem_append_left _ (by decide +kernel)) rfl
theorem tokX11_isBarredNow : TOK mX11_isBarredNow := TOK.of tkX11_isBarredNow
set_option maxRecDepth 20000 in
theorem okX11_isBarredNow : OKm mX11_isBarredNow := ⟨tm 1380 rfl, tm 12 rfl, ⟨by decide, by decide⟩, by decide⟩
set_option maxRecDepth 20000 in
theorem inX11_isBarredNow : Cond.instanceMethod (mY mX11_isBarredNow) ∈ TB := tm 1379 rfl
set_option maxRecDepth 20000 in
theorem seX11_isBarredNow : Cond.selects (mY mX11_isBarredNow).cls (mY mX11_isBarredNow) (mY mX11_isBarredNow) ∈ TB := tbm (List.mem_append_left _ (by decide +kernel)) rfl
theorem tokX11_canGo : TOK mX11_canGo := TOK.of tkX11_canGo
set_option maxRecDepth 20000 in
theorem okX11_canGo : OKm mX11_canGo := ⟨tm 1368 rfl, tm 12 rfl, ⟨by decide, by decide⟩, by decide⟩
set_option maxRecDepth 20000 in
theorem inX11_canGo : Cond.instanceMethod (mY mX11_canGo) ∈ TB := tm 1367 rfl
set_option maxRecDepth 20000 in
theorem seX11_canGo : Cond.selects (mY mX11_canGo).cls (mY mX11_canGo) (mY mX11_canGo) ∈ TB := tbm (List.mem_append_left _ (by decide +kernel)) rfl
theorem tokX11_goesNow : TOK mX11_goesNow := TOK.of tkX11_goesNow
set_option maxRecDepth 20000 in
theorem okX11_goesNow : OKm mX11_goesNow := ⟨tm 1605 rfl, tm 12 rfl, ⟨by decide, by decide⟩, by decide⟩
set_option maxRecDepth 20000 in
theorem inX11_goesNow : Cond.instanceMethod (mY mX11_goesNow) ∈ TB := tm 1604 rfl
set_option maxRecDepth 20000 in
theorem seX11_goesNow : Cond.selects (mY mX11_goesNow).cls (mY mX11_goesNow) (mY mX11_goesNow) ∈ TB := tbm (List.mem_append_left _ (by decide +kernel)) rfl
theorem tokX11_keeps : TOK mX11_keeps := TOK.of tkX11_keeps
set_option maxRecDepth 20000 in
theorem okX11_keeps : OKm mX11_keeps := ⟨tm 1601 rfl, tm 12 rfl, ⟨by decide, by decide⟩, by decide⟩
set_option maxRecDepth 20000 in
theorem inX11_keeps : Cond.instanceMethod (mY mX11_keeps) ∈ TB := tm 1600 rfl
set_option maxRecDepth 20000 in
theorem seX11_keeps : Cond.selects (mY mX11_keeps).cls (mY mX11_keeps) (mY mX11_keeps) ∈ TB := tbm (List.mem_append_left _ (by decide +kernel)) rfl
theorem tokX11_undo : TOK mX11_undo := TOK.of tkX11_undo
set_option maxRecDepth 20000 in
theorem okX11_undo : OKm mX11_undo := ⟨tm 1589 rfl, tm 12 rfl, ⟨by decide, by decide⟩, by decide⟩
set_option maxRecDepth 20000 in
theorem inX11_undo : Cond.instanceMethod (mY mX11_undo) ∈ TB := tm 1587 rfl
set_option maxRecDepth 20000 in
theorem seX11_undo : Cond.selects (mY mX11_undo).cls (mY mX11_undo) (mY mX11_undo) ∈ TB := tm 1588 rfl
theorem tokX11_goodOr : TOK mX11_goodOr := TOK.of tkX11_goodOr
set_option maxRecDepth 20000 in
theorem okX11_goodOr : OKm mX11_goodOr := ⟨tm 1612 rfl, tm 12 rfl, ⟨by decide, by decide⟩, by decide⟩
set_option maxRecDepth 20000 in
theorem inX11_goodOr : Cond.instanceMethod (mY mX11_goodOr) ∈ TB := tm 1611 rfl
set_option maxRecDepth 20000 in
theorem seX11_goodOr : Cond.selects (mY mX11_goodOr).cls (mY mX11_goodOr) (mY mX11_goodOr) ∈ TB := tbm (List.mem_append_left _ (by decide +kernel)) rfl
theorem tokX11_goesKept : TOK mX11_goesKept := TOK.of tkX11_goesKept
set_option maxRecDepth 20000 in
theorem okX11_goesKept : OKm mX11_goesKept := ⟨tm 1597 rfl, tm 12 rfl, ⟨by decide, by decide⟩, by decide⟩
set_option maxRecDepth 20000 in
theorem inX11_goesKept : Cond.instanceMethod (mY mX11_goesKept) ∈ TB := tm 1596 rfl
set_option maxRecDepth 20000 in
theorem seX11_goesKept : Cond.selects (mY mX11_goesKept).cls (mY mX11_goesKept) (mY mX11_goesKept) ∈ TB := tbm (List.mem_append_left _ (by decide +kernel)) rfl
theorem tokX11_latchesKept : TOK mX11_latchesKept := TOK.of tkX11_latchesKept
set_option maxRecDepth 20000 in
theorem okX11_latchesKept : OKm mX11_latchesKept := ⟨tm 1620 rfl, tm 12 rfl, ⟨by decide, by decide⟩, by decide⟩
set_option maxRecDepth 20000 in
theorem inX11_latchesKept : Cond.instanceMethod (mY mX11_latchesKept) ∈ TB := tm 1619 rfl
set_option maxRecDepth 20000 in
theorem seX11_latchesKept : Cond.selects (mY mX11_latchesKept).cls (mY mX11_latchesKept) (mY mX11_latchesKept) ∈ TB := tbm (List.mem_append_left _ (by decide +kernel)) rfl
theorem tokX11_setsKept : TOK mX11_setsKept := TOK.of tkX11_setsKept
set_option maxRecDepth 20000 in
theorem okX11_setsKept : OKm mX11_setsKept := ⟨tm 1628 rfl, tm 12 rfl, ⟨by decide, by decide⟩, by decide⟩
set_option maxRecDepth 20000 in
theorem inX11_setsKept : Cond.instanceMethod (mY mX11_setsKept) ∈ TB := tm 1627 rfl
set_option maxRecDepth 20000 in
theorem seX11_setsKept : Cond.selects (mY mX11_setsKept).cls (mY mX11_setsKept) (mY mX11_setsKept) ∈ TB := tbm (List.mem_append_left _ (by decide +kernel)) rfl
theorem tokX11_passesKept : TOK mX11_passesKept := TOK.of tkX11_passesKept
set_option maxRecDepth 20000 in
theorem okX11_passesKept : OKm mX11_passesKept := ⟨tm 1636 rfl, tm 12 rfl, ⟨by decide, by decide⟩, by decide⟩
set_option maxRecDepth 20000 in
theorem inX11_passesKept : Cond.instanceMethod (mY mX11_passesKept) ∈ TB := tm 1635 rfl
set_option maxRecDepth 20000 in
theorem seX11_passesKept : Cond.selects (mY mX11_passesKept).cls (mY mX11_passesKept) (mY mX11_passesKept) ∈ TB := tbm (List.mem_append_left _ (by decide +kernel)) rfl
theorem tokX11_go : TOK mX11_go := TOK.of tkX11_go
set_option maxRecDepth 20000 in
theorem okX11_go : OKm mX11_go := ⟨tm 1593 rfl, tm 12 rfl, ⟨by decide, by decide⟩, by decide⟩
set_option maxRecDepth 20000 in
theorem inX11_go : Cond.instanceMethod (mY mX11_go) ∈ TB := tm 1591 rfl
set_option maxRecDepth 20000 in
theorem seX11_go : Cond.selects (mY mX11_go).cls (mY mX11_go) (mY mX11_go) ∈ TB := tm 1592 rfl
theorem tokX11_latch : TOK mX11_latch := TOK.of tkX11_latch
set_option maxRecDepth 20000 in
theorem okX11_latch : OKm mX11_latch := ⟨tm 1616 rfl, tm 12 rfl, ⟨by decide, by decide⟩, by decide⟩
set_option maxRecDepth 20000 in
theorem inX11_latch : Cond.instanceMethod (mY mX11_latch) ∈ TB := tm 1614 rfl
set_option maxRecDepth 20000 in
theorem seX11_latch : Cond.selects (mY mX11_latch).cls (mY mX11_latch) (mY mX11_latch) ∈ TB := tm 1615 rfl
theorem tokX11_set : TOK mX11_set := TOK.of tkX11_set
set_option maxRecDepth 20000 in
theorem okX11_set : OKm mX11_set := ⟨tm 1624 rfl, tm 12 rfl, ⟨by decide, by decide⟩, by decide⟩
set_option maxRecDepth 20000 in
theorem inX11_set : Cond.instanceMethod (mY mX11_set) ∈ TB := tm 1622 rfl
set_option maxRecDepth 20000 in
theorem seX11_set : Cond.selects (mY mX11_set).cls (mY mX11_set) (mY mX11_set) ∈ TB := tm 1623 rfl
theorem tokX11_pass : TOK mX11_pass := TOK.of tkX11_pass
set_option maxRecDepth 20000 in
theorem okX11_pass : OKm mX11_pass := ⟨tm 1632 rfl, tm 12 rfl, ⟨by decide, by decide⟩, by decide⟩
set_option maxRecDepth 20000 in
theorem inX11_pass : Cond.instanceMethod (mY mX11_pass) ∈ TB := tm 1630 rfl
set_option maxRecDepth 20000 in
theorem seX11_pass : Cond.selects (mY mX11_pass).cls (mY mX11_pass) (mY mX11_pass) ∈ TB := tm 1631 rfl
theorem tokX11_laysGate : TOK mX11_laysGate := TOK.of tkX11_laysGate
set_option maxRecDepth 20000 in
theorem okX11_laysGate : OKm mX11_laysGate := ⟨tm 1651 rfl, tm 12 rfl, ⟨by decide, by decide⟩, by decide⟩
set_option maxRecDepth 20000 in
theorem inX11_laysGate : Cond.instanceMethod (mY mX11_laysGate) ∈ TB := tm 1650 rfl
set_option maxRecDepth 20000 in
theorem seX11_laysGate : Cond.selects (mY mX11_laysGate).cls (mY mX11_laysGate) (mY mX11_laysGate) ∈ TB := tbm (List.mem_append_left _ (by decide +kernel)) rfl
theorem tokX11_laysOut : TOK mX11_laysOut := TOK.of tkX11_laysOut
set_option maxRecDepth 20000 in
theorem okX11_laysOut : OKm mX11_laysOut := ⟨tm 1647 rfl, tm 12 rfl, ⟨by decide, by decide⟩, by decide⟩
set_option maxRecDepth 20000 in
theorem inX11_laysOut : Cond.instanceMethod (mY mX11_laysOut) ∈ TB := tm 1646 rfl
set_option maxRecDepth 20000 in
theorem seX11_laysOut : Cond.selects (mY mX11_laysOut).cls (mY mX11_laysOut) (mY mX11_laysOut) ∈ TB := tbm (List.mem_append_left _ (by decide +kernel)) rfl
theorem tokX11_placeOf : TOK mX11_placeOf := TOK.of tkX11_placeOf
set_option maxRecDepth 20000 in
theorem okX11_placeOf : OKm mX11_placeOf := ⟨tm 1666 rfl, tm 12 rfl, ⟨by decide, by decide⟩, by decide⟩
set_option maxRecDepth 20000 in
theorem inX11_placeOf : Cond.instanceMethod (mY mX11_placeOf) ∈ TB := tm 1665 rfl
set_option maxRecDepth 20000 in
theorem seX11_placeOf : Cond.selects (mY mX11_placeOf).cls (mY mX11_placeOf) (mY mX11_placeOf) ∈ TB := tbm (List.mem_append_left _ (by decide +kernel)) rfl
theorem tokX11_nextPlace : TOK mX11_nextPlace := TOK.of tkX11_nextPlace
set_option maxRecDepth 20000 in
theorem okX11_nextPlace : OKm mX11_nextPlace := ⟨tm 1662 rfl, tm 12 rfl, ⟨by decide, by decide⟩, by decide⟩
set_option maxRecDepth 20000 in
theorem inX11_nextPlace : Cond.instanceMethod (mY mX11_nextPlace) ∈ TB := tm 1661 rfl
set_option maxRecDepth 20000 in
theorem seX11_nextPlace : Cond.selects (mY mX11_nextPlace).cls (mY mX11_nextPlace) (mY mX11_nextPlace) ∈ TB := tbm (List.mem_append_left _ (by decide +kernel)) rfl
theorem tokX11_isGoal : TOK mX11_isGoal := TOK.of tkX11_isGoal
set_option maxRecDepth 20000 in
theorem okX11_isGoal : OKm mX11_isGoal := ⟨tm 1658 rfl, tm 12 rfl, ⟨by decide, by decide⟩, by decide⟩
set_option maxRecDepth 20000 in
theorem inX11_isGoal : Cond.static (mY mX11_isGoal) ∈ TB := tm 1657 rfl
theorem tokX11_canBeGoal : TOK mX11_canBeGoal := TOK.of tkX11_canBeGoal
set_option maxRecDepth 20000 in
theorem okX11_canBeGoal : OKm mX11_canBeGoal := ⟨tm 1643 rfl, tm 12 rfl, ⟨by decide, by decide⟩, by decide⟩
set_option maxRecDepth 20000 in
theorem inX11_canBeGoal : Cond.static (mY mX11_canBeGoal) ∈ TB := tm 1642 rfl
theorem tokX11_laysLeft : TOK mX11_laysLeft := TOK.of tkX11_laysLeft
set_option maxRecDepth 20000 in
theorem okX11_laysLeft : OKm mX11_laysLeft := ⟨tm 1655 rfl, tm 12 rfl, ⟨by decide, by decide⟩, by decide⟩
set_option maxRecDepth 20000 in
theorem inX11_laysLeft : Cond.instanceMethod (mY mX11_laysLeft) ∈ TB := tm 1654 rfl
set_option maxRecDepth 20000 in
theorem seX11_laysLeft : Cond.selects (mY mX11_laysLeft).cls (mY mX11_laysLeft) (mY mX11_laysLeft) ∈ TB := tbm (List.mem_append_left _ (by decide +kernel)) rfl
theorem tokX11_way : TOK mX11_way := TOK.of tkX11_way
set_option maxRecDepth 20000 in
theorem okX11_way : OKm mX11_way := ⟨tm 1640 rfl, tm 12 rfl, ⟨by decide, by decide⟩, by decide⟩
set_option maxRecDepth 20000 in
theorem inX11_way : Cond.instanceMethod (mY mX11_way) ∈ TB := tm 1638 rfl
set_option maxRecDepth 20000 in
theorem seX11_way : Cond.selects (mY mX11_way).cls (mY mX11_way) (mY mX11_way) ∈ TB := tm 1639 rfl
theorem tokX11_cheap : TOK mX11_cheap := TOK.of tkX11_cheap
set_option maxRecDepth 20000 in
theorem okX11_cheap : OKm mX11_cheap := ⟨tm 1670 rfl, tm 12 rfl, ⟨by decide, by decide⟩, by decide⟩
set_option maxRecDepth 20000 in
theorem inX11_cheap : Cond.instanceMethod (mY mX11_cheap) ∈ TB := tm 1668 rfl
set_option maxRecDepth 20000 in
theorem seX11_cheap : Cond.selects (mY mX11_cheap).cls (mY mX11_cheap) (mY mX11_cheap) ∈ TB := tm 1669 rfl
theorem tokX11_compare : TOK mX11_compare := TOK.of tkX11_compare
set_option maxRecDepth 20000 in
theorem okX11_compare : OKm mX11_compare := ⟨tm 1674 rfl, tm 12 rfl, ⟨by decide, by decide⟩, by decide⟩
set_option maxRecDepth 20000 in
theorem inX11_compare : Cond.instanceMethod (mY mX11_compare) ∈ TB := tm 1672 rfl
set_option maxRecDepth 20000 in
theorem seX11_compare : Cond.selects (mY mX11_compare).cls (mY mX11_compare) (mY mX11_compare) ∈ TB := tm 1673 rfl
theorem tokX11_laysGone : TOK mX11_laysGone := TOK.of tkX11_laysGone
set_option maxRecDepth 20000 in
theorem okX11_laysGone : OKm mX11_laysGone := ⟨tm 1683 rfl, tm 12 rfl, ⟨by decide, by decide⟩, by decide⟩
set_option maxRecDepth 20000 in
theorem inX11_laysGone : Cond.instanceMethod (mY mX11_laysGone) ∈ TB := tm 1682 rfl
set_option maxRecDepth 20000 in
theorem seX11_laysGone : Cond.selects (mY mX11_laysGone).cls (mY mX11_laysGone) (mY mX11_laysGone) ∈ TB := tbm (List.mem_append_left _ (by decide +kernel)) rfl
theorem tokX11_comesTo : TOK mX11_comesTo := TOK.of tkX11_comesTo
set_option maxRecDepth 20000 in
theorem okX11_comesTo : OKm mX11_comesTo := ⟨tm 1694 rfl, tm 12 rfl, ⟨by decide, by decide⟩, by decide⟩
set_option maxRecDepth 20000 in
theorem inX11_comesTo : Cond.instanceMethod (mY mX11_comesTo) ∈ TB := tm 1693 rfl
set_option maxRecDepth 20000 in
theorem seX11_comesTo : Cond.selects (mY mX11_comesTo).cls (mY mX11_comesTo) (mY mX11_comesTo) ∈ TB := tbm (List.mem_append_left _ (by decide +kernel)) rfl
theorem tokX11_manys : TOK mX11_manys := TOK.of tkX11_manys
set_option maxRecDepth 20000 in
theorem okX11_manys : OKm mX11_manys := ⟨tm 1679 rfl, tm 12 rfl, ⟨by decide, by decide⟩, by decide⟩
set_option maxRecDepth 20000 in
theorem inX11_manys : Cond.instanceMethod (mY mX11_manys) ∈ TB := tm 1677 rfl
set_option maxRecDepth 20000 in
theorem seX11_manys : Cond.selects (mY mX11_manys).cls (mY mX11_manys) (mY mX11_manys) ∈ TB := tm 1678 rfl
theorem tokX11_reach : TOK mX11_reach := TOK.of tkX11_reach
set_option maxRecDepth 20000 in
theorem okX11_reach : OKm mX11_reach := ⟨tm 1690 rfl, tm 12 rfl, ⟨by decide, by decide⟩, by decide⟩
set_option maxRecDepth 20000 in
theorem inX11_reach : Cond.instanceMethod (mY mX11_reach) ∈ TB := tm 1688 rfl
set_option maxRecDepth 20000 in
theorem seX11_reach : Cond.selects (mY mX11_reach).cls (mY mX11_reach) (mY mX11_reach) ∈ TB := tm 1689 rfl
theorem tokX11_laysParts : TOK mX11_laysParts := TOK.of tkX11_laysParts
set_option maxRecDepth 20000 in
theorem okX11_laysParts : OKm mX11_laysParts := ⟨tm 1703 rfl, tm 12 rfl, ⟨by decide, by decide⟩, by decide⟩
set_option maxRecDepth 20000 in
theorem inX11_laysParts : Cond.instanceMethod (mY mX11_laysParts) ∈ TB := tm 1702 rfl
set_option maxRecDepth 20000 in
theorem seX11_laysParts : Cond.selects (mY mX11_laysParts).cls (mY mX11_laysParts) (mY mX11_laysParts) ∈ TB := tbm (List.mem_append_left _ (by decide +kernel)) rfl
theorem tokX11_gatesFrom : TOK mX11_gatesFrom := TOK.of tkX11_gatesFrom
set_option maxRecDepth 20000 in
theorem okX11_gatesFrom : OKm mX11_gatesFrom := ⟨tm 1711 rfl, tm 12 rfl, ⟨by decide, by decide⟩, by decide⟩
set_option maxRecDepth 20000 in
theorem inX11_gatesFrom : Cond.instanceMethod (mY mX11_gatesFrom) ∈ TB := tm 1710 rfl
set_option maxRecDepth 20000 in
theorem seX11_gatesFrom : Cond.selects (mY mX11_gatesFrom).cls (mY mX11_gatesFrom) (mY mX11_gatesFrom) ∈ TB := tbm (List.mem_append_left _ (by decide +kernel)) rfl
theorem tokX11_steps : TOK mX11_steps := TOK.of tkX11_steps
set_option maxRecDepth 20000 in
theorem okX11_steps : OKm mX11_steps := ⟨tm 1707 rfl, tm 12 rfl, ⟨by decide, by decide⟩, by decide⟩
set_option maxRecDepth 20000 in
theorem inX11_steps : Cond.instanceMethod (mY mX11_steps) ∈ TB := tm 1706 rfl
set_option maxRecDepth 20000 in
theorem seX11_steps : Cond.selects (mY mX11_steps).cls (mY mX11_steps) (mY mX11_steps) ∈ TB := tbm (List.mem_append_left _ (by decide +kernel)) rfl
theorem tokX11_partsAt : TOK mX11_partsAt := TOK.of tkX11_partsAt
set_option maxRecDepth 20000 in
theorem okX11_partsAt : OKm mX11_partsAt := ⟨tm 1715 rfl, tm 12 rfl, ⟨by decide, by decide⟩, by decide⟩
set_option maxRecDepth 20000 in
theorem inX11_partsAt : Cond.instanceMethod (mY mX11_partsAt) ∈ TB := tm 1714 rfl
set_option maxRecDepth 20000 in
theorem seX11_partsAt : Cond.selects (mY mX11_partsAt).cls (mY mX11_partsAt) (mY mX11_partsAt) ∈ TB := tbm (List.mem_append_left _ (by decide +kernel)) rfl
theorem tokX11_ways : TOK mX11_ways := TOK.of tkX11_ways
set_option maxRecDepth 20000 in
theorem okX11_ways : OKm mX11_ways := ⟨tm 1698 rfl, tm 12 rfl, ⟨by decide, by decide⟩, by decide⟩
set_option maxRecDepth 20000 in
theorem inX11_ways : Cond.instanceMethod (mY mX11_ways) ∈ TB := tm 1696 rfl
set_option maxRecDepth 20000 in
theorem seX11_ways : Cond.selects (mY mX11_ways).cls (mY mX11_ways) (mY mX11_ways) ∈ TB := tm 1697 rfl
theorem tokX11_likely : TOK mX11_likely := TOK.of tkX11_likely
set_option maxRecDepth 20000 in
theorem okX11_likely : OKm mX11_likely := ⟨tm 1719 rfl, tm 12 rfl, ⟨by decide, by decide⟩, by decide⟩
set_option maxRecDepth 20000 in
theorem inX11_likely : Cond.instanceMethod (mY mX11_likely) ∈ TB := tm 1717 rfl
set_option maxRecDepth 20000 in
theorem seX11_likely : Cond.selects (mY mX11_likely).cls (mY mX11_likely) (mY mX11_likely) ∈ TB := tm 1718 rfl
theorem tokX11_again : TOK mX11_again := TOK.of tkX11_again
set_option maxRecDepth 20000 in
theorem okX11_again : OKm mX11_again := ⟨tm 1724 rfl, tm 12 rfl, ⟨by decide, by decide⟩, by decide⟩
set_option maxRecDepth 20000 in
theorem inX11_again : Cond.instanceMethod (mY mX11_again) ∈ TB := tm 1722 rfl
set_option maxRecDepth 20000 in
theorem seX11_again : Cond.selects (mY mX11_again).cls (mY mX11_again) (mY mX11_again) ∈ TB := tm 1723 rfl
theorem tokX11_hasWay : TOK mX11_hasWay := TOK.of tkX11_hasWay
set_option maxRecDepth 20000 in
theorem okX11_hasWay : OKm mX11_hasWay := ⟨tm 1732 rfl, tm 12 rfl, ⟨by decide, by decide⟩, by decide⟩
set_option maxRecDepth 20000 in
theorem inX11_hasWay : Cond.instanceMethod (mY mX11_hasWay) ∈ TB := tm 1731 rfl
set_option maxRecDepth 20000 in
theorem seX11_hasWay : Cond.selects (mY mX11_hasWay).cls (mY mX11_hasWay) (mY mX11_hasWay) ∈ TB := tbm (List.mem_append_left _ (by decide +kernel)) rfl
theorem tokX11_fixedAt : TOK mX11_fixedAt := TOK.of tkX11_fixedAt
set_option maxRecDepth 20000 in
theorem okX11_fixedAt : OKm mX11_fixedAt := ⟨tm 1736 rfl, tm 12 rfl, ⟨by decide, by decide⟩, by decide⟩
set_option maxRecDepth 20000 in
theorem inX11_fixedAt : Cond.instanceMethod (mY mX11_fixedAt) ∈ TB := tm 1735 rfl
set_option maxRecDepth 20000 in
theorem seX11_fixedAt : Cond.selects (mY mX11_fixedAt).cls (mY mX11_fixedAt) (mY mX11_fixedAt) ∈ TB := tbm (List.mem_append_left _ (by decide +kernel)) rfl
theorem tokX11_fixed : TOK mX11_fixed := TOK.of tkX11_fixed
set_option maxRecDepth 20000 in
theorem okX11_fixed : OKm mX11_fixed := ⟨tm 1728 rfl, tm 12 rfl, ⟨by decide, by decide⟩, by decide⟩
set_option maxRecDepth 20000 in
theorem inX11_fixed : Cond.instanceMethod (mY mX11_fixed) ∈ TB := tm 1726 rfl
set_option maxRecDepth 20000 in
theorem seX11_fixed : Cond.selects (mY mX11_fixed).cls (mY mX11_fixed) (mY mX11_fixed) ∈ TB := tm 1727 rfl
theorem tokX11_cut : TOK mX11_cut := TOK.of tkX11_cut
set_option maxRecDepth 20000 in
theorem okX11_cut : OKm mX11_cut := ⟨tm 1740 rfl, tm 12 rfl, ⟨by decide, by decide⟩, by decide⟩
set_option maxRecDepth 20000 in
theorem inX11_cut : Cond.instanceMethod (mY mX11_cut) ∈ TB := tm 1738 rfl
set_option maxRecDepth 20000 in
theorem seX11_cut : Cond.selects (mY mX11_cut).cls (mY mX11_cut) (mY mX11_cut) ∈ TB := tm 1739 rfl
theorem tokX11_meet : TOK mX11_meet := TOK.of tkX11_meet
set_option maxRecDepth 20000 in
theorem okX11_meet : OKm mX11_meet := ⟨tm 1747 rfl, tm 12 rfl, ⟨by decide, by decide⟩, by decide⟩
set_option maxRecDepth 20000 in
theorem inX11_meet : Cond.instanceMethod (mY mX11_meet) ∈ TB := tm 1745 rfl
set_option maxRecDepth 20000 in
theorem seX11_meet : Cond.selects (mY mX11_meet).cls (mY mX11_meet) (mY mX11_meet) ∈ TB := tm 1746 rfl
theorem tokX11_seen : TOK mX11_seen := TOK.of tkX11_seen
set_option maxRecDepth 20000 in
theorem okX11_seen : OKm mX11_seen := ⟨tm 1751 rfl, tm 12 rfl, ⟨by decide, by decide⟩, by decide⟩
set_option maxRecDepth 20000 in
theorem inX11_seen : Cond.instanceMethod (mY mX11_seen) ∈ TB := tm 1749 rfl
set_option maxRecDepth 20000 in
theorem seX11_seen : Cond.selects (mY mX11_seen).cls (mY mX11_seen) (mY mX11_seen) ∈ TB := tm 1750 rfl
theorem tokX11_forget : TOK mX11_forget := TOK.of tkX11_forget
set_option maxRecDepth 20000 in
theorem okX11_forget : OKm mX11_forget := ⟨tm 1755 rfl, tm 12 rfl, ⟨by decide, by decide⟩, by decide⟩
set_option maxRecDepth 20000 in
theorem inX11_forget : Cond.instanceMethod (mY mX11_forget) ∈ TB := tm 1753 rfl
set_option maxRecDepth 20000 in
theorem seX11_forget : Cond.selects (mY mX11_forget).cls (mY mX11_forget) (mY mX11_forget) ∈ TB := tm 1754 rfl
theorem tokX11_outOf : TOK mX11_outOf := TOK.of tkX11_outOf
set_option maxRecDepth 20000 in
theorem okX11_outOf : OKm mX11_outOf := ⟨tm 1767 rfl, tm 12 rfl, ⟨by decide, by decide⟩, by decide⟩
set_option maxRecDepth 20000 in
theorem inX11_outOf : Cond.instanceMethod (mY mX11_outOf) ∈ TB := tm 1766 rfl
set_option maxRecDepth 20000 in
theorem seX11_outOf : Cond.selects (mY mX11_outOf).cls (mY mX11_outOf) (mY mX11_outOf) ∈ TB := tbm (List.mem_append_left _ (by decide +kernel)) rfl
theorem tokX11_canBeKind : TOK mX11_canBeKind := TOK.of tkX11_canBeKind
set_option maxRecDepth 20000 in
theorem okX11_canBeKind : OKm mX11_canBeKind := ⟨tm 1763 rfl, tm 12 rfl, ⟨by decide, by decide⟩, by decide⟩
set_option maxRecDepth 20000 in
theorem inX11_canBeKind : Cond.instanceMethod (mY mX11_canBeKind) ∈ TB := tm 1762 rfl
set_option maxRecDepth 20000 in
theorem seX11_canBeKind : Cond.selects (mY mX11_canBeKind).cls (mY mX11_canBeKind) (mY mX11_canBeKind) ∈ TB := tbm (List.mem_append_left _ (by decide +kernel)) rfl
theorem tokX11_kinds : TOK mX11_kinds := TOK.of tkX11_kinds
set_option maxRecDepth 20000 in
theorem okX11_kinds : OKm mX11_kinds := ⟨tm 1759 rfl, tm 12 rfl, ⟨by decide, by decide⟩, by decide⟩
set_option maxRecDepth 20000 in
theorem inX11_kinds : Cond.instanceMethod (mY mX11_kinds) ∈ TB := tm 1757 rfl
set_option maxRecDepth 20000 in
theorem seX11_kinds : Cond.selects (mY mX11_kinds).cls (mY mX11_kinds) (mY mX11_kinds) ∈ TB := tm 1758 rfl
theorem tokX11_mostAlike : TOK mX11_mostAlike := TOK.of tkX11_mostAlike
set_option maxRecDepth 20000 in
theorem okX11_mostAlike : OKm mX11_mostAlike := ⟨tm 1776 rfl, tm 12 rfl, ⟨by decide, by decide⟩, by decide⟩
set_option maxRecDepth 20000 in
theorem inX11_mostAlike : Cond.instanceMethod (mY mX11_mostAlike) ∈ TB := tm 1775 rfl
set_option maxRecDepth 20000 in
theorem seX11_mostAlike : Cond.selects (mY mX11_mostAlike).cls (mY mX11_mostAlike) (mY mX11_mostAlike) ∈ TB := tbm (List.mem_append_left _ (by decide +kernel)) rfl
theorem tokX11_ask : TOK mX11_ask := TOK.of tkX11_ask
set_option maxRecDepth 20000 in
theorem okX11_ask : OKm mX11_ask := ⟨tm 1771 rfl, tm 12 rfl, ⟨by decide, by decide⟩, by decide⟩
set_option maxRecDepth 20000 in
theorem inX11_ask : Cond.instanceMethod (mY mX11_ask) ∈ TB := tm 1769 rfl
set_option maxRecDepth 20000 in
theorem seX11_ask : Cond.selects (mY mX11_ask).cls (mY mX11_ask) (mY mX11_ask) ∈ TB := tm 1770 rfl
theorem tokX11_few : TOK mX11_few := TOK.of tkX11_few
set_option maxRecDepth 20000 in
theorem okX11_few : OKm mX11_few := ⟨tm 1780 rfl, tm 12 rfl, ⟨by decide, by decide⟩, by decide⟩
set_option maxRecDepth 20000 in
theorem inX11_few : Cond.instanceMethod (mY mX11_few) ∈ TB := tm 1778 rfl
set_option maxRecDepth 20000 in
theorem seX11_few : Cond.selects (mY mX11_few).cls (mY mX11_few) (mY mX11_few) ∈ TB := tm 1779 rfl
theorem tokX11_stopped : TOK mX11_stopped := TOK.of tkX11_stopped
set_option maxRecDepth 20000 in
theorem okX11_stopped : OKm mX11_stopped := ⟨tm 1785 rfl, tm 12 rfl, ⟨by decide, by decide⟩, by decide⟩
set_option maxRecDepth 20000 in
theorem inX11_stopped : Cond.instanceMethod (mY mX11_stopped) ∈ TB := tm 1783 rfl
set_option maxRecDepth 20000 in
theorem seX11_stopped : Cond.selects (mY mX11_stopped).cls (mY mX11_stopped) (mY mX11_stopped) ∈ TB := tm 1784 rfl
theorem tokX11_orders : TOK mX11_orders := TOK.of tkX11_orders
set_option maxRecDepth 20000 in
theorem okX11_orders : OKm mX11_orders := ⟨tm 1789 rfl, tm 12 rfl, ⟨by decide, by decide⟩, by decide⟩
set_option maxRecDepth 20000 in
theorem inX11_orders : Cond.instanceMethod (mY mX11_orders) ∈ TB := tm 1787 rfl
set_option maxRecDepth 20000 in
theorem seX11_orders : Cond.selects (mY mX11_orders).cls (mY mX11_orders) (mY mX11_orders) ∈ TB := tm 1788 rfl
theorem tokX11_goesAlong : TOK mX11_goesAlong := TOK.of tkX11_goesAlong
set_option maxRecDepth 20000 in
theorem okX11_goesAlong : OKm mX11_goesAlong := ⟨tm 1801 rfl, tm 12 rfl, ⟨by decide, by decide⟩, by decide⟩
set_option maxRecDepth 20000 in
theorem inX11_goesAlong : Cond.instanceMethod (mY mX11_goesAlong) ∈ TB := tm 1800 rfl
set_option maxRecDepth 20000 in
theorem seX11_goesAlong : Cond.selects (mY mX11_goesAlong).cls (mY mX11_goesAlong) (mY mX11_goesAlong) ∈ TB := tbm (List.mem_append_left _ (by decide +kernel)) rfl
theorem tokX11_small : TOK mX11_small := TOK.of tkX11_small
set_option maxRecDepth 20000 in
theorem okX11_small : OKm mX11_small := ⟨tm 1808 rfl, tm 12 rfl, ⟨by decide, by decide⟩, by decide⟩
set_option maxRecDepth 20000 in
theorem inX11_small : Cond.static (mY mX11_small) ∈ TB := tm 1807 rfl
theorem tokX11_obeys : TOK mX11_obeys := TOK.of tkX11_obeys
set_option maxRecDepth 20000 in
theorem okX11_obeys : OKm mX11_obeys := ⟨tm 1805 rfl, tm 12 rfl, ⟨by decide, by decide⟩, by decide⟩
set_option maxRecDepth 20000 in
theorem inX11_obeys : Cond.instanceMethod (mY mX11_obeys) ∈ TB := tm 1804 rfl
set_option maxRecDepth 20000 in
theorem seX11_obeys : Cond.selects (mY mX11_obeys).cls (mY mX11_obeys) (mY mX11_obeys) ∈ TB := tbm (List.mem_append_left _ (by decide +kernel)) rfl
theorem tokX11_runs : TOK mX11_runs := TOK.of tkX11_runs
set_option maxRecDepth 20000 in
theorem okX11_runs : OKm mX11_runs := ⟨tm 1797 rfl, tm 12 rfl, ⟨by decide, by decide⟩, by decide⟩
set_option maxRecDepth 20000 in
theorem inX11_runs : Cond.instanceMethod (mY mX11_runs) ∈ TB := tm 1796 rfl
set_option maxRecDepth 20000 in
theorem seX11_runs : Cond.selects (mY mX11_runs).cls (mY mX11_runs) (mY mX11_runs) ∈ TB := tbm (List.mem_append_left _ (by decide +kernel)) rfl
theorem tokX11_draws : TOK mX11_draws := TOK.of tkX11_draws
set_option maxRecDepth 20000 in
theorem okX11_draws : OKm mX11_draws := ⟨tm 1821 rfl, tm 12 rfl, ⟨by decide, by decide⟩, by decide⟩
set_option maxRecDepth 20000 in
theorem inX11_draws : Cond.instanceMethod (mY mX11_draws) ∈ TB := tm 1820 rfl
set_option maxRecDepth 20000 in
theorem seX11_draws : Cond.selects (mY mX11_draws).cls (mY mX11_draws) (mY mX11_draws) ∈ TB := tbm (List.mem_append_left _ (by decide +kernel)) rfl
theorem tokX11_days : TOK mX11_days := TOK.of tkX11_days
set_option maxRecDepth 20000 in
theorem okX11_days : OKm mX11_days := ⟨tm 1817 rfl, tm 12 rfl, ⟨by decide, by decide⟩, by decide⟩
set_option maxRecDepth 20000 in
theorem inX11_days : Cond.instanceMethod (mY mX11_days) ∈ TB := tm 1815 rfl
set_option maxRecDepth 20000 in
theorem seX11_days : Cond.selects (mY mX11_days).cls (mY mX11_days) (mY mX11_days) ∈ TB := tm 1816 rfl
theorem tokX11_drawn : TOK mX11_drawn := TOK.of tkX11_drawn
set_option maxRecDepth 20000 in
theorem okX11_drawn : OKm mX11_drawn := ⟨tm 1828 rfl, tm 12 rfl, ⟨by decide, by decide⟩, by decide⟩
set_option maxRecDepth 20000 in
theorem inX11_drawn : Cond.instanceMethod (mY mX11_drawn) ∈ TB := tm 1826 rfl
set_option maxRecDepth 20000 in
theorem seX11_drawn : Cond.selects (mY mX11_drawn).cls (mY mX11_drawn) (mY mX11_drawn) ∈ TB := tm 1827 rfl
theorem tokX11_allMany : TOK mX11_allMany := TOK.of tkX11_allMany
set_option maxRecDepth 20000 in
theorem okX11_allMany : OKm mX11_allMany := ⟨tm 1836 rfl, tm 12 rfl, ⟨by decide, by decide⟩, by decide⟩
set_option maxRecDepth 20000 in
theorem inX11_allMany : Cond.instanceMethod (mY mX11_allMany) ∈ TB := tm 1835 rfl
set_option maxRecDepth 20000 in
theorem seX11_allMany : Cond.selects (mY mX11_allMany).cls (mY mX11_allMany) (mY mX11_allMany) ∈ TB := tbm (List.mem_append_left _ (by decide +kernel)) rfl
theorem tokX11_count : TOK mX11_count := TOK.of tkX11_count
set_option maxRecDepth 20000 in
theorem okX11_count : OKm mX11_count := ⟨tm 1832 rfl, tm 12 rfl, ⟨by decide, by decide⟩, by decide⟩
set_option maxRecDepth 20000 in
theorem inX11_count : Cond.instanceMethod (mY mX11_count) ∈ TB := tm 1830 rfl
set_option maxRecDepth 20000 in
theorem seX11_count : Cond.selects (mY mX11_count).cls (mY mX11_count) (mY mX11_count) ∈ TB := tm 1831 rfl
theorem tokX11_status : TOK mX11_status := TOK.of tkX11_status
set_option maxRecDepth 20000 in
theorem okX11_status : OKm mX11_status := ⟨tm 1840 rfl, tm 12 rfl, ⟨by decide, by decide⟩, by decide⟩
set_option maxRecDepth 20000 in
theorem inX11_status : Cond.instanceMethod (mY mX11_status) ∈ TB := tm 1838 rfl
set_option maxRecDepth 20000 in
theorem seX11_status : Cond.selects (mY mX11_status).cls (mY mX11_status) (mY mX11_status) ∈ TB := tm 1839 rfl
theorem tokJ6_bitCount_0f7a4 : TOK mJ6_bitCount_0f7a4 := TOK.of tkJ6_bitCount_0f7a4
set_option maxRecDepth 20000 in
theorem okJ6_bitCount_0f7a4 : OKm mJ6_bitCount_0f7a4 := ⟨tm 993 rfl, tm 20 rfl, ⟨by decide, by decide⟩, by decide⟩
set_option maxRecDepth 20000 in
theorem inJ6_bitCount_0f7a4 : Cond.static (mY mJ6_bitCount_0f7a4) ∈ TB := tm 992 rfl
theorem tokJ0_length_8abf5 : TOK mJ0_length_8abf5 := TOK.of tkJ0_length_8abf5
set_option maxRecDepth 20000 in
theorem okJ0_length_8abf5 : OKm mJ0_length_8abf5 := ⟨tm 624 rfl, tm 14 rfl, ⟨by decide, by decide⟩, by decide⟩
set_option maxRecDepth 20000 in
theorem inJ0_length_8abf5 : Cond.instanceMethod (mY mJ0_length_8abf5) ∈ TB := tm 622 rfl
set_option maxRecDepth 20000 in
theorem seJ0_length_8abf5 : Cond.selects (mY mJ0_length_8abf5).cls (mY mJ0_length_8abf5) (mY mJ0_length_8abf5) ∈ TB := tm 623 rfl
theorem tokJ0_charAt_5068e : TOK mJ0_charAt_5068e := TOK.of tkJ0_charAt_5068e
set_option maxRecDepth 20000 in
theorem okJ0_charAt_5068e : OKm mJ0_charAt_5068e := ⟨tm 634 rfl, tm 14 rfl, ⟨by decide, by decide⟩, by decide⟩
set_option maxRecDepth 20000 in
theorem inJ0_charAt_5068e : Cond.instanceMethod (mY mJ0_charAt_5068e) ∈ TB := tm 632 rfl
set_option maxRecDepth 20000 in
theorem seJ0_charAt_5068e : Cond.selects (mY mJ0_charAt_5068e).cls (mY mJ0_charAt_5068e) (mY mJ0_charAt_5068e) ∈ TB := tm 633 rfl
theorem tokJ0_coder_7d493 : TOK mJ0_coder_7d493 := TOK.of tkJ0_coder_7d493
set_option maxRecDepth 20000 in
theorem okJ0_coder_7d493 : OKm mJ0_coder_7d493 := ⟨tm 628 rfl, tm 14 rfl, ⟨by decide, by decide⟩, by decide⟩
set_option maxRecDepth 20000 in
theorem inJ0_coder_7d493 : Cond.instanceMethod (mY mJ0_coder_7d493) ∈ TB := tm 626 rfl
set_option maxRecDepth 20000 in
theorem seJ0_coder_7d493 : Cond.selects (mY mJ0_coder_7d493).cls (mY mJ0_coder_7d493) (mY mJ0_coder_7d493) ∈ TB := tm 627 rfl
theorem tokJ0_isLatin1_aae02 : TOK mJ0_isLatin1_aae02 := TOK.of tkJ0_isLatin1_aae02
set_option maxRecDepth 20000 in
theorem okJ0_isLatin1_aae02 : OKm mJ0_isLatin1_aae02 := ⟨tm 638 rfl, tm 14 rfl, ⟨by decide, by decide⟩, by decide⟩
set_option maxRecDepth 20000 in
theorem inJ0_isLatin1_aae02 : Cond.instanceMethod (mY mJ0_isLatin1_aae02) ∈ TB := tm 636 rfl
set_option maxRecDepth 20000 in
theorem seJ0_isLatin1_aae02 : Cond.selects (mY mJ0_isLatin1_aae02).cls (mY mJ0_isLatin1_aae02) (mY mJ0_isLatin1_aae02) ∈ TB := tm 637 rfl
theorem tokJ0_checkIndex_df160 : TOK mJ0_checkIndex_df160 := TOK.of tkJ0_checkIndex_df160
set_option maxRecDepth 20000 in
theorem okJ0_checkIndex_df160 : OKm mJ0_checkIndex_df160 := ⟨tm 644 rfl, tm 14 rfl, ⟨by decide, by decide⟩, by decide⟩
set_option maxRecDepth 20000 in
theorem inJ0_checkIndex_df160 : Cond.static (mY mJ0_checkIndex_df160) ∈ TB := tm 643 rfl
theorem tokJ1_charAt_3b067 : TOK mJ1_charAt_3b067 := TOK.of tkJ1_charAt_3b067
set_option maxRecDepth 20000 in
theorem okJ1_charAt_3b067 : OKm mJ1_charAt_3b067 := ⟨tm 641 rfl, tm 15 rfl, ⟨by decide, by decide⟩, by decide⟩
set_option maxRecDepth 20000 in
theorem inJ1_charAt_3b067 : Cond.static (mY mJ1_charAt_3b067) ∈ TB := tm 640 rfl
theorem tokJ7_fill_d0a16 : TOK mJ7_fill_d0a16 := TOK.of tkJ7_fill_d0a16
set_option maxRecDepth 20000 in
theorem okJ7_fill_d0a16 : OKm mJ7_fill_d0a16 := ⟨tm 947 rfl, tm 19 rfl, ⟨by decide, by decide⟩, by decide⟩
set_option maxRecDepth 20000 in
theorem inJ7_fill_d0a16 : Cond.static (mY mJ7_fill_d0a16) ∈ TB := tm 946 rfl
theorem tokJ7_fill_53178 : TOK mJ7_fill_53178 := TOK.of tkJ7_fill_53178
set_option maxRecDepth 20000 in
theorem okJ7_fill_53178 : OKm mJ7_fill_53178 := ⟨tm 874 rfl, tm 19 rfl, ⟨by decide, by decide⟩, by decide⟩
set_option maxRecDepth 20000 in
theorem inJ7_fill_53178 : Cond.static (mY mJ7_fill_53178) ∈ TB := tm 873 rfl
theorem tokJ3_checkIndex_8e157 : TOK mJ3_checkIndex_8e157 := TOK.of tkJ3_checkIndex_8e157
set_option maxRecDepth 20000 in
theorem okJ3_checkIndex_8e157 : OKm mJ3_checkIndex_8e157 := ⟨tm 649 rfl, tm 16 rfl, ⟨by decide, by decide⟩, by decide⟩
set_option maxRecDepth 20000 in
theorem inJ3_checkIndex_8e157 : Cond.static (mY mJ3_checkIndex_8e157) ∈ TB := tm 648 rfl
set_option maxRecDepth 20000 in
theorem lk12_9 : Cond.methodLink (cnm 12) 9 (mY mX10_init) ∈ TB := tm 23 rfl
set_option maxRecDepth 20000 in
theorem lk10_3 : Cond.methodLink (cnm 10) 3 objectInit ∈ TB := tm 26 rfl
set_option maxRecDepth 20000 in
theorem lk10_11 : Cond.methodLinkNest (cnm 10) 11 yX7_init "CountGates" ∈ NW := by decide +kernel
set_option maxRecDepth 20000 in
theorem lk7_3 : Cond.methodLink (cnm 7) 3 objectInit ∈ TB := tm 34 rfl
set_option maxRecDepth 20000 in
theorem lk10_26 : Cond.methodLinkNest (cnm 10) 26 yX8_init "CountGates" ∈ NW := by decide +kernel
set_option maxRecDepth 20000 in
theorem lk8_3 : Cond.methodLink (cnm 8) 3 objectInit ∈ TB := tm 157 rfl
set_option maxRecDepth 20000 in
theorem lk10_33 : Cond.methodLinkNest (cnm 10) 33 yX0_init "CountGates" ∈ NW := by decide +kernel
set_option maxRecDepth 20000 in
theorem lk0_3 : Cond.methodLink (cnm 0) 3 objectInit ∈ TB := tm 173 rfl
set_option maxRecDepth 20000 in
theorem lk10_40 : Cond.methodLinkNest (cnm 10) 40 yX4_init "CountGates" ∈ NW := by decide +kernel
set_option maxRecDepth 20000 in
theorem lk4_3 : Cond.methodLink (cnm 4) 3 objectInit ∈ TB := tm 189 rfl
set_option maxRecDepth 20000 in
theorem lk4_11 : Cond.methodLink (cnm 4) 11 (mY mX9_init) ∈ TB := tm 192 rfl
set_option maxRecDepth 20000 in
theorem lk9_3 : Cond.methodLink (cnm 9) 3 objectInit ∈ TB := tm 195 rfl
set_option maxRecDepth 20000 in
theorem lk10_47 : Cond.methodLink (cnm 10) 47 (mY mX1_init) ∈ TB := tm 257 rfl
set_option maxRecDepth 20000 in
theorem lk1_3 : Cond.methodLink (cnm 1) 3 objectInit ∈ TB := tm 260 rfl
set_option maxRecDepth 20000 in
theorem lk1_21 : Cond.methodLinkNest (cnm 1) 21 yX7_init "CountGates" ∈ NW := by decide +kernel
set_option maxRecDepth 20000 in
theorem lk10_56 : Cond.methodLink (cnm 10) 56 (mY mX5_init) ∈ TB := tm 288 rfl
set_option maxRecDepth 20000 in
theorem lk5_3 : Cond.methodLink (cnm 5) 3 objectInit ∈ TB := tm 291 rfl
set_option maxRecDepth 20000 in
theorem lk10_65 : Cond.methodLink (cnm 10) 65 (mY mX6_init) ∈ TB := tm 314 rfl
set_option maxRecDepth 20000 in
theorem lk6_3 : Cond.methodLink (cnm 6) 3 objectInit ∈ TB := tm 317 rfl
set_option maxRecDepth 20000 in
theorem lk6_11 : Cond.methodLinkNest (cnm 6) 11 yX7_init "CountGates" ∈ NW := by decide +kernel
set_option maxRecDepth 20000 in
theorem lk10_74 : Cond.methodLink (cnm 10) 74 (mY mX3_init) ∈ TB := tm 363 rfl
set_option maxRecDepth 20000 in
theorem lk3_3 : Cond.methodLink (cnm 3) 3 objectInit ∈ TB := tm 366 rfl
set_option maxRecDepth 20000 in
theorem lk10_81 : Cond.methodLink (cnm 10) 81 (mY mX2_init) ∈ TB := tm 379 rfl
set_option maxRecDepth 20000 in
theorem lk2_3 : Cond.methodLink (cnm 2) 3 objectInit ∈ TB := tm 382 rfl
set_option maxRecDepth 20000 in
theorem lk2_11 : Cond.methodLinkNest (cnm 2) 11 yX7_init "CountGates" ∈ NW := by decide +kernel
set_option maxRecDepth 20000 in
theorem lk12_13 : Cond.methodLink (cnm 12) 13 (mY mX10_gate) ∈ TB := tm 444 rfl
set_option maxRecDepth 20000 in
theorem lk10_103 : Cond.methodLink (cnm 10) 103 (mY mX7_addGate) ∈ TB := tm 448 rfl
set_option maxRecDepth 20000 in
theorem lk7_78 : Cond.methodLinkNest (cnm 7) 78 yX10_within "CountGates" ∈ NW := by decide +kernel
set_option maxRecDepth 20000 in
theorem lk10_107 : Cond.methodLink (cnm 10) 107 (mY mX10_toldAnew) ∈ TB := tm 455 rfl
set_option maxRecDepth 20000 in
theorem lk10_178 : Cond.methodLink (cnm 10) 178 (mY mX10_told) ∈ TB := tm 459 rfl
set_option maxRecDepth 20000 in
theorem lk12_18 : Cond.methodLink (cnm 12) 18 (mY mX10_at) ∈ TB := tm 466 rfl
set_option maxRecDepth 20000 in
theorem lk10_111 : Cond.methodLink (cnm 10) 111 (mY mX7_hasGate) ∈ TB := tm 470 rfl
set_option maxRecDepth 20000 in
theorem lk12_23 : Cond.methodLink (cnm 12) 23 (mY mX10_goer) ∈ TB := tm 474 rfl
end WORDS
end
section
section WORDS
set_option maxRecDepth 20000 in
theorem lk10_130 : Cond.methodLink (cnm 10) 130 (mY mX7_addGoer) ∈ TB := tm 478 rfl
set_option maxRecDepth 20000 in
theorem lk12_28 : Cond.methodLink (cnm 12) 28 (mY mX10_of) ∈ TB := tm 482 rfl
set_option maxRecDepth 20000 in
theorem lk10_134 : Cond.methodLink (cnm 10) 134 (mY mX7_hasGoer) ∈ TB := tm 486 rfl
set_option maxRecDepth 20000 in
theorem lk10_149 : Cond.methodLink (cnm 10) 149 (mY mX0_canBits) ∈ TB := tm 490 rfl
set_option maxRecDepth 20000 in
theorem lk0_93 : Cond.methodLink (cnm 0) 93 (mY mX0_can) ∈ TB := tm 494 rfl
set_option maxRecDepth 20000 in
theorem lk0_83 : Cond.methodLink (cnm 0) 83 (mY mX0_regard) ∈ TB := tm 498 rfl
set_option maxRecDepth 20000 in
theorem lk0_29 : Cond.methodLink (cnm 0) 29 (mY mX0_regardUnknown) ∈ TB := tm 502 rfl
set_option maxRecDepth 20000 in
theorem lk0_86 : Cond.methodLink (cnm 0) 86 (mY mX0_told) ∈ TB := tm 506 rfl
set_option maxRecDepth 20000 in
theorem lk0_40 : Cond.methodLink (cnm 0) 40 (mY mX7_inForce) ∈ TB := tm 511 rfl
set_option maxRecDepth 20000 in
theorem lk7_74 : Cond.methodLink (cnm 7) 74 (mY mX7_hasLaw) ∈ TB := tm 515 rfl
set_option maxRecDepth 20000 in
theorem lk0_53 : Cond.methodLink (cnm 0) 53 (mY mX9_has) ∈ TB := tm 519 rfl
set_option maxRecDepth 20000 in
theorem lk0_57 : Cond.methodLink (cnm 0) 57 (mY mX9_reckon) ∈ TB := tm 523 rfl
set_option maxRecDepth 20000 in
theorem lk9_50 : Cond.methodLink (cnm 9) 50 (mY mX9_join) ∈ TB := tm 532 rfl
set_option maxRecDepth 20000 in
theorem lk12_32 : Cond.methodLink (cnm 12) 32 (mY mX10_asks) ∈ TB := tm 539 rfl
set_option maxRecDepth 20000 in
theorem lk10_153 : Cond.methodLink (cnm 10) 153 (mY mX10_within) ∈ TB := tm 543 rfl
set_option maxRecDepth 20000 in
theorem lk10_157 : Cond.methodLink (cnm 10) 157 (mY mX0_regard) ∈ TB := tm 544 rfl
set_option maxRecDepth 20000 in
theorem lk10_161 : Cond.methodLink (cnm 10) 161 (mY mX0_told) ∈ TB := tm 545 rfl
set_option maxRecDepth 20000 in
theorem lk12_36 : Cond.methodLink (cnm 12) 36 (mY mX10_terms) ∈ TB := tm 546 rfl
set_option maxRecDepth 20000 in
theorem lk10_164 : Cond.methodLink (cnm 10) 164 (mY mX7_changeTerm) ∈ TB := tm 550 rfl
set_option maxRecDepth 20000 in
theorem lk12_40 : Cond.methodLink (cnm 12) 40 (mY mX10_feed) ∈ TB := tm 554 rfl
set_option maxRecDepth 20000 in
theorem lk10_168 : Cond.methodLink (cnm 10) 168 (mY mX8_take) ∈ TB := tm 558 rfl
set_option maxRecDepth 20000 in
theorem lk8_19 : Cond.methodLink (cnm 8) 19 (mY mX8_takeFour) ∈ TB := tm 562 rfl
set_option maxRecDepth 20000 in
theorem lk12_45 : Cond.methodLink (cnm 12) 45 (mY mX10_end) ∈ TB := tm 566 rfl
set_option maxRecDepth 20000 in
theorem lk10_172 : Cond.methodLink (cnm 10) 172 (mY mX8_shorten) ∈ TB := tm 570 rfl
set_option maxRecDepth 20000 in
theorem lk12_50 : Cond.methodLink (cnm 12) 50 (mY mX10_row) ∈ TB := tm 574 rfl
set_option maxRecDepth 20000 in
theorem lk10_180 : Cond.methodLink (cnm 10) 180 (mY mX8_byteAt) ∈ TB := tm 578 rfl
set_option maxRecDepth 20000 in
theorem lk10_183 : Cond.methodLink (cnm 10) 183 (mY mX8_clear) ∈ TB := tm 582 rfl
set_option maxRecDepth 20000 in
theorem lk12_55 : Cond.methodLink (cnm 12) 55 (mY mX10_rust) ∈ TB := tm 586 rfl
set_option maxRecDepth 20000 in
theorem lk12_59 : Cond.methodLink (cnm 12) 59 (mY mX10_law) ∈ TB := tm 590 rfl
set_option maxRecDepth 20000 in
theorem lk10_189 : Cond.methodLink (cnm 10) 189 (mY mX10_readTape) ∈ TB := tm 594 rfl
set_option maxRecDepth 20000 in
theorem lk10_353 : Cond.methodLink (cnm 10) 353 (mY mX4_read) ∈ TB := tm 598 rfl
set_option maxRecDepth 20000 in
theorem lk4_47 : Cond.methodLink (cnm 4) 47 (mY mX4_split) ∈ TB := tm 602 rfl
set_option maxRecDepth 20000 in
theorem lk4_73 : Cond.methodLink (cnm 4) 73 (mY mX4_behindToken) ∈ TB := tm 606 rfl
set_option maxRecDepth 20000 in
theorem lk4_81 : Cond.methodLink (cnm 4) 81 (mY mX4_sortOf) ∈ TB := tm 610 rfl
set_option maxRecDepth 20000 in
theorem lk4_77 : Cond.methodLink (cnm 4) 77 (mY mX4_addToken) ∈ TB := tm 613 rfl
set_option maxRecDepth 20000 in
theorem lk4_85 : Cond.methodLink (cnm 4) 85 (mY mX4_wordOf) ∈ TB := tm 617 rfl
set_option maxRecDepth 20000 in
theorem lk4_97 : Cond.methodLink (cnm 4) 97 (mY mJ0_length_8abf5) ∈ TB := tm 621 rfl
set_option maxRecDepth 20000 in
theorem lk15_335 : Cond.methodLink (cnm 15) 335 (mY mJ0_coder_7d493) ∈ TB := tm 625 rfl
set_option maxRecDepth 20000 in
theorem lk4_101 : Cond.methodLink (cnm 4) 101 (mY mJ0_charAt_5068e) ∈ TB := tm 631 rfl
set_option maxRecDepth 20000 in
theorem lk15_492 : Cond.methodLink (cnm 15) 492 (mY mJ0_isLatin1_aae02) ∈ TB := tm 635 rfl
set_option maxRecDepth 20000 in
theorem lk15_495 : Cond.methodLink (cnm 15) 495 (mY mJ1_charAt_3b067) ∈ TB := tm 639 rfl
set_option maxRecDepth 20000 in
theorem lk16_9 : Cond.methodLink (cnm 16) 9 (mY mJ0_checkIndex_df160) ∈ TB := tm 642 rfl
set_option maxRecDepth 20000 in
theorem lk15_1059 : Cond.methodLink (cnm 15) 1059 (mY mJ3_checkIndex_8e157) ∈ TB := tm 647 rfl
set_option maxRecDepth 20000 in
theorem lk4_51 : Cond.methodLink (cnm 4) 51 (mY mX9_clear) ∈ TB := tm 670 rfl
set_option maxRecDepth 20000 in
theorem lk4_54 : Cond.methodLink (cnm 4) 54 (mY mX4_clause) ∈ TB := tm 674 rfl
set_option maxRecDepth 20000 in
theorem lk4_58 : Cond.methodLink (cnm 4) 58 (mY mX4_here) ∈ TB := tm 678 rfl
set_option maxRecDepth 20000 in
theorem lk4_62 : Cond.methodLink (cnm 4) 62 (mY mX4_faulty) ∈ TB := tm 682 rfl
set_option maxRecDepth 20000 in
theorem lk4_120 : Cond.methodLink (cnm 4) 120 (mY mX4_sum) ∈ TB := tm 686 rfl
set_option maxRecDepth 20000 in
theorem lk4_149 : Cond.methodLink (cnm 4) 149 (mY mX4_term) ∈ TB := tm 690 rfl
set_option maxRecDepth 20000 in
theorem lk4_152 : Cond.methodLink (cnm 4) 152 (mY mX4_part) ∈ TB := tm 694 rfl
set_option maxRecDepth 20000 in
theorem lk4_143 : Cond.methodLink (cnm 4) 143 (mY mX4_inBrackets) ∈ TB := tm 698 rfl
set_option maxRecDepth 20000 in
theorem lk4_129 : Cond.methodLink (cnm 4) 129 (mY mX4_test) ∈ TB := tm 702 rfl
set_option maxRecDepth 20000 in
theorem lk4_133 : Cond.methodLink (cnm 4) 133 (mY mX4_plain) ∈ TB := tm 706 rfl
set_option maxRecDepth 20000 in
theorem lk4_146 : Cond.methodLink (cnm 4) 146 (mY mX4_comparison) ∈ TB := tm 710 rfl
set_option maxRecDepth 20000 in
theorem lk4_140 : Cond.methodLink (cnm 4) 140 (mY mX9_add) ∈ TB := tm 714 rfl
set_option maxRecDepth 20000 in
theorem lk4_136 : Cond.methodLink (cnm 4) 136 (mY mX9_aim) ∈ TB := tm 718 rfl
set_option maxRecDepth 20000 in
theorem lk4_124 : Cond.methodLink (cnm 4) 124 (mY mX4_take) ∈ TB := tm 722 rfl
set_option maxRecDepth 20000 in
theorem lk4_155 : Cond.methodLink (cnm 4) 155 (mY mX4_orderWord) ∈ TB := tm 726 rfl
set_option maxRecDepth 20000 in
theorem lk4_161 : Cond.methodLink (cnm 4) 161 (mY mX4_numberedWord) ∈ TB := tm 730 rfl
set_option maxRecDepth 20000 in
theorem lk4_158 : Cond.methodLink (cnm 4) 158 (mY mX4_lawWord) ∈ TB := tm 734 rfl
set_option maxRecDepth 20000 in
theorem lk4_127 : Cond.methodLink (cnm 4) 127 (mY mX4_times) ∈ TB := tm 738 rfl
set_option maxRecDepth 20000 in
theorem lk10_197 : Cond.methodLink (cnm 10) 197 (mY mX9_copy) ∈ TB := tm 742 rfl
set_option maxRecDepth 20000 in
theorem lk9_31 : Cond.methodLink (cnm 9) 31 (mY mX9_init) ∈ TB := tm 747 rfl
set_option maxRecDepth 20000 in
theorem lk10_203 : Cond.methodLink (cnm 10) 203 (mY mX7_addLaw) ∈ TB := tm 751 rfl
set_option maxRecDepth 20000 in
theorem lk12_63 : Cond.methodLink (cnm 12) 63 (mY mX10_orders) ∈ TB := tm 756 rfl
set_option maxRecDepth 20000 in
theorem lk10_207 : Cond.methodLink (cnm 10) 207 (mY mX1_keepAhead) ∈ TB := tm 760 rfl
set_option maxRecDepth 20000 in
theorem lk1_89 : Cond.methodLink (cnm 1) 89 (mY mX7_copyFrom) ∈ TB := tm 764 rfl
set_option maxRecDepth 20000 in
theorem lk10_210 : Cond.methodLink (cnm 10) 210 (mY mX5_run) ∈ TB := tm 769 rfl
set_option maxRecDepth 20000 in
theorem lk5_41 : Cond.methodLink (cnm 5) 41 (mY mX5_runOnce) ∈ TB := tm 773 rfl
set_option maxRecDepth 20000 in
theorem lk5_45 : Cond.methodLink (cnm 5) 45 (mY mX5_lookRound) ∈ TB := tm 777 rfl
set_option maxRecDepth 20000 in
theorem lk5_82 : Cond.methodLink (cnm 5) 82 (mY mX7_hasGoer) ∈ TB := tm 781 rfl
set_option maxRecDepth 20000 in
theorem lk5_92 : Cond.methodLink (cnm 5) 92 (mY mX7_hasGate) ∈ TB := tm 782 rfl
set_option maxRecDepth 20000 in
theorem lk5_48 : Cond.methodLink (cnm 5) 48 (mY mX9_has) ∈ TB := tm 783 rfl
set_option maxRecDepth 20000 in
theorem lk5_52 : Cond.methodLink (cnm 5) 52 (mY mX9_reckon) ∈ TB := tm 784 rfl
set_option maxRecDepth 20000 in
theorem lk5_60 : Cond.methodLink (cnm 5) 60 (mY mX1_sendThrough) ∈ TB := tm 786 rfl
set_option maxRecDepth 20000 in
theorem lk1_39 : Cond.methodLink (cnm 1) 39 (mY mX7_hasGoer) ∈ TB := tm 790 rfl
set_option maxRecDepth 20000 in
theorem lk1_43 : Cond.methodLink (cnm 1) 43 (mY mX7_hasGate) ∈ TB := tm 791 rfl
set_option maxRecDepth 20000 in
theorem lk1_46 : Cond.methodLink (cnm 1) 46 (mY mX0_can) ∈ TB := tm 792 rfl
set_option maxRecDepth 20000 in
theorem lk1_61 : Cond.methodLink (cnm 1) 61 (mY mX1_keep) ∈ TB := tm 793 rfl
set_option maxRecDepth 20000 in
theorem lk1_65 : Cond.methodLink (cnm 1) 65 (mY mX0_move) ∈ TB := tm 797 rfl
set_option maxRecDepth 20000 in
theorem lk5_66 : Cond.methodLink (cnm 5) 66 (mY mX1_flip) ∈ TB := tm 801 rfl
set_option maxRecDepth 20000 in
theorem lk5_70 : Cond.methodLink (cnm 5) 70 (mY mX1_changeArm) ∈ TB := tm 805 rfl
set_option maxRecDepth 20000 in
theorem lk1_73 : Cond.methodLinkNest (cnm 1) 73 yX10_within "CountGates" ∈ NW := by decide +kernel
set_option maxRecDepth 20000 in
theorem lk5_73 : Cond.methodLink (cnm 5) 73 (mY mX1_nextDay) ∈ TB := tm 810 rfl
set_option maxRecDepth 20000 in
theorem lk10_213 : Cond.methodLink (cnm 10) 213 (mY mX1_restoreAhead) ∈ TB := tm 814 rfl
set_option maxRecDepth 20000 in
theorem lk12_67 : Cond.methodLink (cnm 12) 67 (mY mX10_fault) ∈ TB := tm 818 rfl
set_option maxRecDepth 20000 in
theorem lk12_71 : Cond.methodLink (cnm 12) 71 (mY mX10_stopped) ∈ TB := tm 822 rfl
set_option maxRecDepth 20000 in
theorem lk12_75 : Cond.methodLink (cnm 12) 75 (mY mX10_force) ∈ TB := tm 826 rfl
set_option maxRecDepth 20000 in
theorem lk10_219 : Cond.methodLink (cnm 10) 219 (mY mX7_hasLaw) ∈ TB := tm 830 rfl
set_option maxRecDepth 20000 in
theorem lk12_79 : Cond.methodLink (cnm 12) 79 (mY mX10_go) ∈ TB := tm 831 rfl
set_option maxRecDepth 20000 in
theorem lk10_225 : Cond.methodLink (cnm 10) 225 (mY mX1_sendThrough) ∈ TB := tm 835 rfl
set_option maxRecDepth 20000 in
theorem lk12_83 : Cond.methodLink (cnm 12) 83 (mY mX10_latch) ∈ TB := tm 836 rfl
set_option maxRecDepth 20000 in
theorem lk10_228 : Cond.methodLink (cnm 10) 228 (mY mX1_flip) ∈ TB := tm 840 rfl
set_option maxRecDepth 20000 in
theorem lk12_87 : Cond.methodLink (cnm 12) 87 (mY mX10_set) ∈ TB := tm 841 rfl
set_option maxRecDepth 20000 in
theorem lk10_231 : Cond.methodLink (cnm 10) 231 (mY mX1_changeArm) ∈ TB := tm 845 rfl
set_option maxRecDepth 20000 in
theorem lk12_91 : Cond.methodLink (cnm 12) 91 (mY mX10_pass) ∈ TB := tm 846 rfl
set_option maxRecDepth 20000 in
theorem lk10_234 : Cond.methodLink (cnm 10) 234 (mY mX1_nextDay) ∈ TB := tm 850 rfl
set_option maxRecDepth 20000 in
theorem lk12_95 : Cond.methodLink (cnm 12) 95 (mY mX10_undo) ∈ TB := tm 851 rfl
set_option maxRecDepth 20000 in
theorem lk10_238 : Cond.methodLink (cnm 10) 238 (mY mX1_takeBack) ∈ TB := tm 855 rfl
set_option maxRecDepth 20000 in
theorem lk12_99 : Cond.methodLink (cnm 12) 99 (mY mX10_way) ∈ TB := tm 859 rfl
set_option maxRecDepth 20000 in
theorem lk10_241 : Cond.methodLink (cnm 10) 241 (mY mX10_canSeek) ∈ TB := tm 863 rfl
set_option maxRecDepth 20000 in
theorem lk10_245 : Cond.methodLink (cnm 10) 245 (mY mX6_begin) ∈ TB := tm 867 rfl
set_option maxRecDepth 20000 in
theorem lk6_58 : Cond.methodLink (cnm 6) 58 (mY mX7_copyFrom) ∈ TB := tm 871 rfl
set_option maxRecDepth 20000 in
theorem lk6_62 : Cond.methodLink (cnm 6) 62 (mY mJ7_fill_53178) ∈ TB := tm 872 rfl
set_option maxRecDepth 20000 in
theorem lk10_249 : Cond.methodLink (cnm 10) 249 (mY mX6_wayLength) ∈ TB := tm 875 rfl
set_option maxRecDepth 20000 in
theorem lk6_115 : Cond.methodLink (cnm 6) 115 (mY mX6_find) ∈ TB := tm 879 rfl
set_option maxRecDepth 20000 in
theorem lk6_100 : Cond.methodLink (cnm 6) 100 (mY mX6_start) ∈ TB := tm 883 rfl
set_option maxRecDepth 20000 in
theorem lk6_104 : Cond.methodLink (cnm 6) 104 (mY mX6_isAt) ∈ TB := tm 887 rfl
set_option maxRecDepth 20000 in
theorem lk6_111 : Cond.methodLink (cnm 6) 111 (mY mX6_behind) ∈ TB := tm 890 rfl
set_option maxRecDepth 20000 in
theorem lk6_87 : Cond.methodLink (cnm 6) 87 (mY mX0_regard) ∈ TB := tm 894 rfl
set_option maxRecDepth 20000 in
theorem lk6_93 : Cond.methodLink (cnm 6) 93 (mY mX0_told) ∈ TB := tm 895 rfl
set_option maxRecDepth 20000 in
theorem lk10_252 : Cond.methodLink (cnm 10) 252 (mY mX6_wayGate) ∈ TB := tm 896 rfl
set_option maxRecDepth 20000 in
theorem lk12_103 : Cond.methodLink (cnm 12) 103 (mY mX10_cheap) ∈ TB := tm 900 rfl
set_option maxRecDepth 20000 in
theorem lk10_255 : Cond.methodLink (cnm 10) 255 (mY mX6_leastToll) ∈ TB := tm 904 rfl
set_option maxRecDepth 20000 in
theorem lk6_121 : Cond.methodLink (cnm 6) 121 (mY mX6_cheapestUnsettled) ∈ TB := tm 908 rfl
set_option maxRecDepth 20000 in
theorem lk6_124 : Cond.methodLink (cnm 6) 124 (mY mX6_payInto) ∈ TB := tm 912 rfl
set_option maxRecDepth 20000 in
theorem lk12_107 : Cond.methodLink (cnm 12) 107 (mY mX10_manys) ∈ TB := tm 916 rfl
set_option maxRecDepth 20000 in
theorem lk10_258 : Cond.methodLink (cnm 10) 258 (mY mX6_manyBits) ∈ TB := tm 920 rfl
set_option maxRecDepth 20000 in
theorem lk6_118 : Cond.methodLink (cnm 6) 118 (mY mX6_findAll) ∈ TB := tm 924 rfl
set_option maxRecDepth 20000 in
theorem lk12_111 : Cond.methodLink (cnm 12) 111 (mY mX10_reach) ∈ TB := tm 928 rfl
set_option maxRecDepth 20000 in
theorem lk10_261 : Cond.methodLink (cnm 10) 261 (mY mX6_parkBits) ∈ TB := tm 932 rfl
set_option maxRecDepth 20000 in
theorem lk12_115 : Cond.methodLink (cnm 12) 115 (mY mX10_ways) ∈ TB := tm 936 rfl
set_option maxRecDepth 20000 in
theorem lk10_266 : Cond.methodLink (cnm 10) 266 (mY mX6_flow) ∈ TB := tm 941 rfl
set_option maxRecDepth 20000 in
theorem lk6_128 : Cond.methodLink (cnm 6) 128 (mY mJ7_fill_d0a16) ∈ TB := tm 945 rfl
set_option maxRecDepth 20000 in
theorem lk6_131 : Cond.methodLink (cnm 6) 131 (mY mX6_flowFrom) ∈ TB := tm 948 rfl
set_option maxRecDepth 20000 in
theorem lk10_270 : Cond.methodLink (cnm 10) 270 (mY mX6_flowed) ∈ TB := tm 953 rfl
set_option maxRecDepth 20000 in
theorem lk12_120 : Cond.methodLink (cnm 12) 120 (mY mX10_likely) ∈ TB := tm 957 rfl
set_option maxRecDepth 20000 in
theorem lk12_124 : Cond.methodLink (cnm 12) 124 (mY mX10_again) ∈ TB := tm 962 rfl
set_option maxRecDepth 20000 in
theorem lk10_276 : Cond.methodLink (cnm 10) 276 (mY mX0_roundAndRound) ∈ TB := tm 966 rfl
set_option maxRecDepth 20000 in
theorem lk0_103 : Cond.methodLink (cnm 0) 103 (mY mJ7_fill_53178) ∈ TB := tm 970 rfl
set_option maxRecDepth 20000 in
theorem lk12_128 : Cond.methodLink (cnm 12) 128 (mY mX10_fixed) ∈ TB := tm 971 rfl
set_option maxRecDepth 20000 in
theorem lk10_280 : Cond.methodLink (cnm 10) 280 (mY mX6_firstFix) ∈ TB := tm 975 rfl
set_option maxRecDepth 20000 in
theorem lk6_141 : Cond.methodLink (cnm 6) 141 (mY mX6_tryArm) ∈ TB := tm 979 rfl
set_option maxRecDepth 20000 in
theorem lk12_132 : Cond.methodLink (cnm 12) 132 (mY mX10_cut) ∈ TB := tm 983 rfl
set_option maxRecDepth 20000 in
theorem lk10_283 : Cond.methodLink (cnm 10) 283 (mY mX6_fewestShut) ∈ TB := tm 987 rfl
set_option maxRecDepth 20000 in
theorem lk6_144 : Cond.methodLink (cnm 6) 144 (mY mJ6_bitCount_0f7a4) ∈ TB := tm 991 rfl
set_option maxRecDepth 20000 in
theorem lk6_150 : Cond.methodLink (cnm 6) 150 (mY mX6_shuts) ∈ TB := tm 997 rfl
set_option maxRecDepth 20000 in
theorem lk10_286 : Cond.methodLink (cnm 10) 286 (mY mJ6_bitCount_0f7a4) ∈ TB := tm 1001 rfl
set_option maxRecDepth 20000 in
theorem lk12_136 : Cond.methodLink (cnm 12) 136 (mY mX10_meet) ∈ TB := tm 1002 rfl
set_option maxRecDepth 20000 in
theorem lk10_291 : Cond.methodLink (cnm 10) 291 (mY mX6_keepSteps) ∈ TB := tm 1006 rfl
set_option maxRecDepth 20000 in
theorem lk10_294 : Cond.methodLink (cnm 10) 294 (mY mX6_meetingPlace) ∈ TB := tm 1010 rfl
set_option maxRecDepth 20000 in
theorem lk6_154 : Cond.methodLink (cnm 6) 154 (mY mX6_longerSteps) ∈ TB := tm 1014 rfl
set_option maxRecDepth 20000 in
theorem lk6_157 : Cond.methodLinkNest (cnm 6) 157 yX10_within "CountGates" ∈ NW := by decide +kernel
set_option maxRecDepth 20000 in
theorem lk10_297 : Cond.methodLink (cnm 10) 297 (mY mX6_longerSteps) ∈ TB := tm 1020 rfl
set_option maxRecDepth 20000 in
theorem lk12_140 : Cond.methodLink (cnm 12) 140 (mY mX10_seen) ∈ TB := tm 1021 rfl
set_option maxRecDepth 20000 in
theorem lk10_300 : Cond.methodLink (cnm 10) 300 (mY mX7_addSight) ∈ TB := tm 1025 rfl
set_option maxRecDepth 20000 in
theorem lk12_144 : Cond.methodLink (cnm 12) 144 (mY mX10_forget) ∈ TB := tm 1029 rfl
set_option maxRecDepth 20000 in
theorem lk12_148 : Cond.methodLink (cnm 12) 148 (mY mX10_kinds) ∈ TB := tm 1033 rfl
set_option maxRecDepth 20000 in
theorem lk10_306 : Cond.methodLink (cnm 10) 306 (mY mX3_possible) ∈ TB := tm 1037 rfl
set_option maxRecDepth 20000 in
theorem lk3_45 : Cond.methodLink (cnm 3) 45 (mY mX3_comesOut) ∈ TB := tm 1041 rfl
set_option maxRecDepth 20000 in
theorem lk3_23 : Cond.methodLink (cnm 3) 23 (mY mX0_regardUnknown) ∈ TB := tm 1045 rfl
set_option maxRecDepth 20000 in
theorem lk3_29 : Cond.methodLink (cnm 3) 29 (mY mX0_told) ∈ TB := tm 1046 rfl
set_option maxRecDepth 20000 in
theorem lk12_152 : Cond.methodLink (cnm 12) 152 (mY mX10_ask) ∈ TB := tm 1047 rfl
set_option maxRecDepth 20000 in
theorem lk10_310 : Cond.methodLink (cnm 10) 310 (mY mX3_bestTrial) ∈ TB := tm 1051 rfl
set_option maxRecDepth 20000 in
theorem lk3_52 : Cond.methodLink (cnm 3) 52 (mY mX3_possible) ∈ TB := tm 1055 rfl
set_option maxRecDepth 20000 in
theorem lk3_56 : Cond.methodLink (cnm 3) 56 (mY mX3_mostAlike) ∈ TB := tm 1056 rfl
set_option maxRecDepth 20000 in
theorem lk12_156 : Cond.methodLink (cnm 12) 156 (mY mX10_few) ∈ TB := tm 1061 rfl
set_option maxRecDepth 20000 in
theorem lk10_317 : Cond.methodLink (cnm 10) 317 (mY mX3_fewerBitten) ∈ TB := tm 1065 rfl
set_option maxRecDepth 20000 in
theorem lk3_66 : Cond.methodLink (cnm 3) 66 (mY mJ7_fill_d0a16) ∈ TB := tm 1069 rfl
set_option maxRecDepth 20000 in
theorem lk12_161 : Cond.methodLink (cnm 12) 161 (mY mX10_compare) ∈ TB := tm 1072 rfl
set_option maxRecDepth 20000 in
theorem lk10_321 : Cond.methodLink (cnm 10) 321 (mY mX6_tryLaw) ∈ TB := tm 1076 rfl
set_option maxRecDepth 20000 in
theorem lk12_165 : Cond.methodLink (cnm 12) 165 (mY mX10_days) ∈ TB := tm 1080 rfl
set_option maxRecDepth 20000 in
theorem lk10_332 : Cond.methodLink (cnm 10) 332 (mY mX2_run) ∈ TB := tm 1085 rfl
set_option maxRecDepth 20000 in
theorem lk2_26 : Cond.methodLink (cnm 2) 26 (mY mX7_copyFrom) ∈ TB := tm 1089 rfl
set_option maxRecDepth 20000 in
theorem lk2_37 : Cond.methodLink (cnm 2) 37 (mY mX2_draw) ∈ TB := tm 1090 rfl
set_option maxRecDepth 20000 in
theorem lk2_44 : Cond.methodLink (cnm 2) 44 (mY mX7_hasGoer) ∈ TB := tm 1095 rfl
set_option maxRecDepth 20000 in
theorem lk2_48 : Cond.methodLink (cnm 2) 48 (mY mX7_hasGate) ∈ TB := tm 1096 rfl
end WORDS
end
section
section WORDS
set_option maxRecDepth 20000 in
theorem lk2_51 : Cond.methodLink (cnm 2) 51 (mY mX0_can) ∈ TB := tm 1097 rfl
set_option maxRecDepth 20000 in
theorem lk2_57 : Cond.methodLink (cnm 2) 57 (mY mX0_move) ∈ TB := tm 1098 rfl
set_option maxRecDepth 20000 in
theorem lk12_169 : Cond.methodLink (cnm 12) 169 (mY mX10_drawn) ∈ TB := tm 1099 rfl
set_option maxRecDepth 20000 in
theorem lk10_335 : Cond.methodLink (cnm 10) 335 (mY mX2_behind) ∈ TB := tm 1103 rfl
set_option maxRecDepth 20000 in
theorem lk12_173 : Cond.methodLink (cnm 12) 173 (mY mX10_image) ∈ TB := tm 1107 rfl
set_option maxRecDepth 20000 in
theorem lk10_338 : Cond.methodLink (cnm 10) 338 (mY mX7_copyFrom) ∈ TB := tm 1111 rfl
set_option maxRecDepth 20000 in
theorem lk12_177 : Cond.methodLink (cnm 12) 177 (mY mX10_back) ∈ TB := tm 1112 rfl
set_option maxRecDepth 20000 in
theorem lk12_181 : Cond.methodLink (cnm 12) 181 (mY mX10_count) ∈ TB := tm 1116 rfl
set_option maxRecDepth 20000 in
theorem lk10_342 : Cond.methodLink (cnm 10) 342 (mY mX7_allMany) ∈ TB := tm 1120 rfl
set_option maxRecDepth 20000 in
theorem lk12_185 : Cond.methodLink (cnm 12) 185 (mY mX10_status) ∈ TB := tm 1124 rfl
set_option maxRecDepth 20000 in
theorem lk12_12 : Cond.methodLink (cnm 12) 12 (mY mX11_init) ∈ TB := tm 1130 rfl
set_option maxRecDepth 20000 in
theorem lk11_22 : Cond.methodLink (cnm 11) 22 objectInit ∈ TB := tm 1133 rfl
set_option maxRecDepth 20000 in
theorem lk12_176 : Cond.methodLink (cnm 12) 176 (mY mX11_image) ∈ TB := tm 1294 rfl
set_option maxRecDepth 20000 in
theorem lk11_18 : Cond.methodLink (cnm 11) 18 (mY mX11_lies) ∈ TB := tm 1298 rfl
set_option maxRecDepth 20000 in
theorem lk11_118 : Cond.methodLink (cnm 11) 118 (mY mX11_refuses) ∈ TB := tm 1301 rfl
set_option maxRecDepth 20000 in
theorem lk11_14 : Cond.methodLink (cnm 11) 14 (mY mX11_good) ∈ TB := tm 1305 rfl
set_option maxRecDepth 20000 in
theorem lk12_180 : Cond.methodLink (cnm 12) 180 (mY mX11_back) ∈ TB := tm 1309 rfl
set_option maxRecDepth 20000 in
theorem lk11_121 : Cond.methodLink (cnm 11) 121 (mY mX11_settled) ∈ TB := tm 1313 rfl
set_option maxRecDepth 20000 in
theorem lk12_17 : Cond.methodLink (cnm 12) 17 (mY mX11_gate) ∈ TB := tm 1317 rfl
set_option maxRecDepth 20000 in
theorem lk11_135 : Cond.methodLink (cnm 11) 135 (mY mX11_canGate) ∈ TB := tm 1321 rfl
set_option maxRecDepth 20000 in
theorem lk11_128 : Cond.methodLink (cnm 11) 128 (mY mX11_isPark) ∈ TB := tm 1324 rfl
set_option maxRecDepth 20000 in
theorem lk11_132 : Cond.methodLink (cnm 11) 132 (mY mX11_isArm) ∈ TB := tm 1327 rfl
set_option maxRecDepth 20000 in
theorem lk11_124 : Cond.methodLink (cnm 11) 124 (mY mX11_gateMany) ∈ TB := tm 1330 rfl
set_option maxRecDepth 20000 in
theorem lk11_139 : Cond.methodLink (cnm 11) 139 (mY mX11_adds) ∈ TB := tm 1334 rfl
set_option maxRecDepth 20000 in
theorem lk12_22 : Cond.methodLink (cnm 12) 22 (mY mX11_at) ∈ TB := tm 1338 rfl
set_option maxRecDepth 20000 in
theorem lk11_143 : Cond.methodLink (cnm 11) 143 (mY mX11_isGate) ∈ TB := tm 1342 rfl
set_option maxRecDepth 20000 in
theorem lk12_27 : Cond.methodLink (cnm 12) 27 (mY mX11_goer) ∈ TB := tm 1346 rfl
set_option maxRecDepth 20000 in
theorem lk11_146 : Cond.methodLink (cnm 11) 146 (mY mX11_isMany) ∈ TB := tm 1350 rfl
set_option maxRecDepth 20000 in
theorem lk12_31 : Cond.methodLink (cnm 12) 31 (mY mX11_of) ∈ TB := tm 1353 rfl
set_option maxRecDepth 20000 in
theorem lk11_149 : Cond.methodLink (cnm 11) 149 (mY mX11_isGoer) ∈ TB := tm 1357 rfl
set_option maxRecDepth 20000 in
theorem lk11_152 : Cond.methodLink (cnm 11) 152 (mY mX11_gatesOf) ∈ TB := tm 1361 rfl
set_option maxRecDepth 20000 in
theorem lk11_155 : Cond.methodLink (cnm 11) 155 (mY mX11_canGo) ∈ TB := tm 1365 rfl
set_option maxRecDepth 20000 in
theorem lk11_159 : Cond.methodLink (cnm 11) 159 (mY mX11_setsGate) ∈ TB := tm 1369 rfl
set_option maxRecDepth 20000 in
theorem lk11_348 : Cond.methodLink (cnm 11) 348 (mY mX11_setsAsked) ∈ TB := tm 1373 rfl
set_option maxRecDepth 20000 in
theorem lk11_169 : Cond.methodLink (cnm 11) 169 (mY mX11_isBarredNow) ∈ TB := tm 1377 rfl
set_option maxRecDepth 20000 in
theorem lk11_355 : Cond.methodLink (cnm 11) 355 (mY mX11_tells) ∈ TB := tm 1381 rfl
set_option maxRecDepth 20000 in
theorem lk11_294 : Cond.methodLink (cnm 11) 294 (mY mX11_codeAt) ∈ TB := tm 1385 rfl
set_option maxRecDepth 20000 in
theorem lk11_318 : Cond.methodLink (cnm 11) 318 (mY mX11_sumOf) ∈ TB := tm 1389 rfl
set_option maxRecDepth 20000 in
theorem lk11_304 : Cond.methodLink (cnm 11) 304 (mY mX11_termOf) ∈ TB := tm 1393 rfl
set_option maxRecDepth 20000 in
theorem lk11_312 : Cond.methodLink (cnm 11) 312 (mY mX11_partOf) ∈ TB := tm 1397 rfl
set_option maxRecDepth 20000 in
theorem lk11_250 : Cond.methodLink (cnm 11) 250 (mY mX11_sign) ∈ TB := tm 1401 rfl
set_option maxRecDepth 20000 in
theorem lk11_315 : Cond.methodLink (cnm 11) 315 (mY mX11_passes0) ∈ TB := tm 1404 rfl
set_option maxRecDepth 20000 in
theorem lk11_324 : Cond.methodLink (cnm 11) 324 (mY mX11_orderValue) ∈ TB := tm 1408 rfl
set_option maxRecDepth 20000 in
theorem lk11_333 : Cond.methodLink (cnm 11) 333 (mY mX11_wholeMany) ∈ TB := tm 1412 rfl
set_option maxRecDepth 20000 in
theorem lk11_308 : Cond.methodLink (cnm 11) 308 (mY mX11_bounded) ∈ TB := tm 1416 rfl
set_option maxRecDepth 20000 in
theorem lk11_345 : Cond.methodLink (cnm 11) 345 (mY mX11_testOf) ∈ TB := tm 1422 rfl
set_option maxRecDepth 20000 in
theorem lk11_336 : Cond.methodLink (cnm 11) 336 (mY mX11_bothOf) ∈ TB := tm 1426 rfl
set_option maxRecDepth 20000 in
theorem lk11_339 : Cond.methodLink (cnm 11) 339 (mY mX11_plainOf) ∈ TB := tm 1430 rfl
set_option maxRecDepth 20000 in
theorem lk11_342 : Cond.methodLink (cnm 11) 342 (mY mX11_positiveOf) ∈ TB := tm 1434 rfl
set_option maxRecDepth 20000 in
theorem lk12_35 : Cond.methodLink (cnm 12) 35 (mY mX11_asks) ∈ TB := tm 1438 rfl
set_option maxRecDepth 20000 in
theorem lk11_163 : Cond.methodLink (cnm 11) 163 (mY mX11_turnsNow) ∈ TB := tm 1442 rfl
set_option maxRecDepth 20000 in
theorem lk11_352 : Cond.methodLink (cnm 11) 352 (mY mX11_greater) ∈ TB := tm 1446 rfl
set_option maxRecDepth 20000 in
theorem lk11_166 : Cond.methodLink (cnm 11) 166 (mY mX11_paysNow) ∈ TB := tm 1449 rfl
set_option maxRecDepth 20000 in
theorem lk12_39 : Cond.methodLink (cnm 12) 39 (mY mX11_terms) ∈ TB := tm 1453 rfl
set_option maxRecDepth 20000 in
theorem lk11_173 : Cond.methodLink (cnm 11) 173 (mY mX11_isTerm) ∈ TB := tm 1457 rfl
set_option maxRecDepth 20000 in
theorem lk11_176 : Cond.methodLink (cnm 11) 176 (mY mX11_termAt) ∈ TB := tm 1460 rfl
set_option maxRecDepth 20000 in
theorem lk12_54 : Cond.methodLink (cnm 12) 54 (mY mX11_row) ∈ TB := tm 1463 rfl
set_option maxRecDepth 20000 in
theorem lk12_58 : Cond.methodLink (cnm 12) 58 (mY mX11_rust) ∈ TB := tm 1467 rfl
set_option maxRecDepth 20000 in
theorem lk12_44 : Cond.methodLink (cnm 12) 44 (mY mX11_feed) ∈ TB := tm 1471 rfl
set_option maxRecDepth 20000 in
theorem lk12_49 : Cond.methodLink (cnm 12) 49 (mY mX11_end) ∈ TB := tm 1475 rfl
set_option maxRecDepth 20000 in
theorem lk12_62 : Cond.methodLink (cnm 12) 62 (mY mX11_law) ∈ TB := tm 1479 rfl
set_option maxRecDepth 20000 in
theorem lk11_278 : Cond.methodLink (cnm 11) 278 (mY mX11_readsAs) ∈ TB := tm 1483 rfl
set_option maxRecDepth 20000 in
theorem lk11_275 : Cond.methodLink (cnm 11) 275 (mY mX11_reads) ∈ TB := tm 1487 rfl
set_option maxRecDepth 20000 in
theorem lk11_269 : Cond.methodLink (cnm 11) 269 (mY mX11_splits) ∈ TB := tm 1491 rfl
set_option maxRecDepth 20000 in
theorem lk11_188 : Cond.methodLink (cnm 11) 188 (mY mX11_isSmall) ∈ TB := tm 1495 rfl
set_option maxRecDepth 20000 in
theorem lk11_191 : Cond.methodLink (cnm 11) 191 (mY mX11_isDigit) ∈ TB := tm 1498 rfl
set_option maxRecDepth 20000 in
theorem lk11_194 : Cond.methodLink (cnm 11) 194 (mY mX11_wordOf) ∈ TB := tm 1501 rfl
set_option maxRecDepth 20000 in
theorem lk11_272 : Cond.methodLink (cnm 11) 272 (mY mX11_readOne) ∈ TB := tm 1506 rfl
set_option maxRecDepth 20000 in
theorem lk11_238 : Cond.methodLink (cnm 11) 238 (mY mX11_readOrder) ∈ TB := tm 1510 rfl
set_option maxRecDepth 20000 in
theorem lk11_208 : Cond.methodLink (cnm 11) 208 (mY mX11_takes0) ∈ TB := tm 1514 rfl
set_option maxRecDepth 20000 in
theorem lk11_202 : Cond.methodLink (cnm 11) 202 (mY mX11_fine) ∈ TB := tm 1518 rfl
set_option maxRecDepth 20000 in
theorem lk11_227 : Cond.methodLink (cnm 11) 227 (mY mX11_readTwo) ∈ TB := tm 1522 rfl
set_option maxRecDepth 20000 in
theorem lk11_217 : Cond.methodLink (cnm 11) 217 (mY mX11_readSum) ∈ TB := tm 1526 rfl
set_option maxRecDepth 20000 in
theorem lk11_254 : Cond.methodLink (cnm 11) 254 (mY mX11_readTerm) ∈ TB := tm 1530 rfl
set_option maxRecDepth 20000 in
theorem lk11_257 : Cond.methodLink (cnm 11) 257 (mY mX11_readPart) ∈ TB := tm 1534 rfl
set_option maxRecDepth 20000 in
theorem lk11_211 : Cond.methodLink (cnm 11) 211 (mY mX11_faults) ∈ TB := tm 1538 rfl
set_option maxRecDepth 20000 in
theorem lk11_221 : Cond.methodLink (cnm 11) 221 (mY mX11_must) ∈ TB := tm 1542 rfl
set_option maxRecDepth 20000 in
theorem lk11_266 : Cond.methodLink (cnm 11) 266 (mY mX11_leaf) ∈ TB := tm 1546 rfl
set_option maxRecDepth 20000 in
theorem lk11_230 : Cond.methodLink (cnm 11) 230 (mY mX11_mustNumber) ∈ TB := tm 1550 rfl
set_option maxRecDepth 20000 in
theorem lk11_224 : Cond.methodLink (cnm 11) 224 (mY mX11_readTest) ∈ TB := tm 1554 rfl
set_option maxRecDepth 20000 in
theorem lk11_244 : Cond.methodLink (cnm 11) 244 (mY mX11_readBoth) ∈ TB := tm 1558 rfl
set_option maxRecDepth 20000 in
theorem lk11_247 : Cond.methodLink (cnm 11) 247 (mY mX11_readPlain) ∈ TB := tm 1562 rfl
set_option maxRecDepth 20000 in
theorem lk11_241 : Cond.methodLink (cnm 11) 241 (mY mX11_readClause) ∈ TB := tm 1566 rfl
set_option maxRecDepth 20000 in
theorem lk11_282 : Cond.methodLink (cnm 11) 282 (mY mX11_lays) ∈ TB := tm 1570 rfl
set_option maxRecDepth 20000 in
theorem lk12_70 : Cond.methodLink (cnm 12) 70 (mY mX11_fault) ∈ TB := tm 1574 rfl
set_option maxRecDepth 20000 in
theorem lk12_78 : Cond.methodLink (cnm 12) 78 (mY mX11_force) ∈ TB := tm 1578 rfl
set_option maxRecDepth 20000 in
theorem lk11_285 : Cond.methodLink (cnm 11) 285 (mY mX11_isLaw) ∈ TB := tm 1582 rfl
set_option maxRecDepth 20000 in
theorem lk12_98 : Cond.methodLink (cnm 12) 98 (mY mX11_undo) ∈ TB := tm 1586 rfl
set_option maxRecDepth 20000 in
theorem lk12_82 : Cond.methodLink (cnm 12) 82 (mY mX11_go) ∈ TB := tm 1590 rfl
set_option maxRecDepth 20000 in
theorem lk11_368 : Cond.methodLink (cnm 11) 368 (mY mX11_goesKept) ∈ TB := tm 1594 rfl
set_option maxRecDepth 20000 in
theorem lk11_362 : Cond.methodLink (cnm 11) 362 (mY mX11_keeps) ∈ TB := tm 1598 rfl
set_option maxRecDepth 20000 in
theorem lk11_365 : Cond.methodLink (cnm 11) 365 (mY mX11_goesNow) ∈ TB := tm 1602 rfl
set_option maxRecDepth 20000 in
theorem lk11_359 : Cond.methodLink (cnm 11) 359 (mY mX11_lesser) ∈ TB := tm 1606 rfl
set_option maxRecDepth 20000 in
theorem lk11_371 : Cond.methodLink (cnm 11) 371 (mY mX11_goodOr) ∈ TB := tm 1609 rfl
set_option maxRecDepth 20000 in
theorem lk12_86 : Cond.methodLink (cnm 12) 86 (mY mX11_latch) ∈ TB := tm 1613 rfl
set_option maxRecDepth 20000 in
theorem lk11_374 : Cond.methodLink (cnm 11) 374 (mY mX11_latchesKept) ∈ TB := tm 1617 rfl
set_option maxRecDepth 20000 in
theorem lk12_90 : Cond.methodLink (cnm 12) 90 (mY mX11_set) ∈ TB := tm 1621 rfl
set_option maxRecDepth 20000 in
theorem lk11_377 : Cond.methodLink (cnm 11) 377 (mY mX11_setsKept) ∈ TB := tm 1625 rfl
set_option maxRecDepth 20000 in
theorem lk12_94 : Cond.methodLink (cnm 12) 94 (mY mX11_pass) ∈ TB := tm 1629 rfl
set_option maxRecDepth 20000 in
theorem lk11_380 : Cond.methodLink (cnm 11) 380 (mY mX11_passesKept) ∈ TB := tm 1633 rfl
set_option maxRecDepth 20000 in
theorem lk12_102 : Cond.methodLink (cnm 12) 102 (mY mX11_way) ∈ TB := tm 1637 rfl
set_option maxRecDepth 20000 in
theorem lk11_392 : Cond.methodLink (cnm 11) 392 (mY mX11_canBeGoal) ∈ TB := tm 1641 rfl
set_option maxRecDepth 20000 in
theorem lk11_395 : Cond.methodLink (cnm 11) 395 (mY mX11_laysOut) ∈ TB := tm 1644 rfl
set_option maxRecDepth 20000 in
theorem lk11_383 : Cond.methodLink (cnm 11) 383 (mY mX11_laysGate) ∈ TB := tm 1648 rfl
set_option maxRecDepth 20000 in
theorem lk11_398 : Cond.methodLink (cnm 11) 398 (mY mX11_laysLeft) ∈ TB := tm 1652 rfl
set_option maxRecDepth 20000 in
theorem lk11_386 : Cond.methodLink (cnm 11) 386 (mY mX11_isGoal) ∈ TB := tm 1656 rfl
set_option maxRecDepth 20000 in
theorem lk11_389 : Cond.methodLink (cnm 11) 389 (mY mX11_nextPlace) ∈ TB := tm 1659 rfl
set_option maxRecDepth 20000 in
theorem lk11_402 : Cond.methodLink (cnm 11) 402 (mY mX11_placeOf) ∈ TB := tm 1663 rfl
set_option maxRecDepth 20000 in
theorem lk12_106 : Cond.methodLink (cnm 12) 106 (mY mX11_cheap) ∈ TB := tm 1667 rfl
set_option maxRecDepth 20000 in
theorem lk12_164 : Cond.methodLink (cnm 12) 164 (mY mX11_compare) ∈ TB := tm 1671 rfl
set_option maxRecDepth 20000 in
theorem lk11_405 : Cond.methodLink (cnm 11) 405 (mY mX11_way) ∈ TB := tm 1675 rfl
set_option maxRecDepth 20000 in
theorem lk12_110 : Cond.methodLink (cnm 12) 110 (mY mX11_manys) ∈ TB := tm 1676 rfl
set_option maxRecDepth 20000 in
theorem lk11_412 : Cond.methodLink (cnm 11) 412 (mY mX11_laysGone) ∈ TB := tm 1680 rfl
set_option maxRecDepth 20000 in
theorem lk11_409 : Cond.methodLink (cnm 11) 409 (mY mX11_isIn) ∈ TB := tm 1684 rfl
set_option maxRecDepth 20000 in
theorem lk12_114 : Cond.methodLink (cnm 12) 114 (mY mX11_reach) ∈ TB := tm 1687 rfl
set_option maxRecDepth 20000 in
theorem lk11_415 : Cond.methodLink (cnm 11) 415 (mY mX11_comesTo) ∈ TB := tm 1691 rfl
set_option maxRecDepth 20000 in
theorem lk12_119 : Cond.methodLink (cnm 12) 119 (mY mX11_ways) ∈ TB := tm 1695 rfl
set_option maxRecDepth 20000 in
theorem lk11_423 : Cond.methodLink (cnm 11) 423 (mY mX11_laysParts) ∈ TB := tm 1700 rfl
set_option maxRecDepth 20000 in
theorem lk11_427 : Cond.methodLink (cnm 11) 427 (mY mX11_steps) ∈ TB := tm 1704 rfl
set_option maxRecDepth 20000 in
theorem lk11_418 : Cond.methodLink (cnm 11) 418 (mY mX11_gatesFrom) ∈ TB := tm 1708 rfl
set_option maxRecDepth 20000 in
theorem lk11_431 : Cond.methodLink (cnm 11) 431 (mY mX11_partsAt) ∈ TB := tm 1712 rfl
set_option maxRecDepth 20000 in
theorem lk12_123 : Cond.methodLink (cnm 12) 123 (mY mX11_likely) ∈ TB := tm 1716 rfl
set_option maxRecDepth 20000 in
theorem lk12_127 : Cond.methodLink (cnm 12) 127 (mY mX11_again) ∈ TB := tm 1721 rfl
set_option maxRecDepth 20000 in
theorem lk12_131 : Cond.methodLink (cnm 12) 131 (mY mX11_fixed) ∈ TB := tm 1725 rfl
set_option maxRecDepth 20000 in
theorem lk11_437 : Cond.methodLink (cnm 11) 437 (mY mX11_hasWay) ∈ TB := tm 1729 rfl
set_option maxRecDepth 20000 in
theorem lk11_440 : Cond.methodLink (cnm 11) 440 (mY mX11_fixedAt) ∈ TB := tm 1733 rfl
set_option maxRecDepth 20000 in
theorem lk12_135 : Cond.methodLink (cnm 12) 135 (mY mX11_cut) ∈ TB := tm 1737 rfl
set_option maxRecDepth 20000 in
theorem lk11_443 : Cond.methodLink (cnm 11) 443 (mY mX11_ones) ∈ TB := tm 1741 rfl
set_option maxRecDepth 20000 in
theorem lk12_139 : Cond.methodLink (cnm 12) 139 (mY mX11_meet) ∈ TB := tm 1744 rfl
set_option maxRecDepth 20000 in
theorem lk12_143 : Cond.methodLink (cnm 12) 143 (mY mX11_seen) ∈ TB := tm 1748 rfl
set_option maxRecDepth 20000 in
theorem lk12_147 : Cond.methodLink (cnm 12) 147 (mY mX11_forget) ∈ TB := tm 1752 rfl
set_option maxRecDepth 20000 in
theorem lk12_151 : Cond.methodLink (cnm 12) 151 (mY mX11_kinds) ∈ TB := tm 1756 rfl
set_option maxRecDepth 20000 in
theorem lk11_449 : Cond.methodLink (cnm 11) 449 (mY mX11_canBeKind) ∈ TB := tm 1760 rfl
set_option maxRecDepth 20000 in
theorem lk11_446 : Cond.methodLink (cnm 11) 446 (mY mX11_outOf) ∈ TB := tm 1764 rfl
set_option maxRecDepth 20000 in
theorem lk12_155 : Cond.methodLink (cnm 12) 155 (mY mX11_ask) ∈ TB := tm 1768 rfl
set_option maxRecDepth 20000 in
theorem lk11_452 : Cond.methodLink (cnm 11) 452 (mY mX11_kinds) ∈ TB := tm 1772 rfl
set_option maxRecDepth 20000 in
theorem lk11_455 : Cond.methodLink (cnm 11) 455 (mY mX11_mostAlike) ∈ TB := tm 1773 rfl
set_option maxRecDepth 20000 in
theorem lk12_160 : Cond.methodLink (cnm 12) 160 (mY mX11_few) ∈ TB := tm 1777 rfl
set_option maxRecDepth 20000 in
theorem lk12_74 : Cond.methodLink (cnm 12) 74 (mY mX11_stopped) ∈ TB := tm 1782 rfl
set_option maxRecDepth 20000 in
theorem lk12_66 : Cond.methodLink (cnm 12) 66 (mY mX11_orders) ∈ TB := tm 1786 rfl
set_option maxRecDepth 20000 in
theorem lk11_460 : Cond.methodLink (cnm 11) 460 (mY mX11_laysAside) ∈ TB := tm 1790 rfl
set_option maxRecDepth 20000 in
theorem lk11_466 : Cond.methodLink (cnm 11) 466 (mY mX11_runs) ∈ TB := tm 1794 rfl
set_option maxRecDepth 20000 in
theorem lk11_490 : Cond.methodLink (cnm 11) 490 (mY mX11_goesAlong) ∈ TB := tm 1798 rfl
set_option maxRecDepth 20000 in
theorem lk11_494 : Cond.methodLink (cnm 11) 494 (mY mX11_obeys) ∈ TB := tm 1802 rfl
set_option maxRecDepth 20000 in
theorem lk11_486 : Cond.methodLink (cnm 11) 486 (mY mX11_small) ∈ TB := tm 1806 rfl
set_option maxRecDepth 20000 in
theorem lk11_469 : Cond.methodLink (cnm 11) 469 (mY mX11_takesBack) ∈ TB := tm 1810 rfl
set_option maxRecDepth 20000 in
theorem lk12_168 : Cond.methodLink (cnm 12) 168 (mY mX11_days) ∈ TB := tm 1814 rfl
set_option maxRecDepth 20000 in
theorem lk11_506 : Cond.methodLink (cnm 11) 506 (mY mX11_draws) ∈ TB := tm 1818 rfl
set_option maxRecDepth 20000 in
theorem lk12_172 : Cond.methodLink (cnm 12) 172 (mY mX11_drawn) ∈ TB := tm 1825 rfl
set_option maxRecDepth 20000 in
theorem lk12_184 : Cond.methodLink (cnm 12) 184 (mY mX11_count) ∈ TB := tm 1829 rfl
set_option maxRecDepth 20000 in
theorem lk11_509 : Cond.methodLink (cnm 11) 509 (mY mX11_allMany) ∈ TB := tm 1833 rfl
set_option maxRecDepth 20000 in
theorem lk12_188 : Cond.methodLink (cnm 12) 188 (mY mX11_status) ∈ TB := tm 1837 rfl
set_option maxRecDepth 20000 in
theorem lk10_348 : Cond.methodLink (cnm 10) 348 Lib.Math.min.name ∈ TB := tm 463 rfl
set_option maxRecDepth 20000 in
theorem lk9_40 : Cond.methodLink (cnm 9) 40 Lib.Math.min.name ∈ TB := tm 527 rfl
set_option maxRecDepth 20000 in
theorem lk9_47 : Cond.methodLink (cnm 9) 47 Lib.Math.max.name ∈ TB := tm 529 rfl
set_option maxRecDepth 20000 in
theorem lk0_61 : Cond.methodLink (cnm 0) 61 Lib.Math.max.name ∈ TB := tm 537 rfl
set_option maxRecDepth 20000 in
theorem lk0_67 : Cond.methodLink (cnm 0) 67 Lib.Math.min.name ∈ TB := tm 538 rfl
set_option maxRecDepth 20000 in
theorem lk4_89 : Cond.methodLink (cnm 4) 89 Lib.Math.min.name ∈ TB := tm 669 rfl
set_option maxRecDepth 20000 in
theorem lk9_34 : Cond.methodLink (cnm 9) 34 arraycopyName ∈ TB := tm 748 rfl
set_option maxRecDepth 20000 in
theorem lk1_83 : Cond.methodLink (cnm 1) 83 arraycopyName ∈ TB := tm 768 rfl
set_option maxRecDepth 20000 in
theorem lk6_135 : Cond.methodLink (cnm 6) 135 arraycopyName ∈ TB := tm 952 rfl
set_option maxRecDepth 20000 in
theorem lk6_160 : Cond.methodLink (cnm 6) 160 Lib.Math.max.name ∈ TB := tm 1019 rfl
set_option maxRecDepth 20000 in
theorem lk3_60 : Cond.methodLink (cnm 3) 60 Lib.Math.max.name ∈ TB := tm 1060 rfl
set_option maxRecDepth 20000 in
theorem mt_in : Cond.initialized "java/lang/Math" ∈ TB ∧ Cond.initialized "java/lang/System" ∈ TB := ⟨tm 13 rfl, tm 18 rfl⟩
set_option maxRecDepth 20000 in
theorem mt_max : Cond.static Lib.Math.max.name ∈ TB ∧ Cond.code Lib.Math.max.name Lib.Math.max.code 2 (some .int) ∈ TB := ⟨tm 530 rfl, tm 531 rfl⟩
set_option maxRecDepth 20000 in
theorem mt_min : Cond.static Lib.Math.min.name ∈ TB ∧ Cond.code Lib.Math.min.name Lib.Math.min.code 2 (some .int) ∈ TB := ⟨tm 464 rfl, tm 465 rfl⟩
set_option maxRecDepth 20000 in
theorem mt_ac : Cond.static arraycopyName ∈ TB ∧ Cond.native arraycopyName ∈ TB := ⟨tm 749 rfl, tm 750 rfl⟩
set_option maxRecDepth 20000 in
theorem ob_in : Cond.instanceMethod objectInit ∈ TB ∧ Cond.code objectInit ⟨#[0xb1]⟩ 1 none ∈ TB := ⟨tm 27 rfl, tm 28 rfl⟩
end WORDS
end
section
section MIRROR
/-- what the cells hold: numbers in fields, rows of ints, of longs, of cells -/
abbrev ST : Type := (Nat → Nat → Int32) × (Nat → Nat → Int32) × (Nat → Nat → Int64) × (Nat → Nat → Option Nat)
abbrev mkS (x : XT) (S : ST) : HP := mkH x S.1 S.2.1 S.2.2.1 S.2.2.2
def inb (i : Int32) (n : Nat) : Bool := !(decide (i < 0)) && decide (i.toNatClampNeg < n)
theorem inb_ok {i : Int32} {n : Nat} (h : inb i n = true) : vp_in i n := by
  unfold inb at h
  rw [Bool.and_eq_true] at h
  rintro (h1 | h1)
  · simp [h1] at h
  · have := of_decide_eq_true h.2
    omega
def nzi (y : Int32) : Bool := !(decide (y = 0))
theorem nzi_ok {y : Int32} (h : nzi y = true) : ¬ y = 0 := by
  intro e
  simp [nzi, e] at h
def nzl (y : Int64) : Bool := !(decide (y = 0))
theorem nzl_ok {y : Int64} (h : nzl y = true) : ¬ y = 0 := by
  intro e
  simp [nzl, e] at h
def bbz (x : Int32) : Bool := decide (x = 0) || decide (x = 1)
theorem bbz_ok {x : Int32} (h : bbz x = true) : x = 0 ∨ x = 1 := by
  unfold bbz at h
  rw [Bool.or_eq_true] at h
  rcases h with h | h
  · exact Or.inl (of_decide_eq_true h)
  · exact Or.inr (of_decide_eq_true h)
theorem oblk {α : Type} {c : Bool} {t : Option α} {v : α} (h : (bif c then t else none) = some v) : c = true ∧ t = some v := by
  cases c with
  | true => exact ⟨rfl, h⟩
  | false => cases h
end MIRROR
end
section
section COPY
theorem ev_copyi {M : MI} {d bc bs pc : Nat} {lv : List (Option Value)} {st : List Value} {h : HP} {Q : Option Value → HP → Prop} {i a0 a : Nat} {sp dp n : Int32} {sp' dp' n' : Nat} (hd : decode (mB M) pc = .ok (.invokestatic i, 3)) (hlk : Cond.methodLink (cnm (mO M)) i arraycopyName ∈ TB) (hnat : Cond.native arraycopyName ∈ TB) (hstat : Cond.static arraycopyName ∈ TB) (hini : Cond.initialized "java/lang/System" ∈ TB) (hdd : 1 ≤ d) (hrest : (st.map fun v => v.category).sum ≤ 8) (hk0 : kK h a0 = 13) (hk1 : kK h a = 13) (h1 : ¬ sp < 0) (h2 : ¬ dp < 0) (h3 : ¬ n < 0) (g1 : sp.toNatClampNeg = sp') (g2 : dp.toNatClampNeg = dp') (g3 : n.toNatClampNeg = n') (h4 : sp' + n' ≤ kL h a0) (h5 : dp' + n' ≤ kL h a)
    (k : Ev M d bc bs (pc + 3) lv st (sA h (u1 (kA h) a (va_cpy (kA h a0) (kA h a) sp' dp' n'))) Q) : Ev M d bc bs pc lv (.int n :: .int dp :: .ref a :: .int sp :: .ref a0 :: st) h Q := by
  refine ev_full (h1 := sA h (u1 (kA h) a (va_cpy (kA h a0) (kA h a) sp' dp' n'))) (Nat.le_refl (kN h)) (fun {p l e R s m args below meth c D cy G L xs H locs cells slots ls Z} C hdr hrr hK hH hS hl kk => ?_) k
  subst g1; subst g2; subst g3
  have hts := C.2.2.2.2.2.1
  have hk18 : kK h a < 18 := by rw [hk1]; omega
  have hk180 : kK h a0 < 18 := by rw [hk0]; omega
  have hat := hH.2.2.2 a (hH.2.2.1 a hk18)
  have hat0 := hH.2.2.2 a0 (hH.2.2.1 a0 hk180)
  rw [ce_int hk1 (Or.inr (Or.inl rfl))] at hat
  rw [ce_int hk0 (Or.inr (Or.inl rfl))] at hat0
  have ea : cv G (.ref a) = .ref (G.1 + a) := by show Value.ref (ro G a) = _; rw [hH.ro hk18]
  have ea0 : cv G (.ref a0) = .ref (G.1 + a0) := by show Value.ref (ro G a0) = _; rw [hH.ro hk180]
  simp only [List.map_cons]
  rw [ea, ea0]
  have nn : ∀ z : Int32, ¬ z < 0 → z.toInt = (z.toNatClampNeg : Int) := by
    intro z hz
    have hz0 : (0 : Int) ≤ z.toInt := by
      have := Int32.not_lt.mp hz
      simpa using Int32.le_iff_toInt_le.mp this
    show z.toInt = ((z.toInt.toNat : Nat) : Int)
    omega
  have hc0 : H[G.1 + a0]? = some (arrV (cy 13) (kL h a0) (fun j => .int (kA h a0 j))) := hat0
  have hc1 : H[G.1 + a]? = some (arrV (cy 13) (kL h a) (fun j => .int (kA h a j))) := hat
  obtain ⟨-, k0, hk0', cm0, hkk0⟩ := (hK.1.2 1 _ rfl).1 (kL h a0) (fun j => .int (kA h a0 j))
  obtain ⟨-, k1, hk1', cm1, hkk1⟩ := (hK.1.2 1 _ rfl).1 (kL h a) (fun j => .int (kA h a j))
  intro T hT X
  obtain ⟨vm', X', step⟩ := X.arraycopy C.1 C.2.2.2.2.1 (hts _ hlk) (hts _ hnat) (hts _ hstat) (hts _ hini) (src := G.1 + a0) (dst := G.1 + a) (srcPos := sp) (destPos := dp) (n := n) (by rw [hT]; exact hc0) (by rw [hT]; exact hc1)
    (fun _ h => by cases h) (fun _ h => by cases h) (fun h => by cases h) (fun h => by cases h) hk0' hk1' hkk0 hkk1 (by rfl) h1 h2 h3
    (by rw [nn sp h1, nn n h3, arrV_size]; omega)
    (by rw [nn dp h2, nn n h3, arrV_size]; omega)
    (fun vm₁ _ j hj => by
      have ej : (arrV (cy 13) (kL h a0) (fun j => .int (kA h a0 j))).slots.getD (sp.toNatClampNeg + j) .null = .int (kA h a0 (sp.toNatClampNeg + j)) := by
        rw [Array.getD_eq_getD_getElem?, arrV_read _ _ (by omega)]
        rfl
      refine ⟨?_, ?_⟩
      · rw [ej]
        rfl
      · rw [ej]
        exact trivial)
    (g := F0 m pc ls (.int n :: .int dp :: .ref (G.1 + a) :: .int sp :: .ref (G.1 + a0) :: st.map (cv G))) rfl (hl.1.trans C.2.2.2.1.symm) (rest := st.map (cv G)) rfl (by rw [C.2.1]; exact hd) (by omega) (by
      show 2 * 0 + _ + _ ≤ _
      rw [cat_cv]
      have hw : nativeFrameWords "java/lang/System" "arraycopy" 5 ≤ 40 := by decide
      have h9 := hdr.2
      unfold LQ at h9
      omega)
  have e1 : copied (arrV (cy 13) (kL h a0) (fun j => .int (kA h a0 j))) (arrV (cy 13) (kL h a) (fun j => .int (kA h a j))) sp dp n = arrV (cy 13) (kL h a) (fun j => .int (va_cpy (kA h a0) (kA h a) sp.toNatClampNeg dp.toNatClampNeg n.toNatClampNeg j)) := va_copied (fun z => .int z) (cy 13) (cy 13) (kA h a0) (kA h a) h4
  rw [e1] at X' step
  have hlt : G.1 + a < H.size := (Array.getElem?_eq_some_iff.mp hc1).1
  obtain ⟨t, a1, b1⟩ := kk (H.setIfInBounds (G.1 + a) (arrV (cy 13) (kL h a) (fun j => .int (va_cpy (kA h a0) (kA h a) sp.toNatClampNeg dp.toNatClampNeg n.toNatClampNeg j)))) _ ls
    (hH.put (a := a) rfl rfl (fun b hb => ce_eq rfl rfl rfl rfl (u1_n _ _ hb) rfl rfl) (by simp) (fun q hq => by simp [Array.getElem?_setIfInBounds, Ne.symm hq]) (by
      rw [ce_int (h := sA h (u1 (kA h) a (va_cpy (kA h a0) (kA h a) sp.toNatClampNeg dp.toNatClampNeg n.toNatClampNeg))) hk1 (Or.inr (Or.inl rfl))]
      show (H.setIfInBounds (G.1 + a) _)[G.1 + a]? = some (arrV (cy 13) (kL h a) (fun j => .int (u1 (kA h) a (va_cpy (kA h a0) (kA h a) sp.toNatClampNeg dp.toNatClampNeg n.toNatClampNeg) a j)))
      rw [u1_s]
      simp [Array.getElem?_setIfInBounds, hlt]))
    ⟨by simp; exact hS.1, fun q q1 q2 => by
      have : q ≠ G.1 + a := fun e => q2 (by rw [e]; exact Nat.le_add_right _ _)
      simp [Array.getElem?_setIfInBounds, Ne.symm this]
      exact hS.2.1 q q1 q2, fun q hq => by
      rcases List.mem_append.mp hq with hh | hh
      · exact hS.2.2 q hh
      · obtain ⟨z, -, hz⟩ := List.mem_map.mp hh
        rw [← hz]
        exact Nat.le_add_right _ _⟩ hl _ (by rw [← hT]; rfl) X'
  exact ⟨t, step t a1, b1⟩
theorem ev_copyl {M : MI} {d bc bs pc : Nat} {lv : List (Option Value)} {st : List Value} {h : HP} {Q : Option Value → HP → Prop} {i a0 a : Nat} {sp dp n : Int32} {sp' dp' n' : Nat} (hd : decode (mB M) pc = .ok (.invokestatic i, 3)) (hlk : Cond.methodLink (cnm (mO M)) i arraycopyName ∈ TB) (hnat : Cond.native arraycopyName ∈ TB) (hstat : Cond.static arraycopyName ∈ TB) (hini : Cond.initialized "java/lang/System" ∈ TB) (hdd : 1 ≤ d) (hrest : (st.map fun v => v.category).sum ≤ 8) (hk0 : kK h a0 = 14) (hk1 : kK h a = 14) (h1 : ¬ sp < 0) (h2 : ¬ dp < 0) (h3 : ¬ n < 0) (g1 : sp.toNatClampNeg = sp') (g2 : dp.toNatClampNeg = dp') (g3 : n.toNatClampNeg = n') (h4 : sp' + n' ≤ kL h a0) (h5 : dp' + n' ≤ kL h a)
    (k : Ev M d bc bs (pc + 3) lv st (sJ h (u1 (kJ h) a (va_cpy (kJ h a0) (kJ h a) sp' dp' n'))) Q) : Ev M d bc bs pc lv (.int n :: .int dp :: .ref a :: .int sp :: .ref a0 :: st) h Q := by
  refine ev_full (h1 := sJ h (u1 (kJ h) a (va_cpy (kJ h a0) (kJ h a) sp' dp' n'))) (Nat.le_refl (kN h)) (fun {p l e R s m args below meth c D cy G L xs H locs cells slots ls Z} C hdr hrr hK hH hS hl kk => ?_) k
  subst g1; subst g2; subst g3
  have hts := C.2.2.2.2.2.1
  have hk18 : kK h a < 18 := by rw [hk1]; omega
  have hk180 : kK h a0 < 18 := by rw [hk0]; omega
  have hat := hH.2.2.2 a (hH.2.2.1 a hk18)
  have hat0 := hH.2.2.2 a0 (hH.2.2.1 a0 hk180)
  rw [ce_long hk1] at hat
  rw [ce_long hk0] at hat0
  have ea : cv G (.ref a) = .ref (G.1 + a) := by show Value.ref (ro G a) = _; rw [hH.ro hk18]
  have ea0 : cv G (.ref a0) = .ref (G.1 + a0) := by show Value.ref (ro G a0) = _; rw [hH.ro hk180]
  simp only [List.map_cons]
  rw [ea, ea0]
  have nn : ∀ z : Int32, ¬ z < 0 → z.toInt = (z.toNatClampNeg : Int) := by
    intro z hz
    have hz0 : (0 : Int) ≤ z.toInt := by
      have := Int32.not_lt.mp hz
      simpa using Int32.le_iff_toInt_le.mp this
    show z.toInt = ((z.toInt.toNat : Nat) : Int)
    omega
  have hc0 : H[G.1 + a0]? = some (arrV (cy 14) (kL h a0) (fun j => .long (kJ h a0 j))) := hat0
  have hc1 : H[G.1 + a]? = some (arrV (cy 14) (kL h a) (fun j => .long (kJ h a j))) := hat
  obtain ⟨-, k0, hk0', cm0, hkk0⟩ := (hK.1.2 2 _ rfl).1 (kL h a0) (fun j => .long (kJ h a0 j))
  obtain ⟨-, k1, hk1', cm1, hkk1⟩ := (hK.1.2 2 _ rfl).1 (kL h a) (fun j => .long (kJ h a j))
  intro T hT X
  obtain ⟨vm', X', step⟩ := X.arraycopy C.1 C.2.2.2.2.1 (hts _ hlk) (hts _ hnat) (hts _ hstat) (hts _ hini) (src := G.1 + a0) (dst := G.1 + a) (srcPos := sp) (destPos := dp) (n := n) (by rw [hT]; exact hc0) (by rw [hT]; exact hc1)
    (fun _ h => by cases h) (fun _ h => by cases h) (fun h => by cases h) (fun h => by cases h) hk0' hk1' hkk0 hkk1 (by rfl) h1 h2 h3
    (by rw [nn sp h1, nn n h3, arrV_size]; omega)
    (by rw [nn dp h2, nn n h3, arrV_size]; omega)
    (fun vm₁ _ j hj => by
      have ej : (arrV (cy 14) (kL h a0) (fun j => .long (kJ h a0 j))).slots.getD (sp.toNatClampNeg + j) .null = .long (kJ h a0 (sp.toNatClampNeg + j)) := by
        rw [Array.getD_eq_getD_getElem?, arrV_read _ _ (by omega)]
        rfl
      refine ⟨?_, ?_⟩
      · rw [ej]
        rfl
      · rw [ej]
        exact trivial)
    (g := F0 m pc ls (.int n :: .int dp :: .ref (G.1 + a) :: .int sp :: .ref (G.1 + a0) :: st.map (cv G))) rfl (hl.1.trans C.2.2.2.1.symm) (rest := st.map (cv G)) rfl (by rw [C.2.1]; exact hd) (by omega) (by
      show 2 * 0 + _ + _ ≤ _
      rw [cat_cv]
      have hw : nativeFrameWords "java/lang/System" "arraycopy" 5 ≤ 40 := by decide
      have h9 := hdr.2
      unfold LQ at h9
      omega)
  have e1 : copied (arrV (cy 14) (kL h a0) (fun j => .long (kJ h a0 j))) (arrV (cy 14) (kL h a) (fun j => .long (kJ h a j))) sp dp n = arrV (cy 14) (kL h a) (fun j => .long (va_cpy (kJ h a0) (kJ h a) sp.toNatClampNeg dp.toNatClampNeg n.toNatClampNeg j)) := va_copied (fun z => .long z) (cy 14) (cy 14) (kJ h a0) (kJ h a) h4
  rw [e1] at X' step
  have hlt : G.1 + a < H.size := (Array.getElem?_eq_some_iff.mp hc1).1
  obtain ⟨t, a1, b1⟩ := kk (H.setIfInBounds (G.1 + a) (arrV (cy 14) (kL h a) (fun j => .long (va_cpy (kJ h a0) (kJ h a) sp.toNatClampNeg dp.toNatClampNeg n.toNatClampNeg j)))) _ ls
    (hH.put (a := a) rfl rfl (fun b hb => ce_eq rfl rfl rfl rfl rfl (u1_n _ _ hb) rfl) (by simp) (fun q hq => by simp [Array.getElem?_setIfInBounds, Ne.symm hq]) (by
      rw [ce_long (h := sJ h (u1 (kJ h) a (va_cpy (kJ h a0) (kJ h a) sp.toNatClampNeg dp.toNatClampNeg n.toNatClampNeg))) hk1]
      show (H.setIfInBounds (G.1 + a) _)[G.1 + a]? = some (arrV (cy 14) (kL h a) (fun j => .long (u1 (kJ h) a (va_cpy (kJ h a0) (kJ h a) sp.toNatClampNeg dp.toNatClampNeg n.toNatClampNeg) a j)))
      rw [u1_s]
      simp [Array.getElem?_setIfInBounds, hlt]))
    ⟨by simp; exact hS.1, fun q q1 q2 => by
      have : q ≠ G.1 + a := fun e => q2 (by rw [e]; exact Nat.le_add_right _ _)
      simp [Array.getElem?_setIfInBounds, Ne.symm this]
      exact hS.2.1 q q1 q2, fun q hq => by
      rcases List.mem_append.mp hq with hh | hh
      · exact hS.2.2 q hh
      · obtain ⟨z, -, hz⟩ := List.mem_map.mp hh
        rw [← hz]
        exact Nat.le_add_right _ _⟩ hl _ (by rw [← hT]; rfl) X'
  exact ⟨t, step t a1, b1⟩
end COPY
end
section
section TEXTS
/-! texts of laws: cells that come later; by facts, not by numbers -/
def tx (x : XT) (t : Nat) : Bool := Nat.beq (mK x t) 9 && (decide (mRr x t 2 = some (t + 1)) && (decide (mRr x t 3 = some (t + 2)) && (decide (mRr x t 4 = some (t + 3)) && (decide (mRr x t 5 = some (t + 4)) && (Nat.beq (mK x (t + 1)) 13 && (Nat.beq (mK x (t + 2)) 13 && (Nat.beq (mK x (t + 3)) 13 && Nat.beq (mK x (t + 4)) 13)))))))
theorem tx_ok {x : XT} {t : Nat} (h : tx x t = true) : mK x t = 9 ∧ mRr x t 2 = some (t + 1) ∧ mRr x t 3 = some (t + 2) ∧ mRr x t 4 = some (t + 3) ∧ mRr x t 5 = some (t + 4) ∧ mK x (t + 1) = 13 ∧ mK x (t + 2) = 13 ∧ mK x (t + 3) = 13 ∧ mK x (t + 4) = 13 := by
  unfold tx at h
  simp only [Bool.and_eq_true, decide_eq_true_eq] at h
  exact ⟨Nat.eq_of_beq_eq_true h.1, h.2.1, h.2.2.1, h.2.2.2.1, h.2.2.2.2.1, Nat.eq_of_beq_eq_true h.2.2.2.2.2.1, Nat.eq_of_beq_eq_true h.2.2.2.2.2.2.1, Nat.eq_of_beq_eq_true h.2.2.2.2.2.2.2.1, Nat.eq_of_beq_eq_true h.2.2.2.2.2.2.2.2⟩
/-- none, or a text -/
def qk (x : XT) (r : Option Nat) : Bool := match r with
  | none => true
  | some b => Nat.beq (mK x b) 9
theorem qk_ok {x : XT} {r : Option Nat} (h : qk x r = true) : ∀ b, r = some b → mK x b = 9 := by
  intro b hb
  subst hb
  exact Nat.eq_of_beq_eq_true h
theorem ev_getI {M : MI} {d bc bs pc i a ci f : Nat} {lv : List (Option Value)} {st : List Value} {h : HP} {Q : Option Value → HP → Prop} (hd : decode (mB M) pc = .ok (.getfield i, 3)) (hf : fd3 (flT (mO M)) i = some (ci, f)) (hk : kK h a = ci) (ht : Nat.beq (fT ci f) 2 = false)
    (k : Ev M d bc bs (pc + 3) lv (.int (kI h a f) :: st) h Q) : Ev M d bc bs pc lv (.ref a :: st) h Q := by
  refine ev_getf hd hf hk ?_
  unfold fvA
  rw [ht]
  exact k
theorem ev_getR {M : MI} {d bc bs pc i a ci f b : Nat} {lv : List (Option Value)} {st : List Value} {h : HP} {Q : Option Value → HP → Prop} (hd : decode (mB M) pc = .ok (.getfield i, 3)) (hf : fd3 (flT (mO M)) i = some (ci, f)) (hk : kK h a = ci) (ht : Nat.beq (fT ci f) 2 = true) (hr : kR h a f = some b)
    (k : Ev M d bc bs (pc + 3) lv (.ref b :: st) h Q) : Ev M d bc bs pc lv (.ref a :: st) h Q := by
  refine ev_getf hd hf hk ?_
  unfold fvA
  rw [ht, hr]
  exact k
theorem ev_aloadQ {M : MI} {d bc bs pc i : Nat} {r : Option Nat} {lv : List (Option Value)} {st : List Value} {h : HP} {Q : Option Value → HP → Prop} (hd : decode (mB M) pc = .ok (.aload i, 2)) (hv : lg lv i = some (va_rf r))
    (k : Ev M d bc bs (pc + 2) lv (va_rf r :: st) h Q) : Ev M d bc bs pc lv st h Q := by
  cases r with
  | none => exact ev_aloadN hd hv k
  | some a => exact ev_aload hd hv k
theorem ev_astoreQ {M : MI} {d bc bs pc i : Nat} {r : Option Nat} {lv : List (Option Value)} {st : List Value} {h : HP} {Q : Option Value → HP → Prop} (hd : decode (mB M) pc = .ok (.astore i, 2)) (hi : i < mX M)
    (k : Ev M d bc bs (pc + 2) (ls1 lv i (va_rf r)) st h Q) : Ev M d bc bs pc lv (va_rf r :: st) h Q := by
  cases r with
  | none => exact ev_astoreN hd hi k
  | some a => exact ev_astore hd hi k
theorem ev_ifnullQ {M : MI} {d bc bs pc t : Nat} {off : Int} {r : Option Nat} {lv : List (Option Value)} {st : List Value} {h : HP} {Q : Option Value → HP → Prop} (hd : decode (mB M) pc = .ok (.ifnull off, 3)) (ht : tgt pc off = some t)
    (k0 : r = none → Ev M d bc bs t lv st h Q) (k1 : ∀ a, r = some a → Ev M d bc bs (pc + 3) lv st h Q) : Ev M d bc bs pc lv (va_rf r :: st) h Q := by
  cases r with
  | none => exact ev_ifnullN hd ht (k0 rfl)
  | some a => exact ev_ifnull hd (k1 a rfl)
end TEXTS
end
section
section STR
/-! the text constant: 1000001 is its cell, 1000002 its bytes', 1000003 a cell outside -/
theorem ev_ldcS {M : MI} {d bc bs pc : Nat} {lv : List (Option Value)} {st : List Value} {h : HP} {Q : Option Value → HP → Prop} (hd : decode (mB M) pc = .ok (.ldc 95, 2)) (hO : mO M = 4)
    (k : Ev M d bc bs (pc + 2) lv (.ref 1000001 :: st) h Q) : Ev M d bc bs pc lv st h Q := by
  refine ev_full (Nat.le_refl _) (fun {p l e R s m args below meth c D cy G L xs H locs cells slots ls Z} C hdr hrr hK hH hS hl kk => ?_) k
  have hown := C.2.2.2.2.1
  rw [hO] at hown
  exact va_ldcS C.1 C.2.1 (own := RX4) hown hK.2.2.2.2.1 hd (kk _ _ _ hH hS hl)
theorem ev_gst {M : MI} {d bc bs pc i : Nat} {lv : List (Option Value)} {st : List Value} {h : HP} {Q : Option Value → HP → Prop} (hd : decode (mB M) pc = .ok (.getstatic i, 3)) (hlk : Cond.fieldLink (cnm (mO M)) i "java/lang/String" "COMPACT_STRINGS" "Z" ∈ TB)
    (k : Ev M d bc bs (pc + 3) lv (.int 1 :: st) h Q) : Ev M d bc bs pc lv st h Q := by
  refine ev_full (Nat.le_refl _) (fun {p l e R s m args below meth c D cy G L xs H locs cells slots ls Z} C hdr hrr hK hH hS hl kk => ?_) k
  exact va_gets C.1 C.2.1 hK.2.2.2.2.2.2.1 hS C.2.2.2.2.1 (C.2.2.2.2.2.1 _ hlk) (fun x h => h) hd (kk _ _ _ hH hS hl)
theorem ev_gsz {M : MI} {d bc bs pc i : Nat} {lv : List (Option Value)} {st : List Value} {h : HP} {Q : Option Value → HP → Prop} (hd : decode (mB M) pc = .ok (.getstatic i, 3)) (hlk : Cond.fieldLink (cnm (mO M)) i "jdk/internal/util/Preconditions" "SIOOBE_FORMATTER" "Ljava/util/function/BiFunction;" ∈ TB)
    (k0 : Ev M d bc bs (pc + 3) lv (.null :: st) h Q) (k1 : Ev M d bc bs (pc + 3) lv (.ref 1000003 :: st) h Q) : Ev M d bc bs pc lv st h Q := by
  intro p l e R s m args below meth c D cy G L xs H locs cells slots ls Z C hdr hrr hK hH hS hl hZ
  rcases hK.2.2.2.2.2.2.2.1 with hz | hz
  · exact va_gets C.1 C.2.1 hz hS C.2.2.2.2.1 (C.2.2.2.2.2.1 _ hlk) (fun x h => h) hd (k0 p l e R s m args below meth c D cy G L xs H locs cells slots ls Z C hdr hrr hK hH hS hl hZ)
  · exact va_gets C.1 C.2.1 hz hS C.2.2.2.2.1 (C.2.2.2.2.2.1 _ hlk) (fun x h => h) hd (k1 p l e R s m args below meth c D cy G L xs H locs cells slots ls Z C hdr hrr hK hH hS hl hZ)
theorem ev_scod {M : MI} {d bc bs pc i : Nat} {lv : List (Option Value)} {st : List Value} {h : HP} {Q : Option Value → HP → Prop} (hd : decode (mB M) pc = .ok (.getfield i, 3)) (hlk : Cond.fieldLink (cnm (mO M)) i "java/lang/String" "coder" "B" ∈ TB)
    (k : Ev M d bc bs (pc + 3) lv (.int 0 :: st) h Q) : Ev M d bc bs pc lv (.ref 1000001 :: st) h Q := by
  refine ev_full (Nat.le_refl _) (fun {p l e R s m args below meth c D cy G L xs H locs cells slots ls Z} C hdr hrr hK hH hS hl kk => ?_) k
  exact vk_getf C.1 C.2.1 (hK.2.2.2.2.2.1.1 0 (by decide)).2.1 hS C.2.2.2.2.1 (C.2.2.2.2.2.1 _ hlk) (fun x h => h) hd (kk _ _ _ hH hS hl)
theorem ev_sval {M : MI} {d bc bs pc i : Nat} {lv : List (Option Value)} {st : List Value} {h : HP} {Q : Option Value → HP → Prop} (hd : decode (mB M) pc = .ok (.getfield i, 3)) (hlk : Cond.fieldLink (cnm (mO M)) i "java/lang/String" "value" "[B" ∈ TB)
    (k : Ev M d bc bs (pc + 3) lv (.ref 1000002 :: st) h Q) : Ev M d bc bs pc lv (.ref 1000001 :: st) h Q := by
  refine ev_full (Nat.le_refl _) (fun {p l e R s m args below meth c D cy G L xs H locs cells slots ls Z} C hdr hrr hK hH hS hl kk => ?_) k
  exact vk_getf C.1 C.2.1 (hK.2.2.2.2.2.1.1 0 (by decide)).2.2.1 hS C.2.2.2.2.1 (C.2.2.2.2.2.1 _ hlk) (fun x h => h) hd (kk _ _ _ hH hS hl)
theorem ev_svlen {M : MI} {d bc bs pc : Nat} {lv : List (Option Value)} {st : List Value} {h : HP} {Q : Option Value → HP → Prop} (hd : decode (mB M) pc = .ok (.arraylength, 1))
    (k : Ev M d bc bs (pc + 1) lv (.int 122 :: st) h Q) : Ev M d bc bs pc lv (.ref 1000002 :: st) h Q := by
  refine ev_full (Nat.le_refl _) (fun {p l e R s m args below meth c D cy G L xs H locs cells slots ls Z} C hdr hrr hK hH hS hl kk => ?_) k
  exact va_tlen C.1 C.2.1 (hK.2.2.2.2.2.1.1 0 (by decide)).2.2.2 hS (by decide) hd (kk _ _ _ hH hS hl)
def chA (i : Int32) : Int32 := sTB.getD i.toNatClampNeg 0
theorem ev_svld {M : MI} {d bc bs pc : Nat} {i : Int32} {lv : List (Option Value)} {st : List Value} {h : HP} {Q : Option Value → HP → Prop} (hd : decode (mB M) pc = .ok (.baload, 1)) (hin : vp_in i 122)
    (k : Ev M d bc bs (pc + 1) lv (.int (chA i) :: st) h Q) : Ev M d bc bs pc lv (.int i :: .ref 1000002 :: st) h Q := by
  refine ev_full (Nat.le_refl _) (fun {p l e R s m args below meth c D cy G L xs H locs cells slots ls Z} C hdr hrr hK hH hS hl kk => ?_) k
  exact va_tb C.1 C.2.1 (hK.2.2.2.2.2.1.1 0 (by decide)).2.2.2 hS hin rfl hd (kk _ _ _ hH hS hl)
theorem ev_callStr {M : MI} {d bc bs pc : Nat} {lv : List (Option Value)} {h : HP} {Q : Option Value → HP → Prop} {N : MI} {d' bc' bs' i : Nat} {as rest : List Value} {Qc : Option Value → HP → Prop} (hd : decode (mB M) pc = .ok (.invokevirtual i, 3)) (ok : OKm N) (hcls : (mY N).cls = "java/lang/String") (hi : Cond.instanceMethod (mY N) ∈ TB) (hs : Cond.selects (mY N).cls (mY N) (mY N) ∈ TB) (hlk : Cond.methodLink (cnm (mO M)) i (mY N) ∈ TB) (hnp : (parseMethodDescriptor (mY N).desc).map (fun d => d.parameters.length) = some as.length) (hdd : d' + 1 ≤ d) (hrest : (rest.map fun v => v.category).sum ≤ 8)
    (hC : Ct N d' bc' bs' (.ref 1000001 :: as) h Qc) (k : ∀ v h', Qc v h' → kN h ≤ kN h' → Ev M d bc bs (pc + 3) lv (v.toList ++ rest) h' Q) : Ev M d (bc + bc') (bs + bs') pc lv (as.reverse ++ .ref 1000001 :: rest) h Q := by
  intro p l e R s m args below meth c D cy G L xs H locs cells slots ls Z C hdr hrr hK hH hS hl hZ
  have hst : (as.reverse ++ Value.ref 1000001 :: rest).map (cv G) = (as.map (cv G)).reverse ++ .ref G.2.2.1 :: rest.map (cv G) := by
    rw [List.map_append, List.map_reverse, List.map_cons]
    rfl
  rw [hst]
  have hrec := vk_recv (i := 0) hK.2.2.2.2.2.1 (by decide) hS
  have hG := goodTB (ws := wsV (cnm (mO M)) i (mY N).cls (mY N) (Cond.code (mY N) (mB N) (mX N) (mR N) :: TB)) (by
    intro w hw
    simp only [wsV, List.mem_append, List.mem_cons, List.not_mem_nil, or_false] at hw
    rcases hw with (rfl | rfl | rfl | rfl) | rfl | hw
    · exact hlk
    · exact hi
    · exact hs
    · exact ok.2.1
    · exact ok.1
    · exact hw)
  have hr := va_runV (As := as.map (cv G)) (rest := rest.map (cv G)) (b := G.2.2.1) (C := (mY N).cls) (locs := locs) (cells := cells) (slots := slots) (below := below) (meth := meth) (H := H) (R := R) (e := e) (g := F0 m pc ls ((as.map (cv G)).reverse ++ .ref G.2.2.1 :: rest.map (cv G))) ⟨C.1, C.2.1, C.2.2.2.1, C.2.2.2.2.1, C.2.2.2.2.2.1⟩ (hC l D cy G L xs)
    (cwV as.length C.2.2.2.2.2.1 hG rfl rfl rfl ⟨rfl, ok.2.2.1.1, ok.2.2.1.2, hnp⟩ ⟨by show d' + 1 ≤ R.frames; omega, LQ_le hdd ok.2.2.2 hdr.2⟩)
    ⟨KE.blind, by rw [hcls]; exact hrec, fun U hU hW => ⟨rfl, hK.at hS hU hW, by rw [hU]; exact hH⟩⟩ rfl (by rw [List.length_map]) hl.1 rfl (lv_room (by rw [cat_cv]; exact hrest)) hd ⟨by omega, by omega⟩
  refine run_back hr hS (fun v h' H1 locs1 hq hn hH1 hS1 => ?_)
  rw [toL_cv]
  exact k v h' hq hn p l e R s m args below meth c D cy G L xs H1 locs1 (cells + bc') (slots + bs') ls Z C hdr ⟨by omega, by omega⟩ hK hH1 hS1 hl (fun v h'' H' locs' cells' slots' ls' pc' a1 a2 a3 a4 a5 a6 a7 => hZ v h'' H' locs' cells' slots' ls' pc' a1 a2 (Nat.le_trans hn a3) a4 a5 (by omega) (by omega))
theorem ev_i2c {M : MI} {d bc bs pc : Nat} {x : Int32} {lv : List (Option Value)} {st : List Value} {h : HP} {Q : Option Value → HP → Prop} (hd : decode (mB M) pc = .ok (.i2c, 1))
    (k : Ev M d bc bs (pc + 1) lv (.int (x.toUInt32 % 65536).toInt32 :: st) h Q) : Ev M d bc bs pc lv (.int x :: st) h Q :=
  ev_of (fun hx hb hl k => lv_i2c hx hb hd rfl k) k
set_option maxRecDepth 20000 in
theorem sl_cs : Cond.fieldLink (cnm 15) 38 "java/lang/String" "COMPACT_STRINGS" "Z" ∈ TB := tm 629 rfl
set_option maxRecDepth 20000 in
theorem sl_si : Cond.fieldLink (cnm 15) 1053 "jdk/internal/util/Preconditions" "SIOOBE_FORMATTER" "Ljava/util/function/BiFunction;" ∈ TB := tm 645 rfl
set_option maxRecDepth 20000 in
theorem sl_v : Cond.fieldLink (cnm 15) 9 "java/lang/String" "value" "[B" ∈ TB := tm 1841 rfl
set_option maxRecDepth 20000 in
theorem sl_c : Cond.fieldLink (cnm 15) 15 "java/lang/String" "coder" "B" ∈ TB := tm 1842 rfl
theorem ct_coder (h : HP) : Ct mJ0_coder_7d493 1 0 0 [.ref 1000001] h (fun v h' => v = some (.int 0) ∧ h' = h) := by
  refine Ct.of (lv := [some (.ref 1000001)]) rfl rfl rfl (show (_ : Nat) ≤ _ from Nat.le_of_ble_eq_true rfl) (fun G => rfl) ?_
  refine ev_gst (dcd tokJ0_coder_7d493 rfl) sl_cs ?_
  refine Ev.steps tokJ0_coder_7d493 2 (P := True) (pc' := 7) (lv' := [some (.ref 1000001)]) (st' := [.ref 1000001]) (h' := h) rfl trivial ?_
  refine ev_scod (dcd tokJ0_coder_7d493 rfl) sl_c ?_
  refine Ev.steps tokJ0_coder_7d493 1 (P := True) (pc' := 14) (lv' := [some (.ref 1000001)]) (st' := [.int 0]) (h' := h) rfl trivial ?_
  exact Ev.retn tokJ0_coder_7d493 rfl rfl (by decide) ⟨rfl, rfl⟩
theorem ct_isLatin1 (h : HP) : Ct mJ0_isLatin1_aae02 1 0 0 [.ref 1000001] h (fun v h' => v = some (.int 1) ∧ h' = h) := by
  refine Ct.of (lv := [some (.ref 1000001)]) rfl rfl rfl (show (_ : Nat) ≤ _ from Nat.le_of_ble_eq_true rfl) (fun G => rfl) ?_
  refine ev_gst (dcd tokJ0_isLatin1_aae02 rfl) sl_cs ?_
  refine Ev.steps tokJ0_isLatin1_aae02 2 (P := True) (pc' := 7) (lv' := [some (.ref 1000001)]) (st' := [.ref 1000001]) (h' := h) rfl trivial ?_
  refine ev_scod (dcd tokJ0_isLatin1_aae02 rfl) sl_c ?_
  refine Ev.steps tokJ0_isLatin1_aae02 3 (P := True) (pc' := 18) (lv' := [some (.ref 1000001)]) (st' := [.int 1]) (h' := h) rfl trivial ?_
  exact Ev.retn tokJ0_isLatin1_aae02 rfl rfl (by decide) ⟨rfl, rfl⟩
theorem ct_strlen (h : HP) : Ct mJ0_length_8abf5 2 0 0 [.ref 1000001] h (fun v h' => v = some (.int 122) ∧ h' = h) := by
  refine Ct.of (lv := [some (.ref 1000001)]) rfl rfl rfl (show (_ : Nat) ≤ _ from Nat.le_of_ble_eq_true rfl) (fun G => rfl) ?_
  refine Ev.steps tokJ0_length_8abf5 1 (P := True) (pc' := 1) (lv' := [some (.ref 1000001)]) (st' := [.ref 1000001]) (h' := h) rfl trivial ?_
  refine ev_sval (dcd tokJ0_length_8abf5 rfl) sl_v ?_
  refine ev_svlen (dcd tokJ0_length_8abf5 rfl) ?_
  refine Ev.steps tokJ0_length_8abf5 1 (P := True) (pc' := 6) (lv' := [some (.ref 1000001)]) (st' := [.ref 1000001, .int 122]) (h' := h) rfl trivial ?_
  refine ev_callStr (N := mJ0_coder_7d493) (d' := 1) (bc := 0) (bs := 0) (bc' := 0) (bs' := 0) (as := []) (rest := [.int 122]) (dcd tokJ0_length_8abf5 rfl) okJ0_coder_7d493 rfl inJ0_coder_7d493 seJ0_coder_7d493 lk15_335 rfl (by decide) (Nat.le_of_ble_eq_true rfl) (ct_coder h) (fun v h' hq hn => ?_)
  obtain ⟨rfl, rfl⟩ := hq
  refine Ev.steps tokJ0_length_8abf5 1 (P := True) (pc' := 10) (lv' := [some (.ref 1000001)]) (st' := [.int 122]) (h' := h') rfl trivial ?_
  exact Ev.reti tokJ0_length_8abf5 rfl rfl ⟨rfl, rfl⟩
theorem ct_pchk (h : HP) (i : Int32) (r : Value) (hr : r = .null ∨ r = .ref 1000003) (hi : 0 ≤ i ∧ i < 122) : Ct mJ3_checkIndex_8e157 1 0 0 [.int i, .int 122, r] h (fun v h' => v = some (.int i) ∧ h' = h) := by
  have h0 : ¬ i < 0 := Int32.not_lt.mpr hi.1
  rcases hr with rfl | rfl
  · refine Ct.of (lv := [some (.int i), some (.int 122), some .null]) rfl rfl rfl (show (_ : Nat) ≤ _ from Nat.le_of_ble_eq_true rfl) (fun G => rfl) ?_
    refine Ev.steps tokJ3_checkIndex_8e157 2 (P := True) (pc' := if i < 0 then 9 else 4) (lv' := [some (.int i), some (.int 122), some .null]) (st' := []) (h' := h) rfl trivial ?_
    rw [if_neg h0]
    refine Ev.steps tokJ3_checkIndex_8e157 3 (P := True) (pc' := if i < 122 then 16 else 9) (lv' := [some (.int i), some (.int 122), some .null]) (st' := []) (h' := h) rfl trivial ?_
    rw [if_pos hi.2]
    refine Ev.steps tokJ3_checkIndex_8e157 1 (P := True) (pc' := 17) (lv' := [some (.int i), some (.int 122), some .null]) (st' := [.int i]) (h' := h) rfl trivial ?_
    exact Ev.reti tokJ3_checkIndex_8e157 rfl rfl ⟨rfl, rfl⟩
  · refine Ct.of (lv := [some (.int i), some (.int 122), some (.ref 1000003)]) rfl rfl rfl (show (_ : Nat) ≤ _ from Nat.le_of_ble_eq_true rfl) (fun G => rfl) ?_
    refine Ev.steps tokJ3_checkIndex_8e157 2 (P := True) (pc' := if i < 0 then 9 else 4) (lv' := [some (.int i), some (.int 122), some (.ref 1000003)]) (st' := []) (h' := h) rfl trivial ?_
    rw [if_neg h0]
    refine Ev.steps tokJ3_checkIndex_8e157 3 (P := True) (pc' := if i < 122 then 16 else 9) (lv' := [some (.int i), some (.int 122), some (.ref 1000003)]) (st' := []) (h' := h) rfl trivial ?_
    rw [if_pos hi.2]
    refine Ev.steps tokJ3_checkIndex_8e157 1 (P := True) (pc' := 17) (lv' := [some (.int i), some (.int 122), some (.ref 1000003)]) (st' := [.int i]) (h' := h) rfl trivial ?_
    exact Ev.reti tokJ3_checkIndex_8e157 rfl rfl ⟨rfl, rfl⟩
theorem ct_schk (h : HP) (i : Int32) (hi : 0 ≤ i ∧ i < 122) : Ct mJ0_checkIndex_df160 2 0 0 [.int i, .int 122] h (fun v h' => v = none ∧ h' = h) := by
  refine Ct.of (lv := [some (.int i), some (.int 122)]) rfl rfl rfl (show (_ : Nat) ≤ _ from Nat.le_of_ble_eq_true rfl) (fun G => rfl) ?_
  refine Ev.steps tokJ0_checkIndex_df160 2 (P := True) (pc' := 2) (lv' := [some (.int i), some (.int 122)]) (st' := [.int 122, .int i]) (h' := h) rfl trivial ?_
  refine ev_gsz (dcd tokJ0_checkIndex_df160 rfl) sl_si ?_ ?_
  · refine ev_callS (N := mJ3_checkIndex_8e157) (d' := 1) (bc := 0) (bs := 0) (bc' := 0) (bs' := 0) (as := [.int i, .int 122, .null]) (rest := []) (dcd tokJ0_checkIndex_df160 rfl) okJ3_checkIndex_8e157 inJ3_checkIndex_8e157 lk15_1059 rfl (by decide) (Nat.le_of_ble_eq_true rfl) (ct_pchk h i .null (Or.inl rfl) hi) (fun v h' hq hn => ?_)
    obtain ⟨rfl, rfl⟩ := hq
    refine Ev.steps tokJ0_checkIndex_df160 1 (P := True) (pc' := 9) (lv' := [some (.int i), some (.int 122)]) (st' := []) (h' := h') rfl trivial ?_
    exact Ev.retv tokJ0_checkIndex_df160 rfl rfl ⟨rfl, rfl⟩
  · refine ev_callS (N := mJ3_checkIndex_8e157) (d' := 1) (bc := 0) (bs := 0) (bc' := 0) (bs' := 0) (as := [.int i, .int 122, .ref 1000003]) (rest := []) (dcd tokJ0_checkIndex_df160 rfl) okJ3_checkIndex_8e157 inJ3_checkIndex_8e157 lk15_1059 rfl (by decide) (Nat.le_of_ble_eq_true rfl) (ct_pchk h i (.ref 1000003) (Or.inr rfl) hi) (fun v h' hq hn => ?_)
    obtain ⟨rfl, rfl⟩ := hq
    refine Ev.steps tokJ0_checkIndex_df160 1 (P := True) (pc' := 9) (lv' := [some (.int i), some (.int 122)]) (st' := []) (h' := h') rfl trivial ?_
    exact Ev.retv tokJ0_checkIndex_df160 rfl rfl ⟨rfl, rfl⟩
theorem chA_small : ∀ j : Nat, j < 122 → 0 ≤ sTB.getD j 0 ∧ sTB.getD j 0 < 128 ∧ ((sTB.getD j 0 &&& 255).toUInt32 % 65536).toInt32 = sTB.getD j 0 ∧ narrow .char (.int (sTB.getD j 0)) = .int (sTB.getD j 0) := by decide +kernel
theorem in122 {i : Int32} (hi : 0 ≤ i ∧ i < 122) : i.toNatClampNeg < 122 ∧ vp_in i 122 := by
  have h1 : (0 : Int) ≤ i.toInt := by simpa using Int32.le_iff_toInt_le.mp hi.1
  have h2 : i.toInt < 122 := by simpa using Int32.lt_iff_toInt_lt.mp hi.2
  have h3 : i.toNatClampNeg < 122 := by show i.toInt.toNat < 122; omega
  refine ⟨h3, ?_⟩
  rintro (h | h)
  · exact Int32.not_lt.mpr hi.1 h
  · omega
theorem ct_lat (h : HP) (i : Int32) (hi : 0 ≤ i ∧ i < 122) : Ct mJ1_charAt_3b067 3 0 0 [.ref 1000002, .int i] h (fun v h' => v = some (.int (chA i)) ∧ h' = h) := by
  refine Ct.of (lv := [some (.ref 1000002), some (.int i)]) rfl rfl rfl (show (_ : Nat) ≤ _ from Nat.le_of_ble_eq_true rfl) (fun G => rfl) ?_
  refine Ev.steps tokJ1_charAt_3b067 2 (P := True) (pc' := 2) (lv' := [some (.ref 1000002), some (.int i)]) (st' := [.ref 1000002, .int i]) (h' := h) rfl trivial ?_
  refine ev_svlen (dcd tokJ1_charAt_3b067 rfl) ?_
  refine ev_callS (N := mJ0_checkIndex_df160) (d' := 2) (bc := 0) (bs := 0) (bc' := 0) (bs' := 0) (as := [.int i, .int 122]) (rest := []) (dcd tokJ1_charAt_3b067 rfl) okJ0_checkIndex_df160 inJ0_checkIndex_df160 lk16_9 rfl (by decide) (Nat.le_of_ble_eq_true rfl) (ct_schk h i hi) (fun v h' hq hn => ?_)
  obtain ⟨rfl, rfl⟩ := hq
  refine Ev.steps tokJ1_charAt_3b067 2 (P := True) (pc' := 8) (lv' := [some (.ref 1000002), some (.int i)]) (st' := [.int i, .ref 1000002]) (h' := h') rfl trivial ?_
  refine ev_svld (dcd tokJ1_charAt_3b067 rfl) (in122 hi).2 ?_
  refine Ev.steps tokJ1_charAt_3b067 2 (P := True) (pc' := 13) (lv' := [some (.ref 1000002), some (.int i)]) (st' := [.int (chA i &&& 255)]) (h' := h') rfl trivial ?_
  refine ev_i2c (dcd tokJ1_charAt_3b067 rfl) ?_
  have hs := chA_small _ (in122 hi).1
  rw [show ((chA i &&& 255).toUInt32 % 65536).toInt32 = chA i from hs.2.2.1]
  exact Ev.retn tokJ1_charAt_3b067 rfl rfl hs.2.2.2 ⟨rfl, rfl⟩
theorem ct_charAt (h : HP) (i : Int32) (hi : 0 ≤ i ∧ i < 122) : Ct mJ0_charAt_5068e 4 0 0 [.ref 1000001, .int i] h (fun v h' => v = some (.int (chA i)) ∧ h' = h) := by
  refine Ct.of (lv := [some (.ref 1000001), some (.int i)]) rfl rfl rfl (show (_ : Nat) ≤ _ from Nat.le_of_ble_eq_true rfl) (fun G => rfl) ?_
  refine Ev.steps tokJ0_charAt_5068e 1 (P := True) (pc' := 1) (lv' := [some (.ref 1000001), some (.int i)]) (st' := [.ref 1000001]) (h' := h) rfl trivial ?_
  refine ev_callStr (N := mJ0_isLatin1_aae02) (d' := 1) (bc := 0) (bs := 0) (bc' := 0) (bs' := 0) (as := []) (rest := []) (dcd tokJ0_charAt_5068e rfl) okJ0_isLatin1_aae02 rfl inJ0_isLatin1_aae02 seJ0_isLatin1_aae02 lk15_492 rfl (by decide) (Nat.le_of_ble_eq_true rfl) (ct_isLatin1 h) (fun v h' hq hn => ?_)
  obtain ⟨rfl, rfl⟩ := hq
  refine Ev.steps tokJ0_charAt_5068e 2 (P := True) (pc' := 8) (lv' := [some (.ref 1000001), some (.int i)]) (st' := [.ref 1000001]) (h' := h') rfl trivial ?_
  refine ev_sval (dcd tokJ0_charAt_5068e rfl) sl_v ?_
  refine Ev.steps tokJ0_charAt_5068e 1 (P := True) (pc' := 12) (lv' := [some (.ref 1000001), some (.int i)]) (st' := [.int i, .ref 1000002]) (h' := h') rfl trivial ?_
  refine ev_callS (N := mJ1_charAt_3b067) (d' := 3) (bc := 0) (bs := 0) (bc' := 0) (bs' := 0) (as := [.ref 1000002, .int i]) (rest := []) (dcd tokJ0_charAt_5068e rfl) okJ1_charAt_3b067 inJ1_charAt_3b067 lk15_495 rfl (by decide) (Nat.le_of_ble_eq_true rfl) (ct_lat h' i hi) (fun v h' hq hn => ?_)
  obtain ⟨rfl, rfl⟩ := hq
  exact Ev.retn tokJ0_charAt_5068e rfl rfl (chA_small _ (in122 hi).1).2.2.2 ⟨rfl, rfl⟩
def inc (i : Int32) : Bool := decide (0 ≤ i) && decide (i < 122)
theorem inc_ok {i : Int32} (h : inc i = true) : 0 ≤ i ∧ i < 122 := by
  unfold inc at h
  rw [Bool.and_eq_true] at h
  exact ⟨of_decide_eq_true h.1, of_decide_eq_true h.2⟩
end STR
end
