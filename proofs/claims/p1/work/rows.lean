section
-- ===== PART A: goes FIRST, ahead of the names: the tables' words, and 'selects' of the private methods out of them =====
/-- a private method of a class that the tables say can be made, by its rows of tables_1 -/
def lw_okq (q : MethodName × Nat) : Prop := (q.1.cls ≠ "java/lang/invoke/MethodHandle" ∧ q.1.cls ≠ "java/lang/invoke/VarHandle") ∧ Cond.instantiable q.1.cls q.2 ∈ tables_1 ∧ Cond.privateMethod q.1 ∈ tables_1 ∧ Cond.instanceMethod q.1 ∈ tables_1
theorem lw_p0 : lw_okq (⟨"BoxQuay$Reader", "readTokens", "()I"⟩, 14) := ⟨⟨by decide +kernel, by decide +kernel⟩, List.mem_of_getElem? (i := 67) (by decide +kernel), List.mem_of_getElem? (i := 558) (by decide +kernel), List.mem_of_getElem? (i := 559) (by decide +kernel)⟩
theorem lw_p1 : lw_okq (⟨"BoxQuay$Tokens", "takeWord", "()V"⟩, 7) := ⟨⟨by decide +kernel, by decide +kernel⟩, List.mem_of_getElem? (i := 31) (by decide +kernel), List.mem_of_getElem? (i := 572) (by decide +kernel), List.mem_of_getElem? (i := 573) (by decide +kernel)⟩
theorem lw_p2 : lw_okq (⟨"BoxQuay$Tokens", "takeInt", "()V"⟩, 7) := ⟨⟨by decide +kernel, by decide +kernel⟩, List.mem_of_getElem? (i := 31) (by decide +kernel), List.mem_of_getElem? (i := 635) (by decide +kernel), List.mem_of_getElem? (i := 636) (by decide +kernel)⟩
theorem lw_p3 : lw_okq (⟨"BoxQuay$Tokens", "takeSign", "()V"⟩, 7) := ⟨⟨by decide +kernel, by decide +kernel⟩, List.mem_of_getElem? (i := 31) (by decide +kernel), List.mem_of_getElem? (i := 639) (by decide +kernel), List.mem_of_getElem? (i := 640) (by decide +kernel)⟩
theorem lw_p4 : lw_okq (⟨"BoxQuay$Tokens", "takeEquals", "()Z"⟩, 7) := ⟨⟨by decide +kernel, by decide +kernel⟩, List.mem_of_getElem? (i := 31) (by decide +kernel), List.mem_of_getElem? (i := 643) (by decide +kernel), List.mem_of_getElem? (i := 644) (by decide +kernel)⟩
theorem lw_p5 : lw_okq (⟨"BoxQuay$Reader", "follow", "(I)I"⟩, 14) := ⟨⟨by decide +kernel, by decide +kernel⟩, List.mem_of_getElem? (i := 67) (by decide +kernel), List.mem_of_getElem? (i := 647) (by decide +kernel), List.mem_of_getElem? (i := 648) (by decide +kernel)⟩
theorem lw_p6 : lw_okq (⟨"BoxQuay$Reader", "followMore", "(I)I"⟩, 14) := ⟨⟨by decide +kernel, by decide +kernel⟩, List.mem_of_getElem? (i := 67) (by decide +kernel), List.mem_of_getElem? (i := 660) (by decide +kernel), List.mem_of_getElem? (i := 661) (by decide +kernel)⟩
theorem lw_p7 : lw_okq (⟨"BoxQuay$Reader", "lacksRoom", "(I)Z"⟩, 14) := ⟨⟨by decide +kernel, by decide +kernel⟩, List.mem_of_getElem? (i := 67) (by decide +kernel), List.mem_of_getElem? (i := 667) (by decide +kernel), List.mem_of_getElem? (i := 668) (by decide +kernel)⟩
theorem lw_p8 : lw_okq (⟨"BoxQuay$Reader", "take", "(I)V"⟩, 14) := ⟨⟨by decide +kernel, by decide +kernel⟩, List.mem_of_getElem? (i := 67) (by decide +kernel), List.mem_of_getElem? (i := 671) (by decide +kernel), List.mem_of_getElem? (i := 672) (by decide +kernel)⟩
theorem lw_p9 : lw_okq (⟨"BoxQuay$Reader", "takeNumber", "(I)V"⟩, 14) := ⟨⟨by decide +kernel, by decide +kernel⟩, List.mem_of_getElem? (i := 67) (by decide +kernel), List.mem_of_getElem? (i := 675) (by decide +kernel), List.mem_of_getElem? (i := 676) (by decide +kernel)⟩
theorem lw_p10 : lw_okq (⟨"BoxQuay$Reader", "takeBays", "(I)V"⟩, 14) := ⟨⟨by decide +kernel, by decide +kernel⟩, List.mem_of_getElem? (i := 67) (by decide +kernel), List.mem_of_getElem? (i := 679) (by decide +kernel), List.mem_of_getElem? (i := 680) (by decide +kernel)⟩
theorem lw_p11 : lw_okq (⟨"BoxQuay$Reader", "noteLater", "(I)V"⟩, 14) := ⟨⟨by decide +kernel, by decide +kernel⟩, List.mem_of_getElem? (i := 67) (by decide +kernel), List.mem_of_getElem? (i := 683) (by decide +kernel), List.mem_of_getElem? (i := 684) (by decide +kernel)⟩
theorem lw_p12 : lw_okq (⟨"BoxQuay$Reader", "takeLift", "(I)V"⟩, 14) := ⟨⟨by decide +kernel, by decide +kernel⟩, List.mem_of_getElem? (i := 67) (by decide +kernel), List.mem_of_getElem? (i := 687) (by decide +kernel), List.mem_of_getElem? (i := 688) (by decide +kernel)⟩
theorem lw_p13 : lw_okq (⟨"BoxQuay$Reader", "takePlugBay", "(I)V"⟩, 14) := ⟨⟨by decide +kernel, by decide +kernel⟩, List.mem_of_getElem? (i := 67) (by decide +kernel), List.mem_of_getElem? (i := 691) (by decide +kernel), List.mem_of_getElem? (i := 692) (by decide +kernel)⟩
theorem lw_p14 : lw_okq (⟨"BoxQuay$Reader", "takePlugRow", "(I)V"⟩, 14) := ⟨⟨by decide +kernel, by decide +kernel⟩, List.mem_of_getElem? (i := 67) (by decide +kernel), List.mem_of_getElem? (i := 695) (by decide +kernel), List.mem_of_getElem? (i := 696) (by decide +kernel)⟩
theorem lw_p15 : lw_okq (⟨"BoxQuay$Reader", "takeTitle", "(J)V"⟩, 14) := ⟨⟨by decide +kernel, by decide +kernel⟩, List.mem_of_getElem? (i := 67) (by decide +kernel), List.mem_of_getElem? (i := 699) (by decide +kernel), List.mem_of_getElem? (i := 700) (by decide +kernel)⟩
def lw_privs_1 : List (MethodName × Nat) := [(⟨"BoxQuay$Reader", "readTokens", "()I"⟩, 14), (⟨"BoxQuay$Tokens", "takeWord", "()V"⟩, 7), (⟨"BoxQuay$Tokens", "takeInt", "()V"⟩, 7), (⟨"BoxQuay$Tokens", "takeSign", "()V"⟩, 7), (⟨"BoxQuay$Tokens", "takeEquals", "()Z"⟩, 7), (⟨"BoxQuay$Reader", "follow", "(I)I"⟩, 14), (⟨"BoxQuay$Reader", "followMore", "(I)I"⟩, 14), (⟨"BoxQuay$Reader", "lacksRoom", "(I)Z"⟩, 14), (⟨"BoxQuay$Reader", "take", "(I)V"⟩, 14), (⟨"BoxQuay$Reader", "takeNumber", "(I)V"⟩, 14), (⟨"BoxQuay$Reader", "takeBays", "(I)V"⟩, 14), (⟨"BoxQuay$Reader", "noteLater", "(I)V"⟩, 14), (⟨"BoxQuay$Reader", "takeLift", "(I)V"⟩, 14), (⟨"BoxQuay$Reader", "takePlugBay", "(I)V"⟩, 14), (⟨"BoxQuay$Reader", "takePlugRow", "(I)V"⟩, 14), (⟨"BoxQuay$Reader", "takeTitle", "(J)V"⟩, 14)]
theorem lw_r1 : ∀ q ∈ lw_privs_1, lw_okq q := List.forall_mem_cons.mpr ⟨lw_p0, List.forall_mem_cons.mpr ⟨lw_p1, List.forall_mem_cons.mpr ⟨lw_p2, List.forall_mem_cons.mpr ⟨lw_p3, List.forall_mem_cons.mpr ⟨lw_p4, List.forall_mem_cons.mpr ⟨lw_p5, List.forall_mem_cons.mpr ⟨lw_p6, List.forall_mem_cons.mpr ⟨lw_p7, List.forall_mem_cons.mpr ⟨lw_p8, List.forall_mem_cons.mpr ⟨lw_p9, List.forall_mem_cons.mpr ⟨lw_p10, List.forall_mem_cons.mpr ⟨lw_p11, List.forall_mem_cons.mpr ⟨lw_p12, List.forall_mem_cons.mpr ⟨lw_p13, List.forall_mem_cons.mpr ⟨lw_p14, List.forall_mem_cons.mpr ⟨lw_p15, fun _ h => absurd h List.not_mem_nil⟩⟩⟩⟩⟩⟩⟩⟩⟩⟩⟩⟩⟩⟩⟩⟩
theorem lw_p16 : lw_okq (⟨"BoxQuay$Reader", "beginCondition", "()V"⟩, 14) := ⟨⟨by decide +kernel, by decide +kernel⟩, List.mem_of_getElem? (i := 67) (by decide +kernel), List.mem_of_getElem? (i := 703) (by decide +kernel), List.mem_of_getElem? (i := 704) (by decide +kernel)⟩
theorem lw_p17 : lw_okq (⟨"BoxQuay$Reader", "takeUnit", "(I)V"⟩, 14) := ⟨⟨by decide +kernel, by decide +kernel⟩, List.mem_of_getElem? (i := 67) (by decide +kernel), List.mem_of_getElem? (i := 718) (by decide +kernel), List.mem_of_getElem? (i := 719) (by decide +kernel)⟩
theorem lw_p18 : lw_okq (⟨"BoxQuay$Reader", "letWait", "(I)V"⟩, 14) := ⟨⟨by decide +kernel, by decide +kernel⟩, List.mem_of_getElem? (i := 67) (by decide +kernel), List.mem_of_getElem? (i := 726) (by decide +kernel), List.mem_of_getElem? (i := 727) (by decide +kernel)⟩
theorem lw_p19 : lw_okq (⟨"BoxQuay$Reader", "takeMore", "(I)V"⟩, 14) := ⟨⟨by decide +kernel, by decide +kernel⟩, List.mem_of_getElem? (i := 67) (by decide +kernel), List.mem_of_getElem? (i := 730) (by decide +kernel), List.mem_of_getElem? (i := 731) (by decide +kernel)⟩
theorem lw_p20 : lw_okq (⟨"BoxQuay$Reader", "emitWaiting", "(I)V"⟩, 14) := ⟨⟨by decide +kernel, by decide +kernel⟩, List.mem_of_getElem? (i := 67) (by decide +kernel), List.mem_of_getElem? (i := 734) (by decide +kernel), List.mem_of_getElem? (i := 735) (by decide +kernel)⟩
theorem lw_p21 : lw_okq (⟨"BoxQuay$Terms", "measure", "(I)V"⟩, 16) := ⟨⟨by decide +kernel, by decide +kernel⟩, List.mem_of_getElem? (i := 225) (by decide +kernel), List.mem_of_getElem? (i := 752) (by decide +kernel), List.mem_of_getElem? (i := 753) (by decide +kernel)⟩
theorem lw_p22 : lw_okq (⟨"BoxQuay$Facts", "voided", "(I)J"⟩, 11) := ⟨⟨by decide +kernel, by decide +kernel⟩, List.mem_of_getElem? (i := 375) (by decide +kernel), List.mem_of_getElem? (i := 877) (by decide +kernel), List.mem_of_getElem? (i := 878) (by decide +kernel)⟩
theorem lw_p23 : lw_okq (⟨"BoxQuay$Ship", "canBeHad", "(I)Z"⟩, 8) := ⟨⟨by decide +kernel, by decide +kernel⟩, List.mem_of_getElem? (i := 223) (by decide +kernel), List.mem_of_getElem? (i := 904) (by decide +kernel), List.mem_of_getElem? (i := 905) (by decide +kernel)⟩
theorem lw_p24 : lw_okq (⟨"BoxQuay$Ship", "lowestTier", "(I)I"⟩, 8) := ⟨⟨by decide +kernel, by decide +kernel⟩, List.mem_of_getElem? (i := 223) (by decide +kernel), List.mem_of_getElem? (i := 918) (by decide +kernel), List.mem_of_getElem? (i := 919) (by decide +kernel)⟩
theorem lw_p25 : lw_okq (⟨"BoxQuay$Ship", "isNoWorseWith", "(III)Z"⟩, 8) := ⟨⟨by decide +kernel, by decide +kernel⟩, List.mem_of_getElem? (i := 223) (by decide +kernel), List.mem_of_getElem? (i := 948) (by decide +kernel), List.mem_of_getElem? (i := 949) (by decide +kernel)⟩
theorem lw_p26 : lw_okq (⟨"BoxQuay$Ship", "weigh", "(III)V"⟩, 8) := ⟨⟨by decide +kernel, by decide +kernel⟩, List.mem_of_getElem? (i := 223) (by decide +kernel), List.mem_of_getElem? (i := 957) (by decide +kernel), List.mem_of_getElem? (i := 958) (by decide +kernel)⟩
theorem lw_p27 : lw_okq (⟨"BoxQuay$Ship", "highestTier", "(II)I"⟩, 8) := ⟨⟨by decide +kernel, by decide +kernel⟩, List.mem_of_getElem? (i := 223) (by decide +kernel), List.mem_of_getElem? (i := 973) (by decide +kernel), List.mem_of_getElem? (i := 974) (by decide +kernel)⟩
theorem lw_p28 : lw_okq (⟨"BoxQuay$Ship", "land", "(II)V"⟩, 8) := ⟨⟨by decide +kernel, by decide +kernel⟩, List.mem_of_getElem? (i := 223) (by decide +kernel), List.mem_of_getElem? (i := 978) (by decide +kernel), List.mem_of_getElem? (i := 979) (by decide +kernel)⟩
theorem lw_p29 : lw_okq (⟨"BoxQuay$Stow", "breaksPair", "(III)Z"⟩, 5) := ⟨⟨by decide +kernel, by decide +kernel⟩, List.mem_of_getElem? (i := 353) (by decide +kernel), List.mem_of_getElem? (i := 1020) (by decide +kernel), List.mem_of_getElem? (i := 1021) (by decide +kernel)⟩
theorem lw_p30 : lw_okq (⟨"BoxQuay$Stow", "describeFirst", "(II)V"⟩, 5) := ⟨⟨by decide +kernel, by decide +kernel⟩, List.mem_of_getElem? (i := 353) (by decide +kernel), List.mem_of_getElem? (i := 1032) (by decide +kernel), List.mem_of_getElem? (i := 1033) (by decide +kernel)⟩
theorem lw_p31 : lw_okq (⟨"BoxQuay$Stow", "describe", "(III)V"⟩, 5) := ⟨⟨by decide +kernel, by decide +kernel⟩, List.mem_of_getElem? (i := 353) (by decide +kernel), List.mem_of_getElem? (i := 1036) (by decide +kernel), List.mem_of_getElem? (i := 1037) (by decide +kernel)⟩
def lw_privs_2 : List (MethodName × Nat) := [(⟨"BoxQuay$Reader", "beginCondition", "()V"⟩, 14), (⟨"BoxQuay$Reader", "takeUnit", "(I)V"⟩, 14), (⟨"BoxQuay$Reader", "letWait", "(I)V"⟩, 14), (⟨"BoxQuay$Reader", "takeMore", "(I)V"⟩, 14), (⟨"BoxQuay$Reader", "emitWaiting", "(I)V"⟩, 14), (⟨"BoxQuay$Terms", "measure", "(I)V"⟩, 16), (⟨"BoxQuay$Facts", "voided", "(I)J"⟩, 11), (⟨"BoxQuay$Ship", "canBeHad", "(I)Z"⟩, 8), (⟨"BoxQuay$Ship", "lowestTier", "(I)I"⟩, 8), (⟨"BoxQuay$Ship", "isNoWorseWith", "(III)Z"⟩, 8), (⟨"BoxQuay$Ship", "weigh", "(III)V"⟩, 8), (⟨"BoxQuay$Ship", "highestTier", "(II)I"⟩, 8), (⟨"BoxQuay$Ship", "land", "(II)V"⟩, 8), (⟨"BoxQuay$Stow", "breaksPair", "(III)Z"⟩, 5), (⟨"BoxQuay$Stow", "describeFirst", "(II)V"⟩, 5), (⟨"BoxQuay$Stow", "describe", "(III)V"⟩, 5)]
theorem lw_r2 : ∀ q ∈ lw_privs_2, lw_okq q := List.forall_mem_cons.mpr ⟨lw_p16, List.forall_mem_cons.mpr ⟨lw_p17, List.forall_mem_cons.mpr ⟨lw_p18, List.forall_mem_cons.mpr ⟨lw_p19, List.forall_mem_cons.mpr ⟨lw_p20, List.forall_mem_cons.mpr ⟨lw_p21, List.forall_mem_cons.mpr ⟨lw_p22, List.forall_mem_cons.mpr ⟨lw_p23, List.forall_mem_cons.mpr ⟨lw_p24, List.forall_mem_cons.mpr ⟨lw_p25, List.forall_mem_cons.mpr ⟨lw_p26, List.forall_mem_cons.mpr ⟨lw_p27, List.forall_mem_cons.mpr ⟨lw_p28, List.forall_mem_cons.mpr ⟨lw_p29, List.forall_mem_cons.mpr ⟨lw_p30, List.forall_mem_cons.mpr ⟨lw_p31, fun _ h => absurd h List.not_mem_nil⟩⟩⟩⟩⟩⟩⟩⟩⟩⟩⟩⟩⟩⟩⟩⟩
theorem lw_p32 : lw_okq (⟨"BoxQuay$Stow", "describeOther", "(II)V"⟩, 5) := ⟨⟨by decide +kernel, by decide +kernel⟩, List.mem_of_getElem? (i := 353) (by decide +kernel), List.mem_of_getElem? (i := 1049) (by decide +kernel), List.mem_of_getElem? (i := 1050) (by decide +kernel)⟩
theorem lw_p33 : lw_okq (⟨"BoxQuay$Wide", "write", "([II)V"⟩, 3) := ⟨⟨by decide +kernel, by decide +kernel⟩, List.mem_of_getElem? (i := 775) (by decide +kernel), List.mem_of_getElem? (i := 1066) (by decide +kernel), List.mem_of_getElem? (i := 1067) (by decide +kernel)⟩
theorem lw_p34 : lw_okq (⟨"BoxQuay$Wide", "join", "(I[I[I)V"⟩, 3) := ⟨⟨by decide +kernel, by decide +kernel⟩, List.mem_of_getElem? (i := 775) (by decide +kernel), List.mem_of_getElem? (i := 1070) (by decide +kernel), List.mem_of_getElem? (i := 1071) (by decide +kernel)⟩
theorem lw_p35 : lw_okq (⟨"BoxQuay$Wide", "add", "([I[I)V"⟩, 3) := ⟨⟨by decide +kernel, by decide +kernel⟩, List.mem_of_getElem? (i := 775) (by decide +kernel), List.mem_of_getElem? (i := 1074) (by decide +kernel), List.mem_of_getElem? (i := 1075) (by decide +kernel)⟩
theorem lw_p36 : lw_okq (⟨"BoxQuay$Wide", "subtract", "([I[I)V"⟩, 3) := ⟨⟨by decide +kernel, by decide +kernel⟩, List.mem_of_getElem? (i := 775) (by decide +kernel), List.mem_of_getElem? (i := 1079) (by decide +kernel), List.mem_of_getElem? (i := 1080) (by decide +kernel)⟩
theorem lw_p37 : lw_okq (⟨"BoxQuay$Wide", "multiply", "([I[I)V"⟩, 3) := ⟨⟨by decide +kernel, by decide +kernel⟩, List.mem_of_getElem? (i := 775) (by decide +kernel), List.mem_of_getElem? (i := 1083) (by decide +kernel), List.mem_of_getElem? (i := 1084) (by decide +kernel)⟩
theorem lw_p38 : lw_okq (⟨"BoxQuay$Wide", "compare", "(I[I[I)V"⟩, 3) := ⟨⟨by decide +kernel, by decide +kernel⟩, List.mem_of_getElem? (i := 775) (by decide +kernel), List.mem_of_getElem? (i := 1088) (by decide +kernel), List.mem_of_getElem? (i := 1089) (by decide +kernel)⟩
theorem lw_p39 : lw_okq (⟨"BoxQuay$Terms", "holds", "(I)Z"⟩, 16) := ⟨⟨by decide +kernel, by decide +kernel⟩, List.mem_of_getElem? (i := 225) (by decide +kernel), List.mem_of_getElem? (i := 1092) (by decide +kernel), List.mem_of_getElem? (i := 1093) (by decide +kernel)⟩
theorem lw_p40 : lw_okq (⟨"BoxQuay$Stow", "describeAlone", "(II)V"⟩, 5) := ⟨⟨by decide +kernel, by decide +kernel⟩, List.mem_of_getElem? (i := 353) (by decide +kernel), List.mem_of_getElem? (i := 1116) (by decide +kernel), List.mem_of_getElem? (i := 1117) (by decide +kernel)⟩
theorem lw_p41 : lw_okq (⟨"BoxQuay$Stow", "brokenWith", "(III)I"⟩, 5) := ⟨⟨by decide +kernel, by decide +kernel⟩, List.mem_of_getElem? (i := 353) (by decide +kernel), List.mem_of_getElem? (i := 1129) (by decide +kernel), List.mem_of_getElem? (i := 1130) (by decide +kernel)⟩
theorem lw_p42 : lw_okq (⟨"BoxQuay$Ship", "soonerBelow", "(I)I"⟩, 8) := ⟨⟨by decide +kernel, by decide +kernel⟩, List.mem_of_getElem? (i := 223) (by decide +kernel), List.mem_of_getElem? (i := 1150) (by decide +kernel), List.mem_of_getElem? (i := 1151) (by decide +kernel)⟩
theorem lw_p43 : lw_okq (⟨"BoxQuay$Ship", "portAt", "(I)I"⟩, 8) := ⟨⟨by decide +kernel, by decide +kernel⟩, List.mem_of_getElem? (i := 223) (by decide +kernel), List.mem_of_getElem? (i := 1158) (by decide +kernel), List.mem_of_getElem? (i := 1159) (by decide +kernel)⟩
theorem lw_p44 : lw_okq (⟨"BoxQuay", "areLifts", "(I)Z"⟩, 10) := ⟨⟨by decide +kernel, by decide +kernel⟩, List.mem_of_getElem? (i := 23) (by decide +kernel), List.mem_of_getElem? (i := 1186) (by decide +kernel), List.mem_of_getElem? (i := 1187) (by decide +kernel)⟩
theorem lw_p45 : lw_okq (⟨"BoxQuay", "longerTicks", "(II)I"⟩, 10) := ⟨⟨by decide +kernel, by decide +kernel⟩, List.mem_of_getElem? (i := 23) (by decide +kernel), List.mem_of_getElem? (i := 1190) (by decide +kernel), List.mem_of_getElem? (i := 1191) (by decide +kernel)⟩
theorem lw_p46 : lw_okq (⟨"BoxQuay$Yard", "layTurns", "()I"⟩, 8) := ⟨⟨by decide +kernel, by decide +kernel⟩, List.mem_of_getElem? (i := 186) (by decide +kernel), List.mem_of_getElem? (i := 1219) (by decide +kernel), List.mem_of_getElem? (i := 1220) (by decide +kernel)⟩
theorem lw_p47 : lw_okq (⟨"BoxQuay$Facts", "keepStowage", "(I)V"⟩, 11) := ⟨⟨by decide +kernel, by decide +kernel⟩, List.mem_of_getElem? (i := 375) (by decide +kernel), List.mem_of_getElem? (i := 1284) (by decide +kernel), List.mem_of_getElem? (i := 1285) (by decide +kernel)⟩
def lw_privs_3 : List (MethodName × Nat) := [(⟨"BoxQuay$Stow", "describeOther", "(II)V"⟩, 5), (⟨"BoxQuay$Wide", "write", "([II)V"⟩, 3), (⟨"BoxQuay$Wide", "join", "(I[I[I)V"⟩, 3), (⟨"BoxQuay$Wide", "add", "([I[I)V"⟩, 3), (⟨"BoxQuay$Wide", "subtract", "([I[I)V"⟩, 3), (⟨"BoxQuay$Wide", "multiply", "([I[I)V"⟩, 3), (⟨"BoxQuay$Wide", "compare", "(I[I[I)V"⟩, 3), (⟨"BoxQuay$Terms", "holds", "(I)Z"⟩, 16), (⟨"BoxQuay$Stow", "describeAlone", "(II)V"⟩, 5), (⟨"BoxQuay$Stow", "brokenWith", "(III)I"⟩, 5), (⟨"BoxQuay$Ship", "soonerBelow", "(I)I"⟩, 8), (⟨"BoxQuay$Ship", "portAt", "(I)I"⟩, 8), (⟨"BoxQuay", "areLifts", "(I)Z"⟩, 10), (⟨"BoxQuay", "longerTicks", "(II)I"⟩, 10), (⟨"BoxQuay$Yard", "layTurns", "()I"⟩, 8), (⟨"BoxQuay$Facts", "keepStowage", "(I)V"⟩, 11)]
theorem lw_r3 : ∀ q ∈ lw_privs_3, lw_okq q := List.forall_mem_cons.mpr ⟨lw_p32, List.forall_mem_cons.mpr ⟨lw_p33, List.forall_mem_cons.mpr ⟨lw_p34, List.forall_mem_cons.mpr ⟨lw_p35, List.forall_mem_cons.mpr ⟨lw_p36, List.forall_mem_cons.mpr ⟨lw_p37, List.forall_mem_cons.mpr ⟨lw_p38, List.forall_mem_cons.mpr ⟨lw_p39, List.forall_mem_cons.mpr ⟨lw_p40, List.forall_mem_cons.mpr ⟨lw_p41, List.forall_mem_cons.mpr ⟨lw_p42, List.forall_mem_cons.mpr ⟨lw_p43, List.forall_mem_cons.mpr ⟨lw_p44, List.forall_mem_cons.mpr ⟨lw_p45, List.forall_mem_cons.mpr ⟨lw_p46, List.forall_mem_cons.mpr ⟨lw_p47, fun _ h => absurd h List.not_mem_nil⟩⟩⟩⟩⟩⟩⟩⟩⟩⟩⟩⟩⟩⟩⟩⟩
theorem lw_p48 : lw_okq (⟨"BoxQuay$Facts", "isSightOf", "(IIJ)Z"⟩, 11) := ⟨⟨by decide +kernel, by decide +kernel⟩, List.mem_of_getElem? (i := 375) (by decide +kernel), List.mem_of_getElem? (i := 1314) (by decide +kernel), List.mem_of_getElem? (i := 1315) (by decide +kernel)⟩
theorem lw_p49 : lw_okq (⟨"BoxQuay$Facts", "listAsTold", "(I)I"⟩, 11) := ⟨⟨by decide +kernel, by decide +kernel⟩, List.mem_of_getElem? (i := 375) (by decide +kernel), List.mem_of_getElem? (i := 1338) (by decide +kernel), List.mem_of_getElem? (i := 1339) (by decide +kernel)⟩
theorem lw_p50 : lw_okq (⟨"BoxQuay$Facts", "lever", "(II)I"⟩, 11) := ⟨⟨by decide +kernel, by decide +kernel⟩, List.mem_of_getElem? (i := 375) (by decide +kernel), List.mem_of_getElem? (i := 1342) (by decide +kernel), List.mem_of_getElem? (i := 1343) (by decide +kernel)⟩
theorem lw_p51 : lw_okq (⟨"BoxQuay$Facts", "explains", "(II)Z"⟩, 11) := ⟨⟨by decide +kernel, by decide +kernel⟩, List.mem_of_getElem? (i := 375) (by decide +kernel), List.mem_of_getElem? (i := 1358) (by decide +kernel), List.mem_of_getElem? (i := 1359) (by decide +kernel)⟩
theorem lw_p52 : lw_okq (⟨"BoxQuay$Work", "isResting", "()Z"⟩, 13) := ⟨⟨by decide +kernel, by decide +kernel⟩, List.mem_of_getElem? (i := 417) (by decide +kernel), List.mem_of_getElem? (i := 1391) (by decide +kernel), List.mem_of_getElem? (i := 1392) (by decide +kernel)⟩
theorem lw_p53 : lw_okq (⟨"BoxQuay$Work", "bringsToEnd", "(I)Z"⟩, 13) := ⟨⟨by decide +kernel, by decide +kernel⟩, List.mem_of_getElem? (i := 417) (by decide +kernel), List.mem_of_getElem? (i := 1398) (by decide +kernel), List.mem_of_getElem? (i := 1399) (by decide +kernel)⟩
theorem lw_p54 : lw_okq (⟨"BoxQuay$Work", "seekJob", "(I)V"⟩, 13) := ⟨⟨by decide +kernel, by decide +kernel⟩, List.mem_of_getElem? (i := 417) (by decide +kernel), List.mem_of_getElem? (i := 1402) (by decide +kernel), List.mem_of_getElem? (i := 1403) (by decide +kernel)⟩
theorem lw_p55 : lw_okq (⟨"BoxQuay$Work", "isOnSide", "(II)Z"⟩, 13) := ⟨⟨by decide +kernel, by decide +kernel⟩, List.mem_of_getElem? (i := 417) (by decide +kernel), List.mem_of_getElem? (i := 1406) (by decide +kernel), List.mem_of_getElem? (i := 1407) (by decide +kernel)⟩
theorem lw_p56 : lw_okq (⟨"BoxQuay$Work", "moveTowards", "(II)V"⟩, 13) := ⟨⟨by decide +kernel, by decide +kernel⟩, List.mem_of_getElem? (i := 417) (by decide +kernel), List.mem_of_getElem? (i := 1410) (by decide +kernel), List.mem_of_getElem? (i := 1411) (by decide +kernel)⟩
theorem lw_p57 : lw_okq (⟨"BoxQuay$Work", "isWindy", "()Z"⟩, 13) := ⟨⟨by decide +kernel, by decide +kernel⟩, List.mem_of_getElem? (i := 417) (by decide +kernel), List.mem_of_getElem? (i := 1414) (by decide +kernel), List.mem_of_getElem? (i := 1415) (by decide +kernel)⟩
theorem lw_p58 : lw_okq (⟨"BoxQuay$Work", "finishJob", "(I)V"⟩, 13) := ⟨⟨by decide +kernel, by decide +kernel⟩, List.mem_of_getElem? (i := 417) (by decide +kernel), List.mem_of_getElem? (i := 1418) (by decide +kernel), List.mem_of_getElem? (i := 1419) (by decide +kernel)⟩
theorem lw_p59 : lw_okq (⟨"BoxQuay$Books", "nearest", "(II)I"⟩, 6) := ⟨⟨by decide +kernel, by decide +kernel⟩, List.mem_of_getElem? (i := 474) (by decide +kernel), List.mem_of_getElem? (i := 1464) (by decide +kernel), List.mem_of_getElem? (i := 1465) (by decide +kernel)⟩
theorem lw_p60 : lw_okq (⟨"BoxQuay$Stow", "countMinutes", "()V"⟩, 5) := ⟨⟨by decide +kernel, by decide +kernel⟩, List.mem_of_getElem? (i := 353) (by decide +kernel), List.mem_of_getElem? (i := 1492) (by decide +kernel), List.mem_of_getElem? (i := 1493) (by decide +kernel)⟩
theorem lw_p61 : lw_okq (⟨"BoxQuay$Stow", "overstowsWith", "(II)I"⟩, 5) := ⟨⟨by decide +kernel, by decide +kernel⟩, List.mem_of_getElem? (i := 353) (by decide +kernel), List.mem_of_getElem? (i := 1522) (by decide +kernel), List.mem_of_getElem? (i := 1523) (by decide +kernel)⟩
theorem lw_p62 : lw_okq (⟨"BoxQuayModel", "beginsWork", "()V"⟩, 105) := ⟨⟨by decide +kernel, by decide +kernel⟩, List.mem_of_getElem? (i := 1554) (by decide +kernel), List.mem_of_getElem? (i := 1560) (by decide +kernel), List.mem_of_getElem? (i := 1561) (by decide +kernel)⟩
theorem lw_p63 : lw_okq (⟨"BoxQuayModel", "put", "(I)V"⟩, 105) := ⟨⟨by decide +kernel, by decide +kernel⟩, List.mem_of_getElem? (i := 1554) (by decide +kernel), List.mem_of_getElem? (i := 1890) (by decide +kernel), List.mem_of_getElem? (i := 1891) (by decide +kernel)⟩
def lw_privs_4 : List (MethodName × Nat) := [(⟨"BoxQuay$Facts", "isSightOf", "(IIJ)Z"⟩, 11), (⟨"BoxQuay$Facts", "listAsTold", "(I)I"⟩, 11), (⟨"BoxQuay$Facts", "lever", "(II)I"⟩, 11), (⟨"BoxQuay$Facts", "explains", "(II)Z"⟩, 11), (⟨"BoxQuay$Work", "isResting", "()Z"⟩, 13), (⟨"BoxQuay$Work", "bringsToEnd", "(I)Z"⟩, 13), (⟨"BoxQuay$Work", "seekJob", "(I)V"⟩, 13), (⟨"BoxQuay$Work", "isOnSide", "(II)Z"⟩, 13), (⟨"BoxQuay$Work", "moveTowards", "(II)V"⟩, 13), (⟨"BoxQuay$Work", "isWindy", "()Z"⟩, 13), (⟨"BoxQuay$Work", "finishJob", "(I)V"⟩, 13), (⟨"BoxQuay$Books", "nearest", "(II)I"⟩, 6), (⟨"BoxQuay$Stow", "countMinutes", "()V"⟩, 5), (⟨"BoxQuay$Stow", "overstowsWith", "(II)I"⟩, 5), (⟨"BoxQuayModel", "beginsWork", "()V"⟩, 105), (⟨"BoxQuayModel", "put", "(I)V"⟩, 105)]
theorem lw_r4 : ∀ q ∈ lw_privs_4, lw_okq q := List.forall_mem_cons.mpr ⟨lw_p48, List.forall_mem_cons.mpr ⟨lw_p49, List.forall_mem_cons.mpr ⟨lw_p50, List.forall_mem_cons.mpr ⟨lw_p51, List.forall_mem_cons.mpr ⟨lw_p52, List.forall_mem_cons.mpr ⟨lw_p53, List.forall_mem_cons.mpr ⟨lw_p54, List.forall_mem_cons.mpr ⟨lw_p55, List.forall_mem_cons.mpr ⟨lw_p56, List.forall_mem_cons.mpr ⟨lw_p57, List.forall_mem_cons.mpr ⟨lw_p58, List.forall_mem_cons.mpr ⟨lw_p59, List.forall_mem_cons.mpr ⟨lw_p60, List.forall_mem_cons.mpr ⟨lw_p61, List.forall_mem_cons.mpr ⟨lw_p62, List.forall_mem_cons.mpr ⟨lw_p63, fun _ h => absurd h List.not_mem_nil⟩⟩⟩⟩⟩⟩⟩⟩⟩⟩⟩⟩⟩⟩⟩⟩
theorem lw_p64 : lw_okq (⟨"BoxQuayModel", "cut", "()V"⟩, 105) := ⟨⟨by decide +kernel, by decide +kernel⟩, List.mem_of_getElem? (i := 1554) (by decide +kernel), List.mem_of_getElem? (i := 1902) (by decide +kernel), List.mem_of_getElem? (i := 1903) (by decide +kernel)⟩
theorem lw_p65 : lw_okq (⟨"BoxQuayModel", "byteAt", "(I)I"⟩, 105) := ⟨⟨by decide +kernel, by decide +kernel⟩, List.mem_of_getElem? (i := 1554) (by decide +kernel), List.mem_of_getElem? (i := 1906) (by decide +kernel), List.mem_of_getElem? (i := 1907) (by decide +kernel)⟩
theorem lw_p66 : lw_okq (⟨"BoxQuayModel", "token", "(IIIJ)V"⟩, 105) := ⟨⟨by decide +kernel, by decide +kernel⟩, List.mem_of_getElem? (i := 1554) (by decide +kernel), List.mem_of_getElem? (i := 1910) (by decide +kernel), List.mem_of_getElem? (i := 1911) (by decide +kernel)⟩
theorem lw_p67 : lw_okq (⟨"BoxQuayModel", "sign", "(III)I"⟩, 105) := ⟨⟨by decide +kernel, by decide +kernel⟩, List.mem_of_getElem? (i := 1554) (by decide +kernel), List.mem_of_getElem? (i := 1920) (by decide +kernel), List.mem_of_getElem? (i := 1921) (by decide +kernel)⟩
theorem lw_p68 : lw_okq (⟨"BoxQuayModel", "is", "(I)Z"⟩, 105) := ⟨⟨by decide +kernel, by decide +kernel⟩, List.mem_of_getElem? (i := 1554) (by decide +kernel), List.mem_of_getElem? (i := 1924) (by decide +kernel), List.mem_of_getElem? (i := 1925) (by decide +kernel)⟩
theorem lw_p69 : lw_okq (⟨"BoxQuayModel", "tell", "()V"⟩, 105) := ⟨⟨by decide +kernel, by decide +kernel⟩, List.mem_of_getElem? (i := 1554) (by decide +kernel), List.mem_of_getElem? (i := 1928) (by decide +kernel), List.mem_of_getElem? (i := 1929) (by decide +kernel)⟩
theorem lw_p70 : lw_okq (⟨"BoxQuayModel", "goesOn", "()V"⟩, 105) := ⟨⟨by decide +kernel, by decide +kernel⟩, List.mem_of_getElem? (i := 1554) (by decide +kernel), List.mem_of_getElem? (i := 1932) (by decide +kernel), List.mem_of_getElem? (i := 1933) (by decide +kernel)⟩
theorem lw_p71 : lw_okq (⟨"BoxQuayModel", "fail", "(I)V"⟩, 105) := ⟨⟨by decide +kernel, by decide +kernel⟩, List.mem_of_getElem? (i := 1554) (by decide +kernel), List.mem_of_getElem? (i := 1936) (by decide +kernel), List.mem_of_getElem? (i := 1937) (by decide +kernel)⟩
theorem lw_p72 : lw_okq (⟨"BoxQuayModel", "told", "(II)I"⟩, 105) := ⟨⟨by decide +kernel, by decide +kernel⟩, List.mem_of_getElem? (i := 1554) (by decide +kernel), List.mem_of_getElem? (i := 1940) (by decide +kernel), List.mem_of_getElem? (i := 1941) (by decide +kernel)⟩
theorem lw_p73 : lw_okq (⟨"BoxQuayModel", "wrong", "(II)V"⟩, 105) := ⟨⟨by decide +kernel, by decide +kernel⟩, List.mem_of_getElem? (i := 1554) (by decide +kernel), List.mem_of_getElem? (i := 1944) (by decide +kernel), List.mem_of_getElem? (i := 1945) (by decide +kernel)⟩
theorem lw_p74 : lw_okq (⟨"BoxQuayModel", "must", "(I)V"⟩, 105) := ⟨⟨by decide +kernel, by decide +kernel⟩, List.mem_of_getElem? (i := 1554) (by decide +kernel), List.mem_of_getElem? (i := 1948) (by decide +kernel), List.mem_of_getElem? (i := 1949) (by decide +kernel)⟩
theorem lw_p75 : lw_okq (⟨"BoxQuayModel", "tellRule", "(I)V"⟩, 105) := ⟨⟨by decide +kernel, by decide +kernel⟩, List.mem_of_getElem? (i := 1554) (by decide +kernel), List.mem_of_getElem? (i := 1952) (by decide +kernel), List.mem_of_getElem? (i := 1953) (by decide +kernel)⟩
theorem lw_p76 : lw_okq (⟨"BoxQuayModel", "literal", "(Z)V"⟩, 105) := ⟨⟨by decide +kernel, by decide +kernel⟩, List.mem_of_getElem? (i := 1554) (by decide +kernel), List.mem_of_getElem? (i := 1956) (by decide +kernel), List.mem_of_getElem? (i := 1957) (by decide +kernel)⟩
theorem lw_p77 : lw_okq (⟨"BoxQuayModel", "expression", "()V"⟩, 105) := ⟨⟨by decide +kernel, by decide +kernel⟩, List.mem_of_getElem? (i := 1554) (by decide +kernel), List.mem_of_getElem? (i := 1960) (by decide +kernel), List.mem_of_getElem? (i := 1961) (by decide +kernel)⟩
theorem lw_p78 : lw_okq (⟨"BoxQuayModel", "unit", "()V"⟩, 105) := ⟨⟨by decide +kernel, by decide +kernel⟩, List.mem_of_getElem? (i := 1554) (by decide +kernel), List.mem_of_getElem? (i := 1964) (by decide +kernel), List.mem_of_getElem? (i := 1965) (by decide +kernel)⟩
theorem lw_p79 : lw_okq (⟨"BoxQuayModel", "emit", "(II)V"⟩, 105) := ⟨⟨by decide +kernel, by decide +kernel⟩, List.mem_of_getElem? (i := 1554) (by decide +kernel), List.mem_of_getElem? (i := 1968) (by decide +kernel), List.mem_of_getElem? (i := 1969) (by decide +kernel)⟩
def lw_privs_5 : List (MethodName × Nat) := [(⟨"BoxQuayModel", "cut", "()V"⟩, 105), (⟨"BoxQuayModel", "byteAt", "(I)I"⟩, 105), (⟨"BoxQuayModel", "token", "(IIIJ)V"⟩, 105), (⟨"BoxQuayModel", "sign", "(III)I"⟩, 105), (⟨"BoxQuayModel", "is", "(I)Z"⟩, 105), (⟨"BoxQuayModel", "tell", "()V"⟩, 105), (⟨"BoxQuayModel", "goesOn", "()V"⟩, 105), (⟨"BoxQuayModel", "fail", "(I)V"⟩, 105), (⟨"BoxQuayModel", "told", "(II)I"⟩, 105), (⟨"BoxQuayModel", "wrong", "(II)V"⟩, 105), (⟨"BoxQuayModel", "must", "(I)V"⟩, 105), (⟨"BoxQuayModel", "tellRule", "(I)V"⟩, 105), (⟨"BoxQuayModel", "literal", "(Z)V"⟩, 105), (⟨"BoxQuayModel", "expression", "()V"⟩, 105), (⟨"BoxQuayModel", "unit", "()V"⟩, 105), (⟨"BoxQuayModel", "emit", "(II)V"⟩, 105)]
theorem lw_r5 : ∀ q ∈ lw_privs_5, lw_okq q := List.forall_mem_cons.mpr ⟨lw_p64, List.forall_mem_cons.mpr ⟨lw_p65, List.forall_mem_cons.mpr ⟨lw_p66, List.forall_mem_cons.mpr ⟨lw_p67, List.forall_mem_cons.mpr ⟨lw_p68, List.forall_mem_cons.mpr ⟨lw_p69, List.forall_mem_cons.mpr ⟨lw_p70, List.forall_mem_cons.mpr ⟨lw_p71, List.forall_mem_cons.mpr ⟨lw_p72, List.forall_mem_cons.mpr ⟨lw_p73, List.forall_mem_cons.mpr ⟨lw_p74, List.forall_mem_cons.mpr ⟨lw_p75, List.forall_mem_cons.mpr ⟨lw_p76, List.forall_mem_cons.mpr ⟨lw_p77, List.forall_mem_cons.mpr ⟨lw_p78, List.forall_mem_cons.mpr ⟨lw_p79, fun _ h => absurd h List.not_mem_nil⟩⟩⟩⟩⟩⟩⟩⟩⟩⟩⟩⟩⟩⟩⟩⟩
theorem lw_p80 : lw_okq (⟨"BoxQuayModel", "comesOut", "(Z)V"⟩, 105) := ⟨⟨by decide +kernel, by decide +kernel⟩, List.mem_of_getElem? (i := 1554) (by decide +kernel), List.mem_of_getElem? (i := 1972) (by decide +kernel), List.mem_of_getElem? (i := 1973) (by decide +kernel)⟩
theorem lw_p81 : lw_okq (⟨"BoxQuayModel", "isBox", "(I)Z"⟩, 105) := ⟨⟨by decide +kernel, by decide +kernel⟩, List.mem_of_getElem? (i := 1554) (by decide +kernel), List.mem_of_getElem? (i := 1991) (by decide +kernel), List.mem_of_getElem? (i := 1992) (by decide +kernel)⟩
theorem lw_p82 : lw_okq (⟨"BoxQuayModel", "isBay", "(I)Z"⟩, 105) := ⟨⟨by decide +kernel, by decide +kernel⟩, List.mem_of_getElem? (i := 1554) (by decide +kernel), List.mem_of_getElem? (i := 1999) (by decide +kernel), List.mem_of_getElem? (i := 2000) (by decide +kernel)⟩
theorem lw_p83 : lw_okq (⟨"BoxQuayModel", "isCovered", "(I)Z"⟩, 105) := ⟨⟨by decide +kernel, by decide +kernel⟩, List.mem_of_getElem? (i := 1554) (by decide +kernel), List.mem_of_getElem? (i := 2003) (by decide +kernel), List.mem_of_getElem? (i := 2004) (by decide +kernel)⟩
theorem lw_p84 : lw_okq (⟨"BoxQuayModel", "hasDeck", "(I)Z"⟩, 105) := ⟨⟨by decide +kernel, by decide +kernel⟩, List.mem_of_getElem? (i := 1554) (by decide +kernel), List.mem_of_getElem? (i := 2007) (by decide +kernel), List.mem_of_getElem? (i := 2008) (by decide +kernel)⟩
theorem lw_p85 : lw_okq (⟨"BoxQuayModel", "puts", "(II)V"⟩, 105) := ⟨⟨by decide +kernel, by decide +kernel⟩, List.mem_of_getElem? (i := 1554) (by decide +kernel), List.mem_of_getElem? (i := 2018) (by decide +kernel), List.mem_of_getElem? (i := 2019) (by decide +kernel)⟩
theorem lw_p86 : lw_okq (⟨"BoxQuayModel", "isStopped", "(II)Z"⟩, 105) := ⟨⟨by decide +kernel, by decide +kernel⟩, List.mem_of_getElem? (i := 1554) (by decide +kernel), List.mem_of_getElem? (i := 2026) (by decide +kernel), List.mem_of_getElem? (i := 2027) (by decide +kernel)⟩
theorem lw_p87 : lw_okq (⟨"BoxQuayModel", "isFact", "(III)Z"⟩, 105) := ⟨⟨by decide +kernel, by decide +kernel⟩, List.mem_of_getElem? (i := 1554) (by decide +kernel), List.mem_of_getElem? (i := 2030) (by decide +kernel), List.mem_of_getElem? (i := 2031) (by decide +kernel)⟩
theorem lw_p88 : lw_okq (⟨"BoxQuayModel", "leaves", "(I)V"⟩, 105) := ⟨⟨by decide +kernel, by decide +kernel⟩, List.mem_of_getElem? (i := 1554) (by decide +kernel), List.mem_of_getElem? (i := 2034) (by decide +kernel), List.mem_of_getElem? (i := 2035) (by decide +kernel)⟩
theorem lw_p89 : lw_okq (⟨"BoxQuayModel", "isHad", "(I)Z"⟩, 105) := ⟨⟨by decide +kernel, by decide +kernel⟩, List.mem_of_getElem? (i := 1554) (by decide +kernel), List.mem_of_getElem? (i := 2042) (by decide +kernel), List.mem_of_getElem? (i := 2043) (by decide +kernel)⟩
theorem lw_p90 : lw_okq (⟨"BoxQuayModel", "freeAt", "(II)I"⟩, 105) := ⟨⟨by decide +kernel, by decide +kernel⟩, List.mem_of_getElem? (i := 1554) (by decide +kernel), List.mem_of_getElem? (i := 2046) (by decide +kernel), List.mem_of_getElem? (i := 2047) (by decide +kernel)⟩
theorem lw_p91 : lw_okq (⟨"BoxQuayModel", "looks", "()V"⟩, 105) := ⟨⟨by decide +kernel, by decide +kernel⟩, List.mem_of_getElem? (i := 1554) (by decide +kernel), List.mem_of_getElem? (i := 2050) (by decide +kernel), List.mem_of_getElem? (i := 2051) (by decide +kernel)⟩
theorem lw_p92 : lw_okq (⟨"BoxQuayModel", "shipNow", "(I)I"⟩, 105) := ⟨⟨by decide +kernel, by decide +kernel⟩, List.mem_of_getElem? (i := 1554) (by decide +kernel), List.mem_of_getElem? (i := 2054) (by decide +kernel), List.mem_of_getElem? (i := 2055) (by decide +kernel)⟩
theorem lw_p93 : lw_okq (⟨"BoxQuayModel", "listNow", "()I"⟩, 105) := ⟨⟨by decide +kernel, by decide +kernel⟩, List.mem_of_getElem? (i := 1554) (by decide +kernel), List.mem_of_getElem? (i := 2058) (by decide +kernel), List.mem_of_getElem? (i := 2059) (by decide +kernel)⟩
theorem lw_p94 : lw_okq (⟨"BoxQuayModel", "sumBy", "(II)I"⟩, 105) := ⟨⟨by decide +kernel, by decide +kernel⟩, List.mem_of_getElem? (i := 1554) (by decide +kernel), List.mem_of_getElem? (i := 2062) (by decide +kernel), List.mem_of_getElem? (i := 2063) (by decide +kernel)⟩
theorem lw_p95 : lw_okq (⟨"BoxQuayModel", "trimNow", "()I"⟩, 105) := ⟨⟨by decide +kernel, by decide +kernel⟩, List.mem_of_getElem? (i := 1554) (by decide +kernel), List.mem_of_getElem? (i := 2066) (by decide +kernel), List.mem_of_getElem? (i := 2067) (by decide +kernel)⟩
def lw_privs_6 : List (MethodName × Nat) := [(⟨"BoxQuayModel", "comesOut", "(Z)V"⟩, 105), (⟨"BoxQuayModel", "isBox", "(I)Z"⟩, 105), (⟨"BoxQuayModel", "isBay", "(I)Z"⟩, 105), (⟨"BoxQuayModel", "isCovered", "(I)Z"⟩, 105), (⟨"BoxQuayModel", "hasDeck", "(I)Z"⟩, 105), (⟨"BoxQuayModel", "puts", "(II)V"⟩, 105), (⟨"BoxQuayModel", "isStopped", "(II)Z"⟩, 105), (⟨"BoxQuayModel", "isFact", "(III)Z"⟩, 105), (⟨"BoxQuayModel", "leaves", "(I)V"⟩, 105), (⟨"BoxQuayModel", "isHad", "(I)Z"⟩, 105), (⟨"BoxQuayModel", "freeAt", "(II)I"⟩, 105), (⟨"BoxQuayModel", "looks", "()V"⟩, 105), (⟨"BoxQuayModel", "shipNow", "(I)I"⟩, 105), (⟨"BoxQuayModel", "listNow", "()I"⟩, 105), (⟨"BoxQuayModel", "sumBy", "(II)I"⟩, 105), (⟨"BoxQuayModel", "trimNow", "()I"⟩, 105)]
theorem lw_r6 : ∀ q ∈ lw_privs_6, lw_okq q := List.forall_mem_cons.mpr ⟨lw_p80, List.forall_mem_cons.mpr ⟨lw_p81, List.forall_mem_cons.mpr ⟨lw_p82, List.forall_mem_cons.mpr ⟨lw_p83, List.forall_mem_cons.mpr ⟨lw_p84, List.forall_mem_cons.mpr ⟨lw_p85, List.forall_mem_cons.mpr ⟨lw_p86, List.forall_mem_cons.mpr ⟨lw_p87, List.forall_mem_cons.mpr ⟨lw_p88, List.forall_mem_cons.mpr ⟨lw_p89, List.forall_mem_cons.mpr ⟨lw_p90, List.forall_mem_cons.mpr ⟨lw_p91, List.forall_mem_cons.mpr ⟨lw_p92, List.forall_mem_cons.mpr ⟨lw_p93, List.forall_mem_cons.mpr ⟨lw_p94, List.forall_mem_cons.mpr ⟨lw_p95, fun _ h => absurd h List.not_mem_nil⟩⟩⟩⟩⟩⟩⟩⟩⟩⟩⟩⟩⟩⟩⟩⟩
theorem lw_p96 : lw_okq (⟨"BoxQuayModel", "bendNow", "()I"⟩, 105) := ⟨⟨by decide +kernel, by decide +kernel⟩, List.mem_of_getElem? (i := 1554) (by decide +kernel), List.mem_of_getElem? (i := 2070) (by decide +kernel), List.mem_of_getElem? (i := 2071) (by decide +kernel)⟩
theorem lw_p97 : lw_okq (⟨"BoxQuayModel", "allNow", "()I"⟩, 105) := ⟨⟨by decide +kernel, by decide +kernel⟩, List.mem_of_getElem? (i := 1554) (by decide +kernel), List.mem_of_getElem? (i := 2074) (by decide +kernel), List.mem_of_getElem? (i := 2075) (by decide +kernel)⟩
theorem lw_p98 : lw_okq (⟨"BoxQuayModel", "boards", "(II)V"⟩, 105) := ⟨⟨by decide +kernel, by decide +kernel⟩, List.mem_of_getElem? (i := 1554) (by decide +kernel), List.mem_of_getElem? (i := 2081) (by decide +kernel), List.mem_of_getElem? (i := 2082) (by decide +kernel)⟩
theorem lw_p99 : lw_okq (⟨"BoxQuayModel", "mayBe", "()Z"⟩, 105) := ⟨⟨by decide +kernel, by decide +kernel⟩, List.mem_of_getElem? (i := 1554) (by decide +kernel), List.mem_of_getElem? (i := 2085) (by decide +kernel), List.mem_of_getElem? (i := 2086) (by decide +kernel)⟩
theorem lw_p100 : lw_okq (⟨"BoxQuayModel", "isBorne", "()Z"⟩, 105) := ⟨⟨by decide +kernel, by decide +kernel⟩, List.mem_of_getElem? (i := 1554) (by decide +kernel), List.mem_of_getElem? (i := 2089) (by decide +kernel), List.mem_of_getElem? (i := 2090) (by decide +kernel)⟩
theorem lw_p101 : lw_okq (⟨"BoxQuayModel", "pairsOf", "(II)I"⟩, 105) := ⟨⟨by decide +kernel, by decide +kernel⟩, List.mem_of_getElem? (i := 1554) (by decide +kernel), List.mem_of_getElem? (i := 2118) (by decide +kernel), List.mem_of_getElem? (i := 2119) (by decide +kernel)⟩
theorem lw_p102 : lw_okq (⟨"BoxQuayModel", "isPairBroken", "(III)Z"⟩, 105) := ⟨⟨by decide +kernel, by decide +kernel⟩, List.mem_of_getElem? (i := 1554) (by decide +kernel), List.mem_of_getElem? (i := 2122) (by decide +kernel), List.mem_of_getElem? (i := 2123) (by decide +kernel)⟩
theorem lw_p103 : lw_okq (⟨"BoxQuayModel", "sees", "(II)V"⟩, 105) := ⟨⟨by decide +kernel, by decide +kernel⟩, List.mem_of_getElem? (i := 1554) (by decide +kernel), List.mem_of_getElem? (i := 2126) (by decide +kernel), List.mem_of_getElem? (i := 2127) (by decide +kernel)⟩
theorem lw_p104 : lw_okq (⟨"BoxQuayModel", "plugged", "(I)I"⟩, 105) := ⟨⟨by decide +kernel, by decide +kernel⟩, List.mem_of_getElem? (i := 1554) (by decide +kernel), List.mem_of_getElem? (i := 2130) (by decide +kernel), List.mem_of_getElem? (i := 2131) (by decide +kernel)⟩
theorem lw_p105 : lw_okq (⟨"BoxQuayModel", "holdsRule", "(I)Z"⟩, 105) := ⟨⟨by decide +kernel, by decide +kernel⟩, List.mem_of_getElem? (i := 1554) (by decide +kernel), List.mem_of_getElem? (i := 2134) (by decide +kernel), List.mem_of_getElem? (i := 2135) (by decide +kernel)⟩
theorem lw_p106 : lw_okq (⟨"BoxQuayModel", "isTrue", "(I)Z"⟩, 105) := ⟨⟨by decide +kernel, by decide +kernel⟩, List.mem_of_getElem? (i := 1554) (by decide +kernel), List.mem_of_getElem? (i := 2138) (by decide +kernel), List.mem_of_getElem? (i := 2139) (by decide +kernel)⟩
theorem lw_p107 : lw_okq (⟨"BoxQuayModel", "termOf", "(II)I"⟩, 105) := ⟨⟨by decide +kernel, by decide +kernel⟩, List.mem_of_getElem? (i := 1554) (by decide +kernel), List.mem_of_getElem? (i := 2142) (by decide +kernel), List.mem_of_getElem? (i := 2143) (by decide +kernel)⟩
theorem lw_p108 : lw_okq (⟨"BoxQuayModel", "placesOf", "(I)I"⟩, 105) := ⟨⟨by decide +kernel, by decide +kernel⟩, List.mem_of_getElem? (i := 1554) (by decide +kernel), List.mem_of_getElem? (i := 2154) (by decide +kernel), List.mem_of_getElem? (i := 2155) (by decide +kernel)⟩
theorem lw_p109 : lw_okq (⟨"BoxQuayModel", "isPlaceBroken", "(II)Z"⟩, 105) := ⟨⟨by decide +kernel, by decide +kernel⟩, List.mem_of_getElem? (i := 1554) (by decide +kernel), List.mem_of_getElem? (i := 2158) (by decide +kernel), List.mem_of_getElem? (i := 2159) (by decide +kernel)⟩
theorem lw_p110 : lw_okq (⟨"BoxQuayModel", "broken", "()I"⟩, 105) := ⟨⟨by decide +kernel, by decide +kernel⟩, List.mem_of_getElem? (i := 1554) (by decide +kernel), List.mem_of_getElem? (i := 2166) (by decide +kernel), List.mem_of_getElem? (i := 2167) (by decide +kernel)⟩
theorem lw_p111 : lw_okq (⟨"BoxQuayModel", "isAbove", "(II)Z"⟩, 105) := ⟨⟨by decide +kernel, by decide +kernel⟩, List.mem_of_getElem? (i := 1554) (by decide +kernel), List.mem_of_getElem? (i := 2174) (by decide +kernel), List.mem_of_getElem? (i := 2175) (by decide +kernel)⟩
def lw_privs_7 : List (MethodName × Nat) := [(⟨"BoxQuayModel", "bendNow", "()I"⟩, 105), (⟨"BoxQuayModel", "allNow", "()I"⟩, 105), (⟨"BoxQuayModel", "boards", "(II)V"⟩, 105), (⟨"BoxQuayModel", "mayBe", "()Z"⟩, 105), (⟨"BoxQuayModel", "isBorne", "()Z"⟩, 105), (⟨"BoxQuayModel", "pairsOf", "(II)I"⟩, 105), (⟨"BoxQuayModel", "isPairBroken", "(III)Z"⟩, 105), (⟨"BoxQuayModel", "sees", "(II)V"⟩, 105), (⟨"BoxQuayModel", "plugged", "(I)I"⟩, 105), (⟨"BoxQuayModel", "holdsRule", "(I)Z"⟩, 105), (⟨"BoxQuayModel", "isTrue", "(I)Z"⟩, 105), (⟨"BoxQuayModel", "termOf", "(II)I"⟩, 105), (⟨"BoxQuayModel", "placesOf", "(I)I"⟩, 105), (⟨"BoxQuayModel", "isPlaceBroken", "(II)Z"⟩, 105), (⟨"BoxQuayModel", "broken", "()I"⟩, 105), (⟨"BoxQuayModel", "isAbove", "(II)Z"⟩, 105)]
theorem lw_r7 : ∀ q ∈ lw_privs_7, lw_okq q := List.forall_mem_cons.mpr ⟨lw_p96, List.forall_mem_cons.mpr ⟨lw_p97, List.forall_mem_cons.mpr ⟨lw_p98, List.forall_mem_cons.mpr ⟨lw_p99, List.forall_mem_cons.mpr ⟨lw_p100, List.forall_mem_cons.mpr ⟨lw_p101, List.forall_mem_cons.mpr ⟨lw_p102, List.forall_mem_cons.mpr ⟨lw_p103, List.forall_mem_cons.mpr ⟨lw_p104, List.forall_mem_cons.mpr ⟨lw_p105, List.forall_mem_cons.mpr ⟨lw_p106, List.forall_mem_cons.mpr ⟨lw_p107, List.forall_mem_cons.mpr ⟨lw_p108, List.forall_mem_cons.mpr ⟨lw_p109, List.forall_mem_cons.mpr ⟨lw_p110, List.forall_mem_cons.mpr ⟨lw_p111, fun _ h => absurd h List.not_mem_nil⟩⟩⟩⟩⟩⟩⟩⟩⟩⟩⟩⟩⟩⟩⟩⟩
theorem lw_p112 : lw_okq (⟨"BoxQuayModel", "overstowsOf", "(I)I"⟩, 105) := ⟨⟨by decide +kernel, by decide +kernel⟩, List.mem_of_getElem? (i := 1554) (by decide +kernel), List.mem_of_getElem? (i := 2182) (by decide +kernel), List.mem_of_getElem? (i := 2183) (by decide +kernel)⟩
theorem lw_p113 : lw_okq (⟨"BoxQuayModel", "isOverstow", "(II)Z"⟩, 105) := ⟨⟨by decide +kernel, by decide +kernel⟩, List.mem_of_getElem? (i := 1554) (by decide +kernel), List.mem_of_getElem? (i := 2186) (by decide +kernel), List.mem_of_getElem? (i := 2187) (by decide +kernel)⟩
theorem lw_p114 : lw_okq (⟨"BoxQuayModel", "laysWork", "(I)Z"⟩, 105) := ⟨⟨by decide +kernel, by decide +kernel⟩, List.mem_of_getElem? (i := 1554) (by decide +kernel), List.mem_of_getElem? (i := 2202) (by decide +kernel), List.mem_of_getElem? (i := 2203) (by decide +kernel)⟩
theorem lw_p115 : lw_okq (⟨"BoxQuayModel", "ticksOf", "(I)I"⟩, 105) := ⟨⟨by decide +kernel, by decide +kernel⟩, List.mem_of_getElem? (i := 1554) (by decide +kernel), List.mem_of_getElem? (i := 2206) (by decide +kernel), List.mem_of_getElem? (i := 2207) (by decide +kernel)⟩
theorem lw_p116 : lw_okq (⟨"BoxQuayModel", "byRule", "(I)I"⟩, 105) := ⟨⟨by decide +kernel, by decide +kernel⟩, List.mem_of_getElem? (i := 1554) (by decide +kernel), List.mem_of_getElem? (i := 2226) (by decide +kernel), List.mem_of_getElem? (i := 2227) (by decide +kernel)⟩
theorem lw_p117 : lw_okq (⟨"BoxQuayModel", "queues", "()V"⟩, 105) := ⟨⟨by decide +kernel, by decide +kernel⟩, List.mem_of_getElem? (i := 1554) (by decide +kernel), List.mem_of_getElem? (i := 2230) (by decide +kernel), List.mem_of_getElem? (i := 2231) (by decide +kernel)⟩
theorem lw_p118 : lw_okq (⟨"BoxQuayModel", "copiesYard", "()V"⟩, 105) := ⟨⟨by decide +kernel, by decide +kernel⟩, List.mem_of_getElem? (i := 1554) (by decide +kernel), List.mem_of_getElem? (i := 2234) (by decide +kernel), List.mem_of_getElem? (i := 2235) (by decide +kernel)⟩
theorem lw_p119 : lw_okq (⟨"BoxQuayModel", "serves", "(I)V"⟩, 105) := ⟨⟨by decide +kernel, by decide +kernel⟩, List.mem_of_getElem? (i := 1554) (by decide +kernel), List.mem_of_getElem? (i := 2238) (by decide +kernel), List.mem_of_getElem? (i := 2239) (by decide +kernel)⟩
theorem lw_p120 : lw_okq (⟨"BoxQuayModel", "stackOf", "(II)I"⟩, 105) := ⟨⟨by decide +kernel, by decide +kernel⟩, List.mem_of_getElem? (i := 1554) (by decide +kernel), List.mem_of_getElem? (i := 2242) (by decide +kernel), List.mem_of_getElem? (i := 2243) (by decide +kernel)⟩
theorem lw_p121 : lw_okq (⟨"BoxQuayModel", "topOf", "(II)I"⟩, 105) := ⟨⟨by decide +kernel, by decide +kernel⟩, List.mem_of_getElem? (i := 1554) (by decide +kernel), List.mem_of_getElem? (i := 2246) (by decide +kernel), List.mem_of_getElem? (i := 2247) (by decide +kernel)⟩
theorem lw_p122 : lw_okq (⟨"BoxQuayModel", "soonestIn", "(I)I"⟩, 105) := ⟨⟨by decide +kernel, by decide +kernel⟩, List.mem_of_getElem? (i := 1554) (by decide +kernel), List.mem_of_getElem? (i := 2250) (by decide +kernel), List.mem_of_getElem? (i := 2251) (by decide +kernel)⟩
theorem lw_p123 : lw_okq (⟨"BoxQuayModel", "digsOne", "(III)V"⟩, 105) := ⟨⟨by decide +kernel, by decide +kernel⟩, List.mem_of_getElem? (i := 1554) (by decide +kernel), List.mem_of_getElem? (i := 2254) (by decide +kernel), List.mem_of_getElem? (i := 2255) (by decide +kernel)⟩
theorem lw_p124 : lw_okq (⟨"BoxQuayModel", "isServed", "(I)Z"⟩, 105) := ⟨⟨by decide +kernel, by decide +kernel⟩, List.mem_of_getElem? (i := 1554) (by decide +kernel), List.mem_of_getElem? (i := 2266) (by decide +kernel), List.mem_of_getElem? (i := 2267) (by decide +kernel)⟩
theorem lw_p125 : lw_okq (⟨"BoxQuayModel", "copies", "(I)V"⟩, 105) := ⟨⟨by decide +kernel, by decide +kernel⟩, List.mem_of_getElem? (i := 1554) (by decide +kernel), List.mem_of_getElem? (i := 2270) (by decide +kernel), List.mem_of_getElem? (i := 2271) (by decide +kernel)⟩
theorem lw_p126 : lw_okq (⟨"BoxQuayModel", "fact", "(III)I"⟩, 105) := ⟨⟨by decide +kernel, by decide +kernel⟩, List.mem_of_getElem? (i := 1554) (by decide +kernel), List.mem_of_getElem? (i := 2287) (by decide +kernel), List.mem_of_getElem? (i := 2288) (by decide +kernel)⟩
theorem lw_p127 : lw_okq (⟨"BoxQuayModel", "isKnown", "(I)Z"⟩, 105) := ⟨⟨by decide +kernel, by decide +kernel⟩, List.mem_of_getElem? (i := 1554) (by decide +kernel), List.mem_of_getElem? (i := 2309) (by decide +kernel), List.mem_of_getElem? (i := 2310) (by decide +kernel)⟩
def lw_privs_8 : List (MethodName × Nat) := [(⟨"BoxQuayModel", "overstowsOf", "(I)I"⟩, 105), (⟨"BoxQuayModel", "isOverstow", "(II)Z"⟩, 105), (⟨"BoxQuayModel", "laysWork", "(I)Z"⟩, 105), (⟨"BoxQuayModel", "ticksOf", "(I)I"⟩, 105), (⟨"BoxQuayModel", "byRule", "(I)I"⟩, 105), (⟨"BoxQuayModel", "queues", "()V"⟩, 105), (⟨"BoxQuayModel", "copiesYard", "()V"⟩, 105), (⟨"BoxQuayModel", "serves", "(I)V"⟩, 105), (⟨"BoxQuayModel", "stackOf", "(II)I"⟩, 105), (⟨"BoxQuayModel", "topOf", "(II)I"⟩, 105), (⟨"BoxQuayModel", "soonestIn", "(I)I"⟩, 105), (⟨"BoxQuayModel", "digsOne", "(III)V"⟩, 105), (⟨"BoxQuayModel", "isServed", "(I)Z"⟩, 105), (⟨"BoxQuayModel", "copies", "(I)V"⟩, 105), (⟨"BoxQuayModel", "fact", "(III)I"⟩, 105), (⟨"BoxQuayModel", "isKnown", "(I)Z"⟩, 105)]
theorem lw_r8 : ∀ q ∈ lw_privs_8, lw_okq q := List.forall_mem_cons.mpr ⟨lw_p112, List.forall_mem_cons.mpr ⟨lw_p113, List.forall_mem_cons.mpr ⟨lw_p114, List.forall_mem_cons.mpr ⟨lw_p115, List.forall_mem_cons.mpr ⟨lw_p116, List.forall_mem_cons.mpr ⟨lw_p117, List.forall_mem_cons.mpr ⟨lw_p118, List.forall_mem_cons.mpr ⟨lw_p119, List.forall_mem_cons.mpr ⟨lw_p120, List.forall_mem_cons.mpr ⟨lw_p121, List.forall_mem_cons.mpr ⟨lw_p122, List.forall_mem_cons.mpr ⟨lw_p123, List.forall_mem_cons.mpr ⟨lw_p124, List.forall_mem_cons.mpr ⟨lw_p125, List.forall_mem_cons.mpr ⟨lw_p126, List.forall_mem_cons.mpr ⟨lw_p127, fun _ h => absurd h List.not_mem_nil⟩⟩⟩⟩⟩⟩⟩⟩⟩⟩⟩⟩⟩⟩⟩⟩
theorem lw_p128 : lw_okq (⟨"BoxQuayModel", "isSo", "(III)Z"⟩, 105) := ⟨⟨by decide +kernel, by decide +kernel⟩, List.mem_of_getElem? (i := 1554) (by decide +kernel), List.mem_of_getElem? (i := 2325) (by decide +kernel), List.mem_of_getElem? (i := 2326) (by decide +kernel)⟩
theorem lw_p129 : lw_okq (⟨"BoxQuayModel", "comesJob", "(IIII)I"⟩, 105) := ⟨⟨by decide +kernel, by decide +kernel⟩, List.mem_of_getElem? (i := 1554) (by decide +kernel), List.mem_of_getElem? (i := 2341) (by decide +kernel), List.mem_of_getElem? (i := 2342) (by decide +kernel)⟩
theorem lw_p130 : lw_okq (⟨"BoxQuayModel", "works", "(I)Z"⟩, 105) := ⟨⟨by decide +kernel, by decide +kernel⟩, List.mem_of_getElem? (i := 1554) (by decide +kernel), List.mem_of_getElem? (i := 2353) (by decide +kernel), List.mem_of_getElem? (i := 2354) (by decide +kernel)⟩
theorem lw_p131 : lw_okq (⟨"BoxQuayModel", "takes", "(I)V"⟩, 105) := ⟨⟨by decide +kernel, by decide +kernel⟩, List.mem_of_getElem? (i := 1554) (by decide +kernel), List.mem_of_getElem? (i := 2357) (by decide +kernel), List.mem_of_getElem? (i := 2358) (by decide +kernel)⟩
theorem lw_p132 : lw_okq (⟨"BoxQuayModel", "isOwnSide", "(II)Z"⟩, 105) := ⟨⟨by decide +kernel, by decide +kernel⟩, List.mem_of_getElem? (i := 1554) (by decide +kernel), List.mem_of_getElem? (i := 2361) (by decide +kernel), List.mem_of_getElem? (i := 2362) (by decide +kernel)⟩
theorem lw_p133 : lw_okq (⟨"BoxQuayModel", "joins", "(I)V"⟩, 105) := ⟨⟨by decide +kernel, by decide +kernel⟩, List.mem_of_getElem? (i := 1554) (by decide +kernel), List.mem_of_getElem? (i := 2391) (by decide +kernel), List.mem_of_getElem? (i := 2392) (by decide +kernel)⟩
theorem lw_p134 : lw_okq (⟨"BoxQuayModel", "lashed", "(I)I"⟩, 105) := ⟨⟨by decide +kernel, by decide +kernel⟩, List.mem_of_getElem? (i := 1554) (by decide +kernel), List.mem_of_getElem? (i := 2407) (by decide +kernel), List.mem_of_getElem? (i := 2408) (by decide +kernel)⟩
theorem lw_p135 : lw_okq (⟨"BoxQuayModel", "isAway", "(I)Z"⟩, 105) := ⟨⟨by decide +kernel, by decide +kernel⟩, List.mem_of_getElem? (i := 1554) (by decide +kernel), List.mem_of_getElem? (i := 2420) (by decide +kernel), List.mem_of_getElem? (i := 2421) (by decide +kernel)⟩
def lw_privs_9 : List (MethodName × Nat) := [(⟨"BoxQuayModel", "isSo", "(III)Z"⟩, 105), (⟨"BoxQuayModel", "comesJob", "(IIII)I"⟩, 105), (⟨"BoxQuayModel", "works", "(I)Z"⟩, 105), (⟨"BoxQuayModel", "takes", "(I)V"⟩, 105), (⟨"BoxQuayModel", "isOwnSide", "(II)Z"⟩, 105), (⟨"BoxQuayModel", "joins", "(I)V"⟩, 105), (⟨"BoxQuayModel", "lashed", "(I)I"⟩, 105), (⟨"BoxQuayModel", "isAway", "(I)Z"⟩, 105)]
theorem lw_r9 : ∀ q ∈ lw_privs_9, lw_okq q := List.forall_mem_cons.mpr ⟨lw_p128, List.forall_mem_cons.mpr ⟨lw_p129, List.forall_mem_cons.mpr ⟨lw_p130, List.forall_mem_cons.mpr ⟨lw_p131, List.forall_mem_cons.mpr ⟨lw_p132, List.forall_mem_cons.mpr ⟨lw_p133, List.forall_mem_cons.mpr ⟨lw_p134, List.forall_mem_cons.mpr ⟨lw_p135, fun _ h => absurd h List.not_mem_nil⟩⟩⟩⟩⟩⟩⟩⟩
def lw_privs : List (MethodName × Nat) := lw_privs_1 ++ (lw_privs_2 ++ (lw_privs_3 ++ (lw_privs_4 ++ (lw_privs_5 ++ (lw_privs_6 ++ (lw_privs_7 ++ (lw_privs_8 ++ (lw_privs_9))))))))
def lw_tbl : List Cond := k2_sels lw_privs ++ tables_1
theorem lw_privs_ok : ∀ q ∈ lw_privs, lw_okq q := by
  show ∀ q ∈ lw_privs_1 ++ (lw_privs_2 ++ (lw_privs_3 ++ (lw_privs_4 ++ (lw_privs_5 ++ (lw_privs_6 ++ (lw_privs_7 ++ (lw_privs_8 ++ (lw_privs_9)))))))), lw_okq q
  exact List.forall_mem_append.mpr ⟨lw_r1, List.forall_mem_append.mpr ⟨lw_r2, List.forall_mem_append.mpr ⟨lw_r3, List.forall_mem_append.mpr ⟨lw_r4, List.forall_mem_append.mpr ⟨lw_r5, List.forall_mem_append.mpr ⟨lw_r6, List.forall_mem_append.mpr ⟨lw_r7, List.forall_mem_append.mpr ⟨lw_r8, lw_r9⟩⟩⟩⟩⟩⟩⟩⟩
end
section
/-! names, of the printed names: classes and their fields -/
def RX0 : String := "BoxQuay$Books"
def TX0 : u_T := fun k => match k with
  | 0 => ("BoxQuay$Books", "size", "[I", true)
  | 1 => ("BoxQuay$Books", "mateOf", "[I", true)
  | 2 => ("BoxQuay$Books", "box", "[[I", true)
  | 3 => ("BoxQuay$Books", "on", "[[I", true)
  | 4 => ("BoxQuay$Books", "tick", "[[I", true)
  | _ => ("BoxQuay$Books", "isMate", "[Z", true)
def tyX0 : Nat → FieldType := fun k => match k with
  | 0 => .array .int
  | 1 => .array .int
  | 2 => .array (.array .int)
  | 3 => .array (.array .int)
  | 4 => .array (.array .int)
  | _ => .array .boolean
theorem nmX0 : ∀ a, a < 6 → ∀ b, b < 6 → a ≠ b → (TX0 a).2.1 ≠ (TX0 b).2.1 := by decide +kernel
theorem tyX0_ok : ∀ k, k < 6 → parseFieldDescriptor (TX0 k).2.2.1 = some (tyX0 k) := by decide +kernel
def RX1 : String := "BoxQuay$Boxes"
def TX1 : u_T := fun k => match k with
  | 0 => ("BoxQuay$Boxes", "count", "I", false)
  | 1 => ("BoxQuay$Boxes", "weight", "[I", true)
  | 2 => ("BoxQuay$Boxes", "port", "[I", true)
  | 3 => ("BoxQuay$Boxes", "sort", "[I", true)
  | 4 => ("BoxQuay$Boxes", "stuck", "[Z", true)
  | 5 => ("BoxQuay$Boxes", "where", "[I", true)
  | 6 => ("BoxQuay$Boxes", "bay", "[I", true)
  | 7 => ("BoxQuay$Boxes", "row", "[I", true)
  | _ => ("BoxQuay$Boxes", "tier", "[I", true)
def tyX1 : Nat → FieldType := fun k => match k with
  | 0 => .int
  | 1 => .array .int
  | 2 => .array .int
  | 3 => .array .int
  | 4 => .array .boolean
  | 5 => .array .int
  | 6 => .array .int
  | 7 => .array .int
  | _ => .array .int
theorem nmX1 : ∀ a, a < 9 → ∀ b, b < 9 → a ≠ b → (TX1 a).2.1 ≠ (TX1 b).2.1 := by decide +kernel
theorem tyX1_ok : ∀ k, k < 9 → parseFieldDescriptor (TX1 k).2.2.1 = some (tyX1 k) := by decide +kernel
def RX2 : String := "BoxQuay$Facts"
def TX2 : u_T := fun k => match k with
  | 0 => ("BoxQuay$Facts", "boxes", "LBoxQuay$Boxes;", true)
  | 1 => ("BoxQuay$Facts", "kind", "[I", true)
  | 2 => ("BoxQuay$Facts", "about", "[I", true)
  | 3 => ("BoxQuay$Facts", "tells", "[I", true)
  | 4 => ("BoxQuay$Facts", "aboard", "[I", true)
  | 5 => ("BoxQuay$Facts", "oddRow", "[I", true)
  | 6 => ("BoxQuay$Facts", "highRow", "[I", true)
  | 7 => ("BoxQuay$Facts", "count", "I", false)
  | 8 => ("BoxQuay$Facts", "gathered", "[I", true)
  | 9 => ("BoxQuay$Facts", "gap", "[I", true)
  | _ => ("BoxQuay$Facts", "readings", "I", false)
def tyX2 : Nat → FieldType := fun k => match k with
  | 0 => .object "BoxQuay$Boxes"
  | 1 => .array .int
  | 2 => .array .int
  | 3 => .array .int
  | 4 => .array .int
  | 5 => .array .int
  | 6 => .array .int
  | 7 => .int
  | 8 => .array .int
  | 9 => .array .int
  | _ => .int
theorem nmX2 : ∀ a, a < 11 → ∀ b, b < 11 → a ≠ b → (TX2 a).2.1 ≠ (TX2 b).2.1 := by decide +kernel
theorem tyX2_ok : ∀ k, k < 11 → parseFieldDescriptor (TX2 k).2.2.1 = some (tyX2 k) := by decide +kernel
def RX3 : String := "BoxQuay$Reader"
def TX3 : u_T := fun k => match k with
  | 0 => ("BoxQuay$Reader", "tokens", "LBoxQuay$Tokens;", true)
  | 1 => ("BoxQuay$Reader", "waiting", "[I", true)
  | 2 => ("BoxQuay$Reader", "titles", "[J", true)
  | 3 => ("BoxQuay$Reader", "terms", "LBoxQuay$Terms;", false)
  | 4 => ("BoxQuay$Reader", "place", "I", false)
  | 5 => ("BoxQuay$Reader", "awaited", "I", false)
  | 6 => ("BoxQuay$Reader", "told", "I", false)
  | 7 => ("BoxQuay$Reader", "plugBay", "I", false)
  | 8 => ("BoxQuay$Reader", "depth", "I", false)
  | 9 => ("BoxQuay$Reader", "rightSide", "Z", false)
  | 10 => ("BoxQuay$Reader", "waits", "I", false)
  | 11 => ("BoxQuay$Reader", "named", "I", false)
  | 12 => ("BoxQuay$Reader", "laterFault", "I", false)
  | _ => ("BoxQuay$Reader", "laterPlace", "I", false)
def tyX3 : Nat → FieldType := fun k => match k with
  | 0 => .object "BoxQuay$Tokens"
  | 1 => .array .int
  | 2 => .array .long
  | 3 => .object "BoxQuay$Terms"
  | 4 => .int
  | 5 => .int
  | 6 => .int
  | 7 => .int
  | 8 => .int
  | 9 => .boolean
  | 10 => .int
  | 11 => .int
  | 12 => .int
  | _ => .int
theorem nmX3 : ∀ a, a < 14 → ∀ b, b < 14 → a ≠ b → (TX3 a).2.1 ≠ (TX3 b).2.1 := by decide +kernel
theorem tyX3_ok : ∀ k, k < 14 → parseFieldDescriptor (TX3 k).2.2.1 = some (tyX3 k) := by decide +kernel
def RX4 : String := "BoxQuay$Ship"
def TX4 : u_T := fun k => match k with
  | 0 => ("BoxQuay$Ship", "boxes", "LBoxQuay$Boxes;", true)
  | 1 => ("BoxQuay$Ship", "yard", "LBoxQuay$Yard;", true)
  | 2 => ("BoxQuay$Ship", "terms", "LBoxQuay$Terms;", false)
  | 3 => ("BoxQuay$Ship", "cell", "[I", true)
  | 4 => ("BoxQuay$Ship", "covers", "I", false)
  | 5 => ("BoxQuay$Ship", "list", "I", false)
  | 6 => ("BoxQuay$Ship", "weight", "I", false)
  | _ => ("BoxQuay$Ship", "bayWeight", "[I", true)
def tyX4 : Nat → FieldType := fun k => match k with
  | 0 => .object "BoxQuay$Boxes"
  | 1 => .object "BoxQuay$Yard"
  | 2 => .object "BoxQuay$Terms"
  | 3 => .array .int
  | 4 => .int
  | 5 => .int
  | 6 => .int
  | _ => .array .int
theorem nmX4 : ∀ a, a < 8 → ∀ b, b < 8 → a ≠ b → (TX4 a).2.1 ≠ (TX4 b).2.1 := by decide +kernel
theorem tyX4_ok : ∀ k, k < 8 → parseFieldDescriptor (TX4 k).2.2.1 = some (tyX4 k) := by decide +kernel
def RX5 : String := "BoxQuay$Stow"
def TX5 : u_T := fun k => match k with
  | 0 => ("BoxQuay$Stow", "boxes", "LBoxQuay$Boxes;", true)
  | 1 => ("BoxQuay$Stow", "ship", "LBoxQuay$Ship;", true)
  | 2 => ("BoxQuay$Stow", "lone", "[I", true)
  | 3 => ("BoxQuay$Stow", "minutes", "[I", true)
  | _ => ("BoxQuay$Stow", "load", "[I", true)
def tyX5 : Nat → FieldType := fun k => match k with
  | 0 => .object "BoxQuay$Boxes"
  | 1 => .object "BoxQuay$Ship"
  | 2 => .array .int
  | 3 => .array .int
  | _ => .array .int
theorem nmX5 : ∀ a, a < 5 → ∀ b, b < 5 → a ≠ b → (TX5 a).2.1 ≠ (TX5 b).2.1 := by decide +kernel
theorem tyX5_ok : ∀ k, k < 5 → parseFieldDescriptor (TX5 k).2.2.1 = some (tyX5 k) := by decide +kernel
def RX6 : String := "BoxQuay$Terms"
def TX6 : u_T := fun k => match k with
  | 0 => ("BoxQuay$Terms", "bays", "I", false)
  | 1 => ("BoxQuay$Terms", "list", "I", false)
  | 2 => ("BoxQuay$Terms", "trim", "I", false)
  | 3 => ("BoxQuay$Terms", "bend", "I", false)
  | 4 => ("BoxQuay$Terms", "lift", "I", false)
  | 5 => ("BoxQuay$Terms", "plugs", "I", false)
  | 6 => ("BoxQuay$Terms", "pairs", "I", false)
  | 7 => ("BoxQuay$Terms", "places", "I", false)
  | 8 => ("BoxQuay$Terms", "code", "[I", true)
  | 9 => ("BoxQuay$Terms", "start", "[I", true)
  | 10 => ("BoxQuay$Terms", "end", "[I", true)
  | 11 => ("BoxQuay$Terms", "limbs", "[I", true)
  | 12 => ("BoxQuay$Terms", "vars", "[I", true)
  | 13 => ("BoxQuay$Terms", "stack", "[J", true)
  | 14 => ("BoxQuay$Terms", "used", "I", false)
  | _ => ("BoxQuay$Terms", "wide", "LBoxQuay$Wide;", false)
def tyX6 : Nat → FieldType := fun k => match k with
  | 0 => .int
  | 1 => .int
  | 2 => .int
  | 3 => .int
  | 4 => .int
  | 5 => .int
  | 6 => .int
  | 7 => .int
  | 8 => .array .int
  | 9 => .array .int
  | 10 => .array .int
  | 11 => .array .int
  | 12 => .array .int
  | 13 => .array .long
  | 14 => .int
  | _ => .object "BoxQuay$Wide"
theorem nmX6 : ∀ a, a < 16 → ∀ b, b < 16 → a ≠ b → (TX6 a).2.1 ≠ (TX6 b).2.1 := by decide +kernel
theorem tyX6_ok : ∀ k, k < 16 → parseFieldDescriptor (TX6 k).2.2.1 = some (tyX6 k) := by decide +kernel
def RX7 : String := "BoxQuay$Tokens"
def TX7 : u_T := fun k => match k with
  | 0 => ("BoxQuay$Tokens", "tape", "[B", true)
  | 1 => ("BoxQuay$Tokens", "size", "I", false)
  | 2 => ("BoxQuay$Tokens", "next", "I", false)
  | 3 => ("BoxQuay$Tokens", "kind", "I", false)
  | 4 => ("BoxQuay$Tokens", "start", "I", false)
  | 5 => ("BoxQuay$Tokens", "number", "I", false)
  | _ => ("BoxQuay$Tokens", "name", "J", false)
def tyX7 : Nat → FieldType := fun k => match k with
  | 0 => .array .byte
  | 1 => .int
  | 2 => .int
  | 3 => .int
  | 4 => .int
  | 5 => .int
  | _ => .long
theorem nmX7 : ∀ a, a < 7 → ∀ b, b < 7 → a ≠ b → (TX7 a).2.1 ≠ (TX7 b).2.1 := by decide +kernel
theorem tyX7_ok : ∀ k, k < 7 → parseFieldDescriptor (TX7 k).2.2.1 = some (tyX7 k) := by decide +kernel
def RX8 : String := "BoxQuay$Wide"
def TX8 : u_T := fun k => match k with
  | 0 => ("BoxQuay$Wide", "row", "[[I", true)
  | 1 => ("BoxQuay$Wide", "product", "[I", true)
  | _ => ("BoxQuay$Wide", "limbs", "I", false)
def tyX8 : Nat → FieldType := fun k => match k with
  | 0 => .array (.array .int)
  | 1 => .array .int
  | _ => .int
theorem nmX8 : ∀ a, a < 3 → ∀ b, b < 3 → a ≠ b → (TX8 a).2.1 ≠ (TX8 b).2.1 := by decide +kernel
theorem tyX8_ok : ∀ k, k < 3 → parseFieldDescriptor (TX8 k).2.2.1 = some (tyX8 k) := by decide +kernel
def RX9 : String := "BoxQuay$Work"
def TX9 : u_T := fun k => match k with
  | 0 => ("BoxQuay$Work", "ship", "LBoxQuay$Ship;", true)
  | 1 => ("BoxQuay$Work", "table", "[[I", true)
  | 2 => ("BoxQuay$Work", "jobs", "I", false)
  | 3 => ("BoxQuay$Work", "over", "[I", true)
  | 4 => ("BoxQuay$Work", "busy", "[I", true)
  | 5 => ("BoxQuay$Work", "lifted", "[I", true)
  | 6 => ("BoxQuay$Work", "moves", "[I", true)
  | 7 => ("BoxQuay$Work", "did", "[I", true)
  | 8 => ("BoxQuay$Work", "tick", "I", false)
  | 9 => ("BoxQuay$Work", "windFrom", "I", false)
  | 10 => ("BoxQuay$Work", "windTo", "I", false)
  | 11 => ("BoxQuay$Work", "shift", "I", false)
  | _ => ("BoxQuay$Work", "rest", "I", false)
def tyX9 : Nat → FieldType := fun k => match k with
  | 0 => .object "BoxQuay$Ship"
  | 1 => .array (.array .int)
  | 2 => .int
  | 3 => .array .int
  | 4 => .array .int
  | 5 => .array .int
  | 6 => .array .int
  | 7 => .array .int
  | 8 => .int
  | 9 => .int
  | 10 => .int
  | 11 => .int
  | _ => .int
theorem nmX9 : ∀ a, a < 13 → ∀ b, b < 13 → a ≠ b → (TX9 a).2.1 ≠ (TX9 b).2.1 := by decide +kernel
theorem tyX9_ok : ∀ k, k < 13 → parseFieldDescriptor (TX9 k).2.2.1 = some (tyX9 k) := by decide +kernel
def RX10 : String := "BoxQuay$Yard"
def TX10 : u_T := fun k => match k with
  | 0 => ("BoxQuay$Yard", "boxes", "LBoxQuay$Boxes;", true)
  | 1 => ("BoxQuay$Yard", "cell", "[I", true)
  | 2 => ("BoxQuay$Yard", "high", "[I", true)
  | 3 => ("BoxQuay$Yard", "lorry", "[I", true)
  | 4 => ("BoxQuay$Yard", "lorries", "I", false)
  | 5 => ("BoxQuay$Yard", "ruleDig", "[I", true)
  | 6 => ("BoxQuay$Yard", "leastDig", "[I", true)
  | _ => ("BoxQuay$Yard", "turns", "[[I", true)
def tyX10 : Nat → FieldType := fun k => match k with
  | 0 => .object "BoxQuay$Boxes"
  | 1 => .array .int
  | 2 => .array .int
  | 3 => .array .int
  | 4 => .int
  | 5 => .array .int
  | 6 => .array .int
  | _ => .array (.array .int)
theorem nmX10 : ∀ a, a < 8 → ∀ b, b < 8 → a ≠ b → (TX10 a).2.1 ≠ (TX10 b).2.1 := by decide +kernel
theorem tyX10_ok : ∀ k, k < 8 → parseFieldDescriptor (TX10 k).2.2.1 = some (tyX10 k) := by decide +kernel
def RX11 : String := "BoxQuay"
def TX11 : u_T := fun k => match k with
  | 0 => ("BoxQuay", "tape", "LBoxQuay$Tokens;", true)
  | 1 => ("BoxQuay", "reader", "LBoxQuay$Reader;", true)
  | 2 => ("BoxQuay", "boxes", "LBoxQuay$Boxes;", true)
  | 3 => ("BoxQuay", "yard", "LBoxQuay$Yard;", true)
  | 4 => ("BoxQuay", "ship", "LBoxQuay$Ship;", true)
  | 5 => ("BoxQuay", "stow", "LBoxQuay$Stow;", true)
  | 6 => ("BoxQuay", "facts", "LBoxQuay$Facts;", true)
  | 7 => ("BoxQuay", "work", "LBoxQuay$Work;", true)
  | 8 => ("BoxQuay", "books", "LBoxQuay$Books;", true)
  | _ => ("BoxQuay", "draft", "LBoxQuay$Terms;", false)
def tyX11 : Nat → FieldType := fun k => match k with
  | 0 => .object "BoxQuay$Tokens"
  | 1 => .object "BoxQuay$Reader"
  | 2 => .object "BoxQuay$Boxes"
  | 3 => .object "BoxQuay$Yard"
  | 4 => .object "BoxQuay$Ship"
  | 5 => .object "BoxQuay$Stow"
  | 6 => .object "BoxQuay$Facts"
  | 7 => .object "BoxQuay$Work"
  | 8 => .object "BoxQuay$Books"
  | _ => .object "BoxQuay$Terms"
theorem nmX11 : ∀ a, a < 10 → ∀ b, b < 10 → a ≠ b → (TX11 a).2.1 ≠ (TX11 b).2.1 := by decide +kernel
theorem tyX11_ok : ∀ k, k < 10 → parseFieldDescriptor (TX11 k).2.2.1 = some (tyX11 k) := by decide +kernel
def RX12 : String := "BoxQuayModel"
def TX12 : u_T := fun k => match k with
  | 0 => ("BoxQuayModel", "thrown", "I", false)
  | 1 => ("BoxQuayModel", "tape", "[B", true)
  | 2 => ("BoxQuayModel", "taped", "I", false)
  | 3 => ("BoxQuayModel", "text", "[B", true)
  | 4 => ("BoxQuayModel", "size", "I", false)
  | 5 => ("BoxQuayModel", "tKind", "[I", true)
  | 6 => ("BoxQuayModel", "tPlace", "[I", true)
  | 7 => ("BoxQuayModel", "tValue", "[I", true)
  | 8 => ("BoxQuayModel", "tName", "[J", true)
  | 9 => ("BoxQuayModel", "keys", "[J", true)
  | 10 => ("BoxQuayModel", "tokens", "I", false)
  | 11 => ("BoxQuayModel", "t", "I", false)
  | 12 => ("BoxQuayModel", "open", "I", false)
  | 13 => ("BoxQuayModel", "fault", "I", false)
  | 14 => ("BoxQuayModel", "faultPlace", "I", false)
  | 15 => ("BoxQuayModel", "worst", "I", false)
  | 16 => ("BoxQuayModel", "worstPlace", "I", false)
  | 17 => ("BoxQuayModel", "place", "I", false)
  | 18 => ("BoxQuayModel", "live", "I", false)
  | 19 => ("BoxQuayModel", "side", "I", false)
  | 20 => ("BoxQuayModel", "names", "I", false)
  | 21 => ("BoxQuayModel", "nameOf", "[J", true)
  | 22 => ("BoxQuayModel", "bays", "[I", true)
  | 23 => ("BoxQuayModel", "greatest", "[I", true)
  | 24 => ("BoxQuayModel", "lifts", "[I", true)
  | 25 => ("BoxQuayModel", "isPlug", "[Z", true)
  | 26 => ("BoxQuayModel", "pairRules", "[I", true)
  | 27 => ("BoxQuayModel", "placeRules", "[I", true)
  | 28 => ("BoxQuayModel", "litFirst", "[I", true)
  | 29 => ("BoxQuayModel", "litLast", "[I", true)
  | 30 => ("BoxQuayModel", "lits", "I", false)
  | 31 => ("BoxQuayModel", "litSort", "[I", true)
  | 32 => ("BoxQuayModel", "litNot", "[Z", true)
  | 33 => ("BoxQuayModel", "litOr", "[Z", true)
  | 34 => ("BoxQuayModel", "litLeft", "[I", true)
  | 35 => ("BoxQuayModel", "litRight", "[I", true)
  | 36 => ("BoxQuayModel", "litEnd", "[I", true)
  | 37 => ("BoxQuayModel", "codes", "I", false)
  | 38 => ("BoxQuayModel", "code", "[I", true)
  | 39 => ("BoxQuayModel", "codeInt", "[I", true)
  | 40 => ("BoxQuayModel", "waits", "[I", true)
  | 41 => ("BoxQuayModel", "waiting", "I", false)
  | 42 => ("BoxQuayModel", "variables", "[I", true)
  | 43 => ("BoxQuayModel", "pile", "[I", true)
  | 44 => ("BoxQuayModel", "boxes", "I", false)
  | 45 => ("BoxQuayModel", "weight", "[I", true)
  | 46 => ("BoxQuayModel", "port", "[I", true)
  | 47 => ("BoxQuayModel", "sort", "[I", true)
  | 48 => ("BoxQuayModel", "isStuck", "[Z", true)
  | 49 => ("BoxQuayModel", "where", "[I", true)
  | 50 => ("BoxQuayModel", "spot", "[I", true)
  | 51 => ("BoxQuayModel", "standsAt", "[I", true)
  | 52 => ("BoxQuayModel", "yard", "[I", true)
  | 53 => ("BoxQuayModel", "high", "[I", true)
  | 54 => ("BoxQuayModel", "coversOn", "I", false)
  | 55 => ("BoxQuayModel", "ofBay", "[I", true)
  | 56 => ("BoxQuayModel", "before", "[I", true)
  | 57 => ("BoxQuayModel", "pairAt", "I", false)
  | 58 => ("BoxQuayModel", "work", "[I", true)
  | 59 => ("BoxQuayModel", "lorries", "I", false)
  | 60 => ("BoxQuayModel", "lorry", "[I", true)
  | 61 => ("BoxQuayModel", "queue", "I", false)
  | 62 => ("BoxQuayModel", "queued", "[I", true)
  | 63 => ("BoxQuayModel", "turn", "[I", true)
  | 64 => ("BoxQuayModel", "heap", "[I", true)
  | 65 => ("BoxQuayModel", "served", "[I", true)
  | 66 => ("BoxQuayModel", "digsDone", "I", false)
  | 67 => ("BoxQuayModel", "digAt", "I", false)
  | 68 => ("BoxQuayModel", "tried", "[I", true)
  | 69 => ("BoxQuayModel", "leastMany", "I", false)
  | 70 => ("BoxQuayModel", "facts", "I", false)
  | 71 => ("BoxQuayModel", "factSort", "[I", true)
  | 72 => ("BoxQuayModel", "factA", "[I", true)
  | 73 => ("BoxQuayModel", "factB", "[I", true)
  | 74 => ("BoxQuayModel", "rowThen", "[I", true)
  | 75 => ("BoxQuayModel", "jobs", "I", false)
  | 76 => ("BoxQuayModel", "jobSort", "[I", true)
  | 77 => ("BoxQuayModel", "jobOf", "[I", true)
  | 78 => ("BoxQuayModel", "jobBay", "[I", true)
  | 79 => ("BoxQuayModel", "jobRow", "[I", true)
  | 80 => ("BoxQuayModel", "jobIs", "[I", true)
  | 81 => ("BoxQuayModel", "jobBy", "[I", true)
  | 82 => ("BoxQuayModel", "jobTaken", "[I", true)
  | 83 => ("BoxQuayModel", "jobDone", "[I", true)
  | 84 => ("BoxQuayModel", "jobTold", "[I", true)
  | 85 => ("BoxQuayModel", "tick", "I", false)
  | 86 => ("BoxQuayModel", "stands", "[I", true)
  | 87 => ("BoxQuayModel", "has", "[I", true)
  | 88 => ("BoxQuayModel", "lifted", "[I", true)
  | 89 => ("BoxQuayModel", "movesMade", "[I", true)
  | 90 => ("BoxQuayModel", "jobsMade", "[I", true)
  | 91 => ("BoxQuayModel", "windFrom", "I", false)
  | 92 => ("BoxQuayModel", "windTo", "I", false)
  | 93 => ("BoxQuayModel", "shiftOn", "I", false)
  | 94 => ("BoxQuayModel", "shiftOff", "I", false)
  | 95 => ("BoxQuayModel", "tallies", "[I", true)
  | 96 => ("BoxQuayModel", "tallyBox", "[I", true)
  | 97 => ("BoxQuayModel", "tallyOn", "[Z", true)
  | 98 => ("BoxQuayModel", "tallyTick", "[I", true)
  | 99 => ("BoxQuayModel", "mates", "[I", true)
  | 100 => ("BoxQuayModel", "isMate", "[Z", true)
  | 101 => ("BoxQuayModel", "lashes", "[I", true)
  | 102 => ("BoxQuayModel", "gangHas", "[I", true)
  | 103 => ("BoxQuayModel", "gangOf", "[I", true)
  | _ => ("BoxQuayModel", "gangBest", "[I", true)
def tyX12 : Nat → FieldType := fun k => match k with
  | 0 => .int
  | 1 => .array .byte
  | 2 => .int
  | 3 => .array .byte
  | 4 => .int
  | 5 => .array .int
  | 6 => .array .int
  | 7 => .array .int
  | 8 => .array .long
  | 9 => .array .long
  | 10 => .int
  | 11 => .int
  | 12 => .int
  | 13 => .int
  | 14 => .int
  | 15 => .int
  | 16 => .int
  | 17 => .int
  | 18 => .int
  | 19 => .int
  | 20 => .int
  | 21 => .array .long
  | 22 => .array .int
  | 23 => .array .int
  | 24 => .array .int
  | 25 => .array .boolean
  | 26 => .array .int
  | 27 => .array .int
  | 28 => .array .int
  | 29 => .array .int
  | 30 => .int
  | 31 => .array .int
  | 32 => .array .boolean
  | 33 => .array .boolean
  | 34 => .array .int
  | 35 => .array .int
  | 36 => .array .int
  | 37 => .int
  | 38 => .array .int
  | 39 => .array .int
  | 40 => .array .int
  | 41 => .int
  | 42 => .array .int
  | 43 => .array .int
  | 44 => .int
  | 45 => .array .int
  | 46 => .array .int
  | 47 => .array .int
  | 48 => .array .boolean
  | 49 => .array .int
  | 50 => .array .int
  | 51 => .array .int
  | 52 => .array .int
  | 53 => .array .int
  | 54 => .int
  | 55 => .array .int
  | 56 => .array .int
  | 57 => .int
  | 58 => .array .int
  | 59 => .int
  | 60 => .array .int
  | 61 => .int
  | 62 => .array .int
  | 63 => .array .int
  | 64 => .array .int
  | 65 => .array .int
  | 66 => .int
  | 67 => .int
  | 68 => .array .int
  | 69 => .int
  | 70 => .int
  | 71 => .array .int
  | 72 => .array .int
  | 73 => .array .int
  | 74 => .array .int
  | 75 => .int
  | 76 => .array .int
  | 77 => .array .int
  | 78 => .array .int
  | 79 => .array .int
  | 80 => .array .int
  | 81 => .array .int
  | 82 => .array .int
  | 83 => .array .int
  | 84 => .array .int
  | 85 => .int
  | 86 => .array .int
  | 87 => .array .int
  | 88 => .array .int
  | 89 => .array .int
  | 90 => .array .int
  | 91 => .int
  | 92 => .int
  | 93 => .int
  | 94 => .int
  | 95 => .array .int
  | 96 => .array .int
  | 97 => .array .boolean
  | 98 => .array .int
  | 99 => .array .int
  | 100 => .array .boolean
  | 101 => .array .int
  | 102 => .array .int
  | 103 => .array .int
  | _ => .array .int
theorem nmX12 : ∀ a, a < 105 → ∀ b, b < 105 → a ≠ b → (TX12 a).2.1 ≠ (TX12 b).2.1 := by decide +kernel
theorem tyX12_ok : ∀ k, k < 105 → parseFieldDescriptor (TX12 k).2.2.1 = some (tyX12 k) := by decide +kernel
abbrev qm_vc : List vw_C := [(RX0, TX0, 6), (RX1, TX1, 9), (RX2, TX2, 11), (RX3, TX3, 14), (RX4, TX4, 8), (RX5, TX5, 5), (RX6, TX6, 16), (RX7, TX7, 7), (RX8, TX8, 3), (RX9, TX9, 13), (RX10, TX10, 8), (RX11, TX11, 10), (RX12, TX12, 105)]
def qm_ty (c : Nat) : Nat → FieldType := match c with
  | 0 => tyX0
  | 1 => tyX1
  | 2 => tyX2
  | 3 => tyX3
  | 4 => tyX4
  | 5 => tyX5
  | 6 => tyX6
  | 7 => tyX7
  | 8 => tyX8
  | 9 => tyX9
  | 10 => tyX10
  | 11 => tyX11
  | 12 => tyX12
  | _ => fun _ => .int
def qm_cn (o : Nat) : String := match o with
  | 0 => "BoxQuay$Books"
  | 1 => "BoxQuay$Boxes"
  | 2 => "BoxQuay$Facts"
  | 3 => "BoxQuay$Reader"
  | 4 => "BoxQuay$Ship"
  | 5 => "BoxQuay$Stow"
  | 6 => "BoxQuay$Terms"
  | 7 => "BoxQuay$Tokens"
  | 8 => "BoxQuay$Wide"
  | 9 => "BoxQuay$Work"
  | 10 => "BoxQuay$Yard"
  | 11 => "BoxQuay"
  | 12 => "BoxQuayModel"
  | 13 => "BoxQuayLaw"
  | 14 => "java/lang/Object"
  | 15 => "java/util/Arrays"
  | 16 => "java/lang/String"
  | 17 => "java/lang/StringLatin1"
  | 18 => "jdk/internal/util/Preconditions"
  | 19 => "java/lang/StringUTF16"
  | 20 => "java/lang/Math"
  | 21 => "java/lang/Integer"
  | _ => ""
end
section
/-! A small machine of its own over labels: the own cells are numbered 0, 1, .. from the law's entry on; their contents are three functions (ints, longs, references) of label and place. What it does is shown of the real machine once, instruction by instruction (parts 3x); after that a method is walked here. -/
/-- an instruction laid out: pc, the next pc, the instruction, two numbers, a value -/
abbrev qm_It : Type := Nat × Nat × Instr × Nat × Nat × Value
/-- code in blocks: the last pc of a block, its instructions -/
abbrev qm_Cd : Type := List (Nat × List qm_It)
/-- own cells: their kinds and lengths (0 int[], 1 byte[], 2 boolean[], 3 long[], 4 int[][], 5 + k an object of class k), ints, longs, references -/
abbrev qm_H : Type := List (Nat × Nat) × (Nat → Nat → Int32) × (Nat → Nat → Int64) × (Nat → Nat → Option Nat)
/-- pc, locals, stack, cells -/
abbrev qm_C : Type := Nat × List Value × List Value × qm_H
/-- stuck, or: goes on; a branch; an answer; a call -/
abbrev qm_R : Type := Option (qm_C ⊕ ((Bool × qm_C × qm_C) ⊕ ((Option Value × qm_H) ⊕ (Nat × List Value × qm_C))))
def qm_nx (c : qm_C) : qm_R := some (.inl c)
def qm_br (b : Bool) (c1 c2 : qm_C) : qm_R := some (.inr (.inl (b, c1, c2)))
def qm_rt (v : Option Value) (h : qm_H) : qm_R := some (.inr (.inr (.inl (v, h))))
def qm_cl (j : Nat) (as : List Value) (c : qm_C) : qm_R := some (.inr (.inr (.inr (j, as, c))))
def qm_up {α : Type} (f : Nat → Nat → α) (k i : Nat) (v : α) : Nat → Nat → α := fun k' i' => bif Nat.beq k' k && Nat.beq i' i then v else f k' i'
/-- a reference as a value -/
def qm_rv (r : Option Nat) : Value := match r with
  | some a => .ref a
  | none => .null
/-- a place's value, by the tag's kind -/
def qm_tv (v : Value) (h : qm_H) (a k : Nat) : Value := match v with
  | .int _ => .int (h.2.1 a k)
  | .long _ => .long (h.2.2.1 a k)
  | _ => qm_rv (h.2.2.2 a k)
def qm_find : List qm_It → Nat → Option qm_It
  | [], _ => none
  | it :: r, pc => bif Nat.beq it.1 pc then some it else qm_find r pc
def qm_fetch : qm_Cd → Nat → Option qm_It
  | [], _ => none
  | q :: r, pc => bif Nat.ble pc q.1 then qm_find q.2 pc else qm_fetch r pc
/-- a local of one slot is written -/
def qm_s1 (ls : List Value) (i : Nat) (v : Value) : List Value := match i with
  | 0 => ls.set 0 v
  | j + 1 => match ls[j]? with
    | some (.long _) => (ls.set j (.float 0)).set (j + 1) v
    | some (.double _) => (ls.set j (.float 0)).set (j + 1) v
    | _ => ls.set (j + 1) v
def qm_s2 (ls : List Value) (i : Nat) (v : Value) : List Value := (qm_s1 ls i v).set (i + 1) (.float 0)
def qm_cz (c : ClassFile.Cond) (x : Int32) : Bool := match c with
  | .eq => decide (x = 0)
  | .ne => decide (¬ x = 0)
  | .lt => decide (x < 0)
  | .ge => decide (0 ≤ x)
  | .gt => decide (0 < x)
  | .le => decide (x ≤ 0)
def qm_cc (c : ClassFile.Cond) (x y : Int32) : Bool := match c with
  | .eq => decide (x = y)
  | .ne => decide (¬ x = y)
  | .lt => decide (x < y)
  | .ge => decide (y ≤ x)
  | .gt => decide (y < x)
  | .le => decide (x ≤ y)
/-- the row of references of a new int[n][..] -/
def qm_mr (R : Nat → Nat → Option Nat) (a n : Nat) : Nat → Nat → Option Nat := fun k i => bif Nat.beq k a && Nat.blt i n then some (a + 1 + i) else R k i
/-- System.arraycopy of ints -/
def qm_cp (I : Nat → Nat → Int32) (s sp d dp n : Nat) : Nat → Nat → Int32 := fun k i => bif Nat.beq k d && (Nat.ble dp i && Nat.blt i (dp + n)) then I s (sp + (i - dp)) else I k i
def qm_cat (st : List Value) : Nat := (st.map fun v => v.category).sum
/-- is the place within a row of n -/
def qm_in (i : Int32) (n : Nat) : Bool := decide (¬ (i < 0 ∨ n ≤ i.toNatClampNeg))
def qm_tgt (pc : Nat) (off : Int) : Nat := ((pc : Int) + off).toNat
/-- one instruction; X: the script's length and ints -/
def qm_x (X : Nat × (Nat → Int32)) (it : qm_It) (c : qm_C) : qm_R :=
  let np := it.2.1
  let a := it.2.2.2.1
  let b := it.2.2.2.2.1
  let v := it.2.2.2.2.2
  let ls := c.2.1
  let h := c.2.2.2
  match it.2.2.1 with
  | .iconst _ => qm_nx (np, ls, v :: c.2.2.1, h)
  | .bipush _ => qm_nx (np, ls, v :: c.2.2.1, h)
  | .sipush _ => qm_nx (np, ls, v :: c.2.2.1, h)
  | .lconst _ => qm_nx (np, ls, v :: c.2.2.1, h)
  | .ldc _ => qm_nx (np, ls, v :: c.2.2.1, h)
  | .ldc_w _ => qm_nx (np, ls, v :: c.2.2.1, h)
  | .ldc2_w _ => qm_nx (np, ls, v :: c.2.2.1, h)
  | .iload _ => match ls[a]? with
    | some (.int x) => qm_nx (np, ls, .int x :: c.2.2.1, h)
    | _ => none
  | .iload_n _ => match ls[a]? with
    | some (.int x) => qm_nx (np, ls, .int x :: c.2.2.1, h)
    | _ => none
  | .lload _ => match ls[a]? with
    | some (.long x) => qm_nx (np, ls, .long x :: c.2.2.1, h)
    | _ => none
  | .lload_n _ => match ls[a]? with
    | some (.long x) => qm_nx (np, ls, .long x :: c.2.2.1, h)
    | _ => none
  | .aload _ => match ls[a]? with
    | some (.ref x) => qm_nx (np, ls, .ref x :: c.2.2.1, h)
    | some (.retAddr x) => qm_nx (np, ls, .retAddr x :: c.2.2.1, h)
    | _ => none
  | .aload_n _ => match ls[a]? with
    | some (.ref x) => qm_nx (np, ls, .ref x :: c.2.2.1, h)
    | some (.retAddr x) => qm_nx (np, ls, .retAddr x :: c.2.2.1, h)
    | _ => none
  | .istore _ => match c.2.2.1 with
    | .int x :: r => qm_nx (np, qm_s1 ls a (.int x), r, h)
    | _ => none
  | .istore_n _ => match c.2.2.1 with
    | .int x :: r => qm_nx (np, qm_s1 ls a (.int x), r, h)
    | _ => none
  | .lstore _ => match c.2.2.1 with
    | .long x :: r => qm_nx (np, qm_s2 ls a (.long x), r, h)
    | _ => none
  | .lstore_n _ => match c.2.2.1 with
    | .long x :: r => qm_nx (np, qm_s2 ls a (.long x), r, h)
    | _ => none
  | .astore _ => match c.2.2.1 with
    | .ref x :: r => qm_nx (np, qm_s1 ls a (.ref x), r, h)
    | _ => none
  | .astore_n _ => match c.2.2.1 with
    | .ref x :: r => qm_nx (np, qm_s1 ls a (.ref x), r, h)
    | _ => none
  | .iinc _ _ => match ls[a]?, v with
    | some (.int x), .int y => qm_nx (np, qm_s1 ls a (.int (x + y)), c.2.2.1, h)
    | _, _ => none
  | .iadd => match c.2.2.1 with
    | .int y :: .int x :: r => qm_nx (np, ls, .int (x + y) :: r, h)
    | _ => none
  | .isub => match c.2.2.1 with
    | .int y :: .int x :: r => qm_nx (np, ls, .int (x - y) :: r, h)
    | _ => none
  | .imul => match c.2.2.1 with
    | .int y :: .int x :: r => qm_nx (np, ls, .int (x * y) :: r, h)
    | _ => none
  | .iand => match c.2.2.1 with
    | .int y :: .int x :: r => qm_nx (np, ls, .int (x &&& y) :: r, h)
    | _ => none
  | .ior => match c.2.2.1 with
    | .int y :: .int x :: r => qm_nx (np, ls, .int (x ||| y) :: r, h)
    | _ => none
  | .ixor => match c.2.2.1 with
    | .int y :: .int x :: r => qm_nx (np, ls, .int (x ^^^ y) :: r, h)
    | _ => none
  | .idiv => match c.2.2.1 with
    | .int y :: .int x :: r => bif decide (y = 0) then none else qm_nx (np, ls, .int (x / y) :: r, h)
    | _ => none
  | .irem => match c.2.2.1 with
    | .int y :: .int x :: r => bif decide (y = 0) then none else qm_nx (np, ls, .int (x - x / y * y) :: r, h)
    | _ => none
  | .ineg => match c.2.2.1 with
    | .int x :: r => qm_nx (np, ls, .int (-x) :: r, h)
    | _ => none
  | .ishl => match c.2.2.1 with
    | .int y :: .int x :: r => qm_nx (np, ls, .int (x <<< (y &&& 31)) :: r, h)
    | _ => none
  | .ishr => match c.2.2.1 with
    | .int y :: .int x :: r => qm_nx (np, ls, .int (x >>> (y &&& 31)) :: r, h)
    | _ => none
  | .iushr => match c.2.2.1 with
    | .int y :: .int x :: r => qm_nx (np, ls, .int ((x.toUInt32 >>> (y.toUInt32 &&& Int32.toUInt32 31)).toInt32) :: r, h)
    | _ => none
  | .ladd => match c.2.2.1 with
    | .long y :: .long x :: r => qm_nx (np, ls, .long (x + y) :: r, h)
    | _ => none
  | .lsub => match c.2.2.1 with
    | .long y :: .long x :: r => qm_nx (np, ls, .long (x - y) :: r, h)
    | _ => none
  | .lmul => match c.2.2.1 with
    | .long y :: .long x :: r => qm_nx (np, ls, .long (x * y) :: r, h)
    | _ => none
  | .land => match c.2.2.1 with
    | .long y :: .long x :: r => qm_nx (np, ls, .long (x &&& y) :: r, h)
    | _ => none
  | .lor => match c.2.2.1 with
    | .long y :: .long x :: r => qm_nx (np, ls, .long (x ||| y) :: r, h)
    | _ => none
  | .ldiv => match c.2.2.1 with
    | .long y :: .long x :: r => bif decide (y = 0) then none else qm_nx (np, ls, .long (x / y) :: r, h)
    | _ => none
  | .lrem => match c.2.2.1 with
    | .long y :: .long x :: r => bif decide (y = 0) then none else qm_nx (np, ls, .long (x - x / y * y) :: r, h)
    | _ => none
  | .lshl => match c.2.2.1 with
    | .int y :: .long x :: r => qm_nx (np, ls, .long (x <<< (y.toInt64 &&& 63)) :: r, h)
    | _ => none
  | .lshr => match c.2.2.1 with
    | .int y :: .long x :: r => qm_nx (np, ls, .long (x >>> (y.toInt64 &&& 63)) :: r, h)
    | _ => none
  | .lcmp => match c.2.2.1 with
    | .long y :: .long x :: r => qm_nx (np, ls, .int (lg_cmp x y) :: r, h)
    | _ => none
  | .i2l => match c.2.2.1 with
    | .int x :: r => qm_nx (np, ls, .long x.toInt64 :: r, h)
    | _ => none
  | .l2i => match c.2.2.1 with
    | .long x :: r => qm_nx (np, ls, .int x.toInt32 :: r, h)
    | _ => none
  | .i2b => match c.2.2.1 with
    | .int x :: r => qm_nx (np, ls, .int x.toInt8.toInt32 :: r, h)
    | _ => none
  | .dup => match c.2.2.1 with
    | w :: r => bif Nat.beq w.category 1 then qm_nx (np, ls, w :: w :: r, h) else none
    | _ => none
  | .pop => match c.2.2.1 with
    | w :: r => bif Nat.beq w.category 1 then qm_nx (np, ls, r, h) else none
    | _ => none
  | .dup2 => match c.2.2.1 with
    | .int y :: w :: r => bif Nat.beq w.category 1 then qm_nx (np, ls, .int y :: w :: .int y :: w :: r, h) else none
    | .long y :: r => qm_nx (np, ls, .long y :: .long y :: r, h)
    | _ => none
  | .goto _ => qm_nx (a, ls, c.2.2.1, h)
  | .ifCond k _ => match c.2.2.1 with
    | .int x :: r => qm_br (qm_cz k x) (a, ls, r, h) (np, ls, r, h)
    | _ => none
  | .if_icmp k _ => match c.2.2.1 with
    | .int y :: .int x :: r => qm_br (qm_cc k x y) (a, ls, r, h) (np, ls, r, h)
    | _ => none
  | .ifnull _ => match c.2.2.1 with
    | .ref _ :: r => qm_nx (np, ls, r, h)
    | .null :: r => qm_nx (a, ls, r, h)
    | _ => none
  | .ifnonnull _ => match c.2.2.1 with
    | .ref _ :: r => qm_nx (a, ls, r, h)
    | .null :: r => qm_nx (np, ls, r, h)
    | _ => none
  | .tableswitch dflt lo hi offs => match c.2.2.1 with
    | .int x :: r => bif decide (x.toInt < lo ∨ hi < x.toInt) then qm_nx (qm_tgt it.1 dflt, ls, r, h) else match offs[(x.toInt - lo).toNat]? with
      | some off => qm_nx (qm_tgt it.1 off, ls, r, h)
      | none => none
    | _ => none
  | .lookupswitch dflt ps => match c.2.2.1 with
    | .int x :: r => qm_nx (qm_tgt it.1 (Op.lookupswitch.offset ps.toList dflt x.toInt), ls, r, h)
    | _ => none
  | .getfield _ => match c.2.2.1 with
    | .ref o :: r => match h.1[o]? with
      | some q => bif Nat.beq q.1 (a + 5) then qm_nx (np, ls, qm_tv v h o b :: r, h) else none
      | none => none
    | _ => none
  | .putfield _ => match c.2.2.1 with
    | w :: .ref o :: r => match h.1[o]? with
      | some q => bif Nat.beq q.1 (a + 5) then (match v, w with
        | .int t, .int x => bif decide (t = 0) || (decide (x = 0) || decide (x = 1)) then qm_nx (np, ls, r, (h.1, qm_up h.2.1 o b x, h.2.2.1, h.2.2.2)) else none
        | .long _, .long x => qm_nx (np, ls, r, (h.1, h.2.1, qm_up h.2.2.1 o b x, h.2.2.2))
        | .null, .ref x => qm_nx (np, ls, r, (h.1, h.2.1, h.2.2.1, qm_up h.2.2.2 o b (some x)))
        | .null, .null => qm_nx (np, ls, r, (h.1, h.2.1, h.2.2.1, qm_up h.2.2.2 o b none))
        | _, _ => none) else none
      | none => none
    | _ => none
  | .iaload => match c.2.2.1 with
    | .int i :: .ref o :: r => match h.1[o]? with
      | some (0, n) => bif qm_in i n then qm_nx (np, ls, .int (h.2.1 o i.toNatClampNeg) :: r, h) else none
      | _ => none
    | .int i :: .retAddr _ :: r => bif qm_in i X.1 then qm_nx (np, ls, .int (X.2 i.toNatClampNeg) :: r, h) else none
    | _ => none
  | .baload => match c.2.2.1 with
    | .int i :: .ref o :: r => match h.1[o]? with
      | some (1, n) => bif qm_in i n then qm_nx (np, ls, .int (h.2.1 o i.toNatClampNeg) :: r, h) else none
      | some (2, n) => bif qm_in i n then qm_nx (np, ls, .int (h.2.1 o i.toNatClampNeg) :: r, h) else none
      | _ => none
    | _ => none
  | .laload => match c.2.2.1 with
    | .int i :: .ref o :: r => match h.1[o]? with
      | some (3, n) => bif qm_in i n then qm_nx (np, ls, .long (h.2.2.1 o i.toNatClampNeg) :: r, h) else none
      | _ => none
    | _ => none
  | .aaload => match c.2.2.1 with
    | .int i :: .ref o :: r => match h.1[o]? with
      | some (4, n) => bif qm_in i n then qm_nx (np, ls, qm_rv (h.2.2.2 o i.toNatClampNeg) :: r, h) else none
      | _ => none
    | _ => none
  | .iastore => match c.2.2.1 with
    | .int x :: .int i :: .ref o :: r => match h.1[o]? with
      | some (0, n) => bif qm_in i n then qm_nx (np, ls, r, (h.1, qm_up h.2.1 o i.toNatClampNeg x, h.2.2.1, h.2.2.2)) else none
      | _ => none
    | _ => none
  | .bastore => match c.2.2.1 with
    | .int x :: .int i :: .ref o :: r => match h.1[o]? with
      | some (1, n) => bif qm_in i n then qm_nx (np, ls, r, (h.1, qm_up h.2.1 o i.toNatClampNeg (vp_nar .byte x), h.2.2.1, h.2.2.2)) else none
      | some (2, n) => bif qm_in i n then qm_nx (np, ls, r, (h.1, qm_up h.2.1 o i.toNatClampNeg (vp_nar .boolean x), h.2.2.1, h.2.2.2)) else none
      | _ => none
    | _ => none
  | .lastore => match c.2.2.1 with
    | .long x :: .int i :: .ref o :: r => match h.1[o]? with
      | some (3, n) => bif qm_in i n then qm_nx (np, ls, r, (h.1, h.2.1, qm_up h.2.2.1 o i.toNatClampNeg x, h.2.2.2)) else none
      | _ => none
    | _ => none
  | .arraylength => match c.2.2.1 with
    | .ref o :: r => match h.1[o]? with
      | some q => bif Nat.blt q.1 5 then qm_nx (np, ls, .int (Int32.ofNat q.2) :: r, h) else none
      | none => none
    | .retAddr _ :: r => qm_nx (np, ls, .int (Int32.ofNat X.1) :: r, h)
    | _ => none
  | .newarray _ => match c.2.2.1 with
    | .int n :: r => bif qm_in n 100000 then qm_nx (np, ls, .ref h.1.length :: r, (h.1 ++ [(a, n.toNatClampNeg)], h.2)) else none
    | _ => none
  | .new _ => qm_nx (np, ls, .ref h.1.length :: c.2.2.1, (h.1 ++ [(a + 5, b)], h.2))
  | .multianewarray _ _ => match c.2.2.1 with
    | .int k :: .int n :: r => bif qm_in n 1000 && qm_in k 1000 then qm_nx (np, ls, .ref h.1.length :: r, (h.1 ++ ((4, n.toNatClampNeg) :: List.replicate n.toNatClampNeg (0, k.toNatClampNeg)), h.2.1, h.2.2.1, qm_mr h.2.2.2 h.1.length n.toNatClampNeg)) else none
    | _ => none
  | .invokevirtual _ => match c.2.2.1.drop b with
    | .ref o :: r => match h.1[o]?, v with
      | some q, .retAddr ci => bif Nat.beq q.1 (ci + 5) && (Nat.ble (qm_cat r) 8) then qm_cl a (.ref o :: (c.2.2.1.take b).reverse) (np, ls, r, h) else none
      | _, _ => none
    | _ => none
  | .invokespecial _ => match c.2.2.1.drop b with
    | .ref o :: r => match v with
      | .null => bif Nat.ble (qm_cat r) 8 then qm_nx (np, ls, r, h) else none
      | _ => bif Nat.ble (qm_cat r) 8 then qm_cl a (.ref o :: (c.2.2.1.take b).reverse) (np, ls, r, h) else none
    | _ => none
  | .invokestatic _ => match v with
    | .null => match c.2.2.1 with
      | .int n :: .int dp :: .ref d :: .int sp :: .ref o :: r => match h.1[o]?, h.1[d]? with
        | some (0, m), some (0, k) => bif (decide (¬ n < 0) && (decide (¬ sp < 0) && decide (¬ dp < 0))) && ((Nat.ble (sp.toNatClampNeg + n.toNatClampNeg) m && Nat.ble (dp.toNatClampNeg + n.toNatClampNeg) k) && Nat.ble (qm_cat r) 8) then qm_nx (np, ls, r, (h.1, qm_cp h.2.1 o sp.toNatClampNeg d dp.toNatClampNeg n.toNatClampNeg, h.2.2.1, h.2.2.2)) else none
        | _, _ => none
      | _ => none
    | .int _ => match a, c.2.2.1 with
      | 0, .int y :: .int x :: r => bif Nat.ble (qm_cat r) 8 then qm_nx (np, ls, .int (if x < y then y else x) :: r, h) else none
      | 1, .int y :: .int x :: r => bif Nat.ble (qm_cat r) 8 then qm_nx (np, ls, .int (if y < x then y else x) :: r, h) else none
      | 2, .int x :: r => bif Nat.ble (qm_cat r) 8 then qm_nx (np, ls, .int (if 0 ≤ x then x else 0 - x) :: r, h) else none
      | 3, .long y :: .long x :: r => bif Nat.ble (qm_cat r) 8 then qm_nx (np, ls, .long (if y < x then x else y) :: r, h) else none
      | 4, .long y :: .long x :: r => bif Nat.ble (qm_cat r) 8 then qm_nx (np, ls, .long (if y < x then y else x) :: r, h) else none
      | _, _ => none
    | _ => bif Nat.ble b c.2.2.1.length && Nat.ble (qm_cat (c.2.2.1.drop b)) 8 then qm_cl a (c.2.2.1.take b).reverse (np, ls, c.2.2.1.drop b, h) else none
  | .ireturn => match c.2.2.1 with
    | [.int x] => bif Nat.beq a 0 || (decide (x = 0) || decide (x = 1)) then qm_rt (some (.int x)) h else none
    | _ => none
  | .lreturn => match c.2.2.1 with
    | [.long x] => qm_rt (some (.long x)) h
    | _ => none
  | .return_ => match c.2.2.1 with
    | [] => qm_rt none h
    | _ => none
  | _ => none
def qm_step (X : Nat × (Nat → Int32)) (cd : qm_Cd) (c : qm_C) : qm_R := match qm_fetch cd c.1 with
  | some it => qm_x X it c
  | none => none
/-- arguments as locals -/
def qm_la : List Value → List Value
  | [] => []
  | v :: r => bif Nat.beq v.category 2 then v :: .float 0 :: qm_la r else v :: qm_la r
def qm_ent (nL : Nat) (as : List Value) (h : qm_H) : qm_C := (0, qm_la as ++ List.replicate (nL - (qm_la as).length) (.float 0), [], h)
end
section
/-- field links: class, pool number, the class and the place of the field -/
def qm_fl_0 : List (Nat × Nat × Nat × Nat) := [(0, 9, 0, 0), (0, 15, 0, 1), (0, 20, 0, 2), (0, 23, 0, 3), (0, 26, 0, 4), (0, 29, 0, 5), (1, 9, 1, 1), (1, 15, 1, 2), (1, 18, 1, 3), (1, 21, 1, 4), (1, 25, 1, 5), (1, 28, 1, 6), (1, 31, 1, 7), (1, 34, 1, 8), (1, 37, 1, 0), (2, 11, 2, 1), (2, 15, 2, 2), (2, 18, 2, 3), (2, 21, 2, 4), (2, 24, 2, 5), (2, 27, 2, 6), (2, 30, 2, 8), (2, 33, 2, 9), (2, 36, 2, 0), (2, 40, 2, 7), (2, 48, 1, 0), (2, 51, 1, 5), (2, 54, 1, 7), (2, 65, 2, 10), (2, 72, 1, 1), (3, 11, 3, 1), (3, 17, 3, 2), (3, 21, 3, 4), (3, 25, 3, 0), (3, 32, 3, 3), (3, 36, 3, 5), (3, 39, 3, 8), (3, 42, 3, 10), (3, 45, 3, 11), (3, 48, 3, 12), (3, 51, 3, 13), (3, 54, 7, 2), (3, 63, 7, 4), (3, 66, 7, 1), (3, 75, 7, 3), (3, 102, 3, 9), (3, 109, 6, 6), (3, 112, 6, 7), (3, 115, 3, 6), (3, 118, 7, 5), (3, 130, 7, 6), (3, 150, 6, 1), (3, 153, 6, 2), (3, 156, 6, 3), (3, 165, 6, 0), (3, 168, 6, 4), (3, 171, 3, 7), (3, 174, 6, 5), (4, 9, 4, 3), (4, 15, 4, 4)]
def qm_flp_0 : List Nat := [2000, 2002, 2004, 2005, 2006, 2007, 129, 134, 138, 141, 144, 150, 155, 160, 124, 1141, 1143, 1144, 1145, 1146, 1147, 1150, 1151, 1140, 1148, 125, 145, 157, 1152, 131, 73, 74, 76, 72, 75, 78, 81, 83, 84, 85, 86, 40, 44, 39, 42, 82, 1020, 1024, 79, 47, 49, 1001, 1005, 1009, 238, 1013, 80, 1018, 1086, 1088]
def qm_fl_1 : List (Nat × Nat × Nat × Nat) := [(4, 19, 4, 7), (4, 22, 4, 0), (4, 26, 4, 1), (4, 30, 4, 2), (4, 40, 6, 0), (4, 53, 4, 5), (4, 60, 4, 6), (4, 75, 6, 1), (4, 79, 6, 2), (4, 85, 6, 3), (4, 102, 1, 6), (4, 120, 1, 1), (4, 122, 6, 4), (4, 135, 1, 5), (4, 152, 1, 4), (4, 176, 1, 7), (4, 179, 1, 8), (4, 185, 1, 2), (4, 200, 1, 0), (5, 9, 5, 2), (5, 15, 5, 3), (5, 18, 5, 4), (5, 21, 5, 0), (5, 25, 5, 1), (5, 29, 1, 6), (5, 34, 1, 7), (5, 37, 1, 8), (5, 46, 4, 2), (5, 50, 6, 12), (5, 55, 1, 3), (5, 58, 1, 1), (5, 61, 1, 2), (5, 78, 6, 5), (5, 101, 1, 0), (5, 111, 6, 7), (5, 117, 6, 6), (5, 133, 6, 0), (5, 163, 1, 5), (6, 11, 6, 8), (6, 17, 6, 9), (6, 20, 6, 10), (6, 23, 6, 11), (6, 26, 6, 12), (6, 29, 6, 13), (6, 36, 6, 0), (6, 40, 6, 1), (6, 43, 6, 2), (6, 46, 6, 3), (6, 49, 6, 4), (6, 52, 6, 5), (6, 55, 6, 6), (6, 58, 6, 7), (6, 61, 6, 14), (6, 102, 6, 15), (7, 9, 7, 0), (7, 13, 7, 1), (7, 17, 7, 2), (7, 24, 7, 4), (7, 27, 7, 3), (7, 45, 7, 6)]
def qm_flp_1 : List Nat := [1094, 1080, 1081, 1082, 237, 1090, 1092, 1002, 1006, 1010, 154, 133, 1014, 149, 143, 159, 164, 137, 128, 1120, 1121, 1122, 1118, 1119, 151, 156, 161, 1084, 1036, 139, 130, 135, 1017, 126, 1025, 1021, 239, 148, 1027, 1029, 1031, 1033, 1035, 1037, 234, 1000, 1004, 1008, 1012, 1016, 1019, 1023, 1038, 1039, 36, 37, 41, 45, 43, 48]
def qm_fl_2 : List (Nat × Nat × Nat × Nat) := [(7, 57, 7, 5), (8, 13, 8, 0), (8, 16, 8, 1), (8, 26, 6, 11), (8, 29, 8, 2), (8, 32, 6, 9), (8, 35, 6, 10), (8, 38, 6, 8), (9, 13, 9, 1), (9, 16, 9, 3), (9, 20, 9, 4), (9, 23, 9, 5), (9, 26, 9, 6), (9, 29, 9, 7), (9, 32, 9, 0), (9, 39, 9, 2), (9, 43, 4, 2), (9, 49, 6, 0), (9, 54, 9, 8), (9, 57, 9, 9), (9, 60, 9, 10), (9, 63, 9, 11), (9, 66, 9, 12), (10, 11, 10, 1), (10, 15, 10, 2), (10, 18, 10, 3), (10, 21, 10, 5), (10, 24, 10, 6), (10, 29, 10, 7), (10, 32, 10, 0), (10, 50, 10, 4), (10, 66, 1, 5), (10, 69, 1, 6), (10, 72, 1, 8), (11, 10, 11, 0), (11, 21, 11, 1), (11, 28, 11, 2), (11, 37, 11, 3), (11, 49, 11, 4), (11, 58, 11, 5), (11, 65, 11, 6), (11, 74, 11, 7), (11, 81, 11, 8), (11, 85, 11, 9), (11, 97, 7, 1), (11, 105, 6, 0), (11, 111, 4, 2), (11, 117, 3, 4), (11, 131, 1, 4), (11, 144, 4, 4), (11, 158, 10, 2), (11, 165, 2, 7), (11, 180, 1, 1), (11, 183, 1, 2), (11, 186, 1, 3), (11, 189, 1, 5), (11, 192, 1, 6), (11, 195, 1, 7), (11, 198, 1, 8), (11, 204, 4, 3)]
def qm_flp_2 : List Nat := [46, 3061, 3062, 1034, 3063, 1030, 1032, 1028, 1188, 1191, 1192, 1193, 1194, 1195, 1187, 1189, 1083, 235, 1196, 1198, 1200, 1202, 1204, 194, 195, 197, 200, 202, 204, 193, 198, 146, 152, 162, 2021, 2022, 2023, 2024, 2025, 2026, 2027, 2028, 2029, 2030, 38, 236, 1085, 77, 142, 1089, 196, 1149, 132, 136, 140, 147, 153, 158, 163, 1087]
def qm_fl_3 : List (Nat × Nat × Nat × Nat) := [(11, 210, 4, 5), (11, 219, 4, 6), (11, 232, 6, 6), (11, 241, 6, 7), (11, 263, 1, 0), (11, 284, 10, 4), (11, 290, 10, 5), (11, 296, 10, 6), (11, 307, 2, 1), (11, 339, 9, 2), (11, 348, 9, 9), (11, 351, 9, 10), (11, 354, 9, 11), (11, 357, 9, 12), (11, 364, 0, 0), (11, 369, 0, 1), (11, 399, 6, 1), (11, 400, 6, 2), (11, 403, 6, 3), (11, 406, 6, 4), (11, 412, 9, 8), (12, 13, 12, 1), (12, 17, 12, 3), (12, 20, 12, 5), (12, 24, 12, 6), (12, 27, 12, 7), (12, 30, 12, 8), (12, 34, 12, 9), (12, 37, 12, 17), (12, 40, 12, 21), (12, 43, 12, 22), (12, 46, 12, 23), (12, 49, 12, 24), (12, 52, 12, 25), (12, 56, 12, 26), (12, 59, 12, 27), (12, 62, 12, 28), (12, 65, 12, 29), (12, 68, 12, 31), (12, 71, 12, 32), (12, 74, 12, 33), (12, 77, 12, 34), (12, 80, 12, 35), (12, 83, 12, 36), (12, 86, 12, 38), (12, 89, 12, 39), (12, 92, 12, 40), (12, 95, 12, 42), (12, 98, 12, 43), (12, 101, 12, 45), (12, 104, 12, 46), (12, 107, 12, 47), (12, 110, 12, 48), (12, 113, 12, 49), (12, 116, 12, 50), (12, 119, 12, 51), (12, 122, 12, 52), (12, 125, 12, 53), (12, 128, 12, 54), (12, 131, 12, 55)]
def qm_flp_3 : List Nat := [1091, 1093, 1022, 1026, 127, 199, 201, 203, 1142, 1190, 1199, 1201, 1203, 1205, 2001, 2003, 1003, 1007, 1011, 1015, 1197, 6130, 6132, 6134, 6135, 6136, 6137, 6138, 6146, 6150, 6151, 6152, 6153, 6154, 6155, 6156, 6157, 6158, 6160, 6161, 6162, 6163, 6164, 6165, 6167, 6168, 6169, 6171, 6172, 6174, 6175, 6176, 6177, 6178, 6179, 6180, 6181, 6182, 6183, 6184]
def qm_fl_4 : List (Nat × Nat × Nat × Nat) := [(12, 134, 12, 56), (12, 137, 12, 58), (12, 140, 12, 60), (12, 143, 12, 62), (12, 146, 12, 63), (12, 149, 12, 64), (12, 152, 12, 65), (12, 155, 12, 68), (12, 158, 12, 71), (12, 161, 12, 72), (12, 164, 12, 73), (12, 167, 12, 74), (12, 170, 12, 76), (12, 173, 12, 77), (12, 176, 12, 78), (12, 179, 12, 79), (12, 182, 12, 80), (12, 185, 12, 81), (12, 188, 12, 82), (12, 191, 12, 83), (12, 194, 12, 84), (12, 197, 12, 86), (12, 200, 12, 87), (12, 203, 12, 88), (12, 206, 12, 89), (12, 209, 12, 90), (12, 212, 12, 95), (12, 215, 12, 96), (12, 218, 12, 97), (12, 221, 12, 98), (12, 224, 12, 99), (12, 227, 12, 100), (12, 230, 12, 101), (12, 233, 12, 102), (12, 236, 12, 103), (12, 239, 12, 104), (12, 249, 12, 2), (12, 256, 12, 4), (12, 265, 12, 10), (12, 287, 12, 13), (12, 290, 12, 11), (12, 293, 12, 14), (12, 296, 12, 15), (12, 299, 12, 16), (12, 314, 12, 12), (12, 317, 12, 18), (12, 320, 12, 19), (12, 323, 12, 20), (12, 326, 12, 30), (12, 329, 12, 37), (12, 356, 12, 41), (12, 374, 12, 44), (12, 399, 12, 70), (12, 460, 12, 57), (12, 493, 12, 59), (12, 496, 12, 61), (12, 511, 12, 66), (12, 514, 12, 67), (12, 533, 12, 69), (12, 556, 12, 75)]
def qm_flp_4 : List Nat := [6185, 6187, 6189, 6191, 6192, 6193, 6194, 6197, 6200, 6201, 6202, 6203, 6205, 6206, 6207, 6208, 6209, 6210, 6211, 6212, 6213, 6215, 6216, 6217, 6218, 6219, 6224, 6225, 6226, 6227, 6228, 6229, 6230, 6231, 6232, 6233, 6131, 6133, 6139, 6142, 6140, 6143, 6144, 6145, 6141, 6147, 6148, 6149, 6159, 6166, 6170, 6173, 6199, 6186, 6188, 6190, 6195, 6196, 6198, 6204]
def qm_fl_5 : List (Nat × Nat × Nat × Nat) := [(12, 559, 12, 85), (12, 562, 12, 91), (12, 565, 12, 92), (12, 568, 12, 93), (12, 571, 12, 94)]
def qm_flp_5 : List Nat := [6214, 6220, 6221, 6222, 6223]
def qm_fl : List (Nat × Nat × Nat × Nat) := qm_fl_0 ++ (qm_fl_1 ++ (qm_fl_2 ++ (qm_fl_3 ++ (qm_fl_4 ++ (qm_fl_5)))))
/-- method links: class, pool number, the method, 1: a nest mate's -/
def qm_ml_0 : List (Nat × Nat × Nat × Nat) := [(0, 33, 221, 0), (1, 41, 67, 0), (1, 45, 68, 0), (1, 49, 70, 0), (2, 44, 178, 0), (2, 57, 83, 0), (2, 61, 185, 0), (2, 68, 191, 0), (2, 75, 192, 0), (2, 79, 196, 0), (3, 29, 6, 0), (3, 59, 20, 0), (3, 69, 56, 0), (3, 72, 21, 0), (3, 78, 30, 0), (3, 82, 36, 0), (3, 86, 37, 0), (3, 90, 31, 0), (3, 93, 32, 0), (3, 96, 34, 0), (3, 99, 33, 0), (3, 106, 35, 0), (3, 121, 38, 0), (3, 124, 42, 0), (3, 127, 43, 0), (3, 134, 44, 0), (3, 138, 45, 0), (3, 141, 48, 0), (3, 144, 51, 0), (3, 147, 39, 0), (3, 159, 41, 0), (3, 162, 40, 0), (3, 177, 46, 0), (3, 181, 49, 0), (3, 184, 50, 0), (3, 187, 52, 0), (3, 190, 54, 0), (3, 193, 53, 0), (3, 196, 55, 0), (4, 34, 8, 0), (4, 45, 72, 0), (4, 49, 75, 0), (4, 56, 95, 0), (4, 72, 94, 0), (4, 76, 96, 0), (4, 82, 97, 0), (4, 88, 73, 0), (4, 91, 92, 0), (4, 94, 77, 0), (4, 99, 90, 0), (4, 105, 81, 0), (4, 110, 88, 0), (4, 114, 89, 0), (4, 117, 91, 0), (4, 125, 93, 0), (4, 129, 98, 0), (4, 132, 87, 0), (4, 138, 84, 0), (4, 142, 99, 0), (4, 146, 103, 0)]
def qm_mlp_0 : List Nat := [6023, 3091, 3095, 3134, 5083, 3156, 5113, 5137, 5141, 5157, 2076, 2077, 3027, 2081, 2166, 2186, 2190, 2170, 2173, 2179, 2176, 2183, 2194, 2210, 2214, 2218, 2222, 2237, 3009, 2198, 2206, 2202, 2226, 3001, 3005, 3013, 3020, 3017, 3024, 1077, 3182, 3123, 3210, 3206, 3216, 3220, 3201, 3197, 3187, 3188, 3192, 3178, 3183, 3193, 3202, 3227, 3174, 3231, 3232, 4009]
def qm_ml_1 : List (Nat × Nat × Nat × Nat) := [(4, 149, 104, 0), (4, 156, 78, 0), (4, 159, 105, 0), (4, 163, 106, 0), (4, 166, 79, 0), (4, 168, 100, 0), (4, 172, 68, 0), (4, 182, 67, 0), (4, 188, 147, 0), (4, 191, 146, 0), (4, 194, 114, 0), (4, 197, 145, 0), (4, 203, 148, 0), (5, 40, 75, 0), (5, 64, 118, 0), (5, 68, 119, 0), (5, 71, 120, 0), (5, 74, 117, 0), (5, 82, 116, 0), (5, 86, 114, 0), (5, 90, 115, 0), (5, 94, 121, 0), (5, 97, 122, 0), (5, 104, 113, 0), (5, 108, 137, 0), (5, 114, 140, 0), (5, 120, 99, 0), (5, 124, 144, 0), (5, 128, 106, 0), (5, 136, 87, 0), (5, 139, 139, 0), (5, 142, 234, 0), (5, 145, 235, 0), (5, 148, 91, 0), (5, 151, 228, 0), (5, 154, 229, 0), (5, 157, 8, 0), (6, 33, 6, 0), (6, 70, 47, 0), (6, 74, 57, 0), (6, 78, 58, 0), (6, 86, 59, 0), (6, 96, 60, 0), (6, 106, 61, 1), (6, 109, 33, 0), (6, 112, 123, 0), (6, 116, 131, 0), (6, 118, 124, 0), (6, 121, 132, 0), (7, 20, 22, 0), (7, 30, 23, 0), (7, 33, 24, 0), (7, 36, 26, 0), (7, 39, 27, 0), (7, 42, 28, 0), (7, 49, 25, 0), (7, 60, 29, 0), (8, 41, 58, 0), (8, 45, 124, 0), (8, 49, 125, 0)]
def qm_mlp_1 : List Nat := [4012, 4016, 4017, 4021, 4026, 3236, 4000, 4025, 4197, 4193, 4211, 4189, 4201, 4070, 4079, 4082, 4085, 4075, 4071, 4063, 4067, 4088, 4092, 4059, 4155, 4168, 6085, 6086, 6087, 6079, 6080, 6081, 6088, 6099, 6051, 6056, 6055, 230, 2230, 3031, 3035, 3040, 3050, 3056, 3038, 4096, 4131, 4135, 4136, 2085, 2088, 2091, 2151, 2154, 2158, 2095, 2162, 4100, 4101, 4105]
def qm_ml_2 : List (Nat × Nat × Nat × Nat) := [(8, 55, 126, 0), (8, 59, 127, 0), (8, 63, 128, 0), (8, 66, 129, 0), (8, 69, 130, 0), (9, 36, 12, 0), (9, 69, 203, 0), (9, 73, 204, 0), (9, 77, 205, 0), (9, 81, 210, 0), (9, 91, 206, 0), (9, 94, 208, 0), (9, 98, 209, 0), (9, 101, 207, 0), (9, 105, 102, 0), (9, 109, 86, 0), (10, 36, 68, 0), (10, 42, 81, 0), (10, 46, 67, 0), (10, 54, 8, 0), (10, 81, 164, 0), (10, 85, 163, 0), (10, 88, 161, 0), (10, 92, 162, 0), (10, 95, 165, 0), (10, 98, 166, 0), (10, 102, 170, 0), (10, 106, 171, 0), (10, 109, 172, 0), (11, 9, 1, 1), (11, 18, 2, 0), (11, 27, 3, 1), (11, 34, 4, 0), (11, 45, 5, 0), (11, 46, 7, 0), (11, 55, 9, 0), (11, 64, 10, 0), (11, 71, 11, 0), (11, 80, 13, 1), (11, 89, 15, 0), (11, 93, 16, 0), (11, 101, 19, 0), (11, 108, 62, 0), (11, 114, 12, 0), (11, 120, 65, 0), (11, 124, 66, 0), (11, 128, 70, 0), (11, 135, 72, 0), (11, 138, 73, 0), (11, 141, 74, 0), (11, 147, 77, 0), (11, 150, 78, 0), (11, 154, 79, 0), (11, 162, 81, 0), (11, 168, 82, 0), (11, 171, 84, 0), (11, 174, 86, 0), (11, 177, 102, 0), (11, 201, 88, 0), (11, 207, 75, 0)]
def qm_mlp_2 : List Nat := [4109, 4113, 4118, 4122, 4127, 1183, 5186, 5190, 5197, 5217, 5201, 5209, 5213, 5205, 5221, 5222, 3143, 3164, 3165, 5022, 5033, 5029, 5018, 5026, 5036, 5039, 5054, 5057, 5060, 32, 68, 120, 187, 226, 1073, 1114, 1136, 1178, 1235, 2056, 2060, 2072, 3071, 3075, 3084, 3087, 3103, 3111, 3115, 3119, 3130, 3135, 3139, 3148, 3152, 3160, 3170, 4005, 4035, 4036]
def qm_ml_3 : List (Nat × Nat × Nat × Nat) := [(11, 213, 96, 0), (11, 216, 97, 0), (11, 221, 93, 0), (11, 226, 90, 0), (11, 229, 94, 0), (11, 235, 112, 0), (11, 238, 134, 0), (11, 244, 136, 0), (11, 247, 91, 0), (11, 250, 139, 0), (11, 253, 114, 0), (11, 256, 142, 0), (11, 259, 144, 0), (11, 264, 149, 0), (11, 267, 146, 0), (11, 270, 153, 0), (11, 273, 154, 0), (11, 281, 157, 0), (11, 287, 160, 0), (11, 293, 169, 0), (11, 299, 175, 0), (11, 302, 177, 0), (11, 310, 183, 0), (11, 313, 184, 0), (11, 316, 187, 0), (11, 319, 190, 0), (11, 322, 193, 0), (11, 326, 195, 0), (11, 329, 199, 0), (11, 333, 103, 0), (11, 336, 202, 0), (11, 342, 212, 0), (11, 345, 214, 0), (11, 360, 218, 0), (11, 366, 220, 0), (11, 372, 224, 0), (11, 375, 226, 0), (11, 378, 227, 0), (11, 381, 229, 0), (11, 384, 231, 0), (11, 387, 233, 0), (11, 390, 237, 0), (11, 393, 238, 0), (11, 396, 240, 0), (11, 409, 203, 0), (12, 242, 242, 0), (12, 245, 243, 0), (12, 252, 246, 0), (12, 261, 244, 0), (12, 268, 250, 0), (12, 272, 251, 0), (12, 276, 252, 0), (12, 280, 253, 0), (12, 283, 254, 0), (12, 302, 258, 0), (12, 305, 255, 0), (12, 308, 257, 0), (12, 311, 249, 0), (12, 332, 256, 0), (12, 335, 259, 0)]
def qm_mlp_3 : List Nat := [4041, 4042, 4043, 4049, 4050, 4055, 4143, 4151, 4163, 4164, 4176, 4177, 4185, 4207, 4220, 4225, 4229, 5002, 5014, 5050, 5071, 5079, 5105, 5109, 5121, 5133, 5145, 5153, 5169, 5177, 5182, 5227, 5235, 6011, 6019, 6036, 6044, 6047, 6061, 6066, 6074, 6095, 6100, 6108, 6112, 6119, 6123, 7209, 6126, 7225, 7229, 7233, 7236, 7239, 8015, 8003, 8011, 7221, 8007, 8019]
def qm_ml_4 : List (Nat × Nat × Nat × Nat) := [(12, 339, 261, 0), (12, 342, 262, 0), (12, 345, 260, 0), (12, 349, 263, 0), (12, 353, 264, 0), (12, 359, 266, 0), (12, 362, 265, 0), (12, 365, 267, 0), (12, 368, 310, 0), (12, 371, 309, 0), (12, 377, 270, 0), (12, 381, 272, 0), (12, 384, 274, 0), (12, 387, 275, 0), (12, 390, 276, 0), (12, 393, 278, 0), (12, 396, 279, 0), (12, 402, 281, 0), (12, 406, 283, 0), (12, 409, 290, 0), (12, 412, 293, 0), (12, 416, 294, 0), (12, 419, 289, 0), (12, 422, 291, 0), (12, 425, 292, 0), (12, 428, 288, 0), (12, 431, 297, 0), (12, 435, 285, 0), (12, 438, 286, 0), (12, 441, 287, 0), (12, 444, 295, 0), (12, 447, 296, 0), (12, 451, 306, 0), (12, 454, 307, 0), (12, 457, 308, 0), (12, 463, 305, 0), (12, 466, 304, 0), (12, 469, 314, 0), (12, 472, 313, 0), (12, 475, 316, 0), (12, 478, 318, 0), (12, 481, 321, 0), (12, 484, 320, 0), (12, 487, 325, 0), (12, 490, 326, 0), (12, 499, 335, 0), (12, 502, 336, 0), (12, 505, 332, 0), (12, 508, 333, 0), (12, 517, 334, 0), (12, 520, 337, 0), (12, 523, 338, 0), (12, 527, 331, 0), (12, 530, 342, 0), (12, 536, 341, 0), (12, 539, 340, 0), (12, 542, 346, 0), (12, 547, 351, 0), (12, 550, 282, 0), (12, 553, 355, 0)]
def qm_mlp_4 : List Nat := [8027, 8031, 8023, 8035, 8039, 8047, 8043, 8051, 8221, 8217, 8063, 8070, 8078, 8082, 8086, 8094, 8097, 8105, 8113, 8141, 8153, 8157, 8137, 8145, 8149, 8133, 8168, 8121, 8125, 8129, 8160, 8164, 8205, 8209, 8213, 8201, 8197, 8237, 8233, 9005, 9013, 9025, 9021, 9041, 9045, 9081, 9085, 9069, 9073, 9077, 9089, 9093, 9065, 9109, 9105, 9117, 9126, 9148, 8109, 9164]
def qm_ml_5 : List (Nat × Nat × Nat × Nat) := [(12, 574, 359, 0), (12, 578, 364, 0), (12, 581, 363, 0), (12, 584, 284, 0), (12, 587, 298, 0), (12, 590, 362, 0), (12, 593, 371, 0), (12, 597, 375, 0), (12, 600, 378, 0), (12, 603, 319, 0), (13, 9, 0, 0), (13, 12, 241, 0), (13, 13, 14, 0), (13, 17, 245, 0), (13, 18, 17, 0), (13, 22, 247, 0), (13, 23, 18, 0), (13, 27, 248, 0), (13, 28, 63, 0), (13, 31, 268, 0), (13, 32, 64, 0), (13, 36, 269, 0), (13, 37, 69, 0), (13, 41, 271, 0), (13, 42, 71, 0), (13, 45, 273, 0), (13, 46, 76, 0), (13, 50, 277, 0), (13, 51, 80, 0), (13, 54, 280, 0), (13, 55, 85, 0), (13, 58, 284, 0), (13, 59, 101, 0), (13, 62, 298, 0), (13, 63, 107, 0), (13, 66, 299, 0), (13, 67, 108, 0), (13, 70, 300, 0), (13, 71, 109, 0), (13, 74, 301, 0), (13, 75, 110, 0), (13, 79, 302, 0), (13, 80, 111, 0), (13, 83, 303, 0), (13, 84, 133, 0), (13, 87, 311, 0), (13, 88, 135, 0), (13, 91, 312, 0), (13, 92, 138, 0), (13, 95, 315, 0), (13, 96, 141, 0), (13, 99, 317, 0), (13, 100, 143, 0), (13, 103, 319, 0), (13, 104, 150, 0), (13, 107, 322, 0), (13, 108, 151, 0), (13, 111, 323, 0), (13, 112, 152, 0), (13, 115, 324, 0)]
def qm_mlp_5 : List Nat := [9180, 9200, 9196, 9204, 9205, 9192, 9230, 10006, 10019, 10023, 24, 6115, 2052, 7205, 2064, 7213, 2068, 7217, 3076, 8055, 3080, 8059, 3099, 8066, 3107, 8074, 3126, 8090, 3144, 8101, 3166, 8117, 4001, 8172, 4027, 8176, 4031, 8180, 4037, 8184, 4045, 8189, 4051, 8193, 4139, 8225, 4147, 8229, 4159, 9001, 4172, 9009, 4181, 9017, 4212, 9029, 4216, 9033, 4221, 9037]
def qm_ml_6 : List (Nat × Nat × Nat × Nat) := [(13, 116, 155, 0), (13, 119, 327, 0), (13, 120, 156, 0), (13, 123, 328, 0), (13, 124, 158, 0), (13, 127, 329, 0), (13, 128, 159, 0), (13, 131, 330, 0), (13, 132, 167, 0), (13, 135, 339, 0), (13, 136, 168, 0), (13, 139, 340, 0), (13, 140, 173, 0), (13, 143, 343, 0), (13, 144, 174, 0), (13, 147, 344, 0), (13, 148, 176, 0), (13, 151, 345, 0), (13, 152, 179, 0), (13, 156, 347, 0), (13, 157, 180, 0), (13, 160, 348, 0), (13, 161, 181, 0), (13, 164, 349, 0), (13, 165, 182, 0), (13, 168, 350, 0), (13, 169, 186, 0), (13, 172, 352, 0), (13, 173, 188, 0), (13, 176, 353, 0), (13, 177, 189, 0), (13, 180, 354, 0), (13, 181, 194, 0), (13, 184, 356, 0), (13, 185, 197, 0), (13, 188, 357, 0), (13, 189, 198, 0), (13, 192, 358, 0), (13, 193, 200, 0), (13, 196, 360, 0), (13, 197, 201, 0), (13, 200, 361, 0), (13, 201, 211, 0), (13, 204, 365, 0), (13, 205, 213, 0), (13, 208, 366, 0), (13, 209, 215, 0), (13, 213, 367, 0), (13, 214, 216, 0), (13, 217, 368, 0), (13, 218, 217, 0), (13, 222, 369, 0), (13, 223, 219, 0), (13, 226, 370, 0), (13, 227, 222, 0), (13, 230, 372, 0), (13, 231, 223, 0), (13, 234, 373, 0), (13, 235, 225, 0), (13, 238, 374, 0)]
def qm_mlp_6 : List Nat := [4234, 9049, 4238, 9053, 5006, 9057, 5010, 9061, 5042, 9097, 5046, 9101, 5063, 9113, 5067, 9118, 5075, 9122, 5087, 9130, 5091, 9134, 5097, 9140, 5101, 9144, 5117, 9152, 5125, 9156, 5129, 9160, 5149, 9168, 5161, 9172, 5165, 9176, 5173, 9184, 5178, 9188, 5223, 9206, 5231, 9210, 5239, 9214, 6003, 9218, 6007, 9222, 6015, 9226, 6028, 9234, 6032, 9238, 6040, 10002]
def qm_ml_7 : List (Nat × Nat × Nat × Nat) := [(13, 239, 230, 0), (13, 242, 376, 0), (13, 243, 232, 0), (13, 246, 377, 0), (13, 247, 236, 0), (13, 250, 379, 0), (13, 251, 239, 0), (13, 254, 380, 0)]
def qm_mlp_7 : List Nat := [6062, 10011, 6070, 10015, 6091, 10024, 6104, 10028]
def qm_ml : List (Nat × Nat × Nat × Nat) := qm_ml_0 ++ (qm_ml_1 ++ (qm_ml_2 ++ (qm_ml_3 ++ (qm_ml_4 ++ (qm_ml_5 ++ (qm_ml_6 ++ (qm_ml_7)))))))
def qm_ol : List (Nat × Nat × Nat) := [(0, 3, 1238), (1, 3, 123), (2, 3, 1139), (3, 3, 71), (4, 3, 1076), (5, 3, 1117), (6, 3, 229), (7, 1, 35), (8, 1, 3059), (9, 3, 1181), (10, 5, 190), (11, 1, 27), (12, 7, 6118)]
/-- links of Math: 0 max, 1 min, 2 abs, 3 max of longs, 4 min of longs -/
def qm_mt : List (Nat × Nat × Nat × Nat) := [(0, 37, 2, 6027), (4, 63, 2, 3213), (4, 68, 0, 3224), (5, 166, 0, 6060), (6, 64, 1, 2234), (6, 90, 3, 3047), (6, 107, 4, 3044), (8, 20, 1, 3053), (10, 75, 1, 5032), (11, 276, 0, 4233)]
def qm_ac : List (Nat × Nat × Nat) := [(10, 60, 5023)]
def qm_nl : List (Nat × Nat × Nat × Nat) := [(6, 97, 8, 3054), (11, 7, 7, 30), (11, 16, 3, 66), (11, 25, 1, 118), (11, 32, 10, 185), (11, 41, 4, 222), (11, 43, 6, 224), (11, 53, 5, 1112), (11, 62, 2, 1134), (11, 69, 9, 1176), (11, 78, 0, 1233), (13, 7, 11, 22), (13, 10, 12, 6113)]
def qm_gl : List (Nat × Nat × Nat) := [(0, 18, 1239), (8, 11, 3060), (9, 11, 1182), (10, 27, 191)]
def qm_ki : List (Nat × Nat × Int32 × Nat) := [(5, 132, 1000000, 6078), (8, 72, 100000000, 4117), (11, 225, -1000000, 4044), (11, 305, -99999, 5095), (11, 306, 99999, 5096), (12, 450, -1000000, 8188), (12, 545, -99999, 9138), (12, 546, 99999, 9139), (12, 596, 100000, 10010), (21, 265, 1431655765, 4204), (21, 266, 858993459, 4205), (21, 267, 252645135, 4206)]
def qm_kj : List (Nat × Nat × Int64 × Nat) := [(6, 82, 40, 3039), (6, 94, 2305843009213693952, 3043), (7, 76, 27, 2098), (8, 73, 100000000, 4126), (12, 259, 27, 6129)]
/-- a word by its place: 1000 * its list + its place there -/
def qm_tc (c : Nat) : List Cond := match c with
  | 0 => tables_1_1
  | 1 => tables_1_2
  | 2 => tables_1_3
  | 3 => tables_1_4
  | 4 => tables_1_5
  | 5 => tables_1_6
  | 6 => tables_1_7
  | 7 => tables_1_8
  | 8 => tables_1_9
  | 9 => tables_1_10
  | 10 => tables_1_11
  | 11 => k2_sels lw_privs
  | _ => []
def qm_at (q : Nat) : Option Cond := (qm_tc (q / 1000))[q % 1000]?
def qm_lp0 : List Nat := [2008, 2010, 2012, 2014, 2016, 2018]
def qm_lp1 : List Nat := [165, 167, 169, 171, 173, 175, 177, 179, 181]
def qm_lp2 : List Nat := [1153, 1155, 1157, 1159, 1161, 1163, 1165, 1167, 1169, 1171, 1173]
def qm_lp3 : List Nat := [87, 89, 91, 93, 95, 97, 99, 101, 103, 105, 107, 109, 111, 113]
def qm_lp4 : List Nat := [1095, 1097, 1099, 1101, 1103, 1105, 1107, 1109]
def qm_lp5 : List Nat := [1123, 1125, 1127, 1129, 1131]
def qm_lp6 : List Nat := [1040, 1042, 1044, 1046, 1048, 1050, 1052, 1054, 1056, 1058, 1060, 1062, 1064, 1066, 1068, 1070]
def qm_lp7 : List Nat := [50, 52, 54, 56, 58, 60, 62]
def qm_lp8 : List Nat := [3064, 3066, 3068]
def qm_lp9 : List Nat := [1206, 1208, 1210, 1212, 1214, 1216, 1218, 1220, 1222, 1224, 1226, 1228, 1230]
def qm_lp10 : List Nat := [205, 207, 209, 211, 213, 215, 217, 219]
def qm_lp11 : List Nat := [2031, 2033, 2035, 2037, 2039, 2041, 2043, 2045, 2047, 2049]
def qm_lp12 : List Nat := [6234, 6236, 6238, 7000, 7002, 7004, 7006, 7008, 7010, 7012, 7014, 7016, 7018, 7020, 7022, 7024, 7026, 7028, 7030, 7032, 7034, 7036, 7038, 7040, 7042, 7044, 7046, 7048, 7050, 7052, 7054, 7056, 7058, 7060, 7062, 7064, 7066, 7068, 7070, 7072, 7074, 7076, 7078, 7080, 7082, 7084, 7086, 7088, 7090, 7092, 7094, 7096, 7098, 7100, 7102, 7104, 7106, 7108, 7110, 7112, 7114, 7116, 7118, 7120, 7122, 7124, 7126, 7128, 7130, 7132, 7134, 7136, 7138, 7140, 7142, 7144, 7146, 7148, 7150, 7152, 7154, 7156, 7158, 7160, 7162, 7164, 7166, 7168, 7170, 7172, 7174, 7176, 7178, 7180, 7182, 7184, 7186, 7188, 7190, 7192, 7194, 7196, 7198, 7200, 7202]
/-! what is checked of the tables and of each instruction's row, by decide +kernel -/
def qm_lk : List (Nat × Nat × Nat × Nat) → Nat → Nat → Option (Nat × Nat)
  | [], _, _ => none
  | q :: r, o, i => bif Nat.beq q.1 o && Nat.beq q.2.1 i then some q.2.2 else qm_lk r o i
def qm_l3 : List (Nat × Nat × Nat) → Nat → Nat → Bool
  | [], _, _ => false
  | q :: r, o, i => (Nat.beq q.1 o && Nat.beq q.2.1 i) || qm_l3 r o i
def qm_li : List (Nat × Nat × Int32 × Nat) → Nat → Nat → Option Int32
  | [], _, _ => none
  | q :: r, o, i => bif Nat.beq q.1 o && Nat.beq q.2.1 i then some q.2.2.1 else qm_li r o i
def qm_lj : List (Nat × Nat × Int64 × Nat) → Nat → Nat → Option Int64
  | [], _, _ => none
  | q :: r, o, i => bif Nat.beq q.1 o && Nat.beq q.2.1 i then some q.2.2.1 else qm_lj r o i
def qm_tg (ty : FieldType) : Value := match ty with
  | .int => .int 0
  | .boolean => .int 1
  | .long => .long 0
  | _ => .null
/-- how many fields a class has; which of them are final -/
def qm_nf (c : Nat) : Nat := match qm_vc[c]? with
  | some r => r.2.2
  | none => 0
def qm_fin (c k : Nat) : Bool := match qm_vc[c]? with
  | some r => (r.2.1 k).2.2.2
  | none => true
/-- a method's head: class, name, bytes, locals, answer, how many arguments, static, places of its words (code, kind, selects, initialized) -/
abbrev qm_Hd : Type := Nat × MethodName × ByteArray × Nat × Option FieldType × Nat × Bool × (Nat × Nat × Nat × Nat)
def qm_akind (t : ArrayType) : Nat := match t with
  | .int => 0
  | .byte => 1
  | .boolean => 2
  | .long => 3
  | _ => 9
def qm_rto (r : Option FieldType) : Nat := match r with
  | some .int => 0
  | some .boolean => 1
  | some .long => 2
  | none => 3
  | _ => 9
def qm_nn (pc : Nat) (off : Int) : Bool := decide (0 ≤ (pc : Int) + off)
/-- a row is what the bytes and the tables say. o: the class; nL: how many locals; ini: in a constructor; rt: 0 an int is answered, 1 a boolean, 2 a long, 3 nothing -/
def qm_ok (hd : List qm_Hd) (o nL : Nat) (ini : Bool) (rt : Nat) (cc : ByteArray) (it : qm_It) : Bool :=
  let pc := it.1
  let np := it.2.1
  let a := it.2.2.2.1
  let b := it.2.2.2.2.1
  let v := it.2.2.2.2.2
  decide (decode cc pc = .ok (it.2.2.1, np - pc)) && match it.2.2.1 with
  | .iconst n => decide (v = .int (Int32.ofInt n)) && Nat.beq np (pc + 1)
  | .bipush n => decide (v = .int (Int8.ofInt n).toInt32) && Nat.beq np (pc + 2)
  | .sipush n => decide (v = .int (Int16.ofInt n).toInt32) && Nat.beq np (pc + 3)
  | .lconst n => decide (v = .long (Int64.ofNat (n : Nat))) && Nat.beq np (pc + 1)
  | .ldc i => decide (some v = (qm_li qm_ki o i).map Value.int) && Nat.beq np (pc + 2)
  | .ldc_w i => decide (some v = (qm_li qm_ki o i).map Value.int) && Nat.beq np (pc + 3)
  | .ldc2_w i => decide (some v = (qm_lj qm_kj o i).map Value.long) && Nat.beq np (pc + 3)
  | .iload i => Nat.beq a i && Nat.beq np (pc + 2)
  | .lload i => Nat.beq a i && Nat.beq np (pc + 2)
  | .aload i => Nat.beq a i && Nat.beq np (pc + 2)
  | .istore i => (Nat.beq a i && Nat.blt a nL) && Nat.beq np (pc + 2)
  | .lstore i => (Nat.beq a i && Nat.blt (a + 1) nL) && Nat.beq np (pc + 2)
  | .astore i => (Nat.beq a i && Nat.blt a nL) && Nat.beq np (pc + 2)
  | .iload_n i => Nat.beq a i.val && Nat.beq np (pc + 1)
  | .lload_n i => Nat.beq a i.val && Nat.beq np (pc + 1)
  | .aload_n i => Nat.beq a i.val && Nat.beq np (pc + 1)
  | .istore_n i => (Nat.beq a i.val && Nat.blt a nL) && Nat.beq np (pc + 1)
  | .lstore_n i => (Nat.beq a i.val && Nat.blt (a + 1) nL) && Nat.beq np (pc + 1)
  | .astore_n i => (Nat.beq a i.val && Nat.blt a nL) && Nat.beq np (pc + 1)
  | .iinc i n => ((Nat.beq a i && Nat.blt a nL) && decide (v = .int (Int32.ofInt n))) && Nat.beq np (pc + 3)
  | .iadd => Nat.beq np (pc + 1)
  | .isub => Nat.beq np (pc + 1)
  | .imul => Nat.beq np (pc + 1)
  | .iand => Nat.beq np (pc + 1)
  | .ior => Nat.beq np (pc + 1)
  | .ixor => Nat.beq np (pc + 1)
  | .idiv => Nat.beq np (pc + 1)
  | .irem => Nat.beq np (pc + 1)
  | .ineg => Nat.beq np (pc + 1)
  | .ishl => Nat.beq np (pc + 1)
  | .ishr => Nat.beq np (pc + 1)
  | .iushr => Nat.beq np (pc + 1)
  | .ladd => Nat.beq np (pc + 1)
  | .lsub => Nat.beq np (pc + 1)
  | .lmul => Nat.beq np (pc + 1)
  | .land => Nat.beq np (pc + 1)
  | .lor => Nat.beq np (pc + 1)
  | .ldiv => Nat.beq np (pc + 1)
  | .lrem => Nat.beq np (pc + 1)
  | .lshl => Nat.beq np (pc + 1)
  | .lshr => Nat.beq np (pc + 1)
  | .lcmp => Nat.beq np (pc + 1)
  | .i2l => Nat.beq np (pc + 1)
  | .l2i => Nat.beq np (pc + 1)
  | .i2b => Nat.beq np (pc + 1)
  | .dup => Nat.beq np (pc + 1)
  | .pop => Nat.beq np (pc + 1)
  | .dup2 => Nat.beq np (pc + 1)
  | .goto off => decide ((pc : Int) + off = (a : Int)) && Nat.beq np (pc + 3)
  | .ifCond _ off => decide ((pc : Int) + off = (a : Int)) && Nat.beq np (pc + 3)
  | .if_icmp _ off => decide ((pc : Int) + off = (a : Int)) && Nat.beq np (pc + 3)
  | .ifnull off => decide ((pc : Int) + off = (a : Int)) && Nat.beq np (pc + 3)
  | .ifnonnull off => decide ((pc : Int) + off = (a : Int)) && Nat.beq np (pc + 3)
  | .tableswitch d _ _ offs => qm_nn pc d && offs.toList.all (qm_nn pc)
  | .lookupswitch d ps => (qm_nn pc d && ps.toList.all (fun q => qm_nn pc q.2)) && (ps.toList.zip (ps.toList.drop 1)).all (fun (a, next) => a.1 < next.1)
  | .getfield i => (decide (qm_lk qm_fl o i = some (a, b)) && decide (v = qm_tg (qm_ty a b))) && Nat.beq np (pc + 3)
  | .putfield i => ((decide (qm_lk qm_fl o i = some (a, b)) && decide (v = qm_tg (qm_ty a b))) && (!(qm_fin a b) || (ini && Nat.beq o a))) && Nat.beq np (pc + 3)
  | .iaload => Nat.beq np (pc + 1)
  | .baload => Nat.beq np (pc + 1)
  | .laload => Nat.beq np (pc + 1)
  | .aaload => Nat.beq np (pc + 1)
  | .iastore => Nat.beq np (pc + 1)
  | .bastore => Nat.beq np (pc + 1)
  | .lastore => Nat.beq np (pc + 1)
  | .arraylength => Nat.beq np (pc + 1)
  | .newarray t => (Nat.beq a (qm_akind t) && Nat.blt a 4) && Nat.beq np (pc + 2)
  | .new i => (decide ((qm_lk qm_nl o i).map Prod.fst = some a) && Nat.beq b (qm_nf a)) && Nat.beq np (pc + 3)
  | .multianewarray i d => (Nat.beq d 2 && qm_l3 qm_gl o i) && Nat.beq np (pc + 4)
  | .invokevirtual i => (match qm_lk qm_ml o i, hd[a]? with
    | some q, some e => (Nat.beq q.1 a && Nat.beq q.2 0) && ((Nat.beq e.2.2.2.2.2.1 b && !e.2.2.2.2.2.2.1) && (decide (v = .retAddr e.1) && decide (¬ e.2.1.name = "<init>")))
    | _, _ => false) && Nat.beq np (pc + 3)
  | .invokespecial i => (match v with
    | .null => Nat.beq b 0 && qm_l3 qm_ol o i
    | _ => match qm_lk qm_ml o i, hd[a]? with
      | some q, some e => Nat.beq q.1 a && ((Nat.beq e.2.2.2.2.2.1 b && !e.2.2.2.2.2.2.1) && (decide (e.2.1.name = "<init>") && decide (e.2.2.2.2.1 = none)))
      | _, _ => false) && Nat.beq np (pc + 3)
  | .invokestatic i => (match v with
    | .null => qm_l3 qm_ac o i
    | .int _ => decide ((qm_lk qm_mt o i).map Prod.fst = some a)
    | _ => match qm_lk qm_ml o i, hd[a]? with
      | some q, some e => (Nat.beq q.1 a && Nat.beq q.2 0) && (Nat.beq e.2.2.2.2.2.1 b && e.2.2.2.2.2.2.1)
      | _, _ => false) && Nat.beq np (pc + 3)
  | .ireturn => (Nat.beq a rt && Nat.blt rt 2) && Nat.beq np (pc + 1)
  | .lreturn => Nat.beq rt 2 && Nat.beq np (pc + 1)
  | .return_ => Nat.beq rt 3 && Nat.beq np (pc + 1)
  | _ => false
def qm_hd_0 : List qm_Hd := [(11, ⟨"BoxQuay", "<init>", "()V"⟩, prog_1_method_1_code, 1, none, 0, false, (26, 25, 0, 1)), (7, ⟨"BoxQuay$Tokens", "<init>", "()V"⟩, prog_9_method_1_code, 1, none, 0, false, (34, 33, 0, 2)), (3, ⟨"BoxQuay$Reader", "<init>", "(LBoxQuay$Tokens;)V"⟩, prog_5_method_1_code, 2, none, 1, false, (70, 69, 0, 3)), (1, ⟨"BoxQuay$Boxes", "<init>", "()V"⟩, prog_3_method_1_code, 1, none, 0, false, (122, 121, 0, 4)), (10, ⟨"BoxQuay$Yard", "<init>", "(LBoxQuay$Boxes;)V"⟩, prog_12_method_1_code, 2, none, 1, false, (189, 188, 0, 5)), (6, ⟨"BoxQuay$Terms", "<init>", "()V"⟩, prog_8_method_1_code, 1, none, 0, false, (228, 227, 0, 7)), (6, ⟨"BoxQuay$Terms", "forget", "()V"⟩, prog_8_method_2_code, 1, none, 0, false, (233, 231, 232, 7)), (4, ⟨"BoxQuay$Ship", "<init>", "(LBoxQuay$Boxes;LBoxQuay$Yard;LBoxQuay$Terms;)V"⟩, prog_6_method_1_code, 4, none, 3, false, (1075, 1074, 0, 6)), (15, ⟨"java/util/Arrays", "fill", "([II)V"⟩, prog_21_method_103_code, 4, none, 2, true, (1079, 1078, 0, 8)), (5, ⟨"BoxQuay$Stow", "<init>", "(LBoxQuay$Boxes;LBoxQuay$Ship;)V"⟩, prog_7_method_1_code, 3, none, 2, false, (1116, 1115, 0, 9)), (2, ⟨"BoxQuay$Facts", "<init>", "(LBoxQuay$Boxes;)V"⟩, prog_4_method_1_code, 2, none, 1, false, (1138, 1137, 0, 10)), (9, ⟨"BoxQuay$Work", "<init>", "(LBoxQuay$Ship;)V"⟩, prog_11_method_1_code, 2, none, 1, false, (1180, 1179, 0, 11)), (9, ⟨"BoxQuay$Work", "beginAnew", "()V"⟩, prog_11_method_2_code, 2, none, 0, false, (1186, 1184, 1185, 11)), (0, ⟨"BoxQuay$Books", "<init>", "()V"⟩, prog_2_method_1_code, 1, none, 0, false, (1237, 1236, 0, 12)), (11, ⟨"BoxQuay", "feed", "(IIIII)I"⟩, prog_1_method_2_code, 6, (some .int), 5, false, (2055, 2053, 2054, 1)), (7, ⟨"BoxQuay$Tokens", "hasRoom", "(I)Z"⟩, prog_9_method_2_code, 2, (some .boolean), 1, false, (2059, 2057, 2058, 2)), (7, ⟨"BoxQuay$Tokens", "append", "(I)V"⟩, prog_9_method_3_code, 3, none, 1, false, (2063, 2061, 2062, 2)), (11, ⟨"BoxQuay", "back", "(I)I"⟩, prog_1_method_3_code, 2, (some .int), 1, false, (2067, 2065, 2066, 1)), (11, ⟨"BoxQuay", "read", "()I"⟩, prog_1_method_4_code, 3, (some .int), 0, false, (2071, 2069, 2070, 1)), (3, ⟨"BoxQuay$Reader", "parse", "(LBoxQuay$Terms;)I"⟩, prog_5_method_2_code, 3, (some .int), 1, false, (2075, 2073, 2074, 3)), (3, ⟨"BoxQuay$Reader", "readTokens", "()I"⟩, prog_5_method_3_code, 4, (some .int), 0, false, (2080, 2079, 11000, 3)), (7, ⟨"BoxQuay$Tokens", "advance", "()V"⟩, prog_9_method_4_code, 1, none, 0, false, (2084, 2082, 2083, 2)), (7, ⟨"BoxQuay$Tokens", "isBlank", "(I)Z"⟩, prog_9_method_11_code, 1, (some .boolean), 1, true, (2087, 2086, 0, 2)), (7, ⟨"BoxQuay$Tokens", "isLetter", "(I)Z"⟩, prog_9_method_12_code, 1, (some .boolean), 1, true, (2090, 2089, 0, 2)), (7, ⟨"BoxQuay$Tokens", "takeWord", "()V"⟩, prog_9_method_5_code, 1, none, 0, false, (2094, 2093, 11001, 2)), (7, ⟨"BoxQuay$Tokens", "withLetter", "(JI)J"⟩, prog_9_method_10_code, 3, (some .long), 2, true, (2097, 2096, 0, 2)), (7, ⟨"BoxQuay$Tokens", "isDigit", "(I)Z"⟩, prog_9_method_13_code, 1, (some .boolean), 1, true, (2153, 2152, 0, 2)), (7, ⟨"BoxQuay$Tokens", "takeInt", "()V"⟩, prog_9_method_6_code, 1, none, 0, false, (2157, 2156, 11002, 2)), (7, ⟨"BoxQuay$Tokens", "takeSign", "()V"⟩, prog_9_method_7_code, 2, none, 0, false, (2161, 2160, 11003, 2)), (7, ⟨"BoxQuay$Tokens", "takeEquals", "()Z"⟩, prog_9_method_8_code, 1, (some .boolean), 0, false, (2165, 2164, 11004, 2)), (3, ⟨"BoxQuay$Reader", "follow", "(I)I"⟩, prog_5_method_4_code, 2, (some .int), 1, false, (2169, 2168, 11005, 3)), (3, ⟨"BoxQuay$Reader", "followTell", "(I)I"⟩, prog_5_method_5_code, 1, (some .int), 1, true, (2172, 2171, 0, 3)), (3, ⟨"BoxQuay$Reader", "followUnit", "(I)I"⟩, prog_5_method_6_code, 1, (some .int), 1, true, (2175, 2174, 0, 3)), (7, ⟨"BoxQuay$Tokens", "isVar", "(I)Z"⟩, prog_9_method_14_code, 1, (some .boolean), 1, true, (2178, 2177, 0, 2)), (3, ⟨"BoxQuay$Reader", "followMore", "(I)I"⟩, prog_5_method_7_code, 2, (some .int), 1, false, (2182, 2181, 11006, 3)), (7, ⟨"BoxQuay$Tokens", "isComparison", "(I)Z"⟩, prog_9_method_15_code, 1, (some .boolean), 1, true, (2185, 2184, 0, 2)), (3, ⟨"BoxQuay$Reader", "lacksRoom", "(I)Z"⟩, prog_5_method_8_code, 2, (some .boolean), 1, false, (2189, 2188, 11007, 3)), (3, ⟨"BoxQuay$Reader", "take", "(I)V"⟩, prog_5_method_9_code, 2, none, 1, false, (2193, 2192, 11008, 3)), (3, ⟨"BoxQuay$Reader", "takeNumber", "(I)V"⟩, prog_5_method_10_code, 2, none, 1, false, (2197, 2196, 11009, 3)), (3, ⟨"BoxQuay$Reader", "takeBays", "(I)V"⟩, prog_5_method_11_code, 2, none, 1, false, (2201, 2200, 11010, 3))]
def qm_hd_1 : List qm_Hd := [(3, ⟨"BoxQuay$Reader", "noteLater", "(I)V"⟩, prog_5_method_16_code, 2, none, 1, false, (2205, 2204, 11011, 3)), (3, ⟨"BoxQuay$Reader", "takeLift", "(I)V"⟩, prog_5_method_12_code, 2, none, 1, false, (2209, 2208, 11012, 3)), (3, ⟨"BoxQuay$Reader", "takePlugBay", "(I)V"⟩, prog_5_method_13_code, 2, none, 1, false, (2213, 2212, 11013, 3)), (3, ⟨"BoxQuay$Reader", "takePlugRow", "(I)V"⟩, prog_5_method_14_code, 2, none, 1, false, (2217, 2216, 11014, 3)), (3, ⟨"BoxQuay$Reader", "takeTitle", "(J)V"⟩, prog_5_method_15_code, 4, none, 1, false, (2221, 2220, 11015, 3)), (3, ⟨"BoxQuay$Reader", "beginCondition", "()V"⟩, prog_5_method_17_code, 1, none, 0, false, (2225, 2224, 11016, 3)), (6, ⟨"BoxQuay$Terms", "beginRule", "(Z)V"⟩, prog_8_method_4_code, 2, none, 1, false, (2229, 2227, 2228, 7)), (6, ⟨"BoxQuay$Terms", "slot", "(Z)I"⟩, prog_8_method_3_code, 2, (some .int), 1, false, (2233, 2231, 2232, 7)), (3, ⟨"BoxQuay$Reader", "takeUnit", "(I)V"⟩, prog_5_method_18_code, 2, none, 1, false, (3000, 2239, 11017, 3)), (6, ⟨"BoxQuay$Terms", "emit", "(I)V"⟩, prog_8_method_5_code, 2, none, 1, false, (3004, 3002, 3003, 7)), (3, ⟨"BoxQuay$Reader", "letWait", "(I)V"⟩, prog_5_method_20_code, 2, none, 1, false, (3008, 3007, 11018, 3)), (3, ⟨"BoxQuay$Reader", "takeMore", "(I)V"⟩, prog_5_method_19_code, 2, none, 1, false, (3012, 3011, 11019, 3)), (3, ⟨"BoxQuay$Reader", "emitWaiting", "(I)V"⟩, prog_5_method_21_code, 2, none, 1, false, (3016, 3015, 11020, 3)), (3, ⟨"BoxQuay$Reader", "strength", "(I)I"⟩, prog_5_method_23_code, 1, (some .int), 1, true, (3019, 3018, 0, 3)), (6, ⟨"BoxQuay$Terms", "endRule", "(Z)V"⟩, prog_8_method_6_code, 2, none, 1, false, (3023, 3021, 3022, 7)), (3, ⟨"BoxQuay$Reader", "isJoint", "(I)Z"⟩, prog_5_method_22_code, 1, (some .boolean), 1, true, (3026, 3025, 0, 3)), (6, ⟨"BoxQuay$Terms", "measureRules", "()V"⟩, prog_8_method_7_code, 2, none, 0, false, (3030, 3028, 3029, 7)), (6, ⟨"BoxQuay$Terms", "measure", "(I)V"⟩, prog_8_method_8_code, 8, none, 1, false, (3034, 3033, 11021, 7)), (6, ⟨"BoxQuay$Terms", "isOperand", "(I)Z"⟩, prog_8_method_10_code, 1, (some .boolean), 1, true, (3037, 3036, 0, 7)), (6, ⟨"BoxQuay$Terms", "bound", "(IJJ)J"⟩, prog_8_method_9_code, 5, (some .long), 3, true, (3042, 3041, 0, 7)), (8, ⟨"BoxQuay$Wide", "limbsFor", "(I)I"⟩, prog_10_method_2_code, 1, (some .int), 1, true, (3052, 3051, 0, 19)), (8, ⟨"BoxQuay$Wide", "<init>", "()V"⟩, prog_10_method_1_code, 1, none, 0, false, (3058, 3057, 0, 19)), (4, ⟨"BoxQuay$Ship", "standsBeyond", "(I)Z"⟩, prog_6_method_10_code, 3, (some .boolean), 1, false, (3074, 3072, 3073, 6)), (11, ⟨"BoxQuay", "place", "()I"⟩, prog_1_method_5_code, 1, (some .int), 0, false, (3079, 3077, 3078, 1)), (11, ⟨"BoxQuay", "box", "(III)I"⟩, prog_1_method_6_code, 4, (some .int), 3, false, (3083, 3081, 3082, 1)), (11, ⟨"BoxQuay", "within", "(II)Z"⟩, prog_1_method_63_code, 2, (some .boolean), 2, true, (3086, 3085, 0, 1)), (1, ⟨"BoxQuay$Boxes", "make", "(III)I"⟩, prog_3_method_2_code, 4, (some .int), 3, false, (3090, 3088, 3089, 4)), (1, ⟨"BoxQuay$Boxes", "sendAway", "(I)V"⟩, prog_3_method_3_code, 2, none, 1, false, (3094, 3092, 3093, 4)), (1, ⟨"BoxQuay$Boxes", "stand", "(IIIII)V"⟩, prog_3_method_4_code, 6, none, 5, false, (3098, 3096, 3097, 4)), (11, ⟨"BoxQuay", "stuck", "(IZ)Z"⟩, prog_1_method_7_code, 3, (some .boolean), 2, false, (3102, 3100, 3101, 1)), (1, ⟨"BoxQuay$Boxes", "has", "(I)Z"⟩, prog_3_method_5_code, 2, (some .boolean), 1, false, (3106, 3104, 3105, 4)), (11, ⟨"BoxQuay", "cover", "(IZ)Z"⟩, prog_1_method_8_code, 3, (some .boolean), 2, false, (3110, 3108, 3109, 1)), (4, ⟨"BoxQuay$Ship", "hasBay", "(I)Z"⟩, prog_6_method_6_code, 2, (some .boolean), 1, false, (3114, 3112, 3113, 6)), (4, ⟨"BoxQuay$Ship", "isCovered", "(I)Z"⟩, prog_6_method_8_code, 2, (some .boolean), 1, false, (3118, 3116, 3117, 6)), (4, ⟨"BoxQuay$Ship", "isDeckUsed", "(I)Z"⟩, prog_6_method_9_code, 3, (some .boolean), 1, false, (3122, 3120, 3121, 6)), (4, ⟨"BoxQuay$Ship", "index", "(III)I"⟩, prog_6_method_2_code, 3, (some .int), 3, true, (3125, 3124, 0, 6)), (11, ⟨"BoxQuay", "store", "(II)I"⟩, prog_1_method_9_code, 3, (some .int), 2, false, (3129, 3127, 3128, 1)), (1, ⟨"BoxQuay$Boxes", "isAway", "(I)Z"⟩, prog_3_method_6_code, 2, (some .boolean), 1, false, (3133, 3131, 3132, 4)), (10, ⟨"BoxQuay$Yard", "room", "(I)I"⟩, prog_12_method_3_code, 2, (some .int), 1, false, (3138, 3136, 3137, 5)), (10, ⟨"BoxQuay$Yard", "put", "(II)I"⟩, prog_12_method_5_code, 4, (some .int), 2, false, (3142, 3140, 3141, 5))]
def qm_hd_2 : List qm_Hd := [(11, ⟨"BoxQuay", "fetch", "(I)I"⟩, prog_1_method_10_code, 3, (some .int), 1, false, (3147, 3145, 3146, 1)), (10, ⟨"BoxQuay$Yard", "highest", "(I)I"⟩, prog_12_method_4_code, 2, (some .int), 1, false, (3151, 3149, 3150, 5)), (2, ⟨"BoxQuay$Facts", "isStopped", "(II)Z"⟩, prog_4_method_9_code, 7, (some .boolean), 2, false, (3155, 3153, 3154, 10)), (2, ⟨"BoxQuay$Facts", "voided", "(I)J"⟩, prog_4_method_5_code, 5, (some .long), 1, false, (3159, 3158, 11022, 10)), (10, ⟨"BoxQuay$Yard", "takeHighest", "(I)V"⟩, prog_12_method_6_code, 3, none, 1, false, (3163, 3161, 3162, 5)), (11, ⟨"BoxQuay", "load", "(III)I"⟩, prog_1_method_11_code, 4, (some .int), 3, false, (3169, 3167, 3168, 1)), (4, ⟨"BoxQuay$Ship", "loading", "(III)I"⟩, prog_6_method_23_code, 5, (some .int), 3, false, (3173, 3171, 3172, 6)), (4, ⟨"BoxQuay$Ship", "tryLoading", "(III)I"⟩, prog_6_method_22_code, 6, (some .int), 3, false, (3177, 3175, 3176, 6)), (4, ⟨"BoxQuay$Ship", "hasPlace", "(II)Z"⟩, prog_6_method_7_code, 3, (some .boolean), 2, false, (3181, 3179, 3180, 6)), (4, ⟨"BoxQuay$Ship", "canBeHad", "(I)Z"⟩, prog_6_method_21_code, 2, (some .boolean), 1, false, (3186, 3185, 11023, 6)), (1, ⟨"BoxQuay$Boxes", "isAshore", "(I)Z"⟩, prog_3_method_8_code, 2, (some .boolean), 1, false, (3191, 3189, 3190, 4)), (4, ⟨"BoxQuay$Ship", "freeTier", "(II)I"⟩, prog_6_method_19_code, 4, (some .int), 2, false, (3196, 3194, 3195, 6)), (4, ⟨"BoxQuay$Ship", "lowestTier", "(I)I"⟩, prog_6_method_18_code, 2, (some .int), 1, false, (3200, 3199, 11024, 6)), (4, ⟨"BoxQuay$Ship", "isBorneWith", "(III)Z"⟩, prog_6_method_15_code, 4, (some .boolean), 3, false, (3205, 3203, 3204, 6)), (4, ⟨"BoxQuay$Ship", "listWith", "(II)I"⟩, prog_6_method_12_code, 3, (some .int), 2, false, (3209, 3207, 3208, 6)), (4, ⟨"BoxQuay$Ship", "lever", "(I)I"⟩, prog_6_method_11_code, 1, (some .int), 1, true, (3212, 3211, 0, 6)), (4, ⟨"BoxQuay$Ship", "trimWith", "(II)I"⟩, prog_6_method_13_code, 5, (some .int), 2, false, (3219, 3217, 3218, 6)), (4, ⟨"BoxQuay$Ship", "bendWith", "(II)I"⟩, prog_6_method_14_code, 8, (some .int), 2, false, (3223, 3221, 3222, 6)), (4, ⟨"BoxQuay$Ship", "isNoWorseWith", "(III)Z"⟩, prog_6_method_16_code, 4, (some .boolean), 3, false, (3230, 3229, 11025, 6)), (4, ⟨"BoxQuay$Ship", "put", "(IIII)V"⟩, prog_6_method_26_code, 5, none, 4, false, (3235, 3233, 3234, 6)), (4, ⟨"BoxQuay$Ship", "weigh", "(III)V"⟩, prog_6_method_17_code, 4, none, 3, false, (3239, 3238, 11026, 6)), (11, ⟨"BoxQuay", "unload", "(III)I"⟩, prog_1_method_12_code, 4, (some .int), 3, false, (4004, 4002, 4003, 1)), (4, ⟨"BoxQuay$Ship", "unloading", "(III)I"⟩, prog_6_method_24_code, 10, (some .int), 3, false, (4008, 4006, 4007, 6)), (10, ⟨"BoxQuay$Yard", "isGoal", "(I)Z"⟩, prog_12_method_2_code, 1, (some .boolean), 1, true, (4011, 4010, 0, 5)), (4, ⟨"BoxQuay$Ship", "highestTier", "(II)I"⟩, prog_6_method_20_code, 4, (some .int), 2, false, (4015, 4014, 11027, 6)), (4, ⟨"BoxQuay$Ship", "land", "(II)V"⟩, prog_6_method_25_code, 3, none, 2, false, (4020, 4019, 11028, 6)), (4, ⟨"BoxQuay$Ship", "remove", "(I)V"⟩, prog_6_method_27_code, 4, none, 1, false, (4024, 4022, 4023, 6)), (11, ⟨"BoxQuay", "of", "(II)I"⟩, prog_1_method_13_code, 3, (some .int), 2, false, (4030, 4028, 4029, 1)), (11, ⟨"BoxQuay", "at", "(III)I"⟩, prog_1_method_14_code, 4, (some .int), 3, false, (4034, 4032, 4033, 1)), (11, ⟨"BoxQuay", "ship", "(I)I"⟩, prog_1_method_15_code, 2, (some .int), 1, false, (4040, 4038, 4039, 1)), (11, ⟨"BoxQuay", "would", "(IIII)I"⟩, prog_1_method_16_code, 6, (some .int), 4, false, (4048, 4046, 4047, 1)), (11, ⟨"BoxQuay", "pairs", "(I)I"⟩, prog_1_method_17_code, 2, (some .int), 1, false, (4054, 4052, 4053, 1)), (5, ⟨"BoxQuay$Stow", "brokenPairs", "(I)I"⟩, prog_7_method_8_code, 5, (some .int), 1, false, (4058, 4056, 4057, 9)), (5, ⟨"BoxQuay$Stow", "breaksPair", "(III)Z"⟩, prog_7_method_7_code, 4, (some .boolean), 3, false, (4062, 4061, 11029, 9)), (1, ⟨"BoxQuay$Boxes", "isAboard", "(I)Z"⟩, prog_3_method_7_code, 2, (some .boolean), 1, false, (4066, 4064, 4065, 4)), (5, ⟨"BoxQuay$Stow", "standing", "(LBoxQuay$Boxes;I)I"⟩, prog_7_method_2_code, 2, (some .int), 2, true, (4069, 4068, 0, 9)), (5, ⟨"BoxQuay$Stow", "describeFirst", "(II)V"⟩, prog_7_method_4_code, 3, none, 2, false, (4074, 4073, 11030, 9)), (5, ⟨"BoxQuay$Stow", "describe", "(III)V"⟩, prog_7_method_3_code, 5, none, 3, false, (4078, 4077, 11031, 9)), (4, ⟨"BoxQuay$Ship", "bayOf", "(I)I"⟩, prog_6_method_3_code, 1, (some .int), 1, true, (4081, 4080, 0, 6)), (4, ⟨"BoxQuay$Ship", "rowOf", "(I)I"⟩, prog_6_method_4_code, 1, (some .int), 1, true, (4084, 4083, 0, 6))]
def qm_hd_3 : List qm_Hd := [(4, ⟨"BoxQuay$Ship", "tierOf", "(I)I"⟩, prog_6_method_5_code, 1, (some .int), 1, true, (4087, 4086, 0, 6)), (5, ⟨"BoxQuay$Stow", "describeOther", "(II)V"⟩, prog_7_method_5_code, 3, none, 2, false, (4091, 4090, 11032, 9)), (6, ⟨"BoxQuay$Terms", "countHeld", "(II)I"⟩, prog_8_method_12_code, 6, (some .int), 2, false, (4095, 4093, 4094, 7)), (8, ⟨"BoxQuay$Wide", "holds", "(LBoxQuay$Terms;I)Z"⟩, prog_10_method_3_code, 6, (some .boolean), 2, false, (4099, 4097, 4098, 19)), (6, ⟨"BoxQuay$Terms", "valueOf", "(I)I"⟩, prog_8_method_11_code, 2, (some .int), 1, false, (4104, 4102, 4103, 7)), (8, ⟨"BoxQuay$Wide", "write", "([II)V"⟩, prog_10_method_4_code, 4, none, 2, false, (4108, 4107, 11033, 19)), (8, ⟨"BoxQuay$Wide", "join", "(I[I[I)V"⟩, prog_10_method_5_code, 4, none, 3, false, (4112, 4111, 11034, 19)), (8, ⟨"BoxQuay$Wide", "add", "([I[I)V"⟩, prog_10_method_6_code, 6, none, 2, false, (4116, 4115, 11035, 19)), (8, ⟨"BoxQuay$Wide", "subtract", "([I[I)V"⟩, prog_10_method_7_code, 6, none, 2, false, (4121, 4120, 11036, 19)), (8, ⟨"BoxQuay$Wide", "multiply", "([I[I)V"⟩, prog_10_method_8_code, 9, none, 2, false, (4125, 4124, 11037, 19)), (8, ⟨"BoxQuay$Wide", "compare", "(I[I[I)V"⟩, prog_10_method_9_code, 8, none, 3, false, (4130, 4129, 11038, 19)), (6, ⟨"BoxQuay$Terms", "holds", "(I)Z"⟩, prog_8_method_13_code, 5, (some .boolean), 1, false, (4134, 4133, 11039, 7)), (6, ⟨"BoxQuay$Terms", "joined", "(IJJ)J"⟩, prog_8_method_14_code, 5, (some .long), 3, true, (4138, 4137, 0, 7)), (11, ⟨"BoxQuay", "pair", "(II)I"⟩, prog_1_method_18_code, 3, (some .int), 2, false, (4142, 4140, 4141, 1)), (5, ⟨"BoxQuay$Stow", "brokenPair", "(II)I"⟩, prog_7_method_9_code, 6, (some .int), 2, false, (4146, 4144, 4145, 9)), (11, ⟨"BoxQuay", "places", "(I)I"⟩, prog_1_method_19_code, 2, (some .int), 1, false, (4150, 4148, 4149, 1)), (5, ⟨"BoxQuay$Stow", "brokenPlaces", "(I)I"⟩, prog_7_method_10_code, 5, (some .int), 1, false, (4154, 4152, 4153, 9)), (5, ⟨"BoxQuay$Stow", "describeAlone", "(II)V"⟩, prog_7_method_6_code, 4, none, 2, false, (4158, 4157, 11040, 9)), (11, ⟨"BoxQuay", "breaks", "(III)I"⟩, prog_1_method_20_code, 5, (some .int), 3, false, (4162, 4160, 4161, 1)), (5, ⟨"BoxQuay$Stow", "brokenBy", "(II)I"⟩, prog_7_method_11_code, 5, (some .int), 2, false, (4167, 4165, 4166, 9)), (5, ⟨"BoxQuay$Stow", "brokenWith", "(III)I"⟩, prog_7_method_12_code, 6, (some .int), 3, false, (4171, 4170, 11041, 9)), (11, ⟨"BoxQuay", "above", "(I)I"⟩, prog_1_method_21_code, 2, (some .int), 1, false, (4175, 4173, 4174, 1)), (4, ⟨"BoxQuay$Ship", "standingAbove", "(I)I"⟩, prog_6_method_28_code, 7, (some .int), 1, false, (4180, 4178, 4179, 6)), (11, ⟨"BoxQuay", "overstows", "(I)I"⟩, prog_1_method_22_code, 4, (some .int), 1, false, (4184, 4182, 4183, 1)), (4, ⟨"BoxQuay$Ship", "allOverstows", "()I"⟩, prog_6_method_33_code, 3, (some .int), 0, false, (4188, 4186, 4187, 6)), (4, ⟨"BoxQuay$Ship", "soonerBelow", "(I)I"⟩, prog_6_method_31_code, 5, (some .int), 1, false, (4192, 4191, 11042, 6)), (4, ⟨"BoxQuay$Ship", "portsInHolds", "(I)I"⟩, prog_6_method_30_code, 4, (some .int), 1, false, (4196, 4194, 4195, 6)), (4, ⟨"BoxQuay$Ship", "portAt", "(I)I"⟩, prog_6_method_29_code, 2, (some .int), 1, false, (4200, 4199, 11043, 6)), (21, ⟨"java/lang/Integer", "bitCount", "(I)I"⟩, prog_15_method_49_code, 1, (some .int), 1, true, (4203, 4202, 0, 20)), (4, ⟨"BoxQuay$Ship", "overstowsPort", "(II)Z"⟩, prog_6_method_32_code, 3, (some .boolean), 2, false, (4210, 4208, 4209, 6)), (11, ⟨"BoxQuay", "overstow", "(II)I"⟩, prog_1_method_23_code, 5, (some .int), 2, false, (4215, 4213, 4214, 1)), (11, ⟨"BoxQuay", "covers", "(I)I"⟩, prog_1_method_24_code, 4, (some .int), 1, false, (4219, 4217, 4218, 1)), (11, ⟨"BoxQuay", "ticks", "(II)I"⟩, prog_1_method_25_code, 3, (some .int), 2, false, (4224, 4222, 4223, 1)), (11, ⟨"BoxQuay", "areLifts", "(I)Z"⟩, prog_1_method_27_code, 4, (some .boolean), 1, false, (4228, 4227, 11044, 1)), (11, ⟨"BoxQuay", "longerTicks", "(II)I"⟩, prog_1_method_28_code, 11, (some .int), 2, false, (4232, 4231, 11045, 1)), (11, ⟨"BoxQuay", "split", "(I)I"⟩, prog_1_method_26_code, 6, (some .int), 1, false, (4237, 4235, 4236, 1)), (11, ⟨"BoxQuay", "lorry", "(I)I"⟩, prog_1_method_29_code, 2, (some .int), 1, false, (5001, 4239, 5000, 1)), (10, ⟨"BoxQuay$Yard", "addLorry", "(I)I"⟩, prog_12_method_7_code, 3, (some .int), 1, false, (5005, 5003, 5004, 5)), (11, ⟨"BoxQuay", "clear", "()I"⟩, prog_1_method_30_code, 2, (some .int), 0, false, (5009, 5007, 5008, 1)), (11, ⟨"BoxQuay", "digs", "()I"⟩, prog_1_method_31_code, 1, (some .int), 0, false, (5013, 5011, 5012, 1))]
def qm_hd_4 : List qm_Hd := [(10, ⟨"BoxQuay$Yard", "digByRule", "()I"⟩, prog_12_method_14_code, 7, (some .int), 0, false, (5017, 5015, 5016, 5)), (10, ⟨"BoxQuay$Yard", "layTurns", "()I"⟩, prog_12_method_8_code, 5, (some .int), 0, false, (5021, 5020, 11046, 5)), (10, ⟨"BoxQuay$Yard", "stackOf", "([II)I"⟩, prog_12_method_12_code, 3, (some .int), 2, true, (5028, 5027, 0, 5)), (10, ⟨"BoxQuay$Yard", "soonest", "([II)I"⟩, prog_12_method_10_code, 5, (some .int), 2, true, (5031, 5030, 0, 5)), (10, ⟨"BoxQuay$Yard", "topTurn", "([II)I"⟩, prog_12_method_9_code, 3, (some .int), 2, true, (5035, 5034, 0, 5)), (10, ⟨"BoxQuay$Yard", "stackForDig", "([II)I"⟩, prog_12_method_13_code, 5, (some .int), 2, true, (5038, 5037, 0, 5)), (10, ⟨"BoxQuay$Yard", "move", "([III)V"⟩, prog_12_method_11_code, 4, none, 3, true, (5041, 5040, 0, 5)), (11, ⟨"BoxQuay", "dig", "(I)I"⟩, prog_1_method_32_code, 3, (some .int), 1, false, (5045, 5043, 5044, 1)), (11, ⟨"BoxQuay", "least", "()I"⟩, prog_1_method_33_code, 1, (some .int), 0, false, (5049, 5047, 5048, 1)), (10, ⟨"BoxQuay$Yard", "digLeast", "()I"⟩, prog_12_method_15_code, 3, (some .int), 0, false, (5053, 5051, 5052, 5)), (10, ⟨"BoxQuay$Yard", "servesAll", "([[I[IIII)Z"⟩, prog_12_method_16_code, 9, (some .boolean), 5, true, (5056, 5055, 0, 5)), (10, ⟨"BoxQuay$Yard", "serve", "([II)V"⟩, prog_12_method_17_code, 4, none, 2, true, (5059, 5058, 0, 5)), (10, ⟨"BoxQuay$Yard", "blockers", "([I)I"⟩, prog_12_method_19_code, 6, (some .int), 1, true, (5062, 5061, 0, 5)), (11, ⟨"BoxQuay", "leastDig", "(I)I"⟩, prog_1_method_34_code, 3, (some .int), 1, false, (5066, 5064, 5065, 1)), (11, ⟨"BoxQuay", "blocked", "()I"⟩, prog_1_method_35_code, 1, (some .int), 0, false, (5070, 5068, 5069, 1)), (10, ⟨"BoxQuay$Yard", "countBlockers", "()I"⟩, prog_12_method_18_code, 1, (some .int), 0, false, (5074, 5072, 5073, 5)), (11, ⟨"BoxQuay", "sight", "(II)I"⟩, prog_1_method_36_code, 3, (some .int), 2, false, (5078, 5076, 5077, 1)), (2, ⟨"BoxQuay$Facts", "note", "(III)I"⟩, prog_4_method_2_code, 4, (some .int), 3, false, (5082, 5080, 5081, 10)), (2, ⟨"BoxQuay$Facts", "keepStowage", "(I)V"⟩, prog_4_method_3_code, 3, none, 1, false, (5086, 5085, 11047, 10)), (11, ⟨"BoxQuay", "customs", "(IZ)I"⟩, prog_1_method_37_code, 3, (some .int), 2, false, (5090, 5088, 5089, 1)), (11, ⟨"BoxQuay", "reading", "(I)I"⟩, prog_1_method_38_code, 2, (some .int), 1, false, (5094, 5092, 5093, 1)), (11, ⟨"BoxQuay", "annul", "(I)I"⟩, prog_1_method_39_code, 2, (some .int), 1, false, (5100, 5098, 5099, 1)), (11, ⟨"BoxQuay", "last", "(II)I"⟩, prog_1_method_40_code, 3, (some .int), 2, false, (5104, 5102, 5103, 1)), (2, ⟨"BoxQuay$Facts", "canKnow", "(I)Z"⟩, prog_4_method_4_code, 2, (some .boolean), 1, false, (5108, 5106, 5107, 10)), (2, ⟨"BoxQuay$Facts", "lastHolder", "(II)I"⟩, prog_4_method_7_code, 6, (some .int), 2, false, (5112, 5110, 5111, 10)), (2, ⟨"BoxQuay$Facts", "isSightOf", "(IIJ)Z"⟩, prog_4_method_6_code, 5, (some .boolean), 3, false, (5116, 5115, 11048, 10)), (11, ⟨"BoxQuay", "path", "(III)I"⟩, prog_1_method_41_code, 4, (some .int), 3, false, (5120, 5118, 5119, 1)), (2, ⟨"BoxQuay$Facts", "holderOnWay", "(III)I"⟩, prog_4_method_8_code, 9, (some .int), 3, false, (5124, 5122, 5123, 10)), (11, ⟨"BoxQuay", "stopped", "(II)I"⟩, prog_1_method_42_code, 3, (some .int), 2, false, (5128, 5126, 5127, 1)), (11, ⟨"BoxQuay", "agrees", "(I)I"⟩, prog_1_method_43_code, 2, (some .int), 1, false, (5132, 5130, 5131, 1)), (2, ⟨"BoxQuay$Facts", "gather", "(I)V"⟩, prog_4_method_10_code, 5, none, 1, false, (5136, 5134, 5135, 10)), (2, ⟨"BoxQuay$Facts", "listAsTold", "(I)I"⟩, prog_4_method_11_code, 4, (some .int), 1, false, (5140, 5139, 11049, 10)), (2, ⟨"BoxQuay$Facts", "lever", "(II)I"⟩, prog_4_method_12_code, 4, (some .int), 2, false, (5144, 5143, 11050, 10)), (2, ⟨"BoxQuay$Facts", "areAllAsTold", "()Z"⟩, prog_4_method_13_code, 2, (some .boolean), 0, false, (5148, 5146, 5147, 10)), (11, ⟨"BoxQuay", "weighs", "(II)I"⟩, prog_1_method_44_code, 3, (some .int), 2, false, (5152, 5150, 5151, 1)), (2, ⟨"BoxQuay$Facts", "otherWeight", "(I)I"⟩, prog_4_method_14_code, 3, (some .int), 1, false, (5156, 5154, 5155, 10)), (2, ⟨"BoxQuay$Facts", "explains", "(II)Z"⟩, prog_4_method_15_code, 4, (some .boolean), 2, false, (5160, 5159, 11051, 10)), (11, ⟨"BoxQuay", "suspects", "(I)I"⟩, prog_1_method_45_code, 4, (some .int), 1, false, (5164, 5162, 5163, 1)), (11, ⟨"BoxQuay", "jobLoad", "(III)I"⟩, prog_1_method_46_code, 4, (some .int), 3, false, (5168, 5166, 5167, 1)), (9, ⟨"BoxQuay$Work", "addJob", "(IIII)I"⟩, prog_11_method_3_code, 6, (some .int), 4, false, (5172, 5170, 5171, 11))]
def qm_hd_5 : List qm_Hd := [(11, ⟨"BoxQuay", "jobUnload", "(III)I"⟩, prog_1_method_47_code, 4, (some .int), 3, false, (5176, 5174, 5175, 1)), (11, ⟨"BoxQuay", "work", "(I)I"⟩, prog_1_method_48_code, 2, (some .int), 1, false, (5181, 5179, 5180, 1)), (9, ⟨"BoxQuay$Work", "pass", "(I)I"⟩, prog_11_method_5_code, 5, (some .int), 1, false, (5185, 5183, 5184, 11)), (9, ⟨"BoxQuay$Work", "doneJobs", "()I"⟩, prog_11_method_4_code, 1, (some .int), 0, false, (5189, 5187, 5188, 11)), (9, ⟨"BoxQuay$Work", "isResting", "()Z"⟩, prog_11_method_6_code, 1, (some .boolean), 0, false, (5193, 5192, 11052, 11)), (9, ⟨"BoxQuay$Work", "bringsToEnd", "(I)Z"⟩, prog_11_method_8_code, 3, (some .boolean), 1, false, (5200, 5199, 11053, 11)), (9, ⟨"BoxQuay$Work", "seekJob", "(I)V"⟩, prog_11_method_9_code, 3, none, 1, false, (5204, 5203, 11054, 11)), (9, ⟨"BoxQuay$Work", "isOnSide", "(II)Z"⟩, prog_11_method_10_code, 6, (some .boolean), 2, false, (5208, 5207, 11055, 11)), (9, ⟨"BoxQuay$Work", "moveTowards", "(II)V"⟩, prog_11_method_11_code, 4, none, 2, false, (5212, 5211, 11056, 11)), (9, ⟨"BoxQuay$Work", "isWindy", "()Z"⟩, prog_11_method_7_code, 1, (some .boolean), 0, false, (5216, 5215, 11057, 11)), (9, ⟨"BoxQuay$Work", "finishJob", "(I)V"⟩, prog_11_method_12_code, 3, none, 1, false, (5220, 5219, 11058, 11)), (11, ⟨"BoxQuay", "job", "(II)I"⟩, prog_1_method_49_code, 3, (some .int), 2, false, (5226, 5224, 5225, 1)), (9, ⟨"BoxQuay$Work", "tellJob", "(II)I"⟩, prog_11_method_13_code, 4, (some .int), 2, false, (5230, 5228, 5229, 11)), (11, ⟨"BoxQuay", "crane", "(II)I"⟩, prog_1_method_50_code, 3, (some .int), 2, false, (5234, 5232, 5233, 1)), (9, ⟨"BoxQuay$Work", "tellCrane", "(II)I"⟩, prog_11_method_14_code, 3, (some .int), 2, false, (5238, 5236, 5237, 11)), (11, ⟨"BoxQuay", "wind", "(II)Z"⟩, prog_1_method_51_code, 3, (some .boolean), 2, false, (6002, 6000, 6001, 1)), (11, ⟨"BoxQuay", "shifts", "(II)Z"⟩, prog_1_method_52_code, 3, (some .boolean), 2, false, (6006, 6004, 6005, 1)), (11, ⟨"BoxQuay", "tally", "(IIZI)I"⟩, prog_1_method_53_code, 5, (some .int), 4, false, (6010, 6008, 6009, 1)), (0, ⟨"BoxQuay$Books", "write", "(IIZI)I"⟩, prog_2_method_2_code, 6, (some .int), 4, false, (6014, 6012, 6013, 12)), (11, ⟨"BoxQuay", "mate", "(II)I"⟩, prog_1_method_54_code, 3, (some .int), 2, false, (6018, 6016, 6017, 1)), (0, ⟨"BoxQuay$Books", "join", "(I)I"⟩, prog_2_method_3_code, 5, (some .int), 1, false, (6022, 6020, 6021, 12)), (0, ⟨"BoxQuay$Books", "nearest", "(II)I"⟩, prog_2_method_4_code, 7, (some .int), 2, false, (6026, 6025, 11059, 12)), (11, ⟨"BoxQuay", "alone", "(II)I"⟩, prog_1_method_55_code, 3, (some .int), 2, false, (6031, 6029, 6030, 1)), (11, ⟨"BoxQuay", "odd", "(I)I"⟩, prog_1_method_56_code, 5, (some .int), 1, false, (6035, 6033, 6034, 1)), (0, ⟨"BoxQuay$Books", "surplusOn", "(II)I"⟩, prog_2_method_5_code, 5, (some .int), 2, false, (6039, 6037, 6038, 12)), (11, ⟨"BoxQuay", "lash", "(I)I"⟩, prog_1_method_57_code, 2, (some .int), 1, false, (6043, 6041, 6042, 1)), (11, ⟨"BoxQuay", "isGangs", "(I)Z"⟩, prog_1_method_62_code, 1, (some .boolean), 1, true, (6046, 6045, 0, 1)), (5, ⟨"BoxQuay$Stow", "shareOut", "(I)I"⟩, prog_7_method_18_code, 7, (some .int), 1, false, (6050, 6048, 6049, 9)), (5, ⟨"BoxQuay$Stow", "countMinutes", "()V"⟩, prog_7_method_19_code, 2, none, 0, false, (6054, 6053, 11060, 9)), (5, ⟨"BoxQuay$Stow", "longestTurn", "(II)I"⟩, prog_7_method_20_code, 7, (some .int), 2, false, (6059, 6057, 6058, 9)), (11, ⟨"BoxQuay", "gang", "(II)I"⟩, prog_1_method_58_code, 3, (some .int), 2, false, (6065, 6063, 6064, 1)), (5, ⟨"BoxQuay$Stow", "gangOf", "(III)I"⟩, prog_7_method_21_code, 6, (some .int), 3, false, (6069, 6067, 6068, 9)), (11, ⟨"BoxQuay", "best", "(I)I"⟩, prog_1_method_59_code, 2, (some .int), 1, false, (6073, 6071, 6072, 1)), (5, ⟨"BoxQuay$Stow", "bestPlace", "(I)I"⟩, prog_7_method_14_code, 10, (some .int), 1, false, (6077, 6075, 6076, 9)), (5, ⟨"BoxQuay$Stow", "overstowsWith", "(II)I"⟩, prog_7_method_13_code, 4, (some .int), 2, false, (6084, 6083, 11061, 9)), (5, ⟨"BoxQuay$Stow", "tens", "(I)I"⟩, prog_7_method_17_code, 1, (some .int), 1, true, (6090, 6089, 0, 9)), (11, ⟨"BoxQuay", "bestTwo", "(II)I"⟩, prog_1_method_60_code, 3, (some .int), 2, false, (6094, 6092, 6093, 1)), (5, ⟨"BoxQuay$Stow", "countLone", "(I)V"⟩, prog_7_method_15_code, 4, none, 1, false, (6098, 6096, 6097, 9)), (5, ⟨"BoxQuay$Stow", "bestPlaces", "(II)I"⟩, prog_7_method_16_code, 12, (some .int), 2, false, (6103, 6101, 6102, 9)), (11, ⟨"BoxQuay", "count", "(I)I"⟩, prog_1_method_61_code, 3, (some .int), 1, false, (6107, 6105, 6106, 1))]
def qm_hd_6 : List qm_Hd := [(1, ⟨"BoxQuay$Boxes", "howMany", "(I)I"⟩, prog_3_method_9_code, 4, (some .int), 1, false, (6111, 6109, 6110, 4)), (12, ⟨"BoxQuayModel", "<init>", "()V"⟩, prog_14_method_2_code, 2, none, 0, false, (6117, 6116, 0, 13)), (12, ⟨"BoxQuayModel", "beginsWork", "()V"⟩, prog_14_method_118_code, 2, none, 0, false, (6122, 6121, 11062, 13)), (12, ⟨"BoxQuayModel", "word", "(IIIIIII)J"⟩, prog_14_method_10_code, 7, (some .long), 7, true, (6125, 6124, 0, 13)), (12, ⟨"BoxQuayModel", "appends", "(JI)J"⟩, prog_14_method_9_code, 3, (some .long), 2, true, (6128, 6127, 0, 13)), (12, ⟨"BoxQuayModel", "feed", "(IIIII)I"⟩, prog_14_method_3_code, 6, (some .int), 5, false, (7208, 7206, 7207, 13)), (12, ⟨"BoxQuayModel", "put", "(I)V"⟩, prog_14_method_4_code, 3, none, 1, false, (7212, 7211, 11063, 13)), (12, ⟨"BoxQuayModel", "back", "(I)I"⟩, prog_14_method_5_code, 2, (some .int), 1, false, (7216, 7214, 7215, 13)), (12, ⟨"BoxQuayModel", "read", "()I"⟩, prog_14_method_19_code, 2, (some .int), 0, false, (7220, 7218, 7219, 13)), (12, ⟨"BoxQuayModel", "cut", "()V"⟩, prog_14_method_12_code, 8, none, 0, false, (7224, 7223, 11064, 13)), (12, ⟨"BoxQuayModel", "byteAt", "(I)I"⟩, prog_14_method_6_code, 2, (some .int), 1, false, (7228, 7227, 11065, 13)), (12, ⟨"BoxQuayModel", "token", "(IIIJ)V"⟩, prog_14_method_11_code, 6, none, 4, false, (7232, 7231, 11066, 13)), (12, ⟨"BoxQuayModel", "isLetter", "(I)Z"⟩, prog_14_method_8_code, 1, (some .boolean), 1, true, (7235, 7234, 0, 13)), (12, ⟨"BoxQuayModel", "isDigit", "(I)Z"⟩, prog_14_method_7_code, 1, (some .boolean), 1, true, (7238, 7237, 0, 13)), (12, ⟨"BoxQuayModel", "sign", "(III)I"⟩, prog_14_method_13_code, 6, (some .int), 3, false, (8002, 8001, 11067, 13)), (12, ⟨"BoxQuayModel", "is", "(I)Z"⟩, prog_14_method_14_code, 2, (some .boolean), 1, false, (8006, 8005, 11068, 13)), (12, ⟨"BoxQuayModel", "tell", "()V"⟩, prog_14_method_21_code, 4, none, 0, false, (8010, 8009, 11069, 13)), (12, ⟨"BoxQuayModel", "goesOn", "()V"⟩, prog_14_method_17_code, 1, none, 0, false, (8014, 8013, 11070, 13)), (12, ⟨"BoxQuayModel", "fail", "(I)V"⟩, prog_14_method_15_code, 2, none, 1, false, (8018, 8017, 11071, 13)), (12, ⟨"BoxQuayModel", "told", "(II)I"⟩, prog_14_method_22_code, 4, (some .int), 2, false, (8022, 8021, 11072, 13)), (12, ⟨"BoxQuayModel", "wrong", "(II)V"⟩, prog_14_method_16_code, 4, none, 2, false, (8026, 8025, 11073, 13)), (12, ⟨"BoxQuayModel", "must", "(I)V"⟩, prog_14_method_18_code, 2, none, 1, false, (8030, 8029, 11074, 13)), (12, ⟨"BoxQuayModel", "tellRule", "(I)V"⟩, prog_14_method_23_code, 5, none, 1, false, (8034, 8033, 11075, 13)), (12, ⟨"BoxQuayModel", "literal", "(Z)V"⟩, prog_14_method_24_code, 6, none, 1, false, (8038, 8037, 11076, 13)), (12, ⟨"BoxQuayModel", "expression", "()V"⟩, prog_14_method_27_code, 3, none, 0, false, (8042, 8041, 11077, 13)), (12, ⟨"BoxQuayModel", "unit", "()V"⟩, prog_14_method_28_code, 1, none, 0, false, (8046, 8045, 11078, 13)), (12, ⟨"BoxQuayModel", "emit", "(II)V"⟩, prog_14_method_25_code, 3, none, 2, false, (8050, 8049, 11079, 13)), (12, ⟨"BoxQuayModel", "comesOut", "(Z)V"⟩, prog_14_method_26_code, 3, none, 1, false, (8054, 8053, 11080, 13)), (12, ⟨"BoxQuayModel", "place", "()I"⟩, prog_14_method_20_code, 1, (some .int), 0, false, (8058, 8056, 8057, 13)), (12, ⟨"BoxQuayModel", "box", "(III)I"⟩, prog_14_method_36_code, 4, (some .int), 3, false, (8062, 8060, 8061, 13)), (12, ⟨"BoxQuayModel", "in", "(III)Z"⟩, prog_14_method_32_code, 3, (some .boolean), 3, true, (8065, 8064, 0, 13)), (12, ⟨"BoxQuayModel", "stuck", "(IZ)Z"⟩, prog_14_method_37_code, 3, (some .boolean), 2, false, (8069, 8067, 8068, 13)), (12, ⟨"BoxQuayModel", "isBox", "(I)Z"⟩, prog_14_method_33_code, 2, (some .boolean), 1, false, (8073, 8072, 11081, 13)), (12, ⟨"BoxQuayModel", "cover", "(IZ)Z"⟩, prog_14_method_40_code, 3, (some .boolean), 2, false, (8077, 8075, 8076, 13)), (12, ⟨"BoxQuayModel", "isBay", "(I)Z"⟩, prog_14_method_34_code, 2, (some .boolean), 1, false, (8081, 8080, 11082, 13)), (12, ⟨"BoxQuayModel", "isCovered", "(I)Z"⟩, prog_14_method_38_code, 2, (some .boolean), 1, false, (8085, 8084, 11083, 13)), (12, ⟨"BoxQuayModel", "hasDeck", "(I)Z"⟩, prog_14_method_39_code, 3, (some .boolean), 1, false, (8089, 8088, 11084, 13)), (12, ⟨"BoxQuayModel", "store", "(II)I"⟩, prog_14_method_42_code, 3, (some .int), 2, false, (8093, 8091, 8092, 13)), (12, ⟨"BoxQuayModel", "isRow", "(I)Z"⟩, prog_14_method_35_code, 1, (some .boolean), 1, true, (8096, 8095, 0, 13)), (12, ⟨"BoxQuayModel", "puts", "(II)V"⟩, prog_14_method_41_code, 3, none, 2, false, (8100, 8099, 11085, 13))]
def qm_hd_7 : List qm_Hd := [(12, ⟨"BoxQuayModel", "fetch", "(I)I"⟩, prog_14_method_44_code, 3, (some .int), 1, false, (8104, 8102, 8103, 13)), (12, ⟨"BoxQuayModel", "isStopped", "(II)Z"⟩, prog_14_method_112_code, 5, (some .boolean), 2, false, (8108, 8107, 11086, 13)), (12, ⟨"BoxQuayModel", "isFact", "(III)Z"⟩, prog_14_method_109_code, 5, (some .boolean), 3, false, (8112, 8111, 11087, 13)), (12, ⟨"BoxQuayModel", "leaves", "(I)V"⟩, prog_14_method_43_code, 2, none, 1, false, (8116, 8115, 11088, 13)), (12, ⟨"BoxQuayModel", "load", "(III)I"⟩, prog_14_method_58_code, 7, (some .int), 3, false, (8120, 8118, 8119, 13)), (12, ⟨"BoxQuayModel", "isHad", "(I)Z"⟩, prog_14_method_56_code, 2, (some .boolean), 1, false, (8124, 8123, 11089, 13)), (12, ⟨"BoxQuayModel", "freeAt", "(II)I"⟩, prog_14_method_55_code, 4, (some .int), 2, false, (8128, 8127, 11090, 13)), (12, ⟨"BoxQuayModel", "looks", "()V"⟩, prog_14_method_53_code, 2, none, 0, false, (8132, 8131, 11091, 13)), (12, ⟨"BoxQuayModel", "shipNow", "(I)I"⟩, prog_14_method_51_code, 2, (some .int), 1, false, (8136, 8135, 11092, 13)), (12, ⟨"BoxQuayModel", "listNow", "()I"⟩, prog_14_method_46_code, 3, (some .int), 0, false, (8140, 8139, 11093, 13)), (12, ⟨"BoxQuayModel", "sumBy", "(II)I"⟩, prog_14_method_45_code, 3, (some .int), 2, false, (8144, 8143, 11094, 13)), (12, ⟨"BoxQuayModel", "trimNow", "()I"⟩, prog_14_method_47_code, 3, (some .int), 0, false, (8148, 8147, 11095, 13)), (12, ⟨"BoxQuayModel", "bendNow", "()I"⟩, prog_14_method_50_code, 7, (some .int), 0, false, (8152, 8151, 11096, 13)), (12, ⟨"BoxQuayModel", "allNow", "()I"⟩, prog_14_method_48_code, 3, (some .int), 0, false, (8156, 8155, 11097, 13)), (12, ⟨"BoxQuayModel", "bare", "(I)I"⟩, prog_14_method_49_code, 1, (some .int), 1, true, (8159, 8158, 0, 13)), (12, ⟨"BoxQuayModel", "boards", "(II)V"⟩, prog_14_method_57_code, 3, none, 2, false, (8163, 8162, 11098, 13)), (12, ⟨"BoxQuayModel", "mayBe", "()Z"⟩, prog_14_method_54_code, 2, (some .boolean), 0, false, (8167, 8166, 11099, 13)), (12, ⟨"BoxQuayModel", "isBorne", "()Z"⟩, prog_14_method_52_code, 2, (some .boolean), 0, false, (8171, 8170, 11100, 13)), (12, ⟨"BoxQuayModel", "unload", "(III)I"⟩, prog_14_method_59_code, 9, (some .int), 3, false, (8175, 8173, 8174, 13)), (12, ⟨"BoxQuayModel", "of", "(II)I"⟩, prog_14_method_60_code, 3, (some .int), 2, false, (8179, 8177, 8178, 13)), (12, ⟨"BoxQuayModel", "at", "(III)I"⟩, prog_14_method_61_code, 4, (some .int), 3, false, (8183, 8181, 8182, 13)), (12, ⟨"BoxQuayModel", "ship", "(I)I"⟩, prog_14_method_62_code, 2, (some .int), 1, false, (8187, 8185, 8186, 13)), (12, ⟨"BoxQuayModel", "would", "(IIII)I"⟩, prog_14_method_63_code, 8, (some .int), 4, false, (8192, 8190, 8191, 13)), (12, ⟨"BoxQuayModel", "pairs", "(I)I"⟩, prog_14_method_69_code, 2, (some .int), 1, false, (8196, 8194, 8195, 13)), (12, ⟨"BoxQuayModel", "pairsOf", "(II)I"⟩, prog_14_method_68_code, 6, (some .int), 2, false, (8200, 8199, 11101, 13)), (12, ⟨"BoxQuayModel", "isPairBroken", "(III)Z"⟩, prog_14_method_66_code, 4, (some .boolean), 3, false, (8204, 8203, 11102, 13)), (12, ⟨"BoxQuayModel", "sees", "(II)V"⟩, prog_14_method_65_code, 3, none, 2, false, (8208, 8207, 11103, 13)), (12, ⟨"BoxQuayModel", "plugged", "(I)I"⟩, prog_14_method_64_code, 2, (some .int), 1, false, (8212, 8211, 11104, 13)), (12, ⟨"BoxQuayModel", "holdsRule", "(I)Z"⟩, prog_14_method_31_code, 4, (some .boolean), 1, false, (8216, 8215, 11105, 13)), (12, ⟨"BoxQuayModel", "isTrue", "(I)Z"⟩, prog_14_method_30_code, 5, (some .boolean), 1, false, (8220, 8219, 11106, 13)), (12, ⟨"BoxQuayModel", "termOf", "(II)I"⟩, prog_14_method_29_code, 8, (some .int), 2, false, (8224, 8223, 11107, 13)), (12, ⟨"BoxQuayModel", "pair", "(II)I"⟩, prog_14_method_70_code, 3, (some .int), 2, false, (8228, 8226, 8227, 13)), (12, ⟨"BoxQuayModel", "places", "(I)I"⟩, prog_14_method_72_code, 2, (some .int), 1, false, (8232, 8230, 8231, 13)), (12, ⟨"BoxQuayModel", "placesOf", "(I)I"⟩, prog_14_method_71_code, 4, (some .int), 1, false, (8236, 8235, 11108, 13)), (12, ⟨"BoxQuayModel", "isPlaceBroken", "(II)Z"⟩, prog_14_method_67_code, 4, (some .boolean), 2, false, (9000, 8239, 11109, 13)), (12, ⟨"BoxQuayModel", "breaks", "(III)I"⟩, prog_14_method_74_code, 9, (some .int), 3, false, (9004, 9002, 9003, 13)), (12, ⟨"BoxQuayModel", "broken", "()I"⟩, prog_14_method_73_code, 3, (some .int), 0, false, (9008, 9007, 11110, 13)), (12, ⟨"BoxQuayModel", "above", "(I)I"⟩, prog_14_method_76_code, 4, (some .int), 1, false, (9012, 9010, 9011, 13)), (12, ⟨"BoxQuayModel", "isAbove", "(II)Z"⟩, prog_14_method_75_code, 5, (some .boolean), 2, false, (9016, 9015, 11111, 13)), (12, ⟨"BoxQuayModel", "overstows", "(I)I"⟩, prog_14_method_79_code, 4, (some .int), 1, false, (9020, 9018, 9019, 13))]
def qm_hd_8 : List qm_Hd := [(12, ⟨"BoxQuayModel", "overstowsOf", "(I)I"⟩, prog_14_method_78_code, 4, (some .int), 1, false, (9024, 9023, 11112, 13)), (12, ⟨"BoxQuayModel", "isOverstow", "(II)Z"⟩, prog_14_method_77_code, 4, (some .boolean), 2, false, (9028, 9027, 11113, 13)), (12, ⟨"BoxQuayModel", "overstow", "(II)I"⟩, prog_14_method_80_code, 5, (some .int), 2, false, (9032, 9030, 9031, 13)), (12, ⟨"BoxQuayModel", "covers", "(I)I"⟩, prog_14_method_81_code, 4, (some .int), 1, false, (9036, 9034, 9035, 13)), (12, ⟨"BoxQuayModel", "ticks", "(II)I"⟩, prog_14_method_84_code, 3, (some .int), 2, false, (9040, 9038, 9039, 13)), (12, ⟨"BoxQuayModel", "laysWork", "(I)Z"⟩, prog_14_method_82_code, 4, (some .boolean), 1, false, (9044, 9043, 11114, 13)), (12, ⟨"BoxQuayModel", "ticksOf", "(I)I"⟩, prog_14_method_83_code, 8, (some .int), 1, false, (9048, 9047, 11115, 13)), (12, ⟨"BoxQuayModel", "split", "(I)I"⟩, prog_14_method_85_code, 4, (some .int), 1, false, (9052, 9050, 9051, 13)), (12, ⟨"BoxQuayModel", "lorry", "(I)I"⟩, prog_14_method_86_code, 3, (some .int), 1, false, (9056, 9054, 9055, 13)), (12, ⟨"BoxQuayModel", "clear", "()I"⟩, prog_14_method_87_code, 2, (some .int), 0, false, (9060, 9058, 9059, 13)), (12, ⟨"BoxQuayModel", "digs", "()I"⟩, prog_14_method_96_code, 1, (some .int), 0, false, (9064, 9062, 9063, 13)), (12, ⟨"BoxQuayModel", "byRule", "(I)I"⟩, prog_14_method_94_code, 7, (some .int), 1, false, (9068, 9067, 11116, 13)), (12, ⟨"BoxQuayModel", "queues", "()V"⟩, prog_14_method_88_code, 2, none, 0, false, (9072, 9071, 11117, 13)), (12, ⟨"BoxQuayModel", "copiesYard", "()V"⟩, prog_14_method_89_code, 2, none, 0, false, (9076, 9075, 11118, 13)), (12, ⟨"BoxQuayModel", "serves", "(I)V"⟩, prog_14_method_92_code, 3, none, 1, false, (9080, 9079, 11119, 13)), (12, ⟨"BoxQuayModel", "stackOf", "(II)I"⟩, prog_14_method_91_code, 5, (some .int), 2, false, (9084, 9083, 11120, 13)), (12, ⟨"BoxQuayModel", "topOf", "(II)I"⟩, prog_14_method_90_code, 4, (some .int), 2, false, (9088, 9087, 11121, 13)), (12, ⟨"BoxQuayModel", "soonestIn", "(I)I"⟩, prog_14_method_95_code, 5, (some .int), 1, false, (9092, 9091, 11122, 13)), (12, ⟨"BoxQuayModel", "digsOne", "(III)V"⟩, prog_14_method_93_code, 5, none, 3, false, (9096, 9095, 11123, 13)), (12, ⟨"BoxQuayModel", "dig", "(I)I"⟩, prog_14_method_97_code, 2, (some .int), 1, false, (9100, 9098, 9099, 13)), (12, ⟨"BoxQuayModel", "least", "()I"⟩, prog_14_method_100_code, 2, (some .int), 0, false, (9104, 9102, 9103, 13)), (12, ⟨"BoxQuayModel", "isServed", "(I)Z"⟩, prog_14_method_99_code, 5, (some .boolean), 1, false, (9108, 9107, 11124, 13)), (12, ⟨"BoxQuayModel", "copies", "(I)V"⟩, prog_14_method_98_code, 3, none, 1, false, (9112, 9111, 11125, 13)), (12, ⟨"BoxQuayModel", "leastDig", "(I)I"⟩, prog_14_method_101_code, 3, (some .int), 1, false, (9116, 9114, 9115, 13)), (12, ⟨"BoxQuayModel", "blocked", "()I"⟩, prog_14_method_102_code, 6, (some .int), 0, false, (9121, 9119, 9120, 13)), (12, ⟨"BoxQuayModel", "sight", "(II)I"⟩, prog_14_method_104_code, 3, (some .int), 2, false, (9125, 9123, 9124, 13)), (12, ⟨"BoxQuayModel", "fact", "(III)I"⟩, prog_14_method_103_code, 4, (some .int), 3, false, (9129, 9128, 11126, 13)), (12, ⟨"BoxQuayModel", "customs", "(IZ)I"⟩, prog_14_method_105_code, 3, (some .int), 2, false, (9133, 9131, 9132, 13)), (12, ⟨"BoxQuayModel", "reading", "(I)I"⟩, prog_14_method_106_code, 3, (some .int), 1, false, (9137, 9135, 9136, 13)), (12, ⟨"BoxQuayModel", "annul", "(I)I"⟩, prog_14_method_107_code, 2, (some .int), 1, false, (9143, 9141, 9142, 13)), (12, ⟨"BoxQuayModel", "last", "(II)I"⟩, prog_14_method_110_code, 5, (some .int), 2, false, (9147, 9145, 9146, 13)), (12, ⟨"BoxQuayModel", "isKnown", "(I)Z"⟩, prog_14_method_108_code, 2, (some .boolean), 1, false, (9151, 9150, 11127, 13)), (12, ⟨"BoxQuayModel", "path", "(III)I"⟩, prog_14_method_111_code, 7, (some .int), 3, false, (9155, 9153, 9154, 13)), (12, ⟨"BoxQuayModel", "stopped", "(II)I"⟩, prog_14_method_113_code, 3, (some .int), 2, false, (9159, 9157, 9158, 13)), (12, ⟨"BoxQuayModel", "agrees", "(I)I"⟩, prog_14_method_115_code, 2, (some .int), 1, false, (9163, 9161, 9162, 13)), (12, ⟨"BoxQuayModel", "isSo", "(III)Z"⟩, prog_14_method_114_code, 7, (some .boolean), 3, false, (9167, 9166, 11128, 13)), (12, ⟨"BoxQuayModel", "weighs", "(II)I"⟩, prog_14_method_116_code, 4, (some .int), 2, false, (9171, 9169, 9170, 13)), (12, ⟨"BoxQuayModel", "suspects", "(I)I"⟩, prog_14_method_117_code, 5, (some .int), 1, false, (9175, 9173, 9174, 13)), (12, ⟨"BoxQuayModel", "jobLoad", "(III)I"⟩, prog_14_method_120_code, 4, (some .int), 3, false, (9179, 9177, 9178, 13)), (12, ⟨"BoxQuayModel", "comesJob", "(IIII)I"⟩, prog_14_method_119_code, 5, (some .int), 4, false, (9183, 9182, 11129, 13))]
def qm_hd_9 : List qm_Hd := [(12, ⟨"BoxQuayModel", "jobUnload", "(III)I"⟩, prog_14_method_121_code, 4, (some .int), 3, false, (9187, 9185, 9186, 13)), (12, ⟨"BoxQuayModel", "work", "(I)I"⟩, prog_14_method_125_code, 6, (some .int), 1, false, (9191, 9189, 9190, 13)), (12, ⟨"BoxQuayModel", "works", "(I)Z"⟩, prog_14_method_124_code, 4, (some .boolean), 1, false, (9195, 9194, 11130, 13)), (12, ⟨"BoxQuayModel", "takes", "(I)V"⟩, prog_14_method_123_code, 3, none, 1, false, (9199, 9198, 11131, 13)), (12, ⟨"BoxQuayModel", "isOwnSide", "(II)Z"⟩, prog_14_method_122_code, 5, (some .boolean), 2, false, (9203, 9202, 11132, 13)), (12, ⟨"BoxQuayModel", "job", "(II)I"⟩, prog_14_method_126_code, 3, (some .int), 2, false, (9209, 9207, 9208, 13)), (12, ⟨"BoxQuayModel", "crane", "(II)I"⟩, prog_14_method_127_code, 3, (some .int), 2, false, (9213, 9211, 9212, 13)), (12, ⟨"BoxQuayModel", "wind", "(II)Z"⟩, prog_14_method_128_code, 3, (some .boolean), 2, false, (9217, 9215, 9216, 13)), (12, ⟨"BoxQuayModel", "shifts", "(II)Z"⟩, prog_14_method_129_code, 3, (some .boolean), 2, false, (9221, 9219, 9220, 13)), (12, ⟨"BoxQuayModel", "tally", "(IIZI)I"⟩, prog_14_method_130_code, 6, (some .int), 4, false, (9225, 9223, 9224, 13)), (12, ⟨"BoxQuayModel", "mate", "(II)I"⟩, prog_14_method_132_code, 3, (some .int), 2, false, (9229, 9227, 9228, 13)), (12, ⟨"BoxQuayModel", "joins", "(I)V"⟩, prog_14_method_131_code, 7, none, 1, false, (9233, 9232, 11133, 13)), (12, ⟨"BoxQuayModel", "alone", "(II)I"⟩, prog_14_method_133_code, 5, (some .int), 2, false, (9237, 9235, 9236, 13)), (12, ⟨"BoxQuayModel", "odd", "(I)I"⟩, prog_14_method_134_code, 6, (some .int), 1, false, (10001, 9239, 10000, 13)), (12, ⟨"BoxQuayModel", "lash", "(I)I"⟩, prog_14_method_136_code, 2, (some .int), 1, false, (10005, 10003, 10004, 13)), (12, ⟨"BoxQuayModel", "lashed", "(I)I"⟩, prog_14_method_135_code, 8, (some .int), 1, false, (10009, 10008, 11134, 13)), (12, ⟨"BoxQuayModel", "gang", "(II)I"⟩, prog_14_method_137_code, 3, (some .int), 2, false, (10014, 10012, 10013, 13)), (12, ⟨"BoxQuayModel", "best", "(I)I"⟩, prog_14_method_139_code, 9, (some .int), 1, false, (10018, 10016, 10017, 13)), (12, ⟨"BoxQuayModel", "isAway", "(I)Z"⟩, prog_14_method_138_code, 2, (some .boolean), 1, false, (10022, 10021, 11135, 13)), (12, ⟨"BoxQuayModel", "bestTwo", "(II)I"⟩, prog_14_method_140_code, 9, (some .int), 2, false, (10027, 10025, 10026, 13)), (12, ⟨"BoxQuayModel", "count", "(I)I"⟩, prog_14_method_141_code, 4, (some .int), 1, false, (10031, 10029, 10030, 13))]
def qm_hd : List qm_Hd := qm_hd_0 ++ (qm_hd_1 ++ (qm_hd_2 ++ (qm_hd_3 ++ (qm_hd_4 ++ (qm_hd_5 ++ (qm_hd_6 ++ (qm_hd_7 ++ (qm_hd_8 ++ (qm_hd_9)))))))))
end
section
/-! new int[n][k]: the machine's own step, by the state that it comes to -/
def qm_mo (cA : ClassId) (N h0 i : Nat) : Cell := arrV cA N (fun j => va_rf (if j < i then some (h0 + 1 + j) else none))
def qm_mi (cI : ClassId) (K : Nat) : Cell := arrV cI K (fun _ => .int 0)
def qm_mf (s : State) (cA cI : ClassId) (N K : Nat) : Nat → State
  | 0 => s.pushCell (qm_mo cA N s.heap.size 0)
  | i + 1 => ((qm_mf s cA cI N K i).pushCell (qm_mi cI K)).setCell s.heap.size (qm_mo cA N s.heap.size (i + 1))
theorem qm_mo_0 (cA : ClassId) (N h0 : Nat) : ({ cls := cA, slots := Array.replicate N .null, vm := .none } : Cell) = qm_mo cA N h0 0 := by
  rw [arrV_new]
  exact congrArg (arrV cA N) (funext fun j => by simp [va_rf])
theorem qm_mo_s (cA : ClassId) (N h0 i : Nat) : (qm_mo cA N h0 i).setSlot i (.ref (h0 + 1 + i)) = qm_mo cA N h0 (i + 1) := by
  unfold qm_mo
  rw [arrV_store]
  refine congrArg (arrV cA N) (funext fun j => ?_)
  by_cases e : j = i
  · subst e
    simp [updV, va_rf]
  · by_cases hl : j < i
    · simp [updV, e, hl, Nat.lt_succ_of_lt hl]
    · simp [updV, e, hl, show ¬ j < i + 1 by omega]
theorem qm_mf_vm (s : State) (cA cI : ClassId) (N K : Nat) : ∀ i, (qm_mf s cA cI N K i).vm = s.vm
  | 0 => rfl
  | i + 1 => by
    show (qm_mf s cA cI N K i).vm = s.vm
    exact qm_mf_vm s cA cI N K i
theorem qm_mf_size (s : State) (cA cI : ClassId) (N K : Nat) : ∀ i, (qm_mf s cA cI N K i).heap.size = s.heap.size + 1 + i
  | 0 => by simp [qm_mf]
  | i + 1 => by
    have ih := qm_mf_size s cA cI N K i
    simp [qm_mf, State.setCell, ih]
    omega
theorem qm_mf_used (s : State) (cA cI : ClassId) (N K : Nat) : ∀ i, (qm_mf s cA cI N K i).slotsUsed = s.slotsUsed + N + i * K
  | 0 => by simp [qm_mf, qm_mo, arrV_size]
  | i + 1 => by
    have ih := qm_mf_used s cA cI N K i
    simp [qm_mf, ih, qm_mi, arrV_size, Nat.succ_mul]
    omega
theorem qm_mf_out (s : State) (cA cI : ClassId) (N K : Nat) : ∀ i, (qm_mf s cA cI N K i).heap[s.heap.size]? = some (qm_mo cA N s.heap.size i)
  | 0 => by simp [qm_mf]
  | i + 1 => by
    have ih := qm_mf_out s cA cI N K i
    have hlt : s.heap.size < (qm_mf s cA cI N K i).heap.size := by rw [qm_mf_size]; omega
    exact State.heap_setCell_self (c := qm_mo cA N s.heap.size i) (by rw [State.heap_pushCell_of_lt (h := hlt)]; exact ih)
theorem qm_mf_old (s : State) (cA cI : ClassId) (N K : Nat) {a : Nat} (ha : a < s.heap.size) : ∀ i, (qm_mf s cA cI N K i).heap[a]? = s.heap[a]?
  | 0 => State.heap_pushCell_of_lt _ _ ha
  | i + 1 => by
    have hlt : a < (qm_mf s cA cI N K i).heap.size := by rw [qm_mf_size]; omega
    show (((qm_mf s cA cI N K i).pushCell (qm_mi cI K)).setCell s.heap.size _).heap[a]? = _
    rw [State.heap_setCell_other (Nat.ne_of_gt ha), State.heap_pushCell_of_lt (h := hlt)]
    exact qm_mf_old s cA cI N K ha i
theorem qm_mf_in (s : State) (cA cI : ClassId) (N K : Nat) : ∀ i j, j < i → (qm_mf s cA cI N K i).heap[s.heap.size + 1 + j]? = some (qm_mi cI K)
  | 0, _, h => absurd h (Nat.not_lt_zero _)
  | i + 1, j, h => by
    have hz := qm_mf_size s cA cI N K i
    show (((qm_mf s cA cI N K i).pushCell (qm_mi cI K)).setCell s.heap.size _).heap[s.heap.size + 1 + j]? = _
    rw [State.heap_setCell_other (show s.heap.size ≠ s.heap.size + 1 + j by omega)]
    by_cases e : j = i
    · subst e
      rw [← hz]
      exact State.heap_pushCell_size _ _
    · have hlt : s.heap.size + 1 + j < (qm_mf s cA cI N K i).heap.size := by rw [hz]; omega
      rw [State.heap_pushCell_of_lt (h := hlt)]
      exact qm_mf_in s cA cI N K i j (by omega)
theorem qm_mf_top (s : State) (f : JFrame) (cA cI : ClassId) (N K : Nat) : ∀ i, qm_mf (s.setTop f) cA cI N K i = (qm_mf s cA cI N K i).setTop f
  | 0 => rfl
  | i + 1 => by simp only [qm_mf, qm_mf_top s f cA cI N K i, State.heap_setTop, State.pushCell_setTop, State.setCell_setTop]
section QMW
variable {E : CtlPost} {e : Env} {d : Bool} {acts : List Action} {s : State}
theorem qm_wp_arr {c comp : ClassId} {k : Class} {type : FieldType} {len : Nat} {init : Value} (hk : s.vm.classes[c]? = some k) (hkind : k.kind = .array comp type)
    (hlimit : ¬ len > e.platform.arrayLengthLimit) (hheap : ¬ len * componentBytes type > e.platform.maxHeapBytes) (hfit : fits type init = true) (hdef : init.isDefault = true) {Q : Addr → Pre}
    (h1 : s.heap.size < e.platform.maxCells) (h2 : s.slotsUsed + len ≤ e.platform.maxSlots)
    (hq : Q s.heap.size d acts (s.pushCell { cls := c, slots := Array.replicate len init, vm := .none })) : wp (Jvm.newArray c len init) Q E e d acts s := by
  have hfits : ∀ i v, (Array.replicate len init)[i]? = some v → s.fitsSlot c .none i v = true := by
    intro i v hv
    rw [Array.getElem?_replicate] at hv
    by_cases hi : i < len
    · rw [if_pos hi] at hv
      cases hv
      simp [State.fitsSlot, State.slotType?, hk, hkind, hfit]
    · rw [if_neg hi] at hv
      cases hv
  have hacts : allocActs (Array.replicate len init) s.heap.size acts = acts := by
    unfold allocActs
    rw [if_pos]
    rw [Array.all_replicate]
    split <;> simp [hdef]
  simp only [Jvm.newArray, Jvm.arrayFits, wp_bind', W.ask, W.ite, hlimit, if_false, wp_pure', W.theClass, hk, hkind, hheap, W.alloc, W.stop, Option.some.injEq, exists_eq_left', Array.size_replicate, hacts]
  rw [if_neg (by omega)]
  exact ⟨h1, h2, hfits, hq⟩
theorem qm_wp_row {comp cm : ClassId} {kc : Class} {m : Int32} (hkc : s.vm.classes[comp]? = some kc) (hkindc : kc.kind = .array cm .int) (hm : ¬ m < 0)
    (hl2 : ¬ m.toNatClampNeg > e.platform.arrayLengthLimit) (hh2 : ¬ m.toNatClampNeg * componentBytes .int > e.platform.maxHeapBytes) (h1 : s.heap.size < e.platform.maxCells) (h2 : s.slotsUsed + m.toNatClampNeg ≤ e.platform.maxSlots)
    {Q : Addr → Pre} (hq : Q s.heap.size d acts (s.pushCell (qm_mi comp m.toNatClampNeg))) : wp (Op.multianewarray.make comp [m]) Q E e d acts s := by
  rw [Op.multianewarray.make]
  simp only [wp_bind', W.ite, hm, if_false, wp_pure', W.theClass, hkc, hkindc, Option.some.injEq, exists_eq_left']
  refine qm_wp_arr hkc hkindc hl2 hh2 rfl rfl h1 h2 ?_
  rw [arrV_new]
  exact hq
theorem qm_wp_rows {c comp cm : ClassId} {k kc : Class} {n m : Int32} (hk : s.vm.classes[c]? = some k) (hkind : k.kind = .array comp (.array .int)) (hkc : s.vm.classes[comp]? = some kc) (hkindc : kc.kind = .array cm .int) (hn : ¬ n < 0) (hm : ¬ m < 0)
    (hl1 : ¬ n.toNatClampNeg > e.platform.arrayLengthLimit) (hh1 : ¬ n.toNatClampNeg * componentBytes (.array .int) > e.platform.maxHeapBytes) (hl2 : ¬ m.toNatClampNeg > e.platform.arrayLengthLimit) (hh2 : ¬ m.toNatClampNeg * componentBytes .int > e.platform.maxHeapBytes)
    (hc : s.heap.size + 1 + n.toNatClampNeg ≤ e.platform.maxCells) (hs : s.slotsUsed + n.toNatClampNeg + n.toNatClampNeg * m.toNatClampNeg ≤ e.platform.maxSlots)
    {Q : Addr → Pre} (hq : ∀ d' acts', Q s.heap.size d' acts' (qm_mf s c comp n.toNatClampNeg m.toNatClampNeg n.toNatClampNeg)) : wp (Op.multianewarray.make c [n, m]) Q E e d acts s := by
  have hfind : ([m].find? (· < 0)) = none := by simp [hm]
  rw [Op.multianewarray.make]
  simp only [wp_bind', W.ite, hn, if_false, wp_pure', W.theClass, hk, hkind, Option.some.injEq, exists_eq_left']
  generalize hN : n.toNatClampNeg = N at *
  refine qm_wp_arr hk hkind hl1 hh1 rfl rfl (by omega) (by have := Nat.zero_le (N * m.toNatClampNeg); omega) ?_
  simp only [hfind]
  rw [ite_self, wp_bind', Std.Legacy.Range.forIn_eq_forIn_range']
  have hsz : ([:N] : Std.Legacy.Range).size = N := by simp [Std.Legacy.Range.size]
  rw [hsz]
  show wp (forIn (List.range' 0 N 1) PUnit.unit _) _ E e d acts _
  refine wp_forIn_inv (fun rest s' => ∃ i, i + rest.length = N ∧ rest = List.range' i rest.length ∧ s' = qm_mf s c comp N m.toNatClampNeg i) _ _ ⟨0, by simp, by simp, by rw [qm_mo_0 c N s.heap.size]; rfl⟩ ?_ ?_
  · rintro x rest s' d' acts' Q' ⟨i, hi, hl, rfl⟩ hnext
    simp only [List.length_cons] at hi hl
    rw [List.range'_succ] at hl
    obtain ⟨rfl, hrest⟩ := List.cons.inj hl
    have f1 := qm_mf_size s c comp N m.toNatClampNeg x
    have f3 := qm_mf_vm s c comp N m.toNatClampNeg x
    have f4 := qm_mf_used s c comp N m.toNatClampNeg x
    have hmul : x * m.toNatClampNeg + m.toNatClampNeg ≤ N * m.toNatClampNeg := by
      have := Nat.mul_le_mul_right m.toNatClampNeg (show x + 1 ≤ N by omega)
      rw [Nat.succ_mul] at this
      exact this
    simp only [wp_bind']
    refine qm_wp_row (by rw [f3]; exact hkc) hkindc hm hl2 hh2 (by rw [f1]; omega) (by rw [f4]; omega) ?_
    have hlt0 : s.heap.size < (qm_mf s c comp N m.toNatClampNeg x).heap.size := by rw [f1]; omega
    simp only [wp_bind', W.writeLoc, wp_pure']
    refine ⟨qm_mo c N s.heap.size x, by rw [State.heap_pushCell_of_lt (h := hlt0)]; exact qm_mf_out s c comp N m.toNatClampNeg x, (fun q => by cases q), by show x < (arrV _ _ _).slots.size; rw [arrV_size]; omega, ?_, hnext _ _ _ ⟨x + 1, by omega, hrest, ?_⟩⟩
    · show State.fitsSlot _ c .none x _ = true
      simp [State.fitsSlot, State.slotType?, f3, hk, hkind, fits]
    · rw [f1, qm_mo_s]
      rfl
  · rintro s' d' acts' ⟨i, hi, hl, rfl⟩
    simp only [List.length_nil, Nat.add_zero] at hi
    subst hi
    simp only [wp_pure']
    exact hq _ _
end QMW
section QMT
variable {p : Program} {l : Launch} {e : Env} {R : Room} {s : State} {m : MethodId} {args : Array Value} {below : List Frame} {meth : Method} {c : Code} {T : State} {locs : List Loc} {cells slots : Nat}
theorem qm_mf_stand (X : Stand p l e R s m args below meth c T locs cells slots) (cA cI : ClassId) (N K : Nat) : ∀ i, Stand p l e R s m args below meth c (qm_mf T cA cI N K i) (locs ++ (List.range i).map fun j => ⟨T.heap.size, j⟩) (cells + 1 + i) (slots + N + i * K)
  | 0 => by
    have h := X.pushed (qm_mo cA N T.heap.size 0)
    rw [show (qm_mo cA N T.heap.size 0).slots.size = N from arrV_size _ _ _] at h
    simpa [qm_mf] using h
  | i + 1 => by
    have Xi := qm_mf_stand X cA cI N K i
    have hlt0 : T.heap.size < (qm_mf T cA cI N K i).heap.size := by rw [qm_mf_size]; omega
    have hcell : ((qm_mf T cA cI N K i).pushCell (qm_mi cI K)).heap[T.heap.size]? = some (qm_mo cA N T.heap.size i) := by rw [State.heap_pushCell_of_lt (h := hlt0)]; exact qm_mf_out T cA cI N K i
    have h := (Xi.pushed (qm_mi cI K)).stored hcell i (.ref (T.heap.size + 1 + i))
    rw [show (qm_mi cI K).slots.size = K from arrV_size _ _ _, qm_mo_s] at h
    have e2 : (locs ++ (List.range (i + 1)).map fun j => (⟨T.heap.size, j⟩ : Loc)) = (locs ++ (List.range i).map fun j => (⟨T.heap.size, j⟩ : Loc)) ++ [⟨T.heap.size, i⟩] := by simp [List.range_succ, List.append_assoc]
    have e3 : slots + N + (i + 1) * K = slots + N + i * K + K := by rw [Nat.succ_mul]; omega
    rw [e2, e3]
    exact h
/-- what the tables say of int[][] -/
theorem qm_over {args : Array Value} {s : State} (h : (Cond.arrayOver (.array .int)).before args s = true) : ∃ comp c k, s.vm.findClass (FieldType.array .int).toString = some comp ∧ s.vm.classes[c]? = some k ∧ k.kind = .array comp (.array .int) ∧ s.vm.findClass ("[" ++ (FieldType.array .int).toString) = some c := by
  simp only [Cond.before, Cond.holds, Cond.value, beq_iff_eq] at h
  cases hc : s.vm.findClass (FieldType.array .int).toString with
  | none => simp [hc] at h
  | some comp =>
    simp only [hc, Option.bind_some, Option.bind_eq_some_iff, Option.map_eq_some_iff] at h
    obtain ⟨c, hi, k, hk, hb⟩ := h
    obtain ⟨hlt, hp, -⟩ := Array.findIdx?_eq_some_iff_getElem.mp hi
    have hkk : s.vm.classes[c] = k := (Array.getElem?_eq_some_iff.mp hk).2
    rw [hkk] at hp
    cases hkind : k.kind with
    | array component ty =>
      rw [hkind] at hb hp
      simp at hb hp
      exact ⟨comp, c, k, rfl, hk, by rw [hkind, hp, hb.1], hb.2⟩
    | _ => rw [hkind] at hb; simp at hb
theorem qm_multi (X : Stand p l e R s m args below meth c T locs cells slots) (hexec : p.tables.exec = Jvm.exec) {own : String} {index : Nat} (hown : s.vm.findClass own = some m.cls) (hclink : (Cond.classLink own index ("[" ++ (FieldType.array .int).toString)).before args s = true) (hover : (Cond.arrayOver (.array .int)).before args s = true) (harr : (Cond.arrayClass .int).before args s = true)
    {g : JFrame} (hg : g.method = m) (hdg : decode c.code g.pc = .ok (.multianewarray index 2, 4)) {n k : Int32} {rest : List Value} (hstack : g.stack = .int k :: .int n :: rest) (hn : ¬ n < 0) (hk : ¬ k < 0) (hb1 : n.toNatClampNeg ≤ 1000) (hb2 : k.toNatClampNeg ≤ 1000)
    (hcells : cells + (1 + n.toNatClampNeg) ≤ R.cells) (hslots : slots + (n.toNatClampNeg + n.toNatClampNeg * k.toNatClampNeg) ≤ R.slots) :
    ∃ (vm₁ : Vm) (cA comp : ClassId), s.vm.findClass ("[" ++ (FieldType.array .int).toString) = some cA ∧ s.vm.findClass (FieldType.array .int).toString = some comp ∧
      Stand p l e R s m args below meth c (qm_mf (T.setVm vm₁) cA comp n.toNatClampNeg k.toNatClampNeg n.toNatClampNeg) (locs ++ (List.range n.toNatClampNeg).map fun j => ⟨T.heap.size, j⟩) (cells + 1 + n.toNatClampNeg) (slots + n.toNatClampNeg + n.toNatClampNeg * k.toNatClampNeg) ∧
      ∀ target, Steps p.tables e below ((qm_mf (T.setVm vm₁) cA comp n.toNatClampNeg k.toNatClampNeg n.toNatClampNeg).setTop { g with pc := g.pc + 4, stack := .ref T.heap.size :: rest }) target → Steps p.tables e below (T.setTop g) target := by
  subst hg
  have hpl : e.platform.magicAccessors = ({} : Platform).magicAccessors := by rw [X.admits.platform]
  obtain ⟨comp, cA, kA, hcomp, hkA, hkindA, hnameA⟩ := qm_over hover
  obtain ⟨comp', kC, cm, hcomp', hkC, hkindC⟩ := Cond.arrayClass_spec harr
  have ecomp : comp' = comp := Option.some.inj (hcomp'.symm.trans hcomp)
  subst ecomp
  obtain ⟨c0, hfc0, hcl⟩ := Cond.classLink_spec hown hclink e.platform hpl
  cases hnameA.symm.trans hfc0
  obtain ⟨hg₁, hwarm₁, -⟩ := State.classEntry (e := e) X.warmed hcl
  generalize T.vm.noted g.method.cls index (.cls cA) = vm₁ at hg₁ hwarm₁
  obtain ⟨kA₁, hkA₁, heA⟩ := hwarm₁.alike.2.2 _ _ hkA
  obtain ⟨kC₁, hkC₁, heC⟩ := hwarm₁.alike.2.2 _ _ hkC
  have X₁ := X.noted hwarm₁
  obtain ⟨hr1, hr2⟩ := X.roomAbove hcells hslots
  refine ⟨vm₁, cA, comp', hnameA, hcomp, qm_mf_stand X₁ cA comp' _ _ _, fun target hrest => ?_⟩
  have hl1 : ¬ n.toNatClampNeg > e.platform.arrayLengthLimit := by rw [Launch.admits_arrayLengthLimit X.admits]; omega
  have hl2 : ¬ k.toNatClampNeg > e.platform.arrayLengthLimit := by rw [Launch.admits_arrayLengthLimit X.admits]; omega
  have hh1 : ¬ n.toNatClampNeg * componentBytes (.array .int) > e.platform.maxHeapBytes := by
    rw [Launch.admits_maxHeapBytes X.admits]; show ¬ n.toNatClampNeg * 4 > 536870912; omega
  have hh2 : ¬ k.toNatClampNeg * componentBytes .int > e.platform.maxHeapBytes := by
    rw [Launch.admits_maxHeapBytes X.admits]; show ¬ k.toNatClampNeg * 4 > 536870912; omega
  jvm_step X.here [hexec, hdg]
  simp only [Op.multianewarray.sem, wp_bind', W.resolveClassAt_links (State.method?_setTop g X.here.top) hg₁]
  rw [W.popN, if_neg (by decide)]
  refine ⟨g, State.topJava?_setTop' (s := T.setVm vm₁) g X.here.top, [.int n, .int k], rest, rfl, hstack, ?_⟩
  simp only [List.mapM_cons, List.mapM_nil, wp_bind', wp_pure']
  refine qm_wp_rows (k := kA₁) (kc := kC₁) (comp := comp') (cm := cm) hkA₁ (by rw [heA]; exact hkindA) hkC₁ (by rw [heC]; exact hkindC) hn hk hl1 hh1 hl2 hh2 (by show T.heap.size + 1 + _ ≤ _; omega) (by show T.slotsUsed + _ + _ ≤ _; omega) (fun d' acts' => ?_)
  have XF := qm_mf_stand X₁ cA comp' n.toNatClampNeg k.toNatClampNeg n.toNatClampNeg
  have eS : ((T.setTop g).setVm vm₁).setTop { g with stack := rest } = (T.setVm vm₁).setTop { g with stack := rest } := by
    show ((T.setVm vm₁).setTop g).setTop _ = _
    rw [State.setTop_setTop]
  rw [eS, qm_mf_top]
  simp only [wp_bind', W.mark, W.pushRef, State.topJava?_setTop' _ XF.here.top, Option.some.injEq, exists_eq_left', State.setTop_setTop, State.heap_setTop]
  intro acts
  simp [jvm, XF.here.top]
  exact hrest
end QMT
end
section
/-! the small machine's cells in the real heap: own cell k at B + k, the script at b -/
def qm_cv (b B : Nat) (v : Value) : Value := match v with
  | .ref k => .ref (B + k)
  | .retAddr _ => .ref b
  | w => w
def qm_rB (B : Nat) (r : Option Nat) : Option Nat := match r with
  | some k => some (B + k)
  | none => none
theorem qm_cv_rv (b B : Nat) (r : Option Nat) : qm_cv b B (qm_rv r) = va_rf (qm_rB B r) := by cases r <;> rfl
theorem qm_cv_cat (b B : Nat) (v : Value) : (qm_cv b B v).category = v.category := by cases v <;> rfl
theorem qm_cat_cv (b B : Nat) (st : List Value) : ((st.map (qm_cv b B)).map fun v => v.category).sum = qm_cat st := by
  unfold qm_cat
  rw [List.map_map]
  congr 1
  exact List.map_congr_left fun v _ => qm_cv_cat b B v
def qm_fs (b B : Nat) (h : qm_H) (k ci : Nat) : List Value := (List.range (qm_nf ci)).map (fun j => qm_cv b B (qm_tv (qm_tg (qm_ty ci j)) h k j))
def qm_E (aC : Nat → ClassId) (b B : Nat) (h : qm_H) (k : Nat) (q : Nat × Nat) : va_E := match q.1 with
  | 0 => .inl (aC 0, q.2, .inl (h.2.1 k))
  | 1 => .inl (aC 1, q.2, .inl (h.2.1 k))
  | 2 => .inl (aC 2, q.2, .inl (h.2.1 k))
  | 3 => .inl (aC 3, q.2, .inr (.inl (h.2.2.1 k)))
  | 4 => .inl (aC 4, q.2, .inr (.inr (.inr (.inr (fun i => qm_rB B (h.2.2.2 k i))))))
  | ci + 5 => .inr (ci, qm_fs b B h k ci)
def qm_w (aC : Nat → ClassId) (b B : Nat) (h : qm_H) : va_W := (List.range h.1.length).map (fun k => (B + k, qm_E aC b B h k (h.1.getD k (0, 0))))
theorem qm_w_get {aC : Nat → ClassId} {b B : Nat} {h : qm_H} {k : Nat} {q : Nat × Nat} (hk : h.1[k]? = some q) : (qm_w aC b B h)[k]? = some (B + k, qm_E aC b B h k q) := by
  obtain ⟨hl, he⟩ := List.getElem?_eq_some_iff.mp hk
  unfold qm_w
  rw [List.getElem?_map, List.getElem?_range hl]
  simp [List.getD, hk]
theorem qm_w_inv {aC : Nat → ClassId} {b B : Nat} {h : qm_H} {k : Nat} {x : Nat × va_E} (hk : (qm_w aC b B h)[k]? = some x) : ∃ q, h.1[k]? = some q ∧ x = (B + k, qm_E aC b B h k q) := by
  have hl : k < h.1.length := by
    have := (List.getElem?_eq_some_iff.mp hk).1
    unfold qm_w at this
    simpa using this
  have hq : h.1[k]? = some h.1[k] := List.getElem?_eq_getElem hl
  refine ⟨_, hq, ?_⟩
  have := qm_w_get (aC := aC) (b := b) (B := B) hq
  rw [hk] at this
  exact Option.some.inj this
theorem qm_w_D {aC : Nat → ClassId} {b B : Nat} {h : qm_H} : va_D (fun q : Nat => B ≤ q) (qm_w aC b B h) := by
  refine ⟨fun i j p q hi hj e => ?_, fun k q hk => ?_⟩
  · obtain ⟨_, _, rfl⟩ := qm_w_inv hi
    obtain ⟨_, _, rfl⟩ := qm_w_inv hj
    simp at e
    exact e
  · obtain ⟨_, _, rfl⟩ := qm_w_inv hk
    exact Nat.le_add_right B k
theorem qm_bne {a b : Nat} (h : a ≠ b) : Nat.beq a b = false := by
  cases hb : Nat.beq a b with
  | false => rfl
  | true => exact absurd (Nat.eq_of_beq_eq_true hb) h
theorem qm_up_ne {α : Type} {f : Nat → Nat → α} {k j i : Nat} {v : α} (h : j ≠ k) : qm_up f k i v j = f j := by
  funext i'
  have : Nat.beq j k = false := qm_bne h
  simp [qm_up, this]
theorem qm_up_at {α : Type} {f : Nat → Nat → α} {k i j : Nat} {v : α} : qm_up f k i v k j = if j = i then v else f k j := by
  by_cases h : j = i
  · subst h
    simp [qm_up]
  · have : Nat.beq j i = false := qm_bne h
    simp [qm_up, this, h]
/-- one cell changes -/
theorem qm_w_upd {aC : Nat → ClassId} {b B : Nat} {h h' : qm_H} {k : Nat} {q : Nat × Nat} (hs : h'.1 = h.1) (hk : h.1[k]? = some q) (ho : ∀ j, j ≠ k → ∀ z, qm_E aC b B h' j z = qm_E aC b B h j z) : qm_w aC b B h' = (qm_w aC b B h).set k (B + k, qm_E aC b B h' k q) := by
  have hkl : k < h.1.length := (List.getElem?_eq_some_iff.mp hk).1
  apply List.ext_getElem?
  intro i
  by_cases hi : i = k
  · subst hi
    rw [qm_w_get (h := h') (by rw [hs]; exact hk), List.getElem?_set_self (by unfold qm_w; simpa using hkl)]
  · rw [List.getElem?_set_ne (fun e => hi e.symm)]
    cases hq : h.1[i]? with
    | some z => rw [qm_w_get (h := h') (by rw [hs]; exact hq), qm_w_get hq, ho i hi z]
    | none =>
      have hl : h.1.length ≤ i := List.getElem?_eq_none_iff.mp hq
      rw [List.getElem?_eq_none (by unfold qm_w; simpa [hs] using hl), List.getElem?_eq_none (by unfold qm_w; simpa using hl)]
theorem qm_E_off {aC : Nat → ClassId} {b B : Nat} {h h' : qm_H} {j : Nat} (hI : h'.2.1 j = h.2.1 j) (hJ : h'.2.2.1 j = h.2.2.1 j) (hR : h'.2.2.2 j = h.2.2.2 j) (z : Nat × Nat) : qm_E aC b B h' j z = qm_E aC b B h j z := by
  have ht : ∀ (v : Value) (t : Nat), qm_tv v h' j t = qm_tv v h j t := by
    intro v t
    cases v <;> simp [qm_tv, hI, hJ, hR]
  have hf : ∀ ci, qm_fs b B h' j ci = qm_fs b B h j ci := by
    intro ci
    unfold qm_fs
    exact List.map_congr_left (fun t _ => by rw [ht])
  obtain ⟨z1, z2⟩ := z
  match z1 with
  | 0 => simp [qm_E, hI]
  | 1 => simp [qm_E, hI]
  | 2 => simp [qm_E, hI]
  | 3 => simp [qm_E, hJ]
  | 4 => simp [qm_E, hR]
  | n + 5 => simp [qm_E, hf]
theorem qm_fs_len (b B : Nat) (h : qm_H) (k ci : Nat) : (qm_fs b B h k ci).length = qm_nf ci := by simp [qm_fs]
theorem qm_fs_get {b B : Nat} {h : qm_H} {k ci j : Nat} (hj : j < qm_nf ci) : (qm_fs b B h k ci)[j]? = some (qm_cv b B (qm_tv (qm_tg (qm_ty ci j)) h k j)) := by
  unfold qm_fs
  rw [List.getElem?_map, List.getElem?_range hj]
  rfl
theorem qm_fs_set {b B : Nat} {h h' : qm_H} {k ci j : Nat} {w : Value} (hj : j < qm_nf ci) (hv : qm_tv (qm_tg (qm_ty ci j)) h' k j = w) (ho : ∀ t, t ≠ j → ∀ v, qm_tv v h' k t = qm_tv v h k t) : qm_fs b B h' k ci = (qm_fs b B h k ci).set j (qm_cv b B w) := by
  apply List.ext_getElem?
  intro i
  by_cases hi : i = j
  · subst hi
    rw [qm_fs_get hj, List.getElem?_set_self (by rw [qm_fs_len]; exact hj), hv]
  · rw [List.getElem?_set_ne (fun e => hi e.symm)]
    by_cases hl : i < qm_nf ci
    · rw [qm_fs_get hl, qm_fs_get hl, ho i hi]
    · rw [List.getElem?_eq_none (by rw [qm_fs_len]; omega), List.getElem?_eq_none (by rw [qm_fs_len]; omega)]
/-- the cells h stand in the heap H from B on, and nothing behind them -/
def qm_HI (D : va_G) (aC : Nat → ClassId) (b B : Nat) (h : qm_H) (H : Heap) : Prop :=
  H.size = B + h.1.length ∧ va_P D qm_vc (qm_w aC b B h) H ∧ ∀ k i, h.1.length ≤ k → h.2.1 k i = 0 ∧ h.2.2.1 k i = 0 ∧ h.2.2.2 k i = none
def qm_tys (aC : Nat → ClassId) : List (ClassId × FieldType) := [(aC 0, .int), (aC 1, .byte), (aC 2, .boolean), (aC 3, .long), (aC 4, .array .int)]
def qm_A (B : Nat) : Nat → Prop := fun q => B ≤ q
/-- one cell's contents change -/
theorem qm_HI.set {D : va_G} {aC : Nat → ClassId} {b B : Nat} {h h' : qm_H} {H H1 : Heap} {k : Nat} {q : Nat × Nat} (hH : qm_HI D aC b B h H) (hs : h'.1 = h.1) (hk : h.1[k]? = some q) (hI : ∀ j, j ≠ k → h'.2.1 j = h.2.1 j) (hJ : ∀ j, j ≠ k → h'.2.2.1 j = h.2.2.1 j) (hR : ∀ j, j ≠ k → h'.2.2.2 j = h.2.2.2 j)
    (he : va_at D qm_vc (B + k, qm_E aC b B h' k q) H1) (z : H1.size = H.size) (oq : ∀ x : Nat, x ≠ B + k → H1[x]? = H[x]?) : qm_HI D aC b B h' H1 := by
  obtain ⟨h1, h2, h3⟩ := hH
  have hkl : k < h.1.length := (List.getElem?_eq_some_iff.mp hk).1
  refine ⟨by rw [z, h1, hs], ?_, fun j i hj => ?_⟩
  · rw [qm_w_upd hs hk (fun j hj z => qm_E_off (hI j hj) (hJ j hj) (hR j hj) z)]
    exact h2.set (qm_w_D (aC := aC) (b := b)) (qm_w_get hk) he oq
  · rw [hs] at hj
    have hne : j ≠ k := by omega
    rw [hI j hne, hJ j hne, hR j hne]
    exact h3 j i hj
end
section
/-! rows over the small machine's cells: as the kit's, with the heap's size told -/
section QMR
variable {p : Program} {l : Launch} {e : Env} {R : Room} {s : State} {m : MethodId} {args : Array Value} {below : List Frame} {meth : Method} {c : Code} {H : Heap} {locs : List Loc} {cells slots : Nat} {Q : State → Prop}
variable {cc : ByteArray} {pc : Nat} {ls : Array Slot} {rest : List Value} {D : va_G} {aC : Nat → ClassId} {b B : Nat} {h : qm_H} {H0 : Heap}
theorem qm_r_iast (hexec : p.tables.exec = Jvm.exec) (hb : c.code = cc) (hK : va_K D qm_vc (qm_tys aC) s) (hH : qm_HI D aC b B h H) (hS : va_S (qm_A B) H0 H locs) {o n : Nat} (hk : h.1[o]? = some (0, n)) {i x : Int32} (hin : vp_in i n) (hdg : decode cc pc = .ok (.iastore, 1))
    (kk : ∀ (H1 : Heap) (locs1 : List Loc), qm_HI D aC b B (h.1, qm_up h.2.1 o i.toNatClampNeg x, h.2.2.1, h.2.2.2) H1 → va_S (qm_A B) H0 H1 locs1 → W p l e R s m args below meth c H1 locs1 cells slots Q (F0 m (pc + 1) ls rest)) : W p l e R s m args below meth c H locs cells slots Q (F0 m pc ls (.int x :: .int i :: .ref (B + o) :: rest)) := by
  have ha := hH.2.1 o _ (qm_w_get (aC := aC) (b := b) (B := B) hk)
  refine W.iast hexec hb ha ((hK.2 0 _ rfl).1 n (fun j => .int (h.2.1 o j))) (fun q => by cases q) (by show ¬ (i < 0 ∨ (arrV _ _ _).slots.size ≤ _); rw [arrV_size]; exact hin) rfl rfl hdg fun H1 e z oq => ?_
  refine kk H1 _ (hH.set rfl hk (fun j hj => qm_up_ne hj) (fun j _ => rfl) (fun j _ => rfl) ?_ z oq) (hS.put z oq (Nat.le_add_right B o))
  show H1[B + o]? = some (vp_cell _ _)
  rw [e]
  show some ((vp_cell (aC 0) (n, .inl (h.2.1 o))).setSlot _ _) = _
  rw [vp_cell_i, vp_cell_i, arrV_store]
  congr 2
  funext q
  dsimp only
  rw [qm_up_at]
  by_cases hq : q = i.toNatClampNeg
  · subst hq
    simp [updV]
  · simp [updV, hq]
theorem qm_r_bast (hexec : p.tables.exec = Jvm.exec) (hb : c.code = cc) (hK : va_K D qm_vc (qm_tys aC) s) (hH : qm_HI D aC b B h H) (hS : va_S (qm_A B) H0 H locs) {o n : Nat} (hk : h.1[o]? = some (1, n)) {i x : Int32} (hin : vp_in i n) (hdg : decode cc pc = .ok (.bastore, 1))
    (kk : ∀ (H1 : Heap) (locs1 : List Loc), qm_HI D aC b B (h.1, qm_up h.2.1 o i.toNatClampNeg (vp_nar .byte x), h.2.2.1, h.2.2.2) H1 → va_S (qm_A B) H0 H1 locs1 → W p l e R s m args below meth c H1 locs1 cells slots Q (F0 m (pc + 1) ls rest)) : W p l e R s m args below meth c H locs cells slots Q (F0 m pc ls (.int x :: .int i :: .ref (B + o) :: rest)) := by
  have ha := hH.2.1 o _ (qm_w_get (aC := aC) (b := b) (B := B) hk)
  refine W.bast hexec hb ha ((hK.2 1 _ rfl).1 n (fun j => .int (h.2.1 o j))) (fun q => by cases q) (by show ¬ (i < 0 ∨ (arrV _ _ _).slots.size ≤ _); rw [arrV_size]; exact hin) rfl rfl hdg fun H1 e z oq => ?_
  refine kk H1 _ (hH.set rfl hk (fun j hj => qm_up_ne hj) (fun j _ => rfl) (fun j _ => rfl) ?_ z oq) (hS.put z oq (Nat.le_add_right B o))
  show H1[B + o]? = some (vp_cell _ _)
  rw [e]
  show some ((vp_cell (aC 1) (n, .inl (h.2.1 o))).setSlot _ _) = _
  rw [vp_cell_i, vp_cell_i, arrV_store]
  congr 2
  funext q
  dsimp only
  rw [qm_up_at]
  by_cases hq : q = i.toNatClampNeg
  · subst hq
    simp [updV, vp_nar]
    try rfl
  · simp [updV, hq]
theorem qm_r_zast (hexec : p.tables.exec = Jvm.exec) (hb : c.code = cc) (hK : va_K D qm_vc (qm_tys aC) s) (hH : qm_HI D aC b B h H) (hS : va_S (qm_A B) H0 H locs) {o n : Nat} (hk : h.1[o]? = some (2, n)) {i x : Int32} (hin : vp_in i n) (hdg : decode cc pc = .ok (.bastore, 1))
    (kk : ∀ (H1 : Heap) (locs1 : List Loc), qm_HI D aC b B (h.1, qm_up h.2.1 o i.toNatClampNeg (vp_nar .boolean x), h.2.2.1, h.2.2.2) H1 → va_S (qm_A B) H0 H1 locs1 → W p l e R s m args below meth c H1 locs1 cells slots Q (F0 m (pc + 1) ls rest)) : W p l e R s m args below meth c H locs cells slots Q (F0 m pc ls (.int x :: .int i :: .ref (B + o) :: rest)) := by
  have ha := hH.2.1 o _ (qm_w_get (aC := aC) (b := b) (B := B) hk)
  refine W.zast hexec hb ha ((hK.2 2 _ rfl).1 n (fun j => .int (h.2.1 o j))) (fun q => by cases q) (by show ¬ (i < 0 ∨ (arrV _ _ _).slots.size ≤ _); rw [arrV_size]; exact hin) rfl rfl hdg fun H1 e z oq => ?_
  refine kk H1 _ (hH.set rfl hk (fun j hj => qm_up_ne hj) (fun j _ => rfl) (fun j _ => rfl) ?_ z oq) (hS.put z oq (Nat.le_add_right B o))
  show H1[B + o]? = some (vp_cell _ _)
  rw [e]
  show some ((vp_cell (aC 2) (n, .inl (h.2.1 o))).setSlot _ _) = _
  rw [vp_cell_i, vp_cell_i, arrV_store]
  congr 2
  funext q
  dsimp only
  rw [qm_up_at]
  by_cases hq : q = i.toNatClampNeg
  · subst hq
    simp [updV, vp_nar]
    try rfl
  · simp [updV, hq]
theorem qm_r_last (hexec : p.tables.exec = Jvm.exec) (hb : c.code = cc) (hK : va_K D qm_vc (qm_tys aC) s) (hH : qm_HI D aC b B h H) (hS : va_S (qm_A B) H0 H locs) {o n : Nat} (hk : h.1[o]? = some (3, n)) {i : Int32} {x : Int64} (hin : vp_in i n) (hdg : decode cc pc = .ok (.lastore, 1))
    (kk : ∀ (H1 : Heap) (locs1 : List Loc), qm_HI D aC b B (h.1, h.2.1, qm_up h.2.2.1 o i.toNatClampNeg x, h.2.2.2) H1 → va_S (qm_A B) H0 H1 locs1 → W p l e R s m args below meth c H1 locs1 cells slots Q (F0 m (pc + 1) ls rest)) : W p l e R s m args below meth c H locs cells slots Q (F0 m pc ls (.long x :: .int i :: .ref (B + o) :: rest)) := by
  have ha := hH.2.1 o _ (qm_w_get (aC := aC) (b := b) (B := B) hk)
  refine W.last hexec hb ha ((hK.2 3 _ rfl).1 n (fun j => .long (h.2.2.1 o j))) (fun q => by cases q) (by show ¬ (i < 0 ∨ (arrV _ _ _).slots.size ≤ _); rw [arrV_size]; exact hin) rfl rfl hdg fun H1 e z oq => ?_
  refine kk H1 _ (hH.set rfl hk (fun j _ => rfl) (fun j hj => qm_up_ne hj) (fun j _ => rfl) ?_ z oq) (hS.put z oq (Nat.le_add_right B o))
  show H1[B + o]? = some (vp_cell _ _)
  rw [e]
  show some ((vp_cell (aC 3) (n, .inr (.inl (h.2.2.1 o)))).setSlot _ _) = _
  rw [vp_cell_l, vp_cell_l, arrV_store]
  congr 2
  funext q
  dsimp only
  rw [qm_up_at]
  by_cases hq : q = i.toNatClampNeg
  · subst hq
    simp [updV]
  · simp [updV, hq]
theorem qm_r_aald (hexec : p.tables.exec = Jvm.exec) (hb : c.code = cc) (hK : va_K D qm_vc (qm_tys aC) s) (hH : qm_HI D aC b B h H) {o n : Nat} (hk : h.1[o]? = some (4, n)) {i : Int32} (hin : vp_in i n) (hdg : decode cc pc = .ok (.aaload, 1))
    (kk : W p l e R s m args below meth c H locs cells slots Q (F0 m (pc + 1) ls (qm_cv b B (qm_rv (h.2.2.2 o i.toNatClampNeg)) :: rest))) : W p l e R s m args below meth c H locs cells slots Q (F0 m pc ls (.int i :: .ref (B + o) :: rest)) := by
  have ha := hH.2.1 o _ (qm_w_get (aC := aC) (b := b) (B := B) hk)
  have hlt : i.toNatClampNeg < n := Nat.not_le.mp fun q => hin (Or.inr q)
  rw [qm_cv_rv] at kk
  exact W.aald (v := va_rf (qm_rB B (h.2.2.2 o i.toNatClampNeg))) (ty := .array .int) hexec hb ha ((hK.2 4 _ rfl).1 n (fun j => va_rf (qm_rB B (h.2.2.2 o j)))) rfl (fun q => by cases q) (by show ¬ (i < 0 ∨ (arrV _ _ _).slots.size ≤ _); rw [arrV_size]; exact hin) (by show (arrV _ _ _).slots[_]? = _; rw [arrV_read _ _ hlt]) rfl rfl hdg kk
/-- a field is written -/
theorem qm_r_put (hexec : p.tables.exec = Jvm.exec) (hb : c.code = cc) {own C : String} {T : u_T} {N ci index : Nat} {Ts : List Cond} (hts : ∀ w ∈ Ts, w.before args s = true) (hin : ∀ w ∈ u_ws C T N, w ∈ Ts) (ty0 : Nat → FieldType) (hty : ∀ k, k < N → parseFieldDescriptor (T k).2.2.1 = some (ty0 k)) (hnm : ∀ a, a < N → ∀ b, b < N → a ≠ b → (T a).2.1 ≠ (T b).2.1) (hown : s.vm.findClass own = some m.cls) (hK : va_K D qm_vc (qm_tys aC) s)
    (hH : qm_HI D aC b B h H) (hS0 : va_S (qm_A B) H0 H locs) {o n : Nat} (hk : h.1[o]? = some (ci + 5, n)) (hc : qm_vc[ci]? = some (C, T, N)) {k : Nat} (hkN : k < N) (hlink : (Cond.fieldLink own index (T k).1 (T k).2.1 (T k).2.2.1).before args s = true)
    (hfin : (T k).2.2.2 = true → meth.name = "<init>" ∧ own = (T k).1) {v : Value} (hn : narrow (ty0 k) v = v) (hfit : fits (ty0 k) v = true) {h' : qm_H} (hs : h'.1 = h.1) (hI : ∀ j, j ≠ o → h'.2.1 j = h.2.1 j) (hJ : ∀ j, j ≠ o → h'.2.2.1 j = h.2.2.1 j) (hR : ∀ j, j ≠ o → h'.2.2.2 j = h.2.2.2 j) (hE : qm_fs b B h' o ci = (qm_fs b B h o ci).set k v)
    (hdg : decode cc pc = .ok (.putfield index, 3)) (kk : ∀ (H1 : Heap) (locs1 : List Loc), qm_HI D aC b B h' H1 → va_S (qm_A B) H0 H1 locs1 → W p l e R s m args below meth c H1 locs1 cells slots Q (F0 m (pc + 3) ls rest)) : W p l e R s m args below meth c H locs cells slots Q (F0 m pc ls (v :: .ref (B + o) :: rest)) := by
  have he : (qm_w aC b B h)[o]? = some (B + o, .inr (ci, qm_fs b B h o ci)) := qm_w_get hk
  have hap := va_apart (own := own) hts hin ty0 hty hnm hK hc
  obtain ⟨r, h1, cell, q1, q2, q3, q4⟩ := hH.2.1 o _ he
  have hr : r = (C, T, N) := Option.some.inj (h1.symm.trans hc)
  subst hr
  obtain ⟨hS, hfc, kC, hkC, hkind⟩ := hK.1 ci _ hc
  obtain ⟨cf, kf, fi, f, hi, hsl⟩ := hS k hkN
  have hlay := hts _ (hin _ (u_in_lay hkN))
  have hst := (u_facts hfc hkC (u_lays hts hin hkN) hi).1
  have hnf : qm_nf ci = N := by simp only [qm_nf, hc]
  have hlen : k < (qm_fs b B h o ci).length := by rw [qm_fs_len, hnf]; exact hkN
  have fin : ∀ (H' : Heap), H'[B + o]? = some (cell.setSlot f.slot v) → H'.size = H.size → (∀ q, q ≠ B + o → H'[q]? = H[q]?) → W p l e R s m args below meth c H' (locs ++ [⟨B + o, f.slot⟩]) cells slots Q (F0 m (pc + 3) ls rest) := by
    intro H' e1 e2 e3
    rw [hsl] at e1 ⊢
    refine kk H' _ (hH.set hs hk hI hJ hR ?_ e2 e3) (hS0.put e2 e3 (Nat.le_add_right B o))
    show va_at D qm_vc (B + o, .inr (ci, qm_fs b B h' o ci)) H'
    rw [hE]
    exact ⟨_, hc, t_OB.to (V := updV (vp_V (qm_fs b B h o ci)) k v) ⟨_, e1, q2, q3, t_set q4 hap hkN v⟩ (fun j _ => vp_updV_set hlen v j)⟩
  unfold u_lay at hlay
  by_cases hf : (T k).2.2.2 = true
  · rw [if_pos hf] at hlay
    obtain ⟨hin2, hdecl⟩ := hfin hf
    have hcf : m.cls = cf := by
      obtain ⟨_, _, c', _, _, _, -, -, hf', -, -, -, hown2, -⟩ := Cond.laysFinal_spec hlay
      have e1 : c' = cf := by have := hi.symm.trans hf'; simp at this; exact this.1.symm
      rw [← hdecl] at hown2
      rw [← e1]; exact Option.some.inj (hown.symm.trans hown2)
    have h6 := u_fits hfc hkC hkind (Or.inr hlay) hi (hty k hkN) hn hfit
    exact W.putFinK hexec hb hown hlink hi hst hcf hin2 (by rw [q2]; exact h6) q1 q3 (by rw [hsl]; exact k2_hasslot (q4 k hkN)) rfl rfl hdg fin
  · rw [if_neg hf] at hlay
    have h6 := u_store hfc hkC hkind hlay hi (hty k hkN) hn hfit
    exact W.putK hexec hb (f := f) ⟨hown, hlink, ⟨_, _, _, hi⟩, hst⟩ (by rw [q2]; exact h6) q1 q3 (by rw [hsl]; exact k2_hasslot (q4 k hkN)) rfl rfl hdg fin
end QMR
end
section
/-! new cells, and ints copied -/
theorem qm_w_push {aC : Nat → ClassId} {b B : Nat} {h : qm_H} (q : Nat × Nat) : qm_w aC b B (h.1 ++ [q], h.2) = qm_w aC b B h ++ [(B + h.1.length, qm_E aC b B h h.1.length q)] := by
  have hE : ∀ k z, qm_E aC b B (h.1 ++ [q], h.2) k z = qm_E aC b B h k z := fun k z => qm_E_off rfl rfl rfl z
  have hlen : (qm_w aC b B h).length = h.1.length := by simp [qm_w]
  apply List.ext_getElem?
  intro i
  by_cases hi : i < h.1.length
  · have hq : h.1[i]? = some h.1[i] := List.getElem?_eq_getElem hi
    rw [qm_w_get (h := (h.1 ++ [q], h.2)) (q := h.1[i]) (by rw [List.getElem?_append_left hi]; exact hq), List.getElem?_append_left (by rw [hlen]; exact hi), qm_w_get hq, hE]
  · by_cases he : i = h.1.length
    · subst he
      rw [qm_w_get (h := (h.1 ++ [q], h.2)) (q := q) (by simp), List.getElem?_append_right (by rw [hlen]; exact Nat.le_refl _), hlen, Nat.sub_self, hE]
      rfl
    · rw [List.getElem?_eq_none (by simp [qm_w]; omega), List.getElem?_eq_none (by simp [qm_w]; omega)]
theorem qm_HI.push {D : va_G} {aC : Nat → ClassId} {b B : Nat} {h : qm_H} {H H1 : Heap} {q : Nat × Nat} (hH : qm_HI D aC b B h H) (z : H1.size = H.size + 1) (oq : ∀ x : Nat, x < H.size → H1[x]? = H[x]?) (he : va_at D qm_vc (H.size, qm_E aC b B h h.1.length q) H1) : qm_HI D aC b B (h.1 ++ [q], h.2) H1 := by
  obtain ⟨h1, h2, h3⟩ := hH
  refine ⟨by rw [z, h1]; simp; omega, ?_, fun j i hj => h3 j i (by simp at hj; omega)⟩
  rw [qm_w_push]
  refine (h2.kept (fun k x hx => oq x.1 ((h2 k x hx).lt))).app (fun k x hx => ?_)
  have hz : k < 1 := (List.getElem?_eq_some_iff.mp hx).1
  rw [show k = 0 by omega] at hx
  cases hx
  rw [← h1]
  exact he
theorem qm_S_push {B : Nat} {H0 H H1 : Heap} {locs : List Loc} (hS : va_S (qm_A B) H0 H locs) (z : H.size ≤ H1.size) (oq : ∀ x : Nat, x < H.size → H1[x]? = H[x]?) : va_S (qm_A B) H0 H1 locs :=
  ⟨Nat.le_trans hS.1 z, fun x h1 h2 => (oq x (Nat.lt_of_lt_of_le h1 hS.1)).trans (hS.2.1 x h1 h2), hS.2.2⟩
/-- the kinds of fields that there are -/
def qm_tyok (ty : FieldType) : Bool := match ty with
  | .int => true
  | .boolean => true
  | .long => true
  | .array _ => true
  | .object _ => true
  | _ => false
section QMN
variable {p : Program} {l : Launch} {e : Env} {R : Room} {s : State} {m : MethodId} {args : Array Value} {below : List Frame} {meth : Method} {c : Code} {H : Heap} {locs : List Loc} {cells slots : Nat} {Q : State → Prop}
variable {cc : ByteArray} {pc : Nat} {ls : Array Slot} {rest : List Value} {D : va_G} {aC : Nat → ClassId} {b B : Nat} {h : qm_H} {H0 : Heap}
theorem qm_r_newa (hexec : p.tables.exec = Jvm.exec) (hb : c.code = cc) {atype : ArrayType} {a : Nat} (hat : qm_akind atype = a) (ha4 : a < 4) (harr : (Cond.arrayClass (newarray.typeOf atype)).before args s = true) (hK : va_K D qm_vc (qm_tys aC) s) (hH : qm_HI D aC b B h H) (hS : va_S (qm_A B) H0 H locs)
    {n : Int32} (hn : vp_in n 100000) (hcells : cells + 1 ≤ R.cells) (hslots : slots + n.toNatClampNeg ≤ R.slots) (hdg : decode cc pc = .ok (.newarray atype, 2))
    (kk : ∀ (H1 : Heap), qm_HI D aC b B (h.1 ++ [(a, n.toNatClampNeg)], h.2) H1 → va_S (qm_A B) H0 H1 locs → W p l e R s m args below meth c H1 locs (cells + 1) (slots + n.toNatClampNeg) Q (F0 m (pc + 2) ls (.ref (B + h.1.length) :: rest))) : W p l e R s m args below meth c H locs cells slots Q (F0 m pc ls (.int n :: rest)) := by
  have hn0 : ¬ n < 0 := fun q => hn (Or.inl q)
  have hnl : n.toNatClampNeg < 100000 := Nat.not_le.mp fun q => hn (Or.inr q)
  have z0 : ∀ i, h.2.1 h.1.length i = 0 := fun i => (hH.2.2 _ i (Nat.le_refl _)).1
  have z1 : ∀ i, h.2.2.1 h.1.length i = 0 := fun i => (hH.2.2 _ i (Nat.le_refl _)).2.1
  have f0 : h.2.1 h.1.length = fun _ => 0 := funext z0
  have f1 : h.2.2.1 h.1.length = fun _ => 0 := funext z1
  have hsz := hH.1
  refine va_newaK hexec hb harr rfl hdg rfl hn0 rfl (by cases atype <;> simp [newarray.typeOf, componentBytes] <;> omega) hcells hslots rfl fun H1 cA e1 q1 o1 hAr hNm => ?_
  rw [← hsz] at kk
  refine kk H1 (hH.push q1 o1 ?_) (qm_S_push hS (by omega) o1)
  cases atype with
  | int =>
    subst hat
    show H1[H.size]? = some _
    have ec : cA = aC 0 := Option.some.inj (hNm.symm.trans (hK.2 0 _ rfl).2)
    rw [e1, ec]
    show _ = some (vp_cell (aC 0) (n.toNatClampNeg, .inl (h.2.1 h.1.length)))
    rw [f0]
    rfl
  | byte =>
    subst hat
    show H1[H.size]? = some _
    have ec : cA = aC 1 := Option.some.inj (hNm.symm.trans (hK.2 1 _ rfl).2)
    rw [e1, ec]
    show _ = some (vp_cell (aC 1) (n.toNatClampNeg, .inl (h.2.1 h.1.length)))
    rw [f0]
    rfl
  | boolean =>
    subst hat
    show H1[H.size]? = some _
    have ec : cA = aC 2 := Option.some.inj (hNm.symm.trans (hK.2 2 _ rfl).2)
    rw [e1, ec]
    show _ = some (vp_cell (aC 2) (n.toNatClampNeg, .inl (h.2.1 h.1.length)))
    rw [f0]
    rfl
  | long =>
    subst hat
    show H1[H.size]? = some _
    have ec : cA = aC 3 := Option.some.inj (hNm.symm.trans (hK.2 3 _ rfl).2)
    rw [e1, ec]
    show _ = some (vp_cell (aC 3) (n.toNatClampNeg, .inr (.inl (h.2.2.1 h.1.length))))
    rw [f1]
    rfl
  | _ => subst hat; exact absurd ha4 (by decide)
theorem qm_r_new (hexec : p.tables.exec = Jvm.exec) (hb : c.code = cc) {own C : String} {T : u_T} {N ci index : Nat} {Ts : List Cond} (hts : ∀ w ∈ Ts, w.before args s = true) (hin : ∀ w ∈ u_ws C T N, w ∈ Ts) (hty : ∀ k, k < N → parseFieldDescriptor (T k).2.2.1 = some (qm_ty ci k)) (htok : ∀ k, k < N → qm_tyok (qm_ty ci k) = true) (hown : s.vm.findClass own = some m.cls) (hcl : (Cond.classLink own index C).before args s = true) (hinst : (Cond.instantiable C N).before args s = true) (hini : (Cond.initialized C).before args s = true)
    (hK : va_K D qm_vc (qm_tys aC) s) (hH : qm_HI D aC b B h H) (hS : va_S (qm_A B) H0 H locs) (hc : qm_vc[ci]? = some (C, T, N)) (hcells : cells + 1 ≤ R.cells) (hslots : slots + N ≤ R.slots) (hdg : decode cc pc = .ok (.new index, 3))
    (kk : ∀ (H1 : Heap), qm_HI D aC b B (h.1 ++ [(ci + 5, N)], h.2) H1 → va_S (qm_A B) H0 H1 locs → W p l e R s m args below meth c H1 locs (cells + 1) (slots + N) Q (F0 m (pc + 3) ls (.ref (B + h.1.length) :: rest))) : W p l e R s m args below meth c H locs cells slots Q (F0 m pc ls rest) := by
  have hKn := hK.1 ci _ hc
  have hsz := hH.1
  refine W.newcK hexec hb hown hcl hinst hini rfl hdg hcells hslots hKn.2.1 rfl fun H1 kC hkC e1 z1 o1 => ?_
  rw [← hsz] at kk
  refine kk H1 (hH.push z1 o1 ?_) (qm_S_push hS (by omega) o1)
  refine ⟨_, hc, (u_born (qm_ty ci) hts hin hKn hkC e1 hty).to (fun j hj => ?_)⟩
  have hnf : qm_nf ci = N := by simp only [qm_nf, hc]
  have hg := qm_fs_get (b := b) (B := B) (h := h) (k := h.1.length) (ci := ci) (j := j) (by rw [hnf]; exact hj)
  have hzz := hH.2.2 h.1.length j (Nat.le_refl _)
  show defaultValue (qm_ty ci j) = vp_V (qm_fs b B h h.1.length ci) j
  have hto := htok j hj
  unfold vp_V
  rw [List.getD_eq_getElem?_getD, hg]
  generalize qm_ty ci j = ty at hto ⊢
  cases ty <;> simp [qm_tyok] at hto <;> simp [qm_tg, qm_tv, qm_rv, qm_cv, hzz.1, hzz.2.1, hzz.2.2, defaultValue]
theorem qm_r_mna (hexec : p.tables.exec = Jvm.exec) (hb : c.code = cc) {own : String} {index : Nat} (hown : s.vm.findClass own = some m.cls) (hclink : (Cond.classLink own index ("[" ++ (FieldType.array .int).toString)).before args s = true) (hover : (Cond.arrayOver (.array .int)).before args s = true) (harr : (Cond.arrayClass .int).before args s = true)
    (hK : va_K D qm_vc (qm_tys aC) s) (hH : qm_HI D aC b B h H) (hS : va_S (qm_A B) s.heap H locs) (hBH : B ≤ H.size) {n k : Int32} (hn : vp_in n 1000) (hk : vp_in k 1000) (hcells : cells + (1 + n.toNatClampNeg) ≤ R.cells) (hslots : slots + (n.toNatClampNeg + n.toNatClampNeg * k.toNatClampNeg) ≤ R.slots) (hdg : decode cc pc = .ok (.multianewarray index 2, 4))
    (kk : ∀ (H1 : Heap), qm_HI D aC b B (h.1 ++ ((4, n.toNatClampNeg) :: List.replicate n.toNatClampNeg (0, k.toNatClampNeg)), h.2.1, h.2.2.1, qm_mr h.2.2.2 h.1.length n.toNatClampNeg) H1 → va_S (qm_A B) s.heap H1 locs → W p l e R s m args below meth c H1 locs (cells + 1 + n.toNatClampNeg) (slots + n.toNatClampNeg + n.toNatClampNeg * k.toNatClampNeg) Q (F0 m (pc + 4) ls (.ref (B + h.1.length) :: rest))) : W p l e R s m args below meth c H locs cells slots Q (F0 m pc ls (.int k :: .int n :: rest)) := by
  have hn0 : ¬ n < 0 := fun q => hn (Or.inl q)
  have hk0 : ¬ k < 0 := fun q => hk (Or.inl q)
  have hnl : n.toNatClampNeg < 1000 := Nat.not_le.mp fun q => hn (Or.inr q)
  have hkl : k.toNatClampNeg < 1000 := Nat.not_le.mp fun q => hk (Or.inr q)
  obtain ⟨h1, h2, h3⟩ := hH
  intro T hT Xs
  obtain ⟨vm₁, cA, comp, fA, fC, X', step⟩ := qm_multi Xs hexec hown hclink hover harr (g := F0 m pc ls (.int k :: .int n :: rest)) rfl (by rw [hb]; exact hdg) rfl hn0 hk0 (by omega) (by omega) hcells hslots
  have ec : comp = aC 0 := Option.some.inj (fC.symm.trans (hK.2 0 _ rfl).2)
  have eA : cA = aC 4 := Option.some.inj (fA.symm.trans (hK.2 4 _ rfl).2)
  subst ec
  subst eA
  generalize hN : n.toNatClampNeg = N' at *
  generalize hM : k.toNatClampNeg = K' at *
  generalize hF : qm_mf (T.setVm vm₁) (aC 4) (aC 0) N' K' N' = F at X' step
  have hTh : (T.setVm vm₁).heap = H := hT
  have f1 := qm_mf_size (T.setVm vm₁) (aC 4) (aC 0) N' K' N'
  have f2 := qm_mf_out (T.setVm vm₁) (aC 4) (aC 0) N' K' N'
  rw [hF, hTh] at f1 f2
  have hold : ∀ x : Nat, x < H.size → F.heap[x]? = H[x]? := fun x hx => by
    have := qm_mf_old (T.setVm vm₁) (aC 4) (aC 0) N' K' (a := x) (by rw [hTh]; exact hx) N'
    rw [hF, hTh] at this
    exact this
  have hrow : ∀ j : Nat, j < N' → F.heap[H.size + 1 + j]? = some (arrV (aC 0) K' (fun _ => .int 0)) := fun j hj => by
    have := qm_mf_in (T.setVm vm₁) (aC 4) (aC 0) N' K' N' j hj
    rw [hF, hTh] at this
    exact this
  rw [← h1] at kk
  have hfin : qm_HI D aC b B (h.1 ++ ((4, N') :: List.replicate N' (0, K')), h.2.1, h.2.2.1, qm_mr h.2.2.2 h.1.length N') F.heap := by
    have hmne : ∀ j, j ≠ h.1.length → qm_mr h.2.2.2 h.1.length N' j = h.2.2.2 j := by
      intro j hj
      funext i
      have : Nat.beq j h.1.length = false := qm_bne hj
      simp [qm_mr, this]
    refine ⟨by rw [f1, h1]; simp; omega, fun i x hx => ?_, fun j i hj => ?_⟩
    · obtain ⟨q, hq, rfl⟩ := qm_w_inv hx
      have hq : (h.1 ++ ((4, N') :: List.replicate N' (0, K')))[i]? = some q := hq
      by_cases hl : i < h.1.length
      · rw [List.getElem?_append_left hl] at hq
        have hx0 := h2 i _ (qm_w_get (aC := aC) (b := b) (B := B) hq)
        have hE := qm_E_off (aC := aC) (b := b) (B := B) (h := h) (h' := (h.1 ++ ((4, N') :: List.replicate N' (0, K')), h.2.1, h.2.2.1, qm_mr h.2.2.2 h.1.length N')) (j := i) rfl rfl (hmne i (by omega)) q
        rw [hE]
        exact hx0.kept (hold _ hx0.lt)
      · rw [List.getElem?_append_right (by omega)] at hq
        by_cases he : i = h.1.length
        · subst he
          rw [Nat.sub_self] at hq
          cases hq
          show F.heap[B + h.1.length]? = some _
          rw [← h1, f2]
          unfold qm_mo
          show _ = some (vp_cell (aC 4) (N', .inr (.inr (.inr (.inr (fun i => qm_rB B (qm_mr h.2.2.2 h.1.length N' h.1.length i)))))))
          rw [vp_cell_q]
          congr 2
          funext j
          by_cases hj : j < N'
          · have hbl : Nat.blt j N' = true := Nat.ble_eq_true_of_le hj
            have hbb : Nat.beq h.1.length h.1.length = true := Nat.beq_refl _
            have e9 : H.size + 1 + j = B + (h.1.length + 1 + j) := by omega
            simp only [qm_mr, hbl, hbb, Bool.and_self, cond_true, qm_rB, if_pos hj, e9]
          · have hz := (h3 h.1.length j (Nat.le_refl _)).2.2
            have hbl : Nat.blt j N' = false := by
              cases hb9 : Nat.blt j N' with
              | false => rfl
              | true => exact absurd (Nat.le_of_ble_eq_true hb9) hj
            simp only [qm_mr, hbl, Bool.and_false, cond_false, qm_rB, if_neg hj, hz]
        · obtain ⟨t, ht⟩ : ∃ t, i - h.1.length = t + 1 := ⟨i - h.1.length - 1, by omega⟩
          rw [ht, List.getElem?_cons_succ] at hq
          have htl : t < N' := by
            have := (List.getElem?_eq_some_iff.mp hq).1
            simpa using this
          rw [List.getElem?_replicate, if_pos htl] at hq
          cases hq
          show F.heap[B + i]? = some (vp_cell (aC 0) (K', .inl (h.2.1 i)))
          have hi0 : B + i = H.size + 1 + t := by omega
          rw [hi0, hrow t htl, vp_cell_i]
          have hz : h.2.1 i = fun _ => 0 := funext fun z => (h3 i z (by omega)).1
          rw [hz]
    · have hj : (h.1 ++ ((4, N') :: List.replicate N' (0, K'))).length ≤ j := hj
      have hj' : h.1.length < j := by simp at hj; omega
      refine ⟨(h3 j i (by omega)).1, (h3 j i (by omega)).2.1, ?_⟩
      show qm_mr h.2.2.2 h.1.length N' j i = none
      rw [hmne j (by omega)]
      exact (h3 j i (by omega)).2.2
  have X' := Stand.forget X' (fun y hy => by
    obtain ⟨j, -, rfl⟩ := List.mem_map.mp hy
    show s.heap.size ≤ T.heap.size
    rw [hT]
    exact hS.1)
  obtain ⟨t, a1, b1⟩ := kk F.heap hfin (qm_S_push hS (by omega) hold) F rfl X'
  exact ⟨t, step t (by rw [hT]; exact a1), b1⟩
end QMN
end
section
/-! locals, and ints copied -/
def qm_fl0 (v : Value) : Bool := match v with
  | .float _ => true
  | _ => false
/-- the values that the locals' list tells, by their places -/
def qm_pr (b B : Nat) (l : List Value) : List (Nat × Value) := (List.range l.length).filterMap (fun i => match l[i]? with
  | some v => bif qm_fl0 v then none else some (i, qm_cv b B v)
  | none => none)
theorem qm_pr_mem {b B : Nat} {l : List Value} {i : Nat} {w : Value} : (i, w) ∈ qm_pr b B l ↔ ∃ v, l[i]? = some v ∧ qm_fl0 v = false ∧ w = qm_cv b B v := by
  unfold qm_pr
  rw [List.mem_filterMap]
  constructor
  · rintro ⟨j, hj, he⟩
    cases hv : l[j]? with
    | none => rw [hv] at he; cases he
    | some v =>
      rw [hv] at he
      cases hf : qm_fl0 v with
      | true => simp [hf] at he
      | false =>
        simp [hf] at he
        obtain ⟨rfl, rfl⟩ := he
        exact ⟨v, hv, hf, rfl⟩
  · rintro ⟨v, hv, hf, rfl⟩
    exact ⟨i, List.mem_range.mpr (List.getElem?_eq_some_iff.mp hv).1, by simp [hv, hf]⟩
/-- the locals' list stands in the frame's locals -/
def qm_LR (b B nL : Nat) (l : List Value) (ls : Array Slot) : Prop := l.length = nL ∧ lv_has ls nL (qm_pr b B l)
theorem qm_LR.at {b B nL : Nat} {l : List Value} {ls : Array Slot} (h : qm_LR b B nL l ls) {i : Nat} {v : Value} (hv : l[i]? = some v) (hf : qm_fl0 v = false) : ls[i]? = some (.val (qm_cv b B v)) := h.2.2.2 (i, qm_cv b B v) (qm_pr_mem.mpr ⟨v, hv, hf, rfl⟩)
theorem qm_s1_len (l : List Value) (i : Nat) (v : Value) : (qm_s1 l i v).length = l.length := by
  unfold qm_s1
  split
  · simp
  · split <;> simp
theorem qm_s1_get {l : List Value} {i j : Nat} {v w : Value} (hj : (qm_s1 l i v)[j]? = some w) (hw : qm_fl0 w = false) : (j = i ∧ w = v) ∨ (j ≠ i ∧ l[j]? = some w ∧ ¬ (j + 1 = i ∧ w.category = 2)) := by
  by_cases e : j = i
  · subst e
    left
    refine ⟨rfl, ?_⟩
    unfold qm_s1 at hj
    split at hj
    · rw [List.getElem?_set] at hj
      simp at hj
      exact hj.2.symm
    · split at hj <;> (rw [List.getElem?_set] at hj; simp at hj; exact hj.2.symm)
  · right
    refine ⟨e, ?_⟩
    unfold qm_s1 at hj
    split at hj
    · rw [List.getElem?_set_ne (fun q => e q.symm)] at hj
      exact ⟨hj, fun q => by omega⟩
    · rename_i t
      split at hj
      · rw [List.getElem?_set_ne (fun q => e q.symm)] at hj
        by_cases e2 : j = t
        · subst e2
          rw [List.getElem?_set] at hj
          simp at hj
          obtain ⟨-, rfl⟩ := hj
          cases hw
        · rw [List.getElem?_set_ne (fun q => e2 q.symm)] at hj
          exact ⟨hj, fun q => e2 (by omega)⟩
      · rw [List.getElem?_set_ne (fun q => e q.symm)] at hj
        by_cases e2 : j = t
        · subst e2
          rw [List.getElem?_set] at hj
          simp at hj
          obtain ⟨-, rfl⟩ := hj
          cases hw
        · rw [List.getElem?_set_ne (fun q => e2 q.symm)] at hj
          exact ⟨hj, fun q => e2 (by omega)⟩
      · rename_i n1 n2
        rw [List.getElem?_set_ne (fun q => e q.symm)] at hj
        refine ⟨hj, fun q => ?_⟩
        have e2 : j = t := by omega
        subst e2
        cases w with
        | long x => exact n1 x hj
        | double x => exact n2 x hj
        | _ => simp [Value.category] at q
theorem qm_LR.s1 {b B nL : Nat} {l : List Value} {ls ls' : Array Slot} {i : Nat} {v : Value} (h : qm_LR b B nL l ls) (h' : lv_has ls' nL ((i, qm_cv b B v) :: (qm_pr b B l).filter (fun q => !(q.1 == i) && !(q.1 + 1 == i && q.2.category == 2)))) : qm_LR b B nL (qm_s1 l i v) ls' := by
  refine ⟨by rw [qm_s1_len]; exact h.1, h'.1, h'.2.1, fun q hq => h'.2.2 q ?_⟩
  obtain ⟨j, w⟩ := q
  obtain ⟨u, hu, hf, rfl⟩ := qm_pr_mem.mp hq
  rcases qm_s1_get hu hf with ⟨rfl, rfl⟩ | ⟨hne, hl, hcat⟩
  · exact List.mem_cons_self
  · refine List.mem_cons_of_mem _ (List.mem_filter.mpr ⟨qm_pr_mem.mpr ⟨u, hl, hf, rfl⟩, ?_⟩)
    rw [qm_cv_cat]
    simp only [Bool.and_eq_true, Bool.not_eq_true', beq_eq_false_iff_ne, ne_eq, Bool.and_eq_false_iff]
    refine ⟨hne, ?_⟩
    by_cases hx : j + 1 = i
    · exact Or.inr (fun hc => hcat ⟨hx, hc⟩)
    · exact Or.inl hx
theorem qm_LR.s2 {b B nL : Nat} {l : List Value} {ls ls' : Array Slot} {i : Nat} {v : Value} (h : qm_LR b B nL l ls) (h' : lv_has ls' nL ((i, qm_cv b B v) :: (qm_pr b B l).filter (fun q => !(q.1 == i) && (!(q.1 == i + 1) && !(q.1 + 1 == i && q.2.category == 2))))) : qm_LR b B nL (qm_s2 l i v) ls' := by
  refine ⟨by unfold qm_s2; rw [List.length_set, qm_s1_len]; exact h.1, h'.1, h'.2.1, fun q hq => h'.2.2 q ?_⟩
  obtain ⟨j, w⟩ := q
  obtain ⟨u, hu, hf, rfl⟩ := qm_pr_mem.mp hq
  unfold qm_s2 at hu
  by_cases hj1 : j = i + 1
  · subst hj1
    rw [List.getElem?_set] at hu
    simp at hu
    obtain ⟨-, rfl⟩ := hu
    cases hf
  · rw [List.getElem?_set_ne (fun q => hj1 q.symm)] at hu
    rcases qm_s1_get hu hf with ⟨rfl, rfl⟩ | ⟨hne, hl, hcat⟩
    · exact List.mem_cons_self
    · refine List.mem_cons_of_mem _ (List.mem_filter.mpr ⟨qm_pr_mem.mpr ⟨u, hl, hf, rfl⟩, ?_⟩)
      rw [qm_cv_cat]
      simp only [Bool.and_eq_true, Bool.not_eq_true', beq_eq_false_iff_ne, ne_eq, Bool.and_eq_false_iff]
      refine ⟨hne, hj1, ?_⟩
      by_cases hx : j + 1 = i
      · exact Or.inr (fun hc => hcat ⟨hx, hc⟩)
      · exact Or.inl hx
/-- at a method's entry -/
theorem qm_la_args {b B : Nat} : ∀ (as : List Value) (k i : Nat) (v : Value), (qm_la as)[i]? = some v → qm_fl0 v = false → (k + i, qm_cv b B v) ∈ lv_args k (as.map (qm_cv b B))
  | [], k, i, v, h, _ => by simp [qm_la] at h
  | a :: r, k, i, v, h, hf => by
    by_cases hc : a.category = 2
    · have hla : qm_la (a :: r) = a :: .float 0 :: qm_la r := by simp [qm_la, hc]
      rw [hla] at h
      rw [List.map_cons, lv_args, qm_cv_cat, if_pos hc]
      match i, h with
      | 0, h =>
        simp at h
        subst h
        exact List.mem_cons_self
      | 1, h =>
        simp at h
        subst h
        cases hf
      | i + 2, h =>
        have h : (qm_la r)[i]? = some v := by simpa using h
        have ih := qm_la_args (b := b) (B := B) r (k + 2) i v h hf
        rw [show k + 2 + i = k + (i + 2) by omega] at ih
        exact List.mem_cons_of_mem _ ih
    · have hb : Nat.beq a.category 2 = false := qm_bne hc
      have hla : qm_la (a :: r) = a :: qm_la r := by simp [qm_la, hb]
      rw [hla] at h
      rw [List.map_cons, lv_args, qm_cv_cat, if_neg hc]
      match i, h with
      | 0, h =>
        simp at h
        subst h
        exact List.mem_cons_self
      | i + 1, h =>
        have h : (qm_la r)[i]? = some v := by simpa using h
        have ih := qm_la_args (b := b) (B := B) r (k + 1) i v h hf
        rw [show k + 1 + i = k + (i + 1) by omega] at ih
        exact List.mem_cons_of_mem _ ih
theorem qm_la_len (b B : Nat) : ∀ as : List Value, (lg_sl (as.map (qm_cv b B))).length = (qm_la as).length
  | [] => rfl
  | a :: r => by
    have ih := qm_la_len b B r
    unfold lg_sl at ih ⊢
    rw [List.map_cons, List.flatMap_cons, List.length_append, ih, qm_cv_cat]
    by_cases hc : a.category = 2
    · have hla : qm_la (a :: r) = a :: .float 0 :: qm_la r := by simp [qm_la, hc]
      rw [if_pos hc, hla]
      simp
      omega
    · have hb : Nat.beq a.category 2 = false := qm_bne hc
      have hla : qm_la (a :: r) = a :: qm_la r := by simp [qm_la, hb]
      rw [if_neg hc, hla]
      simp
      omega
theorem qm_LR_ent {b B nL : Nat} {as : List Value} (hl : (qm_la as).length ≤ nL) (h : qm_H) : qm_LR b B nL (qm_ent nL as h).2.1 ((lg_sl (as.map (qm_cv b B)) ++ List.replicate (nL - (lg_sl (as.map (qm_cv b B))).length) Slot.unset).toArray) := by
  have he := lv_entry (as.map (qm_cv b B)) (n := nL) (by rw [qm_la_len]; exact hl)
  refine ⟨by simp [qm_ent]; omega, he.1, he.2.1, fun q hq => he.2.2 q ?_⟩
  obtain ⟨j, w⟩ := q
  obtain ⟨u, hu, hf, rfl⟩ := qm_pr_mem.mp hq
  have hu : (qm_la as ++ List.replicate (nL - (qm_la as).length) (.float 0))[j]? = some u := hu
  by_cases hj : j < (qm_la as).length
  · rw [List.getElem?_append_left hj] at hu
    have := qm_la_args (b := b) (B := B) as 0 j u hu hf
    rw [Nat.zero_add] at this
    exact this
  · rw [List.getElem?_append_right (by omega), List.getElem?_replicate] at hu
    split at hu
    · cases hu
      cases hf
    · cases hu
section QMC
variable {p : Program} {l : Launch} {e : Env} {R : Room} {s : State} {m : MethodId} {args : Array Value} {below : List Frame} {meth : Method} {c : Code} {H : Heap} {locs : List Loc} {cells slots : Nat} {Q : State → Prop}
variable {cc : ByteArray} {pc : Nat} {ls : Array Slot} {rest : List Value} {D : va_G} {aC : Nat → ClassId} {b B : Nat} {h : qm_H} {H0 : Heap}
theorem qm_r_copy (hexec : p.tables.exec = Jvm.exec) (hb : c.code = cc) (hml : c.maxLocals = ls.size) {own : String} {index : Nat} (hown : s.vm.findClass own = some m.cls) (hlink : (Cond.methodLink own index arraycopyName).before args s = true) (hnat : (Cond.native arraycopyName).before args s = true) (hstat : (Cond.static arraycopyName).before args s = true) (hini : (Cond.initialized "java/lang/System").before args s = true)
    (hK : va_K D qm_vc (qm_tys aC) s) (hH : qm_HI D aC b B h H) (hS : va_S (qm_A B) H0 H locs) {o d n0 n1 : Nat} (ho : h.1[o]? = some (0, n0)) (hd : h.1[d]? = some (0, n1)) {sp dp n : Int32} (h1 : ¬ sp < 0) (h2 : ¬ dp < 0) (h3 : ¬ n < 0) (h4 : sp.toNatClampNeg + n.toNatClampNeg ≤ n0) (h5 : dp.toNatClampNeg + n.toNatClampNeg ≤ n1)
    (hframes : 1 ≤ R.frames) (hlocals : (rest.map fun v => v.category).sum + (nativeFrameWords "java/lang/System" "arraycopy" 5 + 11) ≤ R.locals) (hdg : decode cc pc = .ok (.invokestatic index, 3))
    (kk : ∀ (H1 : Heap) (locs1 : List Loc), qm_HI D aC b B (h.1, qm_cp h.2.1 o sp.toNatClampNeg d dp.toNatClampNeg n.toNatClampNeg, h.2.2.1, h.2.2.2) H1 → va_S (qm_A B) H0 H1 locs1 → W p l e R s m args below meth c H1 locs1 cells slots Q (F0 m (pc + 3) ls rest)) : W p l e R s m args below meth c H locs cells slots Q (F0 m pc ls (.int n :: .int dp :: .ref (B + d) :: .int sp :: .ref (B + o) :: rest)) := by
  have nn : ∀ z : Int32, ¬ z < 0 → z.toInt = (z.toNatClampNeg : Int) := by
    intro z hz
    have hz0 : (0 : Int) ≤ z.toInt := by
      have := Int32.not_lt.mp hz
      simpa using Int32.le_iff_toInt_le.mp this
    show z.toInt = ((z.toInt.toNat : Nat) : Int)
    omega
  have hc0 : H[B + o]? = some (vp_cell (aC 0) (n0, .inl (h.2.1 o))) := hH.2.1 o _ (qm_w_get (aC := aC) (b := b) (B := B) ho)
  have hc1 : H[B + d]? = some (vp_cell (aC 0) (n1, .inl (h.2.1 d))) := hH.2.1 d _ (qm_w_get (aC := aC) (b := b) (B := B) hd)
  obtain ⟨-, k0, hk0, cm0, hkk0⟩ := (hK.2 0 _ rfl).1 n0 (fun j => .int (h.2.1 o j))
  obtain ⟨-, k1, hk1, cm1, hkk1⟩ := (hK.2 0 _ rfl).1 n1 (fun j => .int (h.2.1 d j))
  have hl : B + d < H.size := (Array.getElem?_eq_some_iff.mp hc1).1
  intro T hT X
  obtain ⟨vm', X', step⟩ := X.arraycopy hexec hown hlink hnat hstat hini (src := B + o) (dst := B + d) (cs := vp_cell (aC 0) (n0, .inl (h.2.1 o))) (cd := vp_cell (aC 0) (n1, .inl (h.2.1 d))) (srcPos := sp) (destPos := dp) (n := n) (by rw [hT]; exact hc0) (by rw [hT]; exact hc1)
    (fun _ h => by cases h) (fun _ h => by cases h) (fun h => by cases h) (fun h => by cases h) hk0 hk1 hkk0 hkk1 (by simp [refKind]) h1 h2 h3
    (by rw [nn sp h1, nn n h3]; show ¬ _ > ((arrV (aC 0) n0 (fun j => .int (h.2.1 o j))).slots.size : Int); rw [arrV_size]; omega)
    (by rw [nn dp h2, nn n h3]; show ¬ _ > ((arrV (aC 0) n1 (fun j => .int (h.2.1 d j))).slots.size : Int); rw [arrV_size]; omega)
    (fun vm₁ _ i hi => by
      have e : (vp_cell (aC 0) (n0, .inl (h.2.1 o))).slots.getD (sp.toNatClampNeg + i) .null = .int (h.2.1 o (sp.toNatClampNeg + i)) := by
        show (arrV (aC 0) n0 (fun j => .int (h.2.1 o j))).slots.getD _ _ = _
        rw [Array.getD_eq_getD_getElem?, arrV_read _ _ (by omega)]
        rfl
      rw [e]
      exact ⟨rfl, trivial⟩)
    (g := F0 m pc ls (.int n :: .int dp :: .ref (B + d) :: .int sp :: .ref (B + o) :: rest)) rfl (by rw [hml]) (rest := rest) rfl (by rw [hb]; exact hdg) hframes (by show 2 * 0 + _ + _ ≤ _; omega)
  have e1 : copied (vp_cell (aC 0) (n0, .inl (h.2.1 o))) (vp_cell (aC 0) (n1, .inl (h.2.1 d))) sp dp n = vp_cell (aC 0) (n1, .inl (va_cpy (h.2.1 o) (h.2.1 d) sp.toNatClampNeg dp.toNatClampNeg n.toNatClampNeg)) := va_copied (fun z => .int z) (aC 0) (aC 0) (h.2.1 o) (h.2.1 d) h4
  rw [e1] at X' step
  have hat : qm_cp h.2.1 o sp.toNatClampNeg d dp.toNatClampNeg n.toNatClampNeg d = va_cpy (h.2.1 o) (h.2.1 d) sp.toNatClampNeg dp.toNatClampNeg n.toNatClampNeg := by
    funext i
    have hbb : Nat.beq d d = true := Nat.beq_refl _
    by_cases hi : dp.toNatClampNeg ≤ i ∧ i < dp.toNatClampNeg + n.toNatClampNeg
    · have g1 : Nat.ble dp.toNatClampNeg i = true := Nat.ble_eq_true_of_le hi.1
      have g2 : Nat.blt i (dp.toNatClampNeg + n.toNatClampNeg) = true := Nat.ble_eq_true_of_le hi.2
      simp only [qm_cp, hbb, g1, g2, Bool.and_self, cond_true, va_cpy, if_pos hi]
    · have g3 : (Nat.ble dp.toNatClampNeg i && Nat.blt i (dp.toNatClampNeg + n.toNatClampNeg)) = false := by
        cases g1 : Nat.ble dp.toNatClampNeg i with
        | false => rfl
        | true =>
          cases g2 : Nat.blt i (dp.toNatClampNeg + n.toNatClampNeg) with
          | false => rfl
          | true => exact absurd ⟨Nat.le_of_ble_eq_true g1, Nat.le_of_ble_eq_true g2⟩ hi
      simp only [qm_cp, hbb, g3, Bool.and_false, cond_false, va_cpy, if_neg hi]
  have hne : ∀ j, j ≠ d → qm_cp h.2.1 o sp.toNatClampNeg d dp.toNatClampNeg n.toNatClampNeg j = h.2.1 j := by
    intro j hj
    funext i
    simp only [qm_cp, qm_bne hj, Bool.false_and, cond_false]
  have oq : ∀ q : Nat, q ≠ B + d → (H.setIfInBounds (B + d) (vp_cell (aC 0) (n1, .inl (va_cpy (h.2.1 o) (h.2.1 d) sp.toNatClampNeg dp.toNatClampNeg n.toNatClampNeg))))[q]? = H[q]? := fun q hq => by simp [Array.getElem?_setIfInBounds, Ne.symm hq]
  have hheap : ((T.setVm vm').setCell (B + d) (vp_cell (aC 0) (n1, .inl (va_cpy (h.2.1 o) (h.2.1 d) sp.toNatClampNeg dp.toNatClampNeg n.toNatClampNeg)))).heap = H.setIfInBounds (B + d) (vp_cell (aC 0) (n1, .inl (va_cpy (h.2.1 o) (h.2.1 d) sp.toNatClampNeg dp.toNatClampNeg n.toNatClampNeg))) := by rw [← hT]; rfl
  obtain ⟨t, a1, b1⟩ := kk _ _ (hH.set rfl hd hne (fun j _ => rfl) (fun j _ => rfl) (by
      show (H.setIfInBounds (B + d) _)[B + d]? = some (vp_cell (aC 0) (n1, .inl (qm_cp h.2.1 o sp.toNatClampNeg d dp.toNatClampNeg n.toNatClampNeg d)))
      rw [hat]
      simp [Array.getElem?_setIfInBounds, hl]) (by simp) oq) ⟨by simp; exact hS.1, fun q g1 g2 => by
      rw [oq q (fun e => g2 (by rw [e]; exact Nat.le_add_right B d))]
      exact hS.2.1 q g1 g2, fun q hq => by
      rcases List.mem_append.mp hq with h | h
      · exact hS.2.2 q h
      · obtain ⟨z, -, hz⟩ := List.mem_map.mp h
        rw [← hz]
        exact Nat.le_add_right B d⟩ _ hheap X'
  exact ⟨t, step t a1, b1⟩
end QMC
end
section
/-! a frame of the small machine over the real one -/
def qm_tot (q : List (Nat × Nat)) : Nat := (q.map Prod.snd).sum
/-- words that hold on while the machine goes on: the good ones; a nest mate's link, the class int[][] -/
def qm_use (w : Cond) : Bool := goodWord w || (match w with
  | .methodLinkNest _ _ _ _ => true
  | .arrayOver _ => true
  | _ => false)
/-- what a frame rests on -/
def qm_Cx (p : Program) (s : State) (m : MethodId) (args : Array Value) (meth : Method) (c : Code) (cc : ByteArray) (nL o : Nat) (ini : Bool) (D : va_G) (aC : Nat → ClassId) (b B L : Nat) (xs : Nat → Int32) : Prop :=
  p.tables.exec = Jvm.exec ∧ c.code = cc ∧ c.maxLocals = nL ∧ s.vm.findClass (qm_cn o) = some m.cls ∧ (∀ w ∈ lw_tbl, qm_use w = true → w.before args s = true) ∧ va_K D qm_vc (qm_tys aC) s ∧ va_X b L xs s s.heap ∧ b < B ∧ B ≤ s.heap.size ∧ (ini = true → meth.name = "<init>")
/-- from this frame of the small machine the real one comes to Q -/
def qm_Wm (p : Program) (l : Launch) (e : Env) (R : Room) (s : State) (m : MethodId) (args : Array Value) (below : List Frame) (meth : Method) (c : Code) (D : va_G) (aC : Nat → ClassId) (b B n0 t0 nL : Nat) (Q : State → Prop) (f : qm_C) : Prop :=
  ∀ (H : Heap) (locs : List Loc) (ls : Array Slot), qm_HI D aC b B f.2.2.2 H → va_S (qm_A B) s.heap H locs → qm_LR b B nL f.2.1 ls →
    W p l e R s m args below meth c H locs (f.2.2.2.1.length - n0) (qm_tot f.2.2.2.1 - t0) Q (F0 m f.1 ls (f.2.2.1.map (qm_cv b B)))
theorem qm_np {np pc k : Nat} (h : Nat.beq np (pc + k) = true) : np = pc + k := Nat.eq_of_beq_eq_true h
theorem qm_dg {cc : ByteArray} {pc np k : Nat} {ins : Instr} (h : decode cc pc = .ok (ins, np - pc)) (hn : np = pc + k) : decode cc pc = .ok (ins, k) := by
  rw [hn, Nat.add_sub_cancel_left] at h
  exact h
theorem qm_in_iff {i : Int32} {n : Nat} (h : qm_in i n = true) : vp_in i n := of_decide_eq_true (p := ¬ (i < 0 ∨ n ≤ i.toNatClampNeg)) h
end
section
/-! what the tables' words say of the small machine's tables -/
theorem qm_zip {α : Type} {f : α × Nat → Bool} : ∀ {l : List α} {ps : List Nat}, l.length ≤ ps.length → (l.zip ps).all f = true → ∀ {x : α}, x ∈ l → ∃ i, f (x, i) = true
  | [], _, _, _, _, hx => absurd hx List.not_mem_nil
  | _ :: _, [], hl, _, _, _ => by simp at hl
  | a :: l, q :: ps, hl, h, x, hx => by
    simp only [List.zip_cons_cons, List.all_cons, Bool.and_eq_true] at h
    rcases List.mem_cons.mp hx with rfl | hx
    · exact ⟨q, h.1⟩
    · exact qm_zip (by simpa using hl) h.2 hx
theorem qm_lk_mem : ∀ {t : List (Nat × Nat × Nat × Nat)} {o i : Nat} {q : Nat × Nat}, qm_lk t o i = some q → (o, i, q) ∈ t
  | [], _, _, _, h => by cases h
  | x :: t, o, i, q, h => by
    unfold qm_lk at h
    cases hb : Nat.beq x.1 o && Nat.beq x.2.1 i with
    | true =>
      simp only [hb, cond_true] at h
      rw [Bool.and_eq_true] at hb
      have h1 := Nat.eq_of_beq_eq_true hb.1
      have h2 := Nat.eq_of_beq_eq_true hb.2
      cases h
      subst h1
      subst h2
      exact List.mem_cons_self
    | false =>
      simp only [hb, cond_false] at h
      exact List.mem_cons_of_mem _ (qm_lk_mem h)
theorem qm_l3_mem : ∀ {t : List (Nat × Nat × Nat)} {o i : Nat}, qm_l3 t o i = true → ∃ j, (o, i, j) ∈ t
  | [], _, _, h => by cases h
  | x :: t, o, i, h => by
    unfold qm_l3 at h
    rw [Bool.or_eq_true, Bool.and_eq_true] at h
    rcases h with ⟨h1, h2⟩ | h
    · have h1 := Nat.eq_of_beq_eq_true h1
      have h2 := Nat.eq_of_beq_eq_true h2
      subst h1
      subst h2
      exact ⟨x.2.2, List.mem_cons_self⟩
    · obtain ⟨j, hj⟩ := qm_l3_mem h
      exact ⟨j, List.mem_cons_of_mem _ hj⟩
theorem qm_li_mem : ∀ {t : List (Nat × Nat × Int32 × Nat)} {o i : Nat} {q : Int32}, qm_li t o i = some q → ∃ j, (o, i, q, j) ∈ t
  | [], _, _, _, h => by cases h
  | x :: t, o, i, q, h => by
    unfold qm_li at h
    cases hb : Nat.beq x.1 o && Nat.beq x.2.1 i with
    | true =>
      simp only [hb, cond_true] at h
      rw [Bool.and_eq_true] at hb
      have h1 := Nat.eq_of_beq_eq_true hb.1
      have h2 := Nat.eq_of_beq_eq_true hb.2
      cases h
      subst h1
      subst h2
      exact ⟨x.2.2.2, List.mem_cons_self⟩
    | false =>
      simp only [hb, cond_false] at h
      obtain ⟨j, hj⟩ := qm_li_mem h
      exact ⟨j, List.mem_cons_of_mem _ hj⟩
theorem qm_lj_mem : ∀ {t : List (Nat × Nat × Int64 × Nat)} {o i : Nat} {q : Int64}, qm_lj t o i = some q → ∃ j, (o, i, q, j) ∈ t
  | [], _, _, _, h => by cases h
  | x :: t, o, i, q, h => by
    unfold qm_lj at h
    cases hb : Nat.beq x.1 o && Nat.beq x.2.1 i with
    | true =>
      simp only [hb, cond_true] at h
      rw [Bool.and_eq_true] at hb
      have h1 := Nat.eq_of_beq_eq_true hb.1
      have h2 := Nat.eq_of_beq_eq_true hb.2
      cases h
      subst h1
      subst h2
      exact ⟨x.2.2.2, List.mem_cons_self⟩
    | false =>
      simp only [hb, cond_false] at h
      obtain ⟨j, hj⟩ := qm_lj_mem h
      exact ⟨j, List.mem_cons_of_mem _ hj⟩
theorem qm_at_mem {q : Nat} {w : Cond} (h : qm_at q = some w) : w ∈ lw_tbl := by
  unfold qm_at at h
  have h := List.mem_of_getElem? h
  generalize q / 1000 = c at h
  have hs : w ∈ tables_1 → w ∈ lw_tbl := fun z => List.mem_append_right _ z
  match c, h with
  | 0, h => exact hs (List.mem_append_left _ h)
  | 1, h => exact hs (List.mem_append_right _ (List.mem_append_left _ h))
  | 2, h => exact hs (List.mem_append_right _ (List.mem_append_right _ (List.mem_append_left _ h)))
  | 3, h => exact hs (List.mem_append_right _ (List.mem_append_right _ (List.mem_append_right _ (List.mem_append_left _ h))))
  | 4, h => exact hs (List.mem_append_right _ (List.mem_append_right _ (List.mem_append_right _ (List.mem_append_right _ (List.mem_append_left _ h)))))
  | 5, h => exact hs (List.mem_append_right _ (List.mem_append_right _ (List.mem_append_right _ (List.mem_append_right _ (List.mem_append_right _ (List.mem_append_left _ h))))))
  | 6, h => exact hs (List.mem_append_right _ (List.mem_append_right _ (List.mem_append_right _ (List.mem_append_right _ (List.mem_append_right _ (List.mem_append_right _ (List.mem_append_left _ h)))))))
  | 7, h => exact hs (List.mem_append_right _ (List.mem_append_right _ (List.mem_append_right _ (List.mem_append_right _ (List.mem_append_right _ (List.mem_append_right _ (List.mem_append_right _ (List.mem_append_left _ h))))))))
  | 8, h => exact hs (List.mem_append_right _ (List.mem_append_right _ (List.mem_append_right _ (List.mem_append_right _ (List.mem_append_right _ (List.mem_append_right _ (List.mem_append_right _ (List.mem_append_right _ (List.mem_append_left _ h)))))))))
  | 9, h => exact hs (List.mem_append_right _ (List.mem_append_right _ (List.mem_append_right _ (List.mem_append_right _ (List.mem_append_right _ (List.mem_append_right _ (List.mem_append_right _ (List.mem_append_right _ (List.mem_append_right _ (List.mem_append_left _ h))))))))))
  | 10, h => exact hs (List.mem_append_right _ (List.mem_append_right _ (List.mem_append_right _ (List.mem_append_right _ (List.mem_append_right _ (List.mem_append_right _ (List.mem_append_right _ (List.mem_append_right _ (List.mem_append_right _ (List.mem_append_right _ (h)))))))))))
  | 11, h => exact List.mem_append_left _ h
  | n + 12, h => exact absurd h List.not_mem_nil
def qm_flf (q : (Nat × Nat × Nat × Nat) × Nat) : Bool := match qm_vc[q.1.2.2.1]? with
  | some r => decide (q.1.2.2.2 < r.2.2) && decide (qm_at q.2 = some (.fieldLink (qm_cn q.1.1) q.1.2.1 (r.2.1 q.1.2.2.2).1 (r.2.1 q.1.2.2.2).2.1 (r.2.1 q.1.2.2.2).2.2.1))
  | none => false
theorem qm_flc_0 : (qm_fl_0.zip qm_flp_0).all qm_flf = true := by decide +kernel
theorem qm_flc_1 : (qm_fl_1.zip qm_flp_1).all qm_flf = true := by decide +kernel
theorem qm_flc_2 : (qm_fl_2.zip qm_flp_2).all qm_flf = true := by decide +kernel
theorem qm_flc_3 : (qm_fl_3.zip qm_flp_3).all qm_flf = true := by decide +kernel
theorem qm_flc_4 : (qm_fl_4.zip qm_flp_4).all qm_flf = true := by decide +kernel
theorem qm_flc_5 : (qm_fl_5.zip qm_flp_5).all qm_flf = true := by decide +kernel
theorem qm_fl_in {x : Nat × Nat × Nat × Nat} (hm : x ∈ qm_fl) : ∃ j, qm_flf (x, j) = true := by
  rcases List.mem_append.mp hm with hm | hm
  · exact qm_zip (by decide +kernel) qm_flc_0 hm
  rcases List.mem_append.mp hm with hm | hm
  · exact qm_zip (by decide +kernel) qm_flc_1 hm
  rcases List.mem_append.mp hm with hm | hm
  · exact qm_zip (by decide +kernel) qm_flc_2 hm
  rcases List.mem_append.mp hm with hm | hm
  · exact qm_zip (by decide +kernel) qm_flc_3 hm
  rcases List.mem_append.mp hm with hm | hm
  · exact qm_zip (by decide +kernel) qm_flc_4 hm
  exact qm_zip (by decide +kernel) qm_flc_5 hm
theorem qm_fl_use {o i a k : Nat} (h : qm_lk qm_fl o i = some (a, k)) : ∃ (C : String) (T : u_T) (N : Nat), qm_vc[a]? = some (C, T, N) ∧ k < N ∧ Cond.fieldLink (qm_cn o) i (T k).1 (T k).2.1 (T k).2.2.1 ∈ lw_tbl := by
  obtain ⟨j, hj⟩ := qm_fl_in (qm_lk_mem h)
  unfold qm_flf at hj
  dsimp only at hj
  cases hr : qm_vc[a]? with
  | none => simp [hr] at hj
  | some r =>
    simp only [hr, Bool.and_eq_true, decide_eq_true_eq] at hj
    exact ⟨r.1, r.2.1, r.2.2, rfl, hj.1, qm_at_mem hj.2⟩
def qm_mlf (q : (Nat × Nat × Nat × Nat) × Nat) : Bool := match qm_hd[q.1.2.2.1]? with
  | some e => decide (qm_at q.2 = some (bif Nat.beq q.1.2.2.2 0 then .methodLink (qm_cn q.1.1) q.1.2.1 e.2.1 else .methodLinkNest (qm_cn q.1.1) q.1.2.1 e.2.1 "BoxQuay"))
  | none => false
theorem qm_mlc_0 : (qm_ml_0.zip qm_mlp_0).all qm_mlf = true := by decide +kernel
theorem qm_mlc_1 : (qm_ml_1.zip qm_mlp_1).all qm_mlf = true := by decide +kernel
theorem qm_mlc_2 : (qm_ml_2.zip qm_mlp_2).all qm_mlf = true := by decide +kernel
theorem qm_mlc_3 : (qm_ml_3.zip qm_mlp_3).all qm_mlf = true := by decide +kernel
theorem qm_mlc_4 : (qm_ml_4.zip qm_mlp_4).all qm_mlf = true := by decide +kernel
theorem qm_mlc_5 : (qm_ml_5.zip qm_mlp_5).all qm_mlf = true := by decide +kernel
theorem qm_mlc_6 : (qm_ml_6.zip qm_mlp_6).all qm_mlf = true := by decide +kernel
theorem qm_mlc_7 : (qm_ml_7.zip qm_mlp_7).all qm_mlf = true := by decide +kernel
theorem qm_ml_in {x : Nat × Nat × Nat × Nat} (hm : x ∈ qm_ml) : ∃ j, qm_mlf (x, j) = true := by
  rcases List.mem_append.mp hm with hm | hm
  · exact qm_zip (by decide +kernel) qm_mlc_0 hm
  rcases List.mem_append.mp hm with hm | hm
  · exact qm_zip (by decide +kernel) qm_mlc_1 hm
  rcases List.mem_append.mp hm with hm | hm
  · exact qm_zip (by decide +kernel) qm_mlc_2 hm
  rcases List.mem_append.mp hm with hm | hm
  · exact qm_zip (by decide +kernel) qm_mlc_3 hm
  rcases List.mem_append.mp hm with hm | hm
  · exact qm_zip (by decide +kernel) qm_mlc_4 hm
  rcases List.mem_append.mp hm with hm | hm
  · exact qm_zip (by decide +kernel) qm_mlc_5 hm
  rcases List.mem_append.mp hm with hm | hm
  · exact qm_zip (by decide +kernel) qm_mlc_6 hm
  exact qm_zip (by decide +kernel) qm_mlc_7 hm
theorem qm_ml_use {o i j z : Nat} (h : qm_lk qm_ml o i = some (j, z)) {e : qm_Hd} (he : qm_hd[j]? = some e) : (z = 0 ∧ Cond.methodLink (qm_cn o) i e.2.1 ∈ lw_tbl) ∨ (z ≠ 0 ∧ Cond.methodLinkNest (qm_cn o) i e.2.1 "BoxQuay" ∈ lw_tbl) := by
  obtain ⟨t, ht⟩ := qm_ml_in (qm_lk_mem h)
  unfold qm_mlf at ht
  dsimp only at ht
  simp only [he, decide_eq_true_eq] at ht
  by_cases hz : z = 0
  · subst hz
    exact Or.inl ⟨rfl, qm_at_mem ht⟩
  · simp only [qm_bne hz, cond_false] at ht
    exact Or.inr ⟨hz, qm_at_mem ht⟩
def qm_mn (k : Nat) : MethodName := match k with
  | 0 => Lib.Math.max.name
  | 1 => Lib.Math.min.name
  | 2 => Lib.Math.abs.name
  | 3 => Lib.MathLoose.max_long.x
  | _ => Lib.MathLoose.min_long.x
theorem qm_mt_ck : qm_mt.all (fun q => decide (qm_at q.2.2.2 = some (.methodLink (qm_cn q.1) q.2.1 (qm_mn q.2.2.1)))) = true := by decide +kernel
theorem qm_mt_use {o i a : Nat} (h : (qm_lk qm_mt o i).map Prod.fst = some a) : Cond.methodLink (qm_cn o) i (qm_mn a) ∈ lw_tbl := by
  cases hq : qm_lk qm_mt o i with
  | none => simp [hq] at h
  | some q =>
    rw [hq] at h
    cases h
    exact qm_at_mem (of_decide_eq_true (List.all_eq_true.mp qm_mt_ck _ (qm_lk_mem hq)))
theorem qm_ol_ck : qm_ol.all (fun q => decide (qm_at q.2.2 = some (.methodLink (qm_cn q.1) q.2.1 objectInit))) = true := by decide +kernel
theorem qm_ol_use {o i : Nat} (h : qm_l3 qm_ol o i = true) : Cond.methodLink (qm_cn o) i objectInit ∈ lw_tbl := by
  obtain ⟨j, hj⟩ := qm_l3_mem h
  exact qm_at_mem (of_decide_eq_true (List.all_eq_true.mp qm_ol_ck _ hj))
theorem qm_ac_ck : qm_ac.all (fun q => decide (qm_at q.2.2 = some (.methodLink (qm_cn q.1) q.2.1 arraycopyName))) = true := by decide +kernel
theorem qm_ac_use {o i : Nat} (h : qm_l3 qm_ac o i = true) : Cond.methodLink (qm_cn o) i arraycopyName ∈ lw_tbl := by
  obtain ⟨j, hj⟩ := qm_l3_mem h
  exact qm_at_mem (of_decide_eq_true (List.all_eq_true.mp qm_ac_ck _ hj))
theorem qm_gl_ck : qm_gl.all (fun q => decide (qm_at q.2.2 = some (.classLink (qm_cn q.1) q.2.1 ("[" ++ (FieldType.array .int).toString)))) = true := by decide +kernel
theorem qm_gl_use {o i : Nat} (h : qm_l3 qm_gl o i = true) : Cond.classLink (qm_cn o) i ("[" ++ (FieldType.array .int).toString) ∈ lw_tbl := by
  obtain ⟨j, hj⟩ := qm_l3_mem h
  exact qm_at_mem (of_decide_eq_true (List.all_eq_true.mp qm_gl_ck _ hj))
theorem qm_nl_ck : qm_nl.all (fun q => match qm_vc[q.2.2.1]? with
  | some r => decide (qm_at q.2.2.2 = some (.classLink (qm_cn q.1) q.2.1 r.1))
  | none => false) = true := by decide +kernel
theorem qm_nl_use {o i a : Nat} (h : (qm_lk qm_nl o i).map Prod.fst = some a) : ∃ (C : String) (T : u_T) (N : Nat), qm_vc[a]? = some (C, T, N) ∧ Cond.classLink (qm_cn o) i C ∈ lw_tbl := by
  cases hq : qm_lk qm_nl o i with
  | none => simp [hq] at h
  | some q =>
    rw [hq] at h
    cases h
    have hj := List.all_eq_true.mp qm_nl_ck _ (qm_lk_mem hq)
    dsimp only at hj
    cases hr : qm_vc[q.1]? with
    | none => simp [hr] at hj
    | some r =>
      simp only [hr, decide_eq_true_eq] at hj
      exact ⟨r.1, r.2.1, r.2.2, rfl, qm_at_mem hj⟩
theorem qm_ki_ck : qm_ki.all (fun q => decide (qm_at q.2.2.2 = some (.constant (qm_cn q.1) q.2.1 q.2.2.1))) = true := by decide +kernel
theorem qm_ki_use {o i : Nat} {x : Int32} (h : qm_li qm_ki o i = some x) : Cond.constant (qm_cn o) i x ∈ lw_tbl := by
  obtain ⟨j, hj⟩ := qm_li_mem h
  exact qm_at_mem (of_decide_eq_true (List.all_eq_true.mp qm_ki_ck _ hj))
theorem qm_kj_ck : qm_kj.all (fun q => decide (qm_at q.2.2.2 = some (.constantLong (qm_cn q.1) q.2.1 q.2.2.1))) = true := by decide +kernel
theorem qm_kj_use {o i : Nat} {x : Int64} (h : qm_lj qm_kj o i = some x) : Cond.constantLong (qm_cn o) i x ∈ lw_tbl := by
  obtain ⟨j, hj⟩ := qm_lj_mem h
  exact qm_at_mem (of_decide_eq_true (List.all_eq_true.mp qm_kj_ck _ hj))
/-- of a class: its fields' words, its fields' types -/
def qm_clOK (ci : Nat) (r : vw_C) : Prop := (∀ w ∈ u_ws r.1 r.2.1 r.2.2, w ∈ lw_tbl) ∧ (∀ k, k < r.2.2 → parseFieldDescriptor (r.2.1 k).2.2.1 = some (qm_ty ci k)) ∧ (∀ a, a < r.2.2 → ∀ b, b < r.2.2 → a ≠ b → (r.2.1 a).2.1 ≠ (r.2.1 b).2.1) ∧ (∀ k, k < r.2.2 → qm_tyok (qm_ty ci k) = true) ∧ Cond.instantiable r.1 r.2.2 ∈ lw_tbl ∧ Cond.initialized r.1 ∈ lw_tbl ∧ (∀ k, k < r.2.2 → (r.2.1 k).1 = r.1) ∧ qm_cn ci = r.1
theorem qm_wc0 : ((List.range 6).zip qm_lp0).all (fun q => decide (qm_at q.2 = some (u_lay RX0 TX0 q.1))) = true := by decide +kernel
theorem qm_ww0 : ∀ w ∈ u_ws RX0 TX0 6, w ∈ lw_tbl := by
  intro w hw
  obtain ⟨j, hj, rfl⟩ := List.mem_map.mp hw
  obtain ⟨t, ht⟩ := qm_zip (by decide +kernel) qm_wc0 hj
  exact qm_at_mem (of_decide_eq_true ht)
theorem qm_cl0 : qm_clOK 0 (RX0, TX0, 6) := ⟨qm_ww0, tyX0_ok, nmX0, by decide +kernel, qm_at_mem (q := 1234) (by decide +kernel), qm_at_mem (q := 12) (by decide +kernel), by decide +kernel, rfl⟩
theorem qm_wc1 : ((List.range 9).zip qm_lp1).all (fun q => decide (qm_at q.2 = some (u_lay RX1 TX1 q.1))) = true := by decide +kernel
theorem qm_ww1 : ∀ w ∈ u_ws RX1 TX1 9, w ∈ lw_tbl := by
  intro w hw
  obtain ⟨j, hj, rfl⟩ := List.mem_map.mp hw
  obtain ⟨t, ht⟩ := qm_zip (by decide +kernel) qm_wc1 hj
  exact qm_at_mem (of_decide_eq_true ht)
theorem qm_cl1 : qm_clOK 1 (RX1, TX1, 9) := ⟨qm_ww1, tyX1_ok, nmX1, by decide +kernel, qm_at_mem (q := 119) (by decide +kernel), qm_at_mem (q := 4) (by decide +kernel), by decide +kernel, rfl⟩
theorem qm_wc2 : ((List.range 11).zip qm_lp2).all (fun q => decide (qm_at q.2 = some (u_lay RX2 TX2 q.1))) = true := by decide +kernel
theorem qm_ww2 : ∀ w ∈ u_ws RX2 TX2 11, w ∈ lw_tbl := by
  intro w hw
  obtain ⟨j, hj, rfl⟩ := List.mem_map.mp hw
  obtain ⟨t, ht⟩ := qm_zip (by decide +kernel) qm_wc2 hj
  exact qm_at_mem (of_decide_eq_true ht)
theorem qm_cl2 : qm_clOK 2 (RX2, TX2, 11) := ⟨qm_ww2, tyX2_ok, nmX2, by decide +kernel, qm_at_mem (q := 1135) (by decide +kernel), qm_at_mem (q := 10) (by decide +kernel), by decide +kernel, rfl⟩
theorem qm_wc3 : ((List.range 14).zip qm_lp3).all (fun q => decide (qm_at q.2 = some (u_lay RX3 TX3 q.1))) = true := by decide +kernel
theorem qm_ww3 : ∀ w ∈ u_ws RX3 TX3 14, w ∈ lw_tbl := by
  intro w hw
  obtain ⟨j, hj, rfl⟩ := List.mem_map.mp hw
  obtain ⟨t, ht⟩ := qm_zip (by decide +kernel) qm_wc3 hj
  exact qm_at_mem (of_decide_eq_true ht)
theorem qm_cl3 : qm_clOK 3 (RX3, TX3, 14) := ⟨qm_ww3, tyX3_ok, nmX3, by decide +kernel, qm_at_mem (q := 67) (by decide +kernel), qm_at_mem (q := 3) (by decide +kernel), by decide +kernel, rfl⟩
theorem qm_wc4 : ((List.range 8).zip qm_lp4).all (fun q => decide (qm_at q.2 = some (u_lay RX4 TX4 q.1))) = true := by decide +kernel
theorem qm_ww4 : ∀ w ∈ u_ws RX4 TX4 8, w ∈ lw_tbl := by
  intro w hw
  obtain ⟨j, hj, rfl⟩ := List.mem_map.mp hw
  obtain ⟨t, ht⟩ := qm_zip (by decide +kernel) qm_wc4 hj
  exact qm_at_mem (of_decide_eq_true ht)
theorem qm_cl4 : qm_clOK 4 (RX4, TX4, 8) := ⟨qm_ww4, tyX4_ok, nmX4, by decide +kernel, qm_at_mem (q := 223) (by decide +kernel), qm_at_mem (q := 6) (by decide +kernel), by decide +kernel, rfl⟩
theorem qm_wc5 : ((List.range 5).zip qm_lp5).all (fun q => decide (qm_at q.2 = some (u_lay RX5 TX5 q.1))) = true := by decide +kernel
theorem qm_ww5 : ∀ w ∈ u_ws RX5 TX5 5, w ∈ lw_tbl := by
  intro w hw
  obtain ⟨j, hj, rfl⟩ := List.mem_map.mp hw
  obtain ⟨t, ht⟩ := qm_zip (by decide +kernel) qm_wc5 hj
  exact qm_at_mem (of_decide_eq_true ht)
theorem qm_cl5 : qm_clOK 5 (RX5, TX5, 5) := ⟨qm_ww5, tyX5_ok, nmX5, by decide +kernel, qm_at_mem (q := 1113) (by decide +kernel), qm_at_mem (q := 9) (by decide +kernel), by decide +kernel, rfl⟩
theorem qm_wc6 : ((List.range 16).zip qm_lp6).all (fun q => decide (qm_at q.2 = some (u_lay RX6 TX6 q.1))) = true := by decide +kernel
theorem qm_ww6 : ∀ w ∈ u_ws RX6 TX6 16, w ∈ lw_tbl := by
  intro w hw
  obtain ⟨j, hj, rfl⟩ := List.mem_map.mp hw
  obtain ⟨t, ht⟩ := qm_zip (by decide +kernel) qm_wc6 hj
  exact qm_at_mem (of_decide_eq_true ht)
theorem qm_cl6 : qm_clOK 6 (RX6, TX6, 16) := ⟨qm_ww6, tyX6_ok, nmX6, by decide +kernel, qm_at_mem (q := 225) (by decide +kernel), qm_at_mem (q := 7) (by decide +kernel), by decide +kernel, rfl⟩
theorem qm_wc7 : ((List.range 7).zip qm_lp7).all (fun q => decide (qm_at q.2 = some (u_lay RX7 TX7 q.1))) = true := by decide +kernel
theorem qm_ww7 : ∀ w ∈ u_ws RX7 TX7 7, w ∈ lw_tbl := by
  intro w hw
  obtain ⟨j, hj, rfl⟩ := List.mem_map.mp hw
  obtain ⟨t, ht⟩ := qm_zip (by decide +kernel) qm_wc7 hj
  exact qm_at_mem (of_decide_eq_true ht)
theorem qm_cl7 : qm_clOK 7 (RX7, TX7, 7) := ⟨qm_ww7, tyX7_ok, nmX7, by decide +kernel, qm_at_mem (q := 31) (by decide +kernel), qm_at_mem (q := 2) (by decide +kernel), by decide +kernel, rfl⟩
theorem qm_wc8 : ((List.range 3).zip qm_lp8).all (fun q => decide (qm_at q.2 = some (u_lay RX8 TX8 q.1))) = true := by decide +kernel
theorem qm_ww8 : ∀ w ∈ u_ws RX8 TX8 3, w ∈ lw_tbl := by
  intro w hw
  obtain ⟨j, hj, rfl⟩ := List.mem_map.mp hw
  obtain ⟨t, ht⟩ := qm_zip (by decide +kernel) qm_wc8 hj
  exact qm_at_mem (of_decide_eq_true ht)
theorem qm_cl8 : qm_clOK 8 (RX8, TX8, 3) := ⟨qm_ww8, tyX8_ok, nmX8, by decide +kernel, qm_at_mem (q := 3055) (by decide +kernel), qm_at_mem (q := 19) (by decide +kernel), by decide +kernel, rfl⟩
theorem qm_wc9 : ((List.range 13).zip qm_lp9).all (fun q => decide (qm_at q.2 = some (u_lay RX9 TX9 q.1))) = true := by decide +kernel
theorem qm_ww9 : ∀ w ∈ u_ws RX9 TX9 13, w ∈ lw_tbl := by
  intro w hw
  obtain ⟨j, hj, rfl⟩ := List.mem_map.mp hw
  obtain ⟨t, ht⟩ := qm_zip (by decide +kernel) qm_wc9 hj
  exact qm_at_mem (of_decide_eq_true ht)
theorem qm_cl9 : qm_clOK 9 (RX9, TX9, 13) := ⟨qm_ww9, tyX9_ok, nmX9, by decide +kernel, qm_at_mem (q := 1177) (by decide +kernel), qm_at_mem (q := 11) (by decide +kernel), by decide +kernel, rfl⟩
theorem qm_wc10 : ((List.range 8).zip qm_lp10).all (fun q => decide (qm_at q.2 = some (u_lay RX10 TX10 q.1))) = true := by decide +kernel
theorem qm_ww10 : ∀ w ∈ u_ws RX10 TX10 8, w ∈ lw_tbl := by
  intro w hw
  obtain ⟨j, hj, rfl⟩ := List.mem_map.mp hw
  obtain ⟨t, ht⟩ := qm_zip (by decide +kernel) qm_wc10 hj
  exact qm_at_mem (of_decide_eq_true ht)
theorem qm_cl10 : qm_clOK 10 (RX10, TX10, 8) := ⟨qm_ww10, tyX10_ok, nmX10, by decide +kernel, qm_at_mem (q := 186) (by decide +kernel), qm_at_mem (q := 5) (by decide +kernel), by decide +kernel, rfl⟩
theorem qm_wc11 : ((List.range 10).zip qm_lp11).all (fun q => decide (qm_at q.2 = some (u_lay RX11 TX11 q.1))) = true := by decide +kernel
theorem qm_ww11 : ∀ w ∈ u_ws RX11 TX11 10, w ∈ lw_tbl := by
  intro w hw
  obtain ⟨j, hj, rfl⟩ := List.mem_map.mp hw
  obtain ⟨t, ht⟩ := qm_zip (by decide +kernel) qm_wc11 hj
  exact qm_at_mem (of_decide_eq_true ht)
theorem qm_cl11 : qm_clOK 11 (RX11, TX11, 10) := ⟨qm_ww11, tyX11_ok, nmX11, by decide +kernel, qm_at_mem (q := 23) (by decide +kernel), qm_at_mem (q := 1) (by decide +kernel), by decide +kernel, rfl⟩
theorem qm_wc12 : ((List.range 105).zip qm_lp12).all (fun q => decide (qm_at q.2 = some (u_lay RX12 TX12 q.1))) = true := by decide +kernel
theorem qm_ww12 : ∀ w ∈ u_ws RX12 TX12 105, w ∈ lw_tbl := by
  intro w hw
  obtain ⟨j, hj, rfl⟩ := List.mem_map.mp hw
  obtain ⟨t, ht⟩ := qm_zip (by decide +kernel) qm_wc12 hj
  exact qm_at_mem (of_decide_eq_true ht)
theorem qm_cl12 : qm_clOK 12 (RX12, TX12, 105) := ⟨qm_ww12, tyX12_ok, nmX12, by decide +kernel, qm_at_mem (q := 6114) (by decide +kernel), qm_at_mem (q := 13) (by decide +kernel), by decide +kernel, rfl⟩
theorem qm_cls {ci : Nat} {r : vw_C} (h : qm_vc[ci]? = some r) : qm_clOK ci r := by
  match ci, h with
  | 0, h => cases h; exact qm_cl0
  | 1, h => cases h; exact qm_cl1
  | 2, h => cases h; exact qm_cl2
  | 3, h => cases h; exact qm_cl3
  | 4, h => cases h; exact qm_cl4
  | 5, h => cases h; exact qm_cl5
  | 6, h => cases h; exact qm_cl6
  | 7, h => cases h; exact qm_cl7
  | 8, h => cases h; exact qm_cl8
  | 9, h => cases h; exact qm_cl9
  | 10, h => cases h; exact qm_cl10
  | 11, h => cases h; exact qm_cl11
  | 12, h => cases h; exact qm_cl12
  | n + 13, h => simp [qm_vc] at h
end
section
section QMS
variable {p : Program} {l : Launch} {e : Env} {R : Room} {s : State} {m : MethodId} {args : Array Value} {below : List Frame} {meth : Method} {c : Code} {Q : State → Prop}
variable {cc : ByteArray} {nL o rt : Nat} {ini : Bool} {D : va_G} {aC : Nat → ClassId} {b B L n0 t0 : Nat} {xs : Nat → Int32} {pc np a f : Nat} {v : Value} {ls st : List Value} {h : qm_H} {c' : qm_C}

theorem qm_n_iconst (C0 : qm_Cx p s m args meth c cc nL o ini D aC b B L xs) {n : Int} (hok : qm_ok qm_hd o nL ini rt cc (pc, np, .iconst n, a, f, v) = true) (hx : qm_x (L, xs) (pc, np, .iconst n, a, f, v) (pc, ls, st, h) = some (.inl c'))  (k : qm_Wm p l e R s m args below meth c D aC b B n0 t0 nL Q c') : qm_Wm p l e R s m args below meth c D aC b B n0 t0 nL Q (pc, ls, st, h) := by
  obtain ⟨hex, hb, hml, hown, hts, hK, hX, hbB, hBs, hini⟩ := C0
  simp only [qm_ok, Bool.and_eq_true, decide_eq_true_eq] at hok
  obtain ⟨hdg, hv, hn⟩ := hok
  have hnp := qm_np hn
  have hdk := qm_dg hdg hnp
  simp only [qm_x, qm_nx] at hx
  cases hx
  subst hv
  subst hnp
  intro H locs la hH hS hL
  exact lv_iconst hex hb hdk rfl (k H locs la hH hS hL)

theorem qm_n_bipush (C0 : qm_Cx p s m args meth c cc nL o ini D aC b B L xs) {n : Int} (hok : qm_ok qm_hd o nL ini rt cc (pc, np, .bipush n, a, f, v) = true) (hx : qm_x (L, xs) (pc, np, .bipush n, a, f, v) (pc, ls, st, h) = some (.inl c'))  (k : qm_Wm p l e R s m args below meth c D aC b B n0 t0 nL Q c') : qm_Wm p l e R s m args below meth c D aC b B n0 t0 nL Q (pc, ls, st, h) := by
  obtain ⟨hex, hb, hml, hown, hts, hK, hX, hbB, hBs, hini⟩ := C0
  simp only [qm_ok, Bool.and_eq_true, decide_eq_true_eq] at hok
  obtain ⟨hdg, hv, hn⟩ := hok
  have hnp := qm_np hn
  have hdk := qm_dg hdg hnp
  simp only [qm_x, qm_nx] at hx
  cases hx
  subst hv
  subst hnp
  intro H locs la hH hS hL
  exact lv_bipush hex hb hdk rfl (k H locs la hH hS hL)

theorem qm_n_sipush (C0 : qm_Cx p s m args meth c cc nL o ini D aC b B L xs) {n : Int} (hok : qm_ok qm_hd o nL ini rt cc (pc, np, .sipush n, a, f, v) = true) (hx : qm_x (L, xs) (pc, np, .sipush n, a, f, v) (pc, ls, st, h) = some (.inl c'))  (k : qm_Wm p l e R s m args below meth c D aC b B n0 t0 nL Q c') : qm_Wm p l e R s m args below meth c D aC b B n0 t0 nL Q (pc, ls, st, h) := by
  obtain ⟨hex, hb, hml, hown, hts, hK, hX, hbB, hBs, hini⟩ := C0
  simp only [qm_ok, Bool.and_eq_true, decide_eq_true_eq] at hok
  obtain ⟨hdg, hv, hn⟩ := hok
  have hnp := qm_np hn
  have hdk := qm_dg hdg hnp
  simp only [qm_x, qm_nx] at hx
  cases hx
  subst hv
  subst hnp
  intro H locs la hH hS hL
  exact lv_sipush hex hb hdk rfl (k H locs la hH hS hL)

theorem qm_n_lconst (C0 : qm_Cx p s m args meth c cc nL o ini D aC b B L xs) {n : Fin 2} (hok : qm_ok qm_hd o nL ini rt cc (pc, np, .lconst n, a, f, v) = true) (hx : qm_x (L, xs) (pc, np, .lconst n, a, f, v) (pc, ls, st, h) = some (.inl c'))  (k : qm_Wm p l e R s m args below meth c D aC b B n0 t0 nL Q c') : qm_Wm p l e R s m args below meth c D aC b B n0 t0 nL Q (pc, ls, st, h) := by
  obtain ⟨hex, hb, hml, hown, hts, hK, hX, hbB, hBs, hini⟩ := C0
  simp only [qm_ok, Bool.and_eq_true, decide_eq_true_eq] at hok
  obtain ⟨hdg, hv, hn⟩ := hok
  have hnp := qm_np hn
  have hdk := qm_dg hdg hnp
  simp only [qm_x, qm_nx] at hx
  cases hx
  subst hv
  subst hnp
  intro H locs la hH hS hL
  exact lv_lconst hex hb hdk rfl (k H locs la hH hS hL)

theorem qm_n_iload (C0 : qm_Cx p s m args meth c cc nL o ini D aC b B L xs) {i : Nat} (hok : qm_ok qm_hd o nL ini rt cc (pc, np, .iload i, a, f, v) = true) (hx : qm_x (L, xs) (pc, np, .iload i, a, f, v) (pc, ls, st, h) = some (.inl c'))  (k : qm_Wm p l e R s m args below meth c D aC b B n0 t0 nL Q c') : qm_Wm p l e R s m args below meth c D aC b B n0 t0 nL Q (pc, ls, st, h) := by
  obtain ⟨hex, hb, hml, hown, hts, hK, hX, hbB, hBs, hini⟩ := C0
  simp only [qm_ok, Bool.and_eq_true, decide_eq_true_eq] at hok
  obtain ⟨hdg, ha, hn⟩ := hok
  have hnp := qm_np hn
  have hdk := qm_dg hdg hnp
  have ha := Nat.eq_of_beq_eq_true ha
  subst ha
  simp only [qm_x, qm_nx] at hx
  split at hx
  · rename_i x hl
    cases hx
    subst hnp
    intro H locs la hH hS hL
    exact lv_iload hex hb hdk (hL.at hl rfl) (k H locs la hH hS hL)
  · cases hx

theorem qm_n_iload_n (C0 : qm_Cx p s m args meth c cc nL o ini D aC b B L xs) {i : Fin 4} (hok : qm_ok qm_hd o nL ini rt cc (pc, np, .iload_n i, a, f, v) = true) (hx : qm_x (L, xs) (pc, np, .iload_n i, a, f, v) (pc, ls, st, h) = some (.inl c'))  (k : qm_Wm p l e R s m args below meth c D aC b B n0 t0 nL Q c') : qm_Wm p l e R s m args below meth c D aC b B n0 t0 nL Q (pc, ls, st, h) := by
  obtain ⟨hex, hb, hml, hown, hts, hK, hX, hbB, hBs, hini⟩ := C0
  simp only [qm_ok, Bool.and_eq_true, decide_eq_true_eq] at hok
  obtain ⟨hdg, ha, hn⟩ := hok
  have hnp := qm_np hn
  have hdk := qm_dg hdg hnp
  have ha := Nat.eq_of_beq_eq_true ha
  subst ha
  simp only [qm_x, qm_nx] at hx
  split at hx
  · rename_i x hl
    cases hx
    subst hnp
    intro H locs la hH hS hL
    exact lv_iload_n hex hb hdk rfl (hL.at hl rfl) (k H locs la hH hS hL)
  · cases hx

theorem qm_n_lload (C0 : qm_Cx p s m args meth c cc nL o ini D aC b B L xs) {i : Nat} (hok : qm_ok qm_hd o nL ini rt cc (pc, np, .lload i, a, f, v) = true) (hx : qm_x (L, xs) (pc, np, .lload i, a, f, v) (pc, ls, st, h) = some (.inl c'))  (k : qm_Wm p l e R s m args below meth c D aC b B n0 t0 nL Q c') : qm_Wm p l e R s m args below meth c D aC b B n0 t0 nL Q (pc, ls, st, h) := by
  obtain ⟨hex, hb, hml, hown, hts, hK, hX, hbB, hBs, hini⟩ := C0
  simp only [qm_ok, Bool.and_eq_true, decide_eq_true_eq] at hok
  obtain ⟨hdg, ha, hn⟩ := hok
  have hnp := qm_np hn
  have hdk := qm_dg hdg hnp
  have ha := Nat.eq_of_beq_eq_true ha
  subst ha
  simp only [qm_x, qm_nx] at hx
  split at hx
  · rename_i x hl
    cases hx
    subst hnp
    intro H locs la hH hS hL
    exact lv_lload hex hb hdk (hL.at hl rfl) (k H locs la hH hS hL)
  · cases hx

theorem qm_n_lload_n (C0 : qm_Cx p s m args meth c cc nL o ini D aC b B L xs) {i : Fin 4} (hok : qm_ok qm_hd o nL ini rt cc (pc, np, .lload_n i, a, f, v) = true) (hx : qm_x (L, xs) (pc, np, .lload_n i, a, f, v) (pc, ls, st, h) = some (.inl c'))  (k : qm_Wm p l e R s m args below meth c D aC b B n0 t0 nL Q c') : qm_Wm p l e R s m args below meth c D aC b B n0 t0 nL Q (pc, ls, st, h) := by
  obtain ⟨hex, hb, hml, hown, hts, hK, hX, hbB, hBs, hini⟩ := C0
  simp only [qm_ok, Bool.and_eq_true, decide_eq_true_eq] at hok
  obtain ⟨hdg, ha, hn⟩ := hok
  have hnp := qm_np hn
  have hdk := qm_dg hdg hnp
  have ha := Nat.eq_of_beq_eq_true ha
  subst ha
  simp only [qm_x, qm_nx] at hx
  split at hx
  · rename_i x hl
    cases hx
    subst hnp
    intro H locs la hH hS hL
    exact lv_lload_n hex hb hdk rfl (hL.at hl rfl) (k H locs la hH hS hL)
  · cases hx

theorem qm_n_aload (C0 : qm_Cx p s m args meth c cc nL o ini D aC b B L xs) {i : Nat} (hok : qm_ok qm_hd o nL ini rt cc (pc, np, .aload i, a, f, v) = true) (hx : qm_x (L, xs) (pc, np, .aload i, a, f, v) (pc, ls, st, h) = some (.inl c'))  (k : qm_Wm p l e R s m args below meth c D aC b B n0 t0 nL Q c') : qm_Wm p l e R s m args below meth c D aC b B n0 t0 nL Q (pc, ls, st, h) := by
  obtain ⟨hex, hb, hml, hown, hts, hK, hX, hbB, hBs, hini⟩ := C0
  simp only [qm_ok, Bool.and_eq_true, decide_eq_true_eq] at hok
  obtain ⟨hdg, ha, hn⟩ := hok
  have hnp := qm_np hn
  have hdk := qm_dg hdg hnp
  have ha := Nat.eq_of_beq_eq_true ha
  subst ha
  simp only [qm_x, qm_nx] at hx
  split at hx
  · rename_i x hl
    cases hx
    subst hnp
    intro H locs la hH hS hL
    exact lv_aload hex hb hdk (hL.at hl rfl) (k H locs la hH hS hL)
  · rename_i x hl
    cases hx
    subst hnp
    intro H locs la hH hS hL
    exact lv_aload hex hb hdk (hL.at hl rfl) (k H locs la hH hS hL)
  · cases hx

theorem qm_n_aload_n (C0 : qm_Cx p s m args meth c cc nL o ini D aC b B L xs) {i : Fin 4} (hok : qm_ok qm_hd o nL ini rt cc (pc, np, .aload_n i, a, f, v) = true) (hx : qm_x (L, xs) (pc, np, .aload_n i, a, f, v) (pc, ls, st, h) = some (.inl c'))  (k : qm_Wm p l e R s m args below meth c D aC b B n0 t0 nL Q c') : qm_Wm p l e R s m args below meth c D aC b B n0 t0 nL Q (pc, ls, st, h) := by
  obtain ⟨hex, hb, hml, hown, hts, hK, hX, hbB, hBs, hini⟩ := C0
  simp only [qm_ok, Bool.and_eq_true, decide_eq_true_eq] at hok
  obtain ⟨hdg, ha, hn⟩ := hok
  have hnp := qm_np hn
  have hdk := qm_dg hdg hnp
  have ha := Nat.eq_of_beq_eq_true ha
  subst ha
  simp only [qm_x, qm_nx] at hx
  split at hx
  · rename_i x hl
    cases hx
    subst hnp
    intro H locs la hH hS hL
    exact lv_aload_n hex hb hdk rfl (hL.at hl rfl) (k H locs la hH hS hL)
  · rename_i x hl
    cases hx
    subst hnp
    intro H locs la hH hS hL
    exact lv_aload_n hex hb hdk rfl (hL.at hl rfl) (k H locs la hH hS hL)
  · cases hx

theorem qm_n_istore (C0 : qm_Cx p s m args meth c cc nL o ini D aC b B L xs) {i : Nat} (hok : qm_ok qm_hd o nL ini rt cc (pc, np, .istore i, a, f, v) = true) (hx : qm_x (L, xs) (pc, np, .istore i, a, f, v) (pc, ls, st, h) = some (.inl c'))  (k : qm_Wm p l e R s m args below meth c D aC b B n0 t0 nL Q c') : qm_Wm p l e R s m args below meth c D aC b B n0 t0 nL Q (pc, ls, st, h) := by
  obtain ⟨hex, hb, hml, hown, hts, hK, hX, hbB, hBs, hini⟩ := C0
  simp only [qm_ok, Bool.and_eq_true, decide_eq_true_eq] at hok
  obtain ⟨hdg, ⟨ha, hlt⟩, hn⟩ := hok
  have hnp := qm_np hn
  have hdk := qm_dg hdg hnp
  have ha := Nat.eq_of_beq_eq_true ha
  have hlt := Nat.le_of_ble_eq_true hlt
  subst ha
  simp only [qm_x, qm_nx] at hx
  split at hx
  · rename_i x r
    cases hx
    subst hnp
    intro H locs la hH hS hL
    exact lv_istore hex hb hdk hL.2 hlt rfl (fun la' h' => k H locs la' hH hS (hL.s1 (v := .int x) h'))
  · cases hx

theorem qm_n_istore_n (C0 : qm_Cx p s m args meth c cc nL o ini D aC b B L xs) {i : Fin 4} (hok : qm_ok qm_hd o nL ini rt cc (pc, np, .istore_n i, a, f, v) = true) (hx : qm_x (L, xs) (pc, np, .istore_n i, a, f, v) (pc, ls, st, h) = some (.inl c'))  (k : qm_Wm p l e R s m args below meth c D aC b B n0 t0 nL Q c') : qm_Wm p l e R s m args below meth c D aC b B n0 t0 nL Q (pc, ls, st, h) := by
  obtain ⟨hex, hb, hml, hown, hts, hK, hX, hbB, hBs, hini⟩ := C0
  simp only [qm_ok, Bool.and_eq_true, decide_eq_true_eq] at hok
  obtain ⟨hdg, ⟨ha, hlt⟩, hn⟩ := hok
  have hnp := qm_np hn
  have hdk := qm_dg hdg hnp
  have ha := Nat.eq_of_beq_eq_true ha
  have hlt := Nat.le_of_ble_eq_true hlt
  subst ha
  simp only [qm_x, qm_nx] at hx
  split at hx
  · rename_i x r
    cases hx
    subst hnp
    intro H locs la hH hS hL
    exact lv_istore_n hex hb hdk rfl hL.2 hlt rfl (fun la' h' => k H locs la' hH hS (hL.s1 (v := .int x) h'))
  · cases hx

theorem qm_n_lstore (C0 : qm_Cx p s m args meth c cc nL o ini D aC b B L xs) {i : Nat} (hok : qm_ok qm_hd o nL ini rt cc (pc, np, .lstore i, a, f, v) = true) (hx : qm_x (L, xs) (pc, np, .lstore i, a, f, v) (pc, ls, st, h) = some (.inl c'))  (k : qm_Wm p l e R s m args below meth c D aC b B n0 t0 nL Q c') : qm_Wm p l e R s m args below meth c D aC b B n0 t0 nL Q (pc, ls, st, h) := by
  obtain ⟨hex, hb, hml, hown, hts, hK, hX, hbB, hBs, hini⟩ := C0
  simp only [qm_ok, Bool.and_eq_true, decide_eq_true_eq] at hok
  obtain ⟨hdg, ⟨ha, hlt⟩, hn⟩ := hok
  have hnp := qm_np hn
  have hdk := qm_dg hdg hnp
  have ha := Nat.eq_of_beq_eq_true ha
  have hlt := Nat.le_of_ble_eq_true hlt
  subst ha
  simp only [qm_x, qm_nx] at hx
  split at hx
  · rename_i x r
    cases hx
    subst hnp
    intro H locs la hH hS hL
    exact lv_lstore hex hb hdk hL.2 hlt rfl (fun la' h' => k H locs la' hH hS (hL.s2 (v := .long x) h'))
  · cases hx

theorem qm_n_lstore_n (C0 : qm_Cx p s m args meth c cc nL o ini D aC b B L xs) {i : Fin 4} (hok : qm_ok qm_hd o nL ini rt cc (pc, np, .lstore_n i, a, f, v) = true) (hx : qm_x (L, xs) (pc, np, .lstore_n i, a, f, v) (pc, ls, st, h) = some (.inl c'))  (k : qm_Wm p l e R s m args below meth c D aC b B n0 t0 nL Q c') : qm_Wm p l e R s m args below meth c D aC b B n0 t0 nL Q (pc, ls, st, h) := by
  obtain ⟨hex, hb, hml, hown, hts, hK, hX, hbB, hBs, hini⟩ := C0
  simp only [qm_ok, Bool.and_eq_true, decide_eq_true_eq] at hok
  obtain ⟨hdg, ⟨ha, hlt⟩, hn⟩ := hok
  have hnp := qm_np hn
  have hdk := qm_dg hdg hnp
  have ha := Nat.eq_of_beq_eq_true ha
  have hlt := Nat.le_of_ble_eq_true hlt
  subst ha
  simp only [qm_x, qm_nx] at hx
  split at hx
  · rename_i x r
    cases hx
    subst hnp
    intro H locs la hH hS hL
    exact lv_lstore_n hex hb hdk rfl hL.2 hlt rfl (fun la' h' => k H locs la' hH hS (hL.s2 (v := .long x) h'))
  · cases hx

theorem qm_n_astore (C0 : qm_Cx p s m args meth c cc nL o ini D aC b B L xs) {i : Nat} (hok : qm_ok qm_hd o nL ini rt cc (pc, np, .astore i, a, f, v) = true) (hx : qm_x (L, xs) (pc, np, .astore i, a, f, v) (pc, ls, st, h) = some (.inl c'))  (k : qm_Wm p l e R s m args below meth c D aC b B n0 t0 nL Q c') : qm_Wm p l e R s m args below meth c D aC b B n0 t0 nL Q (pc, ls, st, h) := by
  obtain ⟨hex, hb, hml, hown, hts, hK, hX, hbB, hBs, hini⟩ := C0
  simp only [qm_ok, Bool.and_eq_true, decide_eq_true_eq] at hok
  obtain ⟨hdg, ⟨ha, hlt⟩, hn⟩ := hok
  have hnp := qm_np hn
  have hdk := qm_dg hdg hnp
  have ha := Nat.eq_of_beq_eq_true ha
  have hlt := Nat.le_of_ble_eq_true hlt
  subst ha
  simp only [qm_x, qm_nx] at hx
  split at hx
  · rename_i x r
    cases hx
    subst hnp
    intro H locs la hH hS hL
    exact lv_astore hex hb hdk hL.2 hlt rfl (fun la' h' => k H locs la' hH hS (hL.s1 (v := .ref x) h'))
  · cases hx

theorem qm_n_astore_n (C0 : qm_Cx p s m args meth c cc nL o ini D aC b B L xs) {i : Fin 4} (hok : qm_ok qm_hd o nL ini rt cc (pc, np, .astore_n i, a, f, v) = true) (hx : qm_x (L, xs) (pc, np, .astore_n i, a, f, v) (pc, ls, st, h) = some (.inl c'))  (k : qm_Wm p l e R s m args below meth c D aC b B n0 t0 nL Q c') : qm_Wm p l e R s m args below meth c D aC b B n0 t0 nL Q (pc, ls, st, h) := by
  obtain ⟨hex, hb, hml, hown, hts, hK, hX, hbB, hBs, hini⟩ := C0
  simp only [qm_ok, Bool.and_eq_true, decide_eq_true_eq] at hok
  obtain ⟨hdg, ⟨ha, hlt⟩, hn⟩ := hok
  have hnp := qm_np hn
  have hdk := qm_dg hdg hnp
  have ha := Nat.eq_of_beq_eq_true ha
  have hlt := Nat.le_of_ble_eq_true hlt
  subst ha
  simp only [qm_x, qm_nx] at hx
  split at hx
  · rename_i x r
    cases hx
    subst hnp
    intro H locs la hH hS hL
    exact lv_astore_n hex hb hdk rfl hL.2 hlt rfl (fun la' h' => k H locs la' hH hS (hL.s1 (v := .ref x) h'))
  · cases hx

theorem qm_n_iinc (C0 : qm_Cx p s m args meth c cc nL o ini D aC b B L xs) {i : Nat} {n : Int} (hok : qm_ok qm_hd o nL ini rt cc (pc, np, .iinc i n, a, f, v) = true) (hx : qm_x (L, xs) (pc, np, .iinc i n, a, f, v) (pc, ls, st, h) = some (.inl c'))  (k : qm_Wm p l e R s m args below meth c D aC b B n0 t0 nL Q c') : qm_Wm p l e R s m args below meth c D aC b B n0 t0 nL Q (pc, ls, st, h) := by
  obtain ⟨hex, hb, hml, hown, hts, hK, hX, hbB, hBs, hini⟩ := C0
  simp only [qm_ok, Bool.and_eq_true, decide_eq_true_eq] at hok
  obtain ⟨hdg, ⟨⟨ha, hlt⟩, hv⟩, hn⟩ := hok
  have hnp := qm_np hn
  have hdk := qm_dg hdg hnp
  have ha := Nat.eq_of_beq_eq_true ha
  have hlt := Nat.le_of_ble_eq_true hlt
  subst ha
  subst hv
  simp only [qm_x, qm_nx] at hx
  split at hx
  · rename_i x y hl hy
    cases hy
    cases hx
    subst hnp
    intro H locs la hH hS hL
    obtain ⟨q, hq⟩ := List.getElem?_of_mem (qm_pr_mem.mpr ⟨_, hl, rfl, rfl⟩ : (a, Value.int x) ∈ qm_pr b B ls)
    exact lv_iinc hex hb hdk hL.2 hq rfl hlt rfl (fun la' h' => k H locs la' hH hS (hL.s1 (v := .int (x + Int32.ofInt n)) h'))
  · cases hx

theorem qm_n_iadd (C0 : qm_Cx p s m args meth c cc nL o ini D aC b B L xs)  (hok : qm_ok qm_hd o nL ini rt cc (pc, np, .iadd, a, f, v) = true) (hx : qm_x (L, xs) (pc, np, .iadd, a, f, v) (pc, ls, st, h) = some (.inl c'))  (k : qm_Wm p l e R s m args below meth c D aC b B n0 t0 nL Q c') : qm_Wm p l e R s m args below meth c D aC b B n0 t0 nL Q (pc, ls, st, h) := by
  obtain ⟨hex, hb, hml, hown, hts, hK, hX, hbB, hBs, hini⟩ := C0
  simp only [qm_ok, Bool.and_eq_true, decide_eq_true_eq] at hok
  obtain ⟨hdg, hn⟩ := hok
  have hnp := qm_np hn
  have hdk := qm_dg hdg hnp
  simp only [qm_x, qm_nx] at hx
  split at hx
  · cases hx
    subst hnp
    intro H locs la hH hS hL
    exact lv_iadd hex hb hdk (k H locs la hH hS hL)
  · cases hx

theorem qm_n_isub (C0 : qm_Cx p s m args meth c cc nL o ini D aC b B L xs)  (hok : qm_ok qm_hd o nL ini rt cc (pc, np, .isub, a, f, v) = true) (hx : qm_x (L, xs) (pc, np, .isub, a, f, v) (pc, ls, st, h) = some (.inl c'))  (k : qm_Wm p l e R s m args below meth c D aC b B n0 t0 nL Q c') : qm_Wm p l e R s m args below meth c D aC b B n0 t0 nL Q (pc, ls, st, h) := by
  obtain ⟨hex, hb, hml, hown, hts, hK, hX, hbB, hBs, hini⟩ := C0
  simp only [qm_ok, Bool.and_eq_true, decide_eq_true_eq] at hok
  obtain ⟨hdg, hn⟩ := hok
  have hnp := qm_np hn
  have hdk := qm_dg hdg hnp
  simp only [qm_x, qm_nx] at hx
  split at hx
  · cases hx
    subst hnp
    intro H locs la hH hS hL
    exact lv_isub hex hb hdk (k H locs la hH hS hL)
  · cases hx

theorem qm_n_imul (C0 : qm_Cx p s m args meth c cc nL o ini D aC b B L xs)  (hok : qm_ok qm_hd o nL ini rt cc (pc, np, .imul, a, f, v) = true) (hx : qm_x (L, xs) (pc, np, .imul, a, f, v) (pc, ls, st, h) = some (.inl c'))  (k : qm_Wm p l e R s m args below meth c D aC b B n0 t0 nL Q c') : qm_Wm p l e R s m args below meth c D aC b B n0 t0 nL Q (pc, ls, st, h) := by
  obtain ⟨hex, hb, hml, hown, hts, hK, hX, hbB, hBs, hini⟩ := C0
  simp only [qm_ok, Bool.and_eq_true, decide_eq_true_eq] at hok
  obtain ⟨hdg, hn⟩ := hok
  have hnp := qm_np hn
  have hdk := qm_dg hdg hnp
  simp only [qm_x, qm_nx] at hx
  split at hx
  · cases hx
    subst hnp
    intro H locs la hH hS hL
    exact lv_imul hex hb hdk (k H locs la hH hS hL)
  · cases hx

theorem qm_n_iand (C0 : qm_Cx p s m args meth c cc nL o ini D aC b B L xs)  (hok : qm_ok qm_hd o nL ini rt cc (pc, np, .iand, a, f, v) = true) (hx : qm_x (L, xs) (pc, np, .iand, a, f, v) (pc, ls, st, h) = some (.inl c'))  (k : qm_Wm p l e R s m args below meth c D aC b B n0 t0 nL Q c') : qm_Wm p l e R s m args below meth c D aC b B n0 t0 nL Q (pc, ls, st, h) := by
  obtain ⟨hex, hb, hml, hown, hts, hK, hX, hbB, hBs, hini⟩ := C0
  simp only [qm_ok, Bool.and_eq_true, decide_eq_true_eq] at hok
  obtain ⟨hdg, hn⟩ := hok
  have hnp := qm_np hn
  have hdk := qm_dg hdg hnp
  simp only [qm_x, qm_nx] at hx
  split at hx
  · cases hx
    subst hnp
    intro H locs la hH hS hL
    exact lv_iand hex hb hdk (k H locs la hH hS hL)
  · cases hx

theorem qm_n_ior (C0 : qm_Cx p s m args meth c cc nL o ini D aC b B L xs)  (hok : qm_ok qm_hd o nL ini rt cc (pc, np, .ior, a, f, v) = true) (hx : qm_x (L, xs) (pc, np, .ior, a, f, v) (pc, ls, st, h) = some (.inl c'))  (k : qm_Wm p l e R s m args below meth c D aC b B n0 t0 nL Q c') : qm_Wm p l e R s m args below meth c D aC b B n0 t0 nL Q (pc, ls, st, h) := by
  obtain ⟨hex, hb, hml, hown, hts, hK, hX, hbB, hBs, hini⟩ := C0
  simp only [qm_ok, Bool.and_eq_true, decide_eq_true_eq] at hok
  obtain ⟨hdg, hn⟩ := hok
  have hnp := qm_np hn
  have hdk := qm_dg hdg hnp
  simp only [qm_x, qm_nx] at hx
  split at hx
  · cases hx
    subst hnp
    intro H locs la hH hS hL
    exact lv_ior hex hb hdk (k H locs la hH hS hL)
  · cases hx

theorem qm_n_ixor (C0 : qm_Cx p s m args meth c cc nL o ini D aC b B L xs)  (hok : qm_ok qm_hd o nL ini rt cc (pc, np, .ixor, a, f, v) = true) (hx : qm_x (L, xs) (pc, np, .ixor, a, f, v) (pc, ls, st, h) = some (.inl c'))  (k : qm_Wm p l e R s m args below meth c D aC b B n0 t0 nL Q c') : qm_Wm p l e R s m args below meth c D aC b B n0 t0 nL Q (pc, ls, st, h) := by
  obtain ⟨hex, hb, hml, hown, hts, hK, hX, hbB, hBs, hini⟩ := C0
  simp only [qm_ok, Bool.and_eq_true, decide_eq_true_eq] at hok
  obtain ⟨hdg, hn⟩ := hok
  have hnp := qm_np hn
  have hdk := qm_dg hdg hnp
  simp only [qm_x, qm_nx] at hx
  split at hx
  · cases hx
    subst hnp
    intro H locs la hH hS hL
    exact lv_ixor hex hb hdk (k H locs la hH hS hL)
  · cases hx

theorem qm_n_ishl (C0 : qm_Cx p s m args meth c cc nL o ini D aC b B L xs)  (hok : qm_ok qm_hd o nL ini rt cc (pc, np, .ishl, a, f, v) = true) (hx : qm_x (L, xs) (pc, np, .ishl, a, f, v) (pc, ls, st, h) = some (.inl c'))  (k : qm_Wm p l e R s m args below meth c D aC b B n0 t0 nL Q c') : qm_Wm p l e R s m args below meth c D aC b B n0 t0 nL Q (pc, ls, st, h) := by
  obtain ⟨hex, hb, hml, hown, hts, hK, hX, hbB, hBs, hini⟩ := C0
  simp only [qm_ok, Bool.and_eq_true, decide_eq_true_eq] at hok
  obtain ⟨hdg, hn⟩ := hok
  have hnp := qm_np hn
  have hdk := qm_dg hdg hnp
  simp only [qm_x, qm_nx] at hx
  split at hx
  · cases hx
    subst hnp
    intro H locs la hH hS hL
    exact lv_ishl hex hb hdk (k H locs la hH hS hL)
  · cases hx

theorem qm_n_ishr (C0 : qm_Cx p s m args meth c cc nL o ini D aC b B L xs)  (hok : qm_ok qm_hd o nL ini rt cc (pc, np, .ishr, a, f, v) = true) (hx : qm_x (L, xs) (pc, np, .ishr, a, f, v) (pc, ls, st, h) = some (.inl c'))  (k : qm_Wm p l e R s m args below meth c D aC b B n0 t0 nL Q c') : qm_Wm p l e R s m args below meth c D aC b B n0 t0 nL Q (pc, ls, st, h) := by
  obtain ⟨hex, hb, hml, hown, hts, hK, hX, hbB, hBs, hini⟩ := C0
  simp only [qm_ok, Bool.and_eq_true, decide_eq_true_eq] at hok
  obtain ⟨hdg, hn⟩ := hok
  have hnp := qm_np hn
  have hdk := qm_dg hdg hnp
  simp only [qm_x, qm_nx] at hx
  split at hx
  · cases hx
    subst hnp
    intro H locs la hH hS hL
    exact lv_ishr hex hb hdk (k H locs la hH hS hL)
  · cases hx

theorem qm_n_ladd (C0 : qm_Cx p s m args meth c cc nL o ini D aC b B L xs)  (hok : qm_ok qm_hd o nL ini rt cc (pc, np, .ladd, a, f, v) = true) (hx : qm_x (L, xs) (pc, np, .ladd, a, f, v) (pc, ls, st, h) = some (.inl c'))  (k : qm_Wm p l e R s m args below meth c D aC b B n0 t0 nL Q c') : qm_Wm p l e R s m args below meth c D aC b B n0 t0 nL Q (pc, ls, st, h) := by
  obtain ⟨hex, hb, hml, hown, hts, hK, hX, hbB, hBs, hini⟩ := C0
  simp only [qm_ok, Bool.and_eq_true, decide_eq_true_eq] at hok
  obtain ⟨hdg, hn⟩ := hok
  have hnp := qm_np hn
  have hdk := qm_dg hdg hnp
  simp only [qm_x, qm_nx] at hx
  split at hx
  · cases hx
    subst hnp
    intro H locs la hH hS hL
    exact lv_ladd hex hb hdk (k H locs la hH hS hL)
  · cases hx

theorem qm_n_lsub (C0 : qm_Cx p s m args meth c cc nL o ini D aC b B L xs)  (hok : qm_ok qm_hd o nL ini rt cc (pc, np, .lsub, a, f, v) = true) (hx : qm_x (L, xs) (pc, np, .lsub, a, f, v) (pc, ls, st, h) = some (.inl c'))  (k : qm_Wm p l e R s m args below meth c D aC b B n0 t0 nL Q c') : qm_Wm p l e R s m args below meth c D aC b B n0 t0 nL Q (pc, ls, st, h) := by
  obtain ⟨hex, hb, hml, hown, hts, hK, hX, hbB, hBs, hini⟩ := C0
  simp only [qm_ok, Bool.and_eq_true, decide_eq_true_eq] at hok
  obtain ⟨hdg, hn⟩ := hok
  have hnp := qm_np hn
  have hdk := qm_dg hdg hnp
  simp only [qm_x, qm_nx] at hx
  split at hx
  · cases hx
    subst hnp
    intro H locs la hH hS hL
    exact lv_lsub hex hb hdk (k H locs la hH hS hL)
  · cases hx

theorem qm_n_lmul (C0 : qm_Cx p s m args meth c cc nL o ini D aC b B L xs)  (hok : qm_ok qm_hd o nL ini rt cc (pc, np, .lmul, a, f, v) = true) (hx : qm_x (L, xs) (pc, np, .lmul, a, f, v) (pc, ls, st, h) = some (.inl c'))  (k : qm_Wm p l e R s m args below meth c D aC b B n0 t0 nL Q c') : qm_Wm p l e R s m args below meth c D aC b B n0 t0 nL Q (pc, ls, st, h) := by
  obtain ⟨hex, hb, hml, hown, hts, hK, hX, hbB, hBs, hini⟩ := C0
  simp only [qm_ok, Bool.and_eq_true, decide_eq_true_eq] at hok
  obtain ⟨hdg, hn⟩ := hok
  have hnp := qm_np hn
  have hdk := qm_dg hdg hnp
  simp only [qm_x, qm_nx] at hx
  split at hx
  · cases hx
    subst hnp
    intro H locs la hH hS hL
    exact lv_lmul hex hb hdk (k H locs la hH hS hL)
  · cases hx

theorem qm_n_land (C0 : qm_Cx p s m args meth c cc nL o ini D aC b B L xs)  (hok : qm_ok qm_hd o nL ini rt cc (pc, np, .land, a, f, v) = true) (hx : qm_x (L, xs) (pc, np, .land, a, f, v) (pc, ls, st, h) = some (.inl c'))  (k : qm_Wm p l e R s m args below meth c D aC b B n0 t0 nL Q c') : qm_Wm p l e R s m args below meth c D aC b B n0 t0 nL Q (pc, ls, st, h) := by
  obtain ⟨hex, hb, hml, hown, hts, hK, hX, hbB, hBs, hini⟩ := C0
  simp only [qm_ok, Bool.and_eq_true, decide_eq_true_eq] at hok
  obtain ⟨hdg, hn⟩ := hok
  have hnp := qm_np hn
  have hdk := qm_dg hdg hnp
  simp only [qm_x, qm_nx] at hx
  split at hx
  · cases hx
    subst hnp
    intro H locs la hH hS hL
    exact lv_land hex hb hdk (k H locs la hH hS hL)
  · cases hx

theorem qm_n_lor (C0 : qm_Cx p s m args meth c cc nL o ini D aC b B L xs)  (hok : qm_ok qm_hd o nL ini rt cc (pc, np, .lor, a, f, v) = true) (hx : qm_x (L, xs) (pc, np, .lor, a, f, v) (pc, ls, st, h) = some (.inl c'))  (k : qm_Wm p l e R s m args below meth c D aC b B n0 t0 nL Q c') : qm_Wm p l e R s m args below meth c D aC b B n0 t0 nL Q (pc, ls, st, h) := by
  obtain ⟨hex, hb, hml, hown, hts, hK, hX, hbB, hBs, hini⟩ := C0
  simp only [qm_ok, Bool.and_eq_true, decide_eq_true_eq] at hok
  obtain ⟨hdg, hn⟩ := hok
  have hnp := qm_np hn
  have hdk := qm_dg hdg hnp
  simp only [qm_x, qm_nx] at hx
  split at hx
  · cases hx
    subst hnp
    intro H locs la hH hS hL
    exact lv_lor hex hb hdk (k H locs la hH hS hL)
  · cases hx

theorem qm_n_iushr (C0 : qm_Cx p s m args meth c cc nL o ini D aC b B L xs)  (hok : qm_ok qm_hd o nL ini rt cc (pc, np, .iushr, a, f, v) = true) (hx : qm_x (L, xs) (pc, np, .iushr, a, f, v) (pc, ls, st, h) = some (.inl c'))  (k : qm_Wm p l e R s m args below meth c D aC b B n0 t0 nL Q c') : qm_Wm p l e R s m args below meth c D aC b B n0 t0 nL Q (pc, ls, st, h) := by
  obtain ⟨hex, hb, hml, hown, hts, hK, hX, hbB, hBs, hini⟩ := C0
  simp only [qm_ok, Bool.and_eq_true, decide_eq_true_eq] at hok
  obtain ⟨hdg, hn⟩ := hok
  have hnp := qm_np hn
  have hdk := qm_dg hdg hnp
  simp only [qm_x, qm_nx] at hx
  split at hx
  · cases hx
    subst hnp
    intro H locs la hH hS hL
    exact lv_iushr hex hb hdk rfl (k H locs la hH hS hL)
  · cases hx

theorem qm_n_lshl (C0 : qm_Cx p s m args meth c cc nL o ini D aC b B L xs)  (hok : qm_ok qm_hd o nL ini rt cc (pc, np, .lshl, a, f, v) = true) (hx : qm_x (L, xs) (pc, np, .lshl, a, f, v) (pc, ls, st, h) = some (.inl c'))  (k : qm_Wm p l e R s m args below meth c D aC b B n0 t0 nL Q c') : qm_Wm p l e R s m args below meth c D aC b B n0 t0 nL Q (pc, ls, st, h) := by
  obtain ⟨hex, hb, hml, hown, hts, hK, hX, hbB, hBs, hini⟩ := C0
  simp only [qm_ok, Bool.and_eq_true, decide_eq_true_eq] at hok
  obtain ⟨hdg, hn⟩ := hok
  have hnp := qm_np hn
  have hdk := qm_dg hdg hnp
  simp only [qm_x, qm_nx] at hx
  split at hx
  · cases hx
    subst hnp
    intro H locs la hH hS hL
    exact lv_lshl hex hb hdk rfl (k H locs la hH hS hL)
  · cases hx

theorem qm_n_lshr (C0 : qm_Cx p s m args meth c cc nL o ini D aC b B L xs)  (hok : qm_ok qm_hd o nL ini rt cc (pc, np, .lshr, a, f, v) = true) (hx : qm_x (L, xs) (pc, np, .lshr, a, f, v) (pc, ls, st, h) = some (.inl c'))  (k : qm_Wm p l e R s m args below meth c D aC b B n0 t0 nL Q c') : qm_Wm p l e R s m args below meth c D aC b B n0 t0 nL Q (pc, ls, st, h) := by
  obtain ⟨hex, hb, hml, hown, hts, hK, hX, hbB, hBs, hini⟩ := C0
  simp only [qm_ok, Bool.and_eq_true, decide_eq_true_eq] at hok
  obtain ⟨hdg, hn⟩ := hok
  have hnp := qm_np hn
  have hdk := qm_dg hdg hnp
  simp only [qm_x, qm_nx] at hx
  split at hx
  · cases hx
    subst hnp
    intro H locs la hH hS hL
    exact lv_lshr hex hb hdk rfl (k H locs la hH hS hL)
  · cases hx

theorem qm_n_idiv (C0 : qm_Cx p s m args meth c cc nL o ini D aC b B L xs)  (hok : qm_ok qm_hd o nL ini rt cc (pc, np, .idiv, a, f, v) = true) (hx : qm_x (L, xs) (pc, np, .idiv, a, f, v) (pc, ls, st, h) = some (.inl c'))  (k : qm_Wm p l e R s m args below meth c D aC b B n0 t0 nL Q c') : qm_Wm p l e R s m args below meth c D aC b B n0 t0 nL Q (pc, ls, st, h) := by
  obtain ⟨hex, hb, hml, hown, hts, hK, hX, hbB, hBs, hini⟩ := C0
  simp only [qm_ok, Bool.and_eq_true, decide_eq_true_eq] at hok
  obtain ⟨hdg, hn⟩ := hok
  have hnp := qm_np hn
  have hdk := qm_dg hdg hnp
  simp only [qm_x, qm_nx] at hx
  split at hx
  · rename_i y x r
    by_cases hy : y = 0
    · simp [hy] at hx
    · simp only [hy, decide_false, cond_false] at hx
      cases hx
      subst hnp
      intro H locs la hH hS hL
      exact lv_idiv hex hb hdk hy (k H locs la hH hS hL)
  · cases hx

theorem qm_n_irem (C0 : qm_Cx p s m args meth c cc nL o ini D aC b B L xs)  (hok : qm_ok qm_hd o nL ini rt cc (pc, np, .irem, a, f, v) = true) (hx : qm_x (L, xs) (pc, np, .irem, a, f, v) (pc, ls, st, h) = some (.inl c'))  (k : qm_Wm p l e R s m args below meth c D aC b B n0 t0 nL Q c') : qm_Wm p l e R s m args below meth c D aC b B n0 t0 nL Q (pc, ls, st, h) := by
  obtain ⟨hex, hb, hml, hown, hts, hK, hX, hbB, hBs, hini⟩ := C0
  simp only [qm_ok, Bool.and_eq_true, decide_eq_true_eq] at hok
  obtain ⟨hdg, hn⟩ := hok
  have hnp := qm_np hn
  have hdk := qm_dg hdg hnp
  simp only [qm_x, qm_nx] at hx
  split at hx
  · rename_i y x r
    by_cases hy : y = 0
    · simp [hy] at hx
    · simp only [hy, decide_false, cond_false] at hx
      cases hx
      subst hnp
      intro H locs la hH hS hL
      exact lv_irem hex hb hdk hy (k H locs la hH hS hL)
  · cases hx

theorem qm_n_ldiv (C0 : qm_Cx p s m args meth c cc nL o ini D aC b B L xs)  (hok : qm_ok qm_hd o nL ini rt cc (pc, np, .ldiv, a, f, v) = true) (hx : qm_x (L, xs) (pc, np, .ldiv, a, f, v) (pc, ls, st, h) = some (.inl c'))  (k : qm_Wm p l e R s m args below meth c D aC b B n0 t0 nL Q c') : qm_Wm p l e R s m args below meth c D aC b B n0 t0 nL Q (pc, ls, st, h) := by
  obtain ⟨hex, hb, hml, hown, hts, hK, hX, hbB, hBs, hini⟩ := C0
  simp only [qm_ok, Bool.and_eq_true, decide_eq_true_eq] at hok
  obtain ⟨hdg, hn⟩ := hok
  have hnp := qm_np hn
  have hdk := qm_dg hdg hnp
  simp only [qm_x, qm_nx] at hx
  split at hx
  · rename_i y x r
    by_cases hy : y = 0
    · simp [hy] at hx
    · simp only [hy, decide_false, cond_false] at hx
      cases hx
      subst hnp
      intro H locs la hH hS hL
      exact lv_ldiv hex hb hdk hy (k H locs la hH hS hL)
  · cases hx

theorem qm_n_lrem (C0 : qm_Cx p s m args meth c cc nL o ini D aC b B L xs)  (hok : qm_ok qm_hd o nL ini rt cc (pc, np, .lrem, a, f, v) = true) (hx : qm_x (L, xs) (pc, np, .lrem, a, f, v) (pc, ls, st, h) = some (.inl c'))  (k : qm_Wm p l e R s m args below meth c D aC b B n0 t0 nL Q c') : qm_Wm p l e R s m args below meth c D aC b B n0 t0 nL Q (pc, ls, st, h) := by
  obtain ⟨hex, hb, hml, hown, hts, hK, hX, hbB, hBs, hini⟩ := C0
  simp only [qm_ok, Bool.and_eq_true, decide_eq_true_eq] at hok
  obtain ⟨hdg, hn⟩ := hok
  have hnp := qm_np hn
  have hdk := qm_dg hdg hnp
  simp only [qm_x, qm_nx] at hx
  split at hx
  · rename_i y x r
    by_cases hy : y = 0
    · simp [hy] at hx
    · simp only [hy, decide_false, cond_false] at hx
      cases hx
      subst hnp
      intro H locs la hH hS hL
      exact lv_lrem hex hb hdk hy (k H locs la hH hS hL)
  · cases hx

theorem qm_n_lcmp (C0 : qm_Cx p s m args meth c cc nL o ini D aC b B L xs)  (hok : qm_ok qm_hd o nL ini rt cc (pc, np, .lcmp, a, f, v) = true) (hx : qm_x (L, xs) (pc, np, .lcmp, a, f, v) (pc, ls, st, h) = some (.inl c'))  (k : qm_Wm p l e R s m args below meth c D aC b B n0 t0 nL Q c') : qm_Wm p l e R s m args below meth c D aC b B n0 t0 nL Q (pc, ls, st, h) := by
  obtain ⟨hex, hb, hml, hown, hts, hK, hX, hbB, hBs, hini⟩ := C0
  simp only [qm_ok, Bool.and_eq_true, decide_eq_true_eq] at hok
  obtain ⟨hdg, hn⟩ := hok
  have hnp := qm_np hn
  have hdk := qm_dg hdg hnp
  simp only [qm_x, qm_nx] at hx
  split at hx
  · cases hx
    subst hnp
    intro H locs la hH hS hL
    exact W.lcmp hex hb hdk (k H locs la hH hS hL)
  · cases hx

theorem qm_n_ineg (C0 : qm_Cx p s m args meth c cc nL o ini D aC b B L xs)  (hok : qm_ok qm_hd o nL ini rt cc (pc, np, .ineg, a, f, v) = true) (hx : qm_x (L, xs) (pc, np, .ineg, a, f, v) (pc, ls, st, h) = some (.inl c'))  (k : qm_Wm p l e R s m args below meth c D aC b B n0 t0 nL Q c') : qm_Wm p l e R s m args below meth c D aC b B n0 t0 nL Q (pc, ls, st, h) := by
  obtain ⟨hex, hb, hml, hown, hts, hK, hX, hbB, hBs, hini⟩ := C0
  simp only [qm_ok, Bool.and_eq_true, decide_eq_true_eq] at hok
  obtain ⟨hdg, hn⟩ := hok
  have hnp := qm_np hn
  have hdk := qm_dg hdg hnp
  simp only [qm_x, qm_nx] at hx
  split at hx
  · cases hx
    subst hnp
    intro H locs la hH hS hL
    exact lv_ineg hex hb hdk (k H locs la hH hS hL)
  · cases hx

theorem qm_n_i2l (C0 : qm_Cx p s m args meth c cc nL o ini D aC b B L xs)  (hok : qm_ok qm_hd o nL ini rt cc (pc, np, .i2l, a, f, v) = true) (hx : qm_x (L, xs) (pc, np, .i2l, a, f, v) (pc, ls, st, h) = some (.inl c'))  (k : qm_Wm p l e R s m args below meth c D aC b B n0 t0 nL Q c') : qm_Wm p l e R s m args below meth c D aC b B n0 t0 nL Q (pc, ls, st, h) := by
  obtain ⟨hex, hb, hml, hown, hts, hK, hX, hbB, hBs, hini⟩ := C0
  simp only [qm_ok, Bool.and_eq_true, decide_eq_true_eq] at hok
  obtain ⟨hdg, hn⟩ := hok
  have hnp := qm_np hn
  have hdk := qm_dg hdg hnp
  simp only [qm_x, qm_nx] at hx
  split at hx
  · cases hx
    subst hnp
    intro H locs la hH hS hL
    exact lv_i2l hex hb hdk rfl (k H locs la hH hS hL)
  · cases hx

theorem qm_n_l2i (C0 : qm_Cx p s m args meth c cc nL o ini D aC b B L xs)  (hok : qm_ok qm_hd o nL ini rt cc (pc, np, .l2i, a, f, v) = true) (hx : qm_x (L, xs) (pc, np, .l2i, a, f, v) (pc, ls, st, h) = some (.inl c'))  (k : qm_Wm p l e R s m args below meth c D aC b B n0 t0 nL Q c') : qm_Wm p l e R s m args below meth c D aC b B n0 t0 nL Q (pc, ls, st, h) := by
  obtain ⟨hex, hb, hml, hown, hts, hK, hX, hbB, hBs, hini⟩ := C0
  simp only [qm_ok, Bool.and_eq_true, decide_eq_true_eq] at hok
  obtain ⟨hdg, hn⟩ := hok
  have hnp := qm_np hn
  have hdk := qm_dg hdg hnp
  simp only [qm_x, qm_nx] at hx
  split at hx
  · cases hx
    subst hnp
    intro H locs la hH hS hL
    exact lv_l2i hex hb hdk rfl (k H locs la hH hS hL)
  · cases hx

theorem qm_n_i2b (C0 : qm_Cx p s m args meth c cc nL o ini D aC b B L xs)  (hok : qm_ok qm_hd o nL ini rt cc (pc, np, .i2b, a, f, v) = true) (hx : qm_x (L, xs) (pc, np, .i2b, a, f, v) (pc, ls, st, h) = some (.inl c'))  (k : qm_Wm p l e R s m args below meth c D aC b B n0 t0 nL Q c') : qm_Wm p l e R s m args below meth c D aC b B n0 t0 nL Q (pc, ls, st, h) := by
  obtain ⟨hex, hb, hml, hown, hts, hK, hX, hbB, hBs, hini⟩ := C0
  simp only [qm_ok, Bool.and_eq_true, decide_eq_true_eq] at hok
  obtain ⟨hdg, hn⟩ := hok
  have hnp := qm_np hn
  have hdk := qm_dg hdg hnp
  simp only [qm_x, qm_nx] at hx
  split at hx
  · cases hx
    subst hnp
    intro H locs la hH hS hL
    exact lv_i2b hex hb hdk rfl (k H locs la hH hS hL)
  · cases hx

theorem qm_n_dup (C0 : qm_Cx p s m args meth c cc nL o ini D aC b B L xs)  (hok : qm_ok qm_hd o nL ini rt cc (pc, np, .dup, a, f, v) = true) (hx : qm_x (L, xs) (pc, np, .dup, a, f, v) (pc, ls, st, h) = some (.inl c'))  (k : qm_Wm p l e R s m args below meth c D aC b B n0 t0 nL Q c') : qm_Wm p l e R s m args below meth c D aC b B n0 t0 nL Q (pc, ls, st, h) := by
  obtain ⟨hex, hb, hml, hown, hts, hK, hX, hbB, hBs, hini⟩ := C0
  simp only [qm_ok, Bool.and_eq_true, decide_eq_true_eq] at hok
  obtain ⟨hdg, hn⟩ := hok
  have hnp := qm_np hn
  have hdk := qm_dg hdg hnp
  simp only [qm_x, qm_nx] at hx
  split at hx
  · rename_i w r
    cases hc : Nat.beq w.category 1 with
    | false => simp [hc] at hx
    | true =>
      simp only [hc, cond_true] at hx
      cases hx
      subst hnp
      intro H locs la hH hS hL
      exact lv_dup hex hb hdk (by rw [qm_cv_cat]; exact Nat.eq_of_beq_eq_true hc) (k H locs la hH hS hL)
  · cases hx

theorem qm_n_pop (C0 : qm_Cx p s m args meth c cc nL o ini D aC b B L xs)  (hok : qm_ok qm_hd o nL ini rt cc (pc, np, .pop, a, f, v) = true) (hx : qm_x (L, xs) (pc, np, .pop, a, f, v) (pc, ls, st, h) = some (.inl c'))  (k : qm_Wm p l e R s m args below meth c D aC b B n0 t0 nL Q c') : qm_Wm p l e R s m args below meth c D aC b B n0 t0 nL Q (pc, ls, st, h) := by
  obtain ⟨hex, hb, hml, hown, hts, hK, hX, hbB, hBs, hini⟩ := C0
  simp only [qm_ok, Bool.and_eq_true, decide_eq_true_eq] at hok
  obtain ⟨hdg, hn⟩ := hok
  have hnp := qm_np hn
  have hdk := qm_dg hdg hnp
  simp only [qm_x, qm_nx] at hx
  split at hx
  · rename_i w r
    cases hc : Nat.beq w.category 1 with
    | false => simp [hc] at hx
    | true =>
      simp only [hc, cond_true] at hx
      cases hx
      subst hnp
      intro H locs la hH hS hL
      exact lv_pop hex hb hdk (by rw [qm_cv_cat]; exact Nat.eq_of_beq_eq_true hc) (k H locs la hH hS hL)
  · cases hx

theorem qm_n_dup2 (C0 : qm_Cx p s m args meth c cc nL o ini D aC b B L xs)  (hok : qm_ok qm_hd o nL ini rt cc (pc, np, .dup2, a, f, v) = true) (hx : qm_x (L, xs) (pc, np, .dup2, a, f, v) (pc, ls, st, h) = some (.inl c'))  (k : qm_Wm p l e R s m args below meth c D aC b B n0 t0 nL Q c') : qm_Wm p l e R s m args below meth c D aC b B n0 t0 nL Q (pc, ls, st, h) := by
  obtain ⟨hex, hb, hml, hown, hts, hK, hX, hbB, hBs, hini⟩ := C0
  simp only [qm_ok, Bool.and_eq_true, decide_eq_true_eq] at hok
  obtain ⟨hdg, hn⟩ := hok
  have hnp := qm_np hn
  have hdk := qm_dg hdg hnp
  simp only [qm_x, qm_nx] at hx
  split at hx
  · rename_i y w r
    cases hc : Nat.beq w.category 1 with
    | false => simp [hc] at hx
    | true =>
      simp only [hc, cond_true] at hx
      cases hx
      subst hnp
      intro H locs la hH hS hL
      exact lv_dup2_11 hex hb hdk rfl (by rw [qm_cv_cat]; exact Nat.eq_of_beq_eq_true hc) (k H locs la hH hS hL)
  · cases hx
    subst hnp
    intro H locs la hH hS hL
    exact lv_dup2_2 hex hb hdk rfl (k H locs la hH hS hL)
  · cases hx

theorem qm_n_goto (C0 : qm_Cx p s m args meth c cc nL o ini D aC b B L xs) {off : Int} (hok : qm_ok qm_hd o nL ini rt cc (pc, np, .goto off, a, f, v) = true) (hx : qm_x (L, xs) (pc, np, .goto off, a, f, v) (pc, ls, st, h) = some (.inl c'))  (k : qm_Wm p l e R s m args below meth c D aC b B n0 t0 nL Q c') : qm_Wm p l e R s m args below meth c D aC b B n0 t0 nL Q (pc, ls, st, h) := by
  obtain ⟨hex, hb, hml, hown, hts, hK, hX, hbB, hBs, hini⟩ := C0
  simp only [qm_ok, Bool.and_eq_true, decide_eq_true_eq] at hok
  obtain ⟨hdg, ht, hn⟩ := hok
  have hnp := qm_np hn
  have hdk := qm_dg hdg hnp
  simp only [qm_x, qm_nx] at hx
  cases hx
  subst hnp
  intro H locs la hH hS hL
  exact lv_goto hex hb hdk ht (k H locs la hH hS hL)

theorem qm_n_ifnull (C0 : qm_Cx p s m args meth c cc nL o ini D aC b B L xs) {off : Int} (hok : qm_ok qm_hd o nL ini rt cc (pc, np, .ifnull off, a, f, v) = true) (hx : qm_x (L, xs) (pc, np, .ifnull off, a, f, v) (pc, ls, st, h) = some (.inl c'))  (k : qm_Wm p l e R s m args below meth c D aC b B n0 t0 nL Q c') : qm_Wm p l e R s m args below meth c D aC b B n0 t0 nL Q (pc, ls, st, h) := by
  obtain ⟨hex, hb, hml, hown, hts, hK, hX, hbB, hBs, hini⟩ := C0
  simp only [qm_ok, Bool.and_eq_true, decide_eq_true_eq] at hok
  obtain ⟨hdg, ht, hn⟩ := hok
  have hnp := qm_np hn
  have hdk := qm_dg hdg hnp
  simp only [qm_x, qm_nx] at hx
  split at hx
  · cases hx
    subst hnp
    intro H locs la hH hS hL
    exact lv_ifnull hex hb hdk (k H locs la hH hS hL)
  · cases hx
    subst hnp
    intro H locs la hH hS hL
    exact lv_ifnullN hex hb hdk ht (k H locs la hH hS hL)
  · cases hx

theorem qm_n_ifnonnull (C0 : qm_Cx p s m args meth c cc nL o ini D aC b B L xs) {off : Int} (hok : qm_ok qm_hd o nL ini rt cc (pc, np, .ifnonnull off, a, f, v) = true) (hx : qm_x (L, xs) (pc, np, .ifnonnull off, a, f, v) (pc, ls, st, h) = some (.inl c'))  (k : qm_Wm p l e R s m args below meth c D aC b B n0 t0 nL Q c') : qm_Wm p l e R s m args below meth c D aC b B n0 t0 nL Q (pc, ls, st, h) := by
  obtain ⟨hex, hb, hml, hown, hts, hK, hX, hbB, hBs, hini⟩ := C0
  simp only [qm_ok, Bool.and_eq_true, decide_eq_true_eq] at hok
  obtain ⟨hdg, ht, hn⟩ := hok
  have hnp := qm_np hn
  have hdk := qm_dg hdg hnp
  simp only [qm_x, qm_nx] at hx
  split at hx
  · cases hx
    subst hnp
    intro H locs la hH hS hL
    exact lv_ifnonnull hex hb hdk ht (k H locs la hH hS hL)
  · cases hx
    subst hnp
    intro H locs la hH hS hL
    exact lv_ifnonnullN hex hb hdk (k H locs la hH hS hL)
  · cases hx

theorem qm_n_iaload (C0 : qm_Cx p s m args meth c cc nL o ini D aC b B L xs)  (hok : qm_ok qm_hd o nL ini rt cc (pc, np, .iaload, a, f, v) = true) (hx : qm_x (L, xs) (pc, np, .iaload, a, f, v) (pc, ls, st, h) = some (.inl c'))  (k : qm_Wm p l e R s m args below meth c D aC b B n0 t0 nL Q c') : qm_Wm p l e R s m args below meth c D aC b B n0 t0 nL Q (pc, ls, st, h) := by
  obtain ⟨hex, hb, hml, hown, hts, hK, hX, hbB, hBs, hini⟩ := C0
  simp only [qm_ok, Bool.and_eq_true, decide_eq_true_eq] at hok
  obtain ⟨hdg, hn⟩ := hok
  have hnp := qm_np hn
  have hdk := qm_dg hdg hnp
  simp only [qm_x, qm_nx] at hx
  split at hx
  · rename_i i q r
    split at hx
    · rename_i n hq
      cases hi : qm_in i n with
      | false => simp [hi] at hx
      | true =>
        simp only [hi, cond_true] at hx
        cases hx
        subst hnp
        intro H locs la hH hS hL
        exact va_iald hex hb hK hH.2.1 q 0 (qm_w_get hq) rfl (qm_in_iff hi) hdk (k H locs la hH hS hL)
    · cases hx
  · rename_i i q r
    cases hi : qm_in i L with
    | false => simp [hi] at hx
    | true =>
      simp only [hi, cond_true] at hx
      cases hx
      subst hnp
      intro H locs la hH hS hL
      exact va_sld hex hb hX (Nat.lt_of_lt_of_le hbB hBs) (A := qm_A B) (fun z => absurd z (Nat.not_le.mpr hbB)) hS (qm_in_iff hi) hdk (k H locs la hH hS hL)
  · cases hx

theorem qm_n_laload (C0 : qm_Cx p s m args meth c cc nL o ini D aC b B L xs)  (hok : qm_ok qm_hd o nL ini rt cc (pc, np, .laload, a, f, v) = true) (hx : qm_x (L, xs) (pc, np, .laload, a, f, v) (pc, ls, st, h) = some (.inl c'))  (k : qm_Wm p l e R s m args below meth c D aC b B n0 t0 nL Q c') : qm_Wm p l e R s m args below meth c D aC b B n0 t0 nL Q (pc, ls, st, h) := by
  obtain ⟨hex, hb, hml, hown, hts, hK, hX, hbB, hBs, hini⟩ := C0
  simp only [qm_ok, Bool.and_eq_true, decide_eq_true_eq] at hok
  obtain ⟨hdg, hn⟩ := hok
  have hnp := qm_np hn
  have hdk := qm_dg hdg hnp
  simp only [qm_x, qm_nx] at hx
  split at hx
  · rename_i i q r
    split at hx
    · rename_i n hq
      cases hi : qm_in i n with
      | false => simp [hi] at hx
      | true =>
        simp only [hi, cond_true] at hx
        cases hx
        subst hnp
        intro H locs la hH hS hL
        exact va_lald hex hb hK hH.2.1 q 3 (qm_w_get hq) rfl (qm_in_iff hi) hdk (k H locs la hH hS hL)
    · cases hx
  · cases hx

theorem qm_n_baload (C0 : qm_Cx p s m args meth c cc nL o ini D aC b B L xs)  (hok : qm_ok qm_hd o nL ini rt cc (pc, np, .baload, a, f, v) = true) (hx : qm_x (L, xs) (pc, np, .baload, a, f, v) (pc, ls, st, h) = some (.inl c'))  (k : qm_Wm p l e R s m args below meth c D aC b B n0 t0 nL Q c') : qm_Wm p l e R s m args below meth c D aC b B n0 t0 nL Q (pc, ls, st, h) := by
  obtain ⟨hex, hb, hml, hown, hts, hK, hX, hbB, hBs, hini⟩ := C0
  simp only [qm_ok, Bool.and_eq_true, decide_eq_true_eq] at hok
  obtain ⟨hdg, hn⟩ := hok
  have hnp := qm_np hn
  have hdk := qm_dg hdg hnp
  simp only [qm_x, qm_nx] at hx
  split at hx
  · rename_i i q r
    split at hx
    · rename_i n hq
      cases hi : qm_in i n with
      | false => simp [hi] at hx
      | true =>
        simp only [hi, cond_true] at hx
        cases hx
        subst hnp
        intro H locs la hH hS hL
        exact va_bald hex hb hK hH.2.1 q 1 (qm_w_get hq) rfl (qm_in_iff hi) hdk (k H locs la hH hS hL)
    · rename_i n hq
      cases hi : qm_in i n with
      | false => simp [hi] at hx
      | true =>
        simp only [hi, cond_true] at hx
        cases hx
        subst hnp
        intro H locs la hH hS hL
        exact va_zald hex hb hK hH.2.1 q 2 (qm_w_get hq) rfl (qm_in_iff hi) hdk (k H locs la hH hS hL)
    · cases hx
  · cases hx

theorem qm_n_aaload (C0 : qm_Cx p s m args meth c cc nL o ini D aC b B L xs)  (hok : qm_ok qm_hd o nL ini rt cc (pc, np, .aaload, a, f, v) = true) (hx : qm_x (L, xs) (pc, np, .aaload, a, f, v) (pc, ls, st, h) = some (.inl c'))  (k : qm_Wm p l e R s m args below meth c D aC b B n0 t0 nL Q c') : qm_Wm p l e R s m args below meth c D aC b B n0 t0 nL Q (pc, ls, st, h) := by
  obtain ⟨hex, hb, hml, hown, hts, hK, hX, hbB, hBs, hini⟩ := C0
  simp only [qm_ok, Bool.and_eq_true, decide_eq_true_eq] at hok
  obtain ⟨hdg, hn⟩ := hok
  have hnp := qm_np hn
  have hdk := qm_dg hdg hnp
  simp only [qm_x, qm_nx] at hx
  split at hx
  · rename_i i q r
    split at hx
    · rename_i n hq
      cases hi : qm_in i n with
      | false => simp [hi] at hx
      | true =>
        simp only [hi, cond_true] at hx
        cases hx
        subst hnp
        intro H locs la hH hS hL
        exact qm_r_aald hex hb hK hH hq (qm_in_iff hi) hdk (k H locs la hH hS hL)
    · cases hx
  · cases hx

theorem qm_n_iastore (C0 : qm_Cx p s m args meth c cc nL o ini D aC b B L xs)  (hok : qm_ok qm_hd o nL ini rt cc (pc, np, .iastore, a, f, v) = true) (hx : qm_x (L, xs) (pc, np, .iastore, a, f, v) (pc, ls, st, h) = some (.inl c'))  (k : qm_Wm p l e R s m args below meth c D aC b B n0 t0 nL Q c') : qm_Wm p l e R s m args below meth c D aC b B n0 t0 nL Q (pc, ls, st, h) := by
  obtain ⟨hex, hb, hml, hown, hts, hK, hX, hbB, hBs, hini⟩ := C0
  simp only [qm_ok, Bool.and_eq_true, decide_eq_true_eq] at hok
  obtain ⟨hdg, hn⟩ := hok
  have hnp := qm_np hn
  have hdk := qm_dg hdg hnp
  simp only [qm_x, qm_nx] at hx
  split at hx
  · rename_i x i q r
    split at hx
    · rename_i n hq
      cases hi : qm_in i n with
      | false => simp [hi] at hx
      | true =>
        simp only [hi, cond_true] at hx
        cases hx
        subst hnp
        intro H locs la hH hS hL
        exact qm_r_iast hex hb hK hH hS hq (qm_in_iff hi) hdk (fun H1 locs1 hH1 hS1 => k H1 locs1 la hH1 hS1 hL)
    · cases hx
  · cases hx

theorem qm_n_bastore (C0 : qm_Cx p s m args meth c cc nL o ini D aC b B L xs)  (hok : qm_ok qm_hd o nL ini rt cc (pc, np, .bastore, a, f, v) = true) (hx : qm_x (L, xs) (pc, np, .bastore, a, f, v) (pc, ls, st, h) = some (.inl c'))  (k : qm_Wm p l e R s m args below meth c D aC b B n0 t0 nL Q c') : qm_Wm p l e R s m args below meth c D aC b B n0 t0 nL Q (pc, ls, st, h) := by
  obtain ⟨hex, hb, hml, hown, hts, hK, hX, hbB, hBs, hini⟩ := C0
  simp only [qm_ok, Bool.and_eq_true, decide_eq_true_eq] at hok
  obtain ⟨hdg, hn⟩ := hok
  have hnp := qm_np hn
  have hdk := qm_dg hdg hnp
  simp only [qm_x, qm_nx] at hx
  split at hx
  · rename_i x i q r
    split at hx
    · rename_i n hq
      cases hi : qm_in i n with
      | false => simp [hi] at hx
      | true =>
        simp only [hi, cond_true] at hx
        cases hx
        subst hnp
        intro H locs la hH hS hL
        exact qm_r_bast hex hb hK hH hS hq (qm_in_iff hi) hdk (fun H1 locs1 hH1 hS1 => k H1 locs1 la hH1 hS1 hL)
    · rename_i n hq
      cases hi : qm_in i n with
      | false => simp [hi] at hx
      | true =>
        simp only [hi, cond_true] at hx
        cases hx
        subst hnp
        intro H locs la hH hS hL
        exact qm_r_zast hex hb hK hH hS hq (qm_in_iff hi) hdk (fun H1 locs1 hH1 hS1 => k H1 locs1 la hH1 hS1 hL)
    · cases hx
  · cases hx

theorem qm_n_lastore (C0 : qm_Cx p s m args meth c cc nL o ini D aC b B L xs)  (hok : qm_ok qm_hd o nL ini rt cc (pc, np, .lastore, a, f, v) = true) (hx : qm_x (L, xs) (pc, np, .lastore, a, f, v) (pc, ls, st, h) = some (.inl c'))  (k : qm_Wm p l e R s m args below meth c D aC b B n0 t0 nL Q c') : qm_Wm p l e R s m args below meth c D aC b B n0 t0 nL Q (pc, ls, st, h) := by
  obtain ⟨hex, hb, hml, hown, hts, hK, hX, hbB, hBs, hini⟩ := C0
  simp only [qm_ok, Bool.and_eq_true, decide_eq_true_eq] at hok
  obtain ⟨hdg, hn⟩ := hok
  have hnp := qm_np hn
  have hdk := qm_dg hdg hnp
  simp only [qm_x, qm_nx] at hx
  split at hx
  · rename_i x i q r
    split at hx
    · rename_i n hq
      cases hi : qm_in i n with
      | false => simp [hi] at hx
      | true =>
        simp only [hi, cond_true] at hx
        cases hx
        subst hnp
        intro H locs la hH hS hL
        exact qm_r_last hex hb hK hH hS hq (qm_in_iff hi) hdk (fun H1 locs1 hH1 hS1 => k H1 locs1 la hH1 hS1 hL)
    · cases hx
  · cases hx
end QMS
end
section
/-! the rest of the steps: constants, switches, fields, new cells -/
theorem qm_w_i28 : Cond.instanceMethod objectInit ∈ lw_tbl := qm_at_mem (q := 28) (by decide +kernel)
theorem qm_w_c29 : Cond.code objectInit ⟨#[0xb1]⟩ 1 none ∈ lw_tbl := qm_at_mem (q := 29) (by decide +kernel)
theorem qm_w_sys : Cond.initialized "java/lang/System" ∈ lw_tbl := qm_at_mem (q := 21) (by decide +kernel)
theorem qm_w_sst : Cond.static arraycopyName ∈ lw_tbl := qm_at_mem (q := 5024) (by decide +kernel)
theorem qm_w_snt : Cond.native arraycopyName ∈ lw_tbl := qm_at_mem (q := 5025) (by decide +kernel)
theorem qm_w_ab : Cond.arrayClass .byte ∈ lw_tbl := qm_at_mem (q := 65) (by decide +kernel)
theorem qm_w_ai : Cond.arrayClass .int ∈ lw_tbl := qm_at_mem (q := 116) (by decide +kernel)
theorem qm_w_al : Cond.arrayClass .long ∈ lw_tbl := qm_at_mem (q := 117) (by decide +kernel)
theorem qm_w_az : Cond.arrayClass .boolean ∈ lw_tbl := qm_at_mem (q := 184) (by decide +kernel)
theorem qm_w_ao : Cond.arrayOver (.array .int) ∈ lw_tbl := qm_at_mem (q := 192) (by decide +kernel)
theorem qm_w_mi : Cond.initialized "java/lang/Math" ∈ lw_tbl := qm_at_mem (q := 18) (by decide +kernel)
theorem qm_w_ms0 : Cond.static Lib.Math.max.name ∈ lw_tbl := qm_at_mem (q := 3225) (by decide +kernel)
theorem qm_w_mc0 : Cond.code Lib.Math.max.name Lib.Math.max.code 2 (some .int) ∈ lw_tbl := qm_at_mem (q := 3226) (by decide +kernel)
theorem qm_w_ms1 : Cond.static Lib.Math.min.name ∈ lw_tbl := qm_at_mem (q := 2235) (by decide +kernel)
theorem qm_w_mc1 : Cond.code Lib.Math.min.name Lib.Math.min.code 2 (some .int) ∈ lw_tbl := qm_at_mem (q := 2236) (by decide +kernel)
theorem qm_w_ms2 : Cond.static Lib.Math.abs.name ∈ lw_tbl := qm_at_mem (q := 3214) (by decide +kernel)
theorem qm_w_mc2 : Cond.code Lib.Math.abs.name Lib.Math.abs.code 1 (some .int) ∈ lw_tbl := qm_at_mem (q := 3215) (by decide +kernel)
theorem qm_w_ms3 : Cond.static Lib.MathLoose.max_long.x ∈ lw_tbl := qm_at_mem (q := 3048) (by decide +kernel)
theorem qm_w_mc3 : Cond.code Lib.MathLoose.max_long.x Lib.MathLoose.max_long.code 4 (some .long) ∈ lw_tbl := qm_at_mem (q := 3049) (by decide +kernel)
theorem qm_w_ms4 : Cond.static Lib.MathLoose.min_long.x ∈ lw_tbl := qm_at_mem (q := 3045) (by decide +kernel)
theorem qm_w_mc4 : Cond.code Lib.MathLoose.min_long.x Lib.MathLoose.min_long.code 4 (some .long) ∈ lw_tbl := qm_at_mem (q := 3046) (by decide +kernel)
theorem qm_tgt_ok {pc : Nat} {off : Int} (h : qm_nn pc off = true) : (pc : Int) + off = (qm_tgt pc off : Int) := (Int.toNat_of_nonneg (of_decide_eq_true h)).symm
theorem qm_look {pc : Nat} {d x : Int} : ∀ {ps : List (Int × Int)}, qm_nn pc d = true → ps.all (fun q => qm_nn pc q.2) = true → qm_nn pc (Op.lookupswitch.offset ps d x) = true
  | [], hd, _ => by
    show qm_nn pc d = true
    exact hd
  | q :: ps, hd, h => by
    simp only [List.all_cons, Bool.and_eq_true] at h
    obtain ⟨a, o⟩ := q
    rw [Op.lookupswitch.offset_cons]
    split
    · exact h.1
    · exact qm_look hd h.2
theorem qm_tot_push (q : List (Nat × Nat)) (t : List (Nat × Nat)) : qm_tot (q ++ t) = qm_tot q + qm_tot t := by
  unfold qm_tot
  rw [List.map_append, List.sum_append]
section QMS2
variable {p : Program} {l : Launch} {e : Env} {R : Room} {s : State} {m : MethodId} {args : Array Value} {below : List Frame} {meth : Method} {c : Code} {Q : State → Prop}
variable {cc : ByteArray} {nL o rt : Nat} {ini : Bool} {D : va_G} {aC : Nat → ClassId} {b B L n0 t0 : Nat} {xs : Nat → Int32} {pc np a f : Nat} {v : Value} {ls st : List Value} {h : qm_H} {c' : qm_C}

theorem qm_n_ldc (C0 : qm_Cx p s m args meth c cc nL o ini D aC b B L xs) {i : Nat} (hok : qm_ok qm_hd o nL ini rt cc (pc, np, .ldc i, a, f, v) = true) (hx : qm_x (L, xs) (pc, np, .ldc i, a, f, v) (pc, ls, st, h) = some (.inl c')) (k : qm_Wm p l e R s m args below meth c D aC b B n0 t0 nL Q c') : qm_Wm p l e R s m args below meth c D aC b B n0 t0 nL Q (pc, ls, st, h) := by
  obtain ⟨hex, hb, hml, hown, hts, hK, hX, hbB, hBs, hini⟩ := C0
  simp only [qm_ok, Bool.and_eq_true, decide_eq_true_eq] at hok
  obtain ⟨hdg, hv, hn⟩ := hok
  have hnp := qm_np hn
  have hdk := qm_dg hdg hnp
  simp only [qm_x, qm_nx] at hx
  cases hx
  subst hnp
  cases hl : qm_li qm_ki o i with
  | none => simp [hl] at hv
  | some x =>
    rw [hl] at hv
    cases hv
    intro H locs la hH hS hL
    exact lv_ldc hex hb hown (hts _ (qm_ki_use hl) rfl) hdk (k H locs la hH hS hL)
theorem qm_n_ldc_w (C0 : qm_Cx p s m args meth c cc nL o ini D aC b B L xs) {i : Nat} (hok : qm_ok qm_hd o nL ini rt cc (pc, np, .ldc_w i, a, f, v) = true) (hx : qm_x (L, xs) (pc, np, .ldc_w i, a, f, v) (pc, ls, st, h) = some (.inl c')) (k : qm_Wm p l e R s m args below meth c D aC b B n0 t0 nL Q c') : qm_Wm p l e R s m args below meth c D aC b B n0 t0 nL Q (pc, ls, st, h) := by
  obtain ⟨hex, hb, hml, hown, hts, hK, hX, hbB, hBs, hini⟩ := C0
  simp only [qm_ok, Bool.and_eq_true, decide_eq_true_eq] at hok
  obtain ⟨hdg, hv, hn⟩ := hok
  have hnp := qm_np hn
  have hdk := qm_dg hdg hnp
  simp only [qm_x, qm_nx] at hx
  cases hx
  subst hnp
  cases hl : qm_li qm_ki o i with
  | none => simp [hl] at hv
  | some x =>
    rw [hl] at hv
    cases hv
    intro H locs la hH hS hL
    exact lv_ldcw hex hb hown (hts _ (qm_ki_use hl) rfl) hdk (k H locs la hH hS hL)
theorem qm_n_ldc2_w (C0 : qm_Cx p s m args meth c cc nL o ini D aC b B L xs) {i : Nat} (hok : qm_ok qm_hd o nL ini rt cc (pc, np, .ldc2_w i, a, f, v) = true) (hx : qm_x (L, xs) (pc, np, .ldc2_w i, a, f, v) (pc, ls, st, h) = some (.inl c')) (k : qm_Wm p l e R s m args below meth c D aC b B n0 t0 nL Q c') : qm_Wm p l e R s m args below meth c D aC b B n0 t0 nL Q (pc, ls, st, h) := by
  obtain ⟨hex, hb, hml, hown, hts, hK, hX, hbB, hBs, hini⟩ := C0
  simp only [qm_ok, Bool.and_eq_true, decide_eq_true_eq] at hok
  obtain ⟨hdg, hv, hn⟩ := hok
  have hnp := qm_np hn
  have hdk := qm_dg hdg hnp
  simp only [qm_x, qm_nx] at hx
  cases hx
  subst hnp
  cases hl : qm_lj qm_kj o i with
  | none => simp [hl] at hv
  | some x =>
    rw [hl] at hv
    cases hv
    intro H locs la hH hS hL
    exact lv_ldc2 hex hb hown (hts _ (qm_kj_use hl) rfl) hdk (k H locs la hH hS hL)
theorem qm_n_tableswitch (C0 : qm_Cx p s m args meth c cc nL o ini D aC b B L xs) {d lo hi : Int} {offs : Array Int} (hok : qm_ok qm_hd o nL ini rt cc (pc, np, .tableswitch d lo hi offs, a, f, v) = true) (hx : qm_x (L, xs) (pc, np, .tableswitch d lo hi offs, a, f, v) (pc, ls, st, h) = some (.inl c')) (k : qm_Wm p l e R s m args below meth c D aC b B n0 t0 nL Q c') : qm_Wm p l e R s m args below meth c D aC b B n0 t0 nL Q (pc, ls, st, h) := by
  obtain ⟨hex, hb, hml, hown, hts, hK, hX, hbB, hBs, hini⟩ := C0
  simp only [qm_ok, Bool.and_eq_true, decide_eq_true_eq] at hok
  obtain ⟨hdg, hd, hall⟩ := hok
  simp only [qm_x, qm_nx] at hx
  split at hx
  · rename_i x r
    by_cases hr : x.toInt < lo ∨ hi < x.toInt
    · simp only [hr, decide_true, cond_true] at hx
      cases hx
      intro H locs la hH hS hL
      exact lv_tableOut hex hb hdg hr (qm_tgt_ok hd) (k H locs la hH hS hL)
    · simp only [hr, decide_false, cond_false] at hx
      split at hx
      · rename_i off ho
        cases hx
        intro H locs la hH hS hL
        have hoff : qm_nn pc off = true := List.all_eq_true.mp hall off (Array.mem_toList_iff.mpr (Array.mem_of_getElem? ho))
        exact lv_tableIn hex hb hdg (fun z => hr (Or.inl z)) (fun z => hr (Or.inr z)) ho (qm_tgt_ok hoff) (k H locs la hH hS hL)
      · cases hx
  · cases hx
theorem qm_n_lookupswitch (C0 : qm_Cx p s m args meth c cc nL o ini D aC b B L xs) {d : Int} {ps : Array (Int × Int)} (hok : qm_ok qm_hd o nL ini rt cc (pc, np, .lookupswitch d ps, a, f, v) = true) (hx : qm_x (L, xs) (pc, np, .lookupswitch d ps, a, f, v) (pc, ls, st, h) = some (.inl c')) (k : qm_Wm p l e R s m args below meth c D aC b B n0 t0 nL Q c') : qm_Wm p l e R s m args below meth c D aC b B n0 t0 nL Q (pc, ls, st, h) := by
  obtain ⟨hex, hb, hml, hown, hts, hK, hX, hbB, hBs, hini⟩ := C0
  unfold qm_ok at hok
  rw [Bool.and_eq_true, decide_eq_true_eq] at hok
  obtain ⟨hdg, hok⟩ := hok
  dsimp only at hok
  rw [Bool.and_eq_true, Bool.and_eq_true] at hok
  obtain ⟨⟨hd, hall⟩, hsort⟩ := hok
  simp only [qm_x, qm_nx] at hx
  split at hx
  · rename_i x r
    cases hx
    intro H locs la hH hS hL
    exact lv_lookup hex hb hdg hsort rfl (qm_tgt_ok (qm_look hd hall)) (k H locs la hH hS hL)
  · cases hx
theorem qm_uws {C : String} {T : u_T} {N : Nat} (hts : ∀ w ∈ lw_tbl, qm_use w = true → w.before args s = true) (hin : ∀ w ∈ u_ws C T N, w ∈ lw_tbl) : ∀ w ∈ u_ws C T N, w.before args s = true := by
  intro w hw
  refine hts w (hin w hw) ?_
  obtain ⟨j, -, rfl⟩ := List.mem_map.mp hw
  unfold u_lay
  split <;> rfl
theorem qm_n_getfield (C0 : qm_Cx p s m args meth c cc nL o ini D aC b B L xs) {i : Nat} (hok : qm_ok qm_hd o nL ini rt cc (pc, np, .getfield i, a, f, v) = true) (hx : qm_x (L, xs) (pc, np, .getfield i, a, f, v) (pc, ls, st, h) = some (.inl c')) (k : qm_Wm p l e R s m args below meth c D aC b B n0 t0 nL Q c') : qm_Wm p l e R s m args below meth c D aC b B n0 t0 nL Q (pc, ls, st, h) := by
  obtain ⟨hex, hb, hml, hown, hts, hK, hX, hbB, hBs, hini⟩ := C0
  simp only [qm_ok, Bool.and_eq_true, decide_eq_true_eq] at hok
  obtain ⟨hdg, ⟨hlk, hv⟩, hn⟩ := hok
  have hnp := qm_np hn
  have hdk := qm_dg hdg hnp
  obtain ⟨C, T, N, hc, hf, hlink⟩ := qm_fl_use hlk
  have hcl := qm_cls hc
  simp only [qm_x, qm_nx] at hx
  split at hx
  · rename_i q r
    split at hx
    · rename_i w hq
      cases hb5 : Nat.beq w.1 (a + 5) with
      | false => simp [hb5] at hx
      | true =>
        simp only [hb5, cond_true] at hx
        cases hx
        subst hnp
        subst hv
        have hw : h.1[q]? = some (a + 5, w.2) := by rw [hq, ← Nat.eq_of_beq_eq_true hb5]
        intro H locs la hH hS hL
        have hnf : qm_nf a = N := by simp only [qm_nf, hc]
        exact va_get (ci := a) hex hb (qm_uws hts hcl.1) (fun _ z => z) hown hK hH.2.1 q (qm_w_get hw) hc f hf (hts _ hlink rfl) (fun _ z => z) (qm_fs_get (by rw [hnf]; exact hf)) hdk (k H locs la hH hS hL)
    · cases hx
  · cases hx
theorem qm_n_putfield (C0 : qm_Cx p s m args meth c cc nL o ini D aC b B L xs) {i : Nat} (hok : qm_ok qm_hd o nL ini rt cc (pc, np, .putfield i, a, f, v) = true) (hx : qm_x (L, xs) (pc, np, .putfield i, a, f, v) (pc, ls, st, h) = some (.inl c')) (k : qm_Wm p l e R s m args below meth c D aC b B n0 t0 nL Q c') : qm_Wm p l e R s m args below meth c D aC b B n0 t0 nL Q (pc, ls, st, h) := by
  obtain ⟨hex, hb, hml, hown, hts, hK, hX, hbB, hBs, hini⟩ := C0
  simp only [qm_ok, Bool.and_eq_true, Bool.or_eq_true, decide_eq_true_eq] at hok
  obtain ⟨hdg, ⟨⟨hlk, hv⟩, hfin⟩, hn⟩ := hok
  have hnp := qm_np hn
  have hdk := qm_dg hdg hnp
  obtain ⟨C, T, N, hc, hf, hlink⟩ := qm_fl_use hlk
  obtain ⟨g1, g2, g3, g4, g5, g6, g7, g8⟩ := qm_cls hc
  have hnf : qm_nf a = N := by simp only [qm_nf, hc]
  have hfl : f < qm_nf a := by rw [hnf]; exact hf
  have hfin2 : (T f).2.2.2 = true → meth.name = "<init>" ∧ qm_cn o = (T f).1 := by
    intro ht
    rcases hfin with z | ⟨z1, z2⟩
    · simp [qm_fin, hc, ht] at z
    · refine ⟨hini z1, ?_⟩
      rw [Nat.eq_of_beq_eq_true z2, g8, g7 f hf]
  have hto := g4 f hf
  simp only [qm_x, qm_nx] at hx
  split at hx
  · rename_i w q r
    split at hx
    · rename_i z hq
      cases hb5 : Nat.beq z.1 (a + 5) with
      | false => simp [hb5] at hx
      | true =>
        simp only [hb5, cond_true] at hx
        have hw : h.1[q]? = some (a + 5, z.2) := by rw [hq, ← Nat.eq_of_beq_eq_true hb5]
        have key : ∀ (h' : qm_H) (w : Value), h'.1 = h.1 → (∀ j, j ≠ q → h'.2.1 j = h.2.1 j) → (∀ j, j ≠ q → h'.2.2.1 j = h.2.2.1 j) → (∀ j, j ≠ q → h'.2.2.2 j = h.2.2.2 j) → qm_tv (qm_tg (qm_ty a f)) h' q f = w → (∀ t, t ≠ f → ∀ u, qm_tv u h' q t = qm_tv u h q t) → narrow (qm_ty a f) (qm_cv b B w) = qm_cv b B w → fits (qm_ty a f) (qm_cv b B w) = true →
            qm_Wm p l e R s m args below meth c D aC b B n0 t0 nL Q (pc + 3, ls, r, h') → qm_Wm p l e R s m args below meth c D aC b B n0 t0 nL Q (pc, ls, w :: .ref q :: r, h) := by
          intro h' w hs hI hJ hR htv hto hnar hfit k9 H locs la hH hS hL
          refine qm_r_put hex hb (qm_uws hts g1) (fun _ z => z) (qm_ty a) g2 g3 hown hK hH hS hw hc hf (hts _ hlink rfl) hfin2 hnar hfit hs hI hJ hR (qm_fs_set hfl htv hto) hdk (fun H1 locs1 hH1 hS1 => ?_)
          have := k9 H1 locs1 la hH1 hS1 hL
          rw [show (pc + 3, ls, r, h').2.2.2.1 = h.1 from hs] at this
          exact this
        split at hx
        · rename_i t x
          cases hc9 : decide (t = 0) || (decide (x = 0) || decide (x = 1)) with
          | false => simp only [hc9, cond_false] at hx; cases hx
          | true =>
            simp only [hc9, cond_true] at hx
            cases hx
            subst hnp
            have hcase : (qm_ty a f = .int) ∨ (qm_ty a f = .boolean ∧ (x = 0 ∨ x = 1)) := by
              generalize qm_ty a f = ty at hv hto
              cases ty with
              | int => exact Or.inl rfl
              | boolean =>
                simp [qm_tg] at hv
                subst hv
                simp at hc9
                exact Or.inr ⟨rfl, hc9⟩
              | _ => simp [qm_tg] at hv
            refine key (h.1, qm_up h.2.1 q f x, h.2.2.1, h.2.2.2) (.int x) rfl (fun j hj => qm_up_ne hj) (fun _ _ => rfl) (fun _ _ => rfl) ?_ ?_ ?_ ?_ k
            · rw [← hv]
              show Value.int (qm_up h.2.1 q f x q f) = _
              rw [qm_up_at, if_pos rfl]
            · intro t ht u
              cases u <;> simp [qm_tv, qm_up_at, ht]
            · rcases hcase with z | ⟨z, rfl | rfl⟩
              · rw [z]; rfl
              · rw [z]; rfl
              · rw [z]; rfl
            · rcases hcase with z | ⟨z, rfl | rfl⟩
              · rw [z]; rfl
              · rw [z]; rfl
              · rw [z]; rfl
        · rename_i t x
          cases hx
          subst hnp
          have hcase : qm_ty a f = .long := by
            generalize qm_ty a f = ty at hv hto
            cases ty <;> simp [qm_tg] at hv <;> rfl
          refine key (h.1, h.2.1, qm_up h.2.2.1 q f x, h.2.2.2) (.long x) rfl (fun _ _ => rfl) (fun j hj => qm_up_ne hj) (fun _ _ => rfl) ?_ ?_ ?_ ?_ k
          · rw [← hv]
            show Value.long (qm_up h.2.2.1 q f x q f) = _
            rw [qm_up_at, if_pos rfl]
          · intro t ht u
            cases u <;> simp [qm_tv, qm_up_at, ht]
          · rw [hcase]; rfl
          · rw [hcase]; rfl
        · rename_i x
          cases hx
          subst hnp
          have hcase : (∃ n, qm_ty a f = .object n) ∨ ∃ n, qm_ty a f = .array n := by
            generalize qm_ty a f = ty at hv hto
            cases ty with
            | object n => exact Or.inl ⟨n, rfl⟩
            | array n => exact Or.inr ⟨n, rfl⟩
            | _ => simp [qm_tg, qm_tyok] at hv hto
          refine key (h.1, h.2.1, h.2.2.1, qm_up h.2.2.2 q f (some x)) (.ref x) rfl (fun _ _ => rfl) (fun _ _ => rfl) (fun j hj => qm_up_ne hj) ?_ ?_ ?_ ?_ k
          · rw [← hv]
            show qm_rv (qm_up h.2.2.2 q f (some x) q f) = _
            rw [qm_up_at, if_pos rfl]
            rfl
          · intro t ht u
            cases u <;> simp [qm_tv, qm_up_at, ht]
          · rcases hcase with ⟨n, z⟩ | ⟨n, z⟩ <;> (rw [z]; rfl)
          · rcases hcase with ⟨n, z⟩ | ⟨n, z⟩ <;> (rw [z]; rfl)
        · cases hx
          subst hnp
          have hcase : (∃ n, qm_ty a f = .object n) ∨ ∃ n, qm_ty a f = .array n := by
            generalize qm_ty a f = ty at hv hto
            cases ty with
            | object n => exact Or.inl ⟨n, rfl⟩
            | array n => exact Or.inr ⟨n, rfl⟩
            | _ => simp [qm_tg, qm_tyok] at hv hto
          refine key (h.1, h.2.1, h.2.2.1, qm_up h.2.2.2 q f none) .null rfl (fun _ _ => rfl) (fun _ _ => rfl) (fun j hj => qm_up_ne hj) ?_ ?_ ?_ ?_ k
          · rw [← hv]
            show qm_rv (qm_up h.2.2.2 q f none q f) = _
            rw [qm_up_at, if_pos rfl]
            rfl
          · intro t ht u
            cases u <;> simp [qm_tv, qm_up_at, ht]
          · rcases hcase with ⟨n, z⟩ | ⟨n, z⟩ <;> (rw [z]; rfl)
          · rcases hcase with ⟨n, z⟩ | ⟨n, z⟩ <;> (rw [z]; rfl)
        · cases hx
    · cases hx
  · cases hx
theorem qm_n_arraylength (C0 : qm_Cx p s m args meth c cc nL o ini D aC b B L xs) (hok : qm_ok qm_hd o nL ini rt cc (pc, np, .arraylength, a, f, v) = true) (hx : qm_x (L, xs) (pc, np, .arraylength, a, f, v) (pc, ls, st, h) = some (.inl c')) (k : qm_Wm p l e R s m args below meth c D aC b B n0 t0 nL Q c') : qm_Wm p l e R s m args below meth c D aC b B n0 t0 nL Q (pc, ls, st, h) := by
  obtain ⟨hex, hb, hml, hown, hts, hK, hX, hbB, hBs, hini⟩ := C0
  simp only [qm_ok, Bool.and_eq_true, decide_eq_true_eq] at hok
  obtain ⟨hdg, hn⟩ := hok
  have hnp := qm_np hn
  have hdk := qm_dg hdg hnp
  simp only [qm_x, qm_nx] at hx
  split at hx
  · rename_i q r
    split at hx
    · rename_i w hq
      cases hb5 : Nat.blt w.1 5 with
      | false => simp [hb5] at hx
      | true =>
        simp only [hb5, cond_true] at hx
        cases hx
        subst hnp
        obtain ⟨w1, w2⟩ := w
        have hw5 : w1 < 5 := Nat.le_of_ble_eq_true hb5
        intro H locs la hH hS hL
        match w1, hw5, hq with
        | 0, _, hq => exact va_alen hex hb hK hH.2.1 q 0 (qm_w_get hq) rfl rfl hdk (k H locs la hH hS hL)
        | 1, _, hq => exact va_alen hex hb hK hH.2.1 q 1 (qm_w_get hq) rfl rfl hdk (k H locs la hH hS hL)
        | 2, _, hq => exact va_alen hex hb hK hH.2.1 q 2 (qm_w_get hq) rfl rfl hdk (k H locs la hH hS hL)
        | 3, _, hq => exact va_alen hex hb hK hH.2.1 q 3 (qm_w_get hq) rfl rfl hdk (k H locs la hH hS hL)
        | 4, _, hq => exact va_alen hex hb hK hH.2.1 q 4 (qm_w_get hq) rfl rfl hdk (k H locs la hH hS hL)
    · cases hx
  · cases hx
    subst hnp
    intro H locs la hH hS hL
    exact va_slen hex hb hX (Nat.lt_of_lt_of_le hbB hBs) (A := qm_A B) (fun z => absurd z (Nat.not_le.mpr hbB)) hS hdk (k H locs la hH hS hL)
  · cases hx
theorem qm_n_newarray (C0 : qm_Cx p s m args meth c cc nL o ini D aC b B L xs) {t : ArrayType} (hok : qm_ok qm_hd o nL ini rt cc (pc, np, .newarray t, a, f, v) = true) (hx : qm_x (L, xs) (pc, np, .newarray t, a, f, v) (pc, ls, st, h) = some (.inl c')) (h0 : n0 ≤ h.1.length ∧ t0 ≤ qm_tot h.1) (hr : c'.2.2.2.1.length - n0 ≤ R.cells ∧ qm_tot c'.2.2.2.1 - t0 ≤ R.slots) (k : qm_Wm p l e R s m args below meth c D aC b B n0 t0 nL Q c') : qm_Wm p l e R s m args below meth c D aC b B n0 t0 nL Q (pc, ls, st, h) := by
  obtain ⟨hex, hb, hml, hown, hts, hK, hX, hbB, hBs, hini⟩ := C0
  simp only [qm_ok, Bool.and_eq_true, decide_eq_true_eq] at hok
  obtain ⟨hdg, ⟨ha, ha4⟩, hn⟩ := hok
  have hnp := qm_np hn
  have hdk := qm_dg hdg hnp
  have ha := Nat.eq_of_beq_eq_true ha
  have ha4 : a < 4 := Nat.le_of_ble_eq_true ha4
  simp only [qm_x, qm_nx] at hx
  split at hx
  · rename_i n r
    cases hi : qm_in n 100000 with
    | false => simp [hi] at hx
    | true =>
      simp only [hi, cond_true] at hx
      cases hx
      subst hnp
      have e1 : (h.1 ++ [(a, n.toNatClampNeg)]).length - n0 = h.1.length - n0 + 1 := by simp; omega
      have e2 : qm_tot (h.1 ++ [(a, n.toNatClampNeg)]) - t0 = qm_tot h.1 - t0 + n.toNatClampNeg := by
        rw [qm_tot_push]
        have : qm_tot [(a, n.toNatClampNeg)] = n.toNatClampNeg := by simp [qm_tot]
        omega
      have r1 : (h.1 ++ [(a, n.toNatClampNeg)]).length - n0 ≤ R.cells := hr.1
      have r2 : qm_tot (h.1 ++ [(a, n.toNatClampNeg)]) - t0 ≤ R.slots := hr.2
      rw [e1] at r1
      rw [e2] at r2
      intro H locs la hH hS hL
      refine qm_r_newa hex hb ha.symm ha4 ?_ hK hH hS (qm_in_iff hi) r1 r2 hdk (fun H1 hH1 hS1 => ?_)
      · cases t with
        | int => exact hts _ qm_w_ai rfl
        | byte => exact hts _ qm_w_ab rfl
        | boolean => exact hts _ qm_w_az rfl
        | long => exact hts _ qm_w_al rfl
        | _ => subst ha; exact absurd ha4 (by decide)
      · have := k H1 locs la hH1 hS1 hL
        dsimp only at this
        rw [e1, e2] at this
        exact this
  · cases hx
theorem qm_n_new (C0 : qm_Cx p s m args meth c cc nL o ini D aC b B L xs) {i : Nat} (hok : qm_ok qm_hd o nL ini rt cc (pc, np, .new i, a, f, v) = true) (hx : qm_x (L, xs) (pc, np, .new i, a, f, v) (pc, ls, st, h) = some (.inl c')) (h0 : n0 ≤ h.1.length ∧ t0 ≤ qm_tot h.1) (hr : c'.2.2.2.1.length - n0 ≤ R.cells ∧ qm_tot c'.2.2.2.1 - t0 ≤ R.slots) (k : qm_Wm p l e R s m args below meth c D aC b B n0 t0 nL Q c') : qm_Wm p l e R s m args below meth c D aC b B n0 t0 nL Q (pc, ls, st, h) := by
  obtain ⟨hex, hb, hml, hown, hts, hK, hX, hbB, hBs, hini⟩ := C0
  simp only [qm_ok, Bool.and_eq_true, decide_eq_true_eq] at hok
  obtain ⟨hdg, ⟨hlk, hnf⟩, hn⟩ := hok
  have hnp := qm_np hn
  have hdk := qm_dg hdg hnp
  obtain ⟨C, T, N, hc, hlink⟩ := qm_nl_use hlk
  obtain ⟨g1, g2, g3, g4, g5, g6, g7, g8⟩ := qm_cls hc
  have hnf := Nat.eq_of_beq_eq_true hnf
  have hnN : qm_nf a = N := by simp only [qm_nf, hc]
  rw [hnN] at hnf
  subst hnf
  simp only [qm_x, qm_nx] at hx
  cases hx
  subst hnp
  have e1 : (h.1 ++ [(a + 5, f)]).length - n0 = h.1.length - n0 + 1 := by simp; omega
  have e2 : qm_tot (h.1 ++ [(a + 5, f)]) - t0 = qm_tot h.1 - t0 + f := by
    rw [qm_tot_push]
    have : qm_tot [(a + 5, f)] = f := by simp [qm_tot]
    omega
  have r1 : (h.1 ++ [(a + 5, f)]).length - n0 ≤ R.cells := hr.1
  have r2 : qm_tot (h.1 ++ [(a + 5, f)]) - t0 ≤ R.slots := hr.2
  rw [e1] at r1
  rw [e2] at r2
  intro H locs la hH hS hL
  refine qm_r_new hex hb (qm_uws hts g1) (fun _ z => z) g2 g4 hown (hts _ hlink rfl) (hts _ g5 rfl) (hts _ g6 rfl) hK hH hS hc r1 r2 hdk (fun H1 hH1 hS1 => ?_)
  have := k H1 locs la hH1 hS1 hL
  dsimp only at this
  rw [e1, e2] at this
  exact this
theorem qm_n_multianewarray (C0 : qm_Cx p s m args meth c cc nL o ini D aC b B L xs) {i d : Nat} (hok : qm_ok qm_hd o nL ini rt cc (pc, np, .multianewarray i d, a, f, v) = true) (hx : qm_x (L, xs) (pc, np, .multianewarray i d, a, f, v) (pc, ls, st, h) = some (.inl c')) (h0 : n0 ≤ h.1.length ∧ t0 ≤ qm_tot h.1) (hr : c'.2.2.2.1.length - n0 ≤ R.cells ∧ qm_tot c'.2.2.2.1 - t0 ≤ R.slots) (k : qm_Wm p l e R s m args below meth c D aC b B n0 t0 nL Q c') : qm_Wm p l e R s m args below meth c D aC b B n0 t0 nL Q (pc, ls, st, h) := by
  obtain ⟨hex, hb, hml, hown, hts, hK, hX, hbB, hBs, hini⟩ := C0
  simp only [qm_ok, Bool.and_eq_true, decide_eq_true_eq] at hok
  obtain ⟨hdg, ⟨hd2, hlk⟩, hn⟩ := hok
  have hnp := qm_np hn
  have hdk := qm_dg hdg hnp
  have hd2 := Nat.eq_of_beq_eq_true hd2
  subst hd2
  simp only [qm_x, qm_nx] at hx
  split at hx
  · rename_i z n r
    cases hi : qm_in n 1000 && qm_in z 1000 with
    | false => simp only [hi, cond_false] at hx; cases hx
    | true =>
      simp only [hi, cond_true] at hx
      rw [Bool.and_eq_true] at hi
      cases hx
      subst hnp
      have e1 : (h.1 ++ ((4, n.toNatClampNeg) :: List.replicate n.toNatClampNeg (0, z.toNatClampNeg))).length - n0 = h.1.length - n0 + 1 + n.toNatClampNeg := by simp; omega
      have e2 : qm_tot (h.1 ++ ((4, n.toNatClampNeg) :: List.replicate n.toNatClampNeg (0, z.toNatClampNeg))) - t0 = qm_tot h.1 - t0 + n.toNatClampNeg + n.toNatClampNeg * z.toNatClampNeg := by
        rw [qm_tot_push]
        have : qm_tot ((4, n.toNatClampNeg) :: List.replicate n.toNatClampNeg (0, z.toNatClampNeg)) = n.toNatClampNeg + n.toNatClampNeg * z.toNatClampNeg := by simp [qm_tot]
        omega
      have r1 : (h.1 ++ ((4, n.toNatClampNeg) :: List.replicate n.toNatClampNeg (0, z.toNatClampNeg))).length - n0 ≤ R.cells := hr.1
      have r2 : qm_tot (h.1 ++ ((4, n.toNatClampNeg) :: List.replicate n.toNatClampNeg (0, z.toNatClampNeg))) - t0 ≤ R.slots := hr.2
      rw [e1] at r1
      rw [e2] at r2
      intro H locs la hH hS hL
      refine qm_r_mna hex hb hown (hts _ (qm_gl_use hlk) rfl) (hts _ qm_w_ao rfl) (hts _ qm_w_ai rfl) hK hH hS (by have := hH.1; omega) (qm_in_iff hi.1) (qm_in_iff hi.2) (by show h.1.length - n0 + (1 + n.toNatClampNeg) ≤ R.cells; omega) (by show qm_tot h.1 - t0 + (n.toNatClampNeg + n.toNatClampNeg * z.toNatClampNeg) ≤ R.slots; omega) hdk (fun H1 hH1 hS1 => ?_)
      have := k H1 locs la hH1 hS1 hL
      dsimp only at this
      rw [e1, e2] at this
      exact this
  · cases hx
theorem qm_n_invokespecial (C0 : qm_Cx p s m args meth c cc nL o ini D aC b B L xs) {i : Nat} (hok : qm_ok qm_hd o nL ini rt cc (pc, np, .invokespecial i, a, f, v) = true) (hx : qm_x (L, xs) (pc, np, .invokespecial i, a, f, v) (pc, ls, st, h) = some (.inl c')) (hR : 1 ≤ R.frames ∧ 60 ≤ R.locals) (k : qm_Wm p l e R s m args below meth c D aC b B n0 t0 nL Q c') : qm_Wm p l e R s m args below meth c D aC b B n0 t0 nL Q (pc, ls, st, h) := by
  obtain ⟨hex, hb, hml, hown, hts, hK, hX, hbB, hBs, hini⟩ := C0
  simp only [qm_ok, Bool.and_eq_true, decide_eq_true_eq] at hok
  obtain ⟨hdg, hok, hn⟩ := hok
  have hnp := qm_np hn
  have hdk := qm_dg hdg hnp
  simp only [qm_x, qm_nx, qm_cl] at hx
  split at hx
  · rename_i q r hdr
    split at hx
    · simp only [Bool.and_eq_true] at hok
      have hf0 := Nat.eq_of_beq_eq_true hok.1
      subst hf0
      rw [List.drop_zero] at hdr
      cases hc8 : Nat.ble (qm_cat r) 8 with
      | false => simp [hc8] at hx
      | true =>
        simp only [hc8, cond_true] at hx
        cases hx
        subst hnp
        subst hdr
        have hcat : qm_cat r ≤ 8 := Nat.le_of_ble_eq_true hc8
        intro H locs la hH hS hL
        refine W.objInit hex hb hown (hts _ (qm_ol_use hok.2) rfl) (hts _ qm_w_i28 rfl) (hts _ qm_w_c29 rfl) rfl (by rw [hml]; exact hL.2.1) rfl hdk hR.1 ?_ (k H locs la hH hS hL)
        show 2 * 0 + ((r.map (qm_cv b B)).map fun v => v.category).sum + 12 ≤ R.locals
        rw [qm_cat_cv]
        omega
    · cases hc8 : Nat.ble (qm_cat r) 8 with
      | false => simp only [hc8, cond_false] at hx; cases hx
      | true => simp only [hc8, cond_true] at hx; cases hx
  · cases hx
theorem qm_n_invokestatic (C0 : qm_Cx p s m args meth c cc nL o ini D aC b B L xs) {i : Nat} (hok : qm_ok qm_hd o nL ini rt cc (pc, np, .invokestatic i, a, f, v) = true) (hx : qm_x (L, xs) (pc, np, .invokestatic i, a, f, v) (pc, ls, st, h) = some (.inl c')) (hr : h.1.length - n0 ≤ R.cells ∧ qm_tot h.1 - t0 ≤ R.slots) (hR : 1 ≤ R.frames ∧ 60 ≤ R.locals) (k : qm_Wm p l e R s m args below meth c D aC b B n0 t0 nL Q c') : qm_Wm p l e R s m args below meth c D aC b B n0 t0 nL Q (pc, ls, st, h) := by
  obtain ⟨hex, hb, hml, hown, hts, hK, hX, hbB, hBs, hini⟩ := C0
  simp only [qm_ok, Bool.and_eq_true, decide_eq_true_eq] at hok
  obtain ⟨hdg, hok, hn⟩ := hok
  have hnp := qm_np hn
  have hdk := qm_dg hdg hnp
  simp only [qm_x, qm_nx, qm_cl] at hx
  split at hx
  · split at hx
    · rename_i n dp d sp q r
      split at hx
      · rename_i m0 k0 hq hd
        cases hc8 : (decide (¬ n < 0) && (decide (¬ sp < 0) && decide (¬ dp < 0))) && ((Nat.ble (sp.toNatClampNeg + n.toNatClampNeg) m0 && Nat.ble (dp.toNatClampNeg + n.toNatClampNeg) k0) && Nat.ble (qm_cat r) 8) with
        | false => simp only [hc8, cond_false] at hx; cases hx
        | true =>
          simp only [hc8, cond_true] at hx
          simp only [Bool.and_eq_true, decide_eq_true_eq] at hc8
          obtain ⟨⟨u1, u2, u3⟩, ⟨u4, u5⟩, u6⟩ := hc8
          have u4 := Nat.le_of_ble_eq_true u4
          have u5 := Nat.le_of_ble_eq_true u5
          have u6 : qm_cat r ≤ 8 := Nat.le_of_ble_eq_true u6
          cases hx
          subst hnp
          intro H locs la hH hS hL
          refine qm_r_copy hex hb (by rw [hml]; exact hL.2.1.symm) hown (hts _ (qm_ac_use hok) rfl) (hts _ qm_w_snt rfl) (hts _ qm_w_sst rfl) (hts _ qm_w_sys rfl) hK hH hS hq hd u2 u3 u1 u4 u5 hR.1 ?_ hdk (fun H1 locs1 hH1 hS1 => k H1 locs1 la hH1 hS1 hL)
          rw [qm_cat_cv]
          have : nativeFrameWords "java/lang/System" "arraycopy" 5 ≤ 40 := by decide +kernel
          omega
      · cases hx
    · cases hx
  · simp only [decide_eq_true_eq] at hok
    have hlk := qm_mt_use hok
    split at hx
    · rename_i y x r
      cases hc8 : Nat.ble (qm_cat r) 8 with
      | false => simp only [hc8, cond_false] at hx; cases hx
      | true =>
        simp only [hc8, cond_true] at hx
        cases hx
        subst hnp
        have hcat : qm_cat r ≤ 8 := Nat.le_of_ble_eq_true hc8
        intro H locs la hH hS hL
        exact va_mmax hex hb (by rw [hml]; exact hL.2.1.symm) hown (hts _ hlk rfl) (hts _ qm_w_ms0 rfl) (hts _ qm_w_mi rfl) (hts _ qm_w_mc0 rfl) hR.1 (by rw [qm_cat_cv]; omega) hr.1 hr.2 hdk (k H locs la hH hS hL)
    · rename_i y x r
      cases hc8 : Nat.ble (qm_cat r) 8 with
      | false => simp only [hc8, cond_false] at hx; cases hx
      | true =>
        simp only [hc8, cond_true] at hx
        cases hx
        subst hnp
        have hcat : qm_cat r ≤ 8 := Nat.le_of_ble_eq_true hc8
        intro H locs la hH hS hL
        exact va_mmin hex hb (by rw [hml]; exact hL.2.1.symm) hown (hts _ hlk rfl) (hts _ qm_w_ms1 rfl) (hts _ qm_w_mi rfl) (hts _ qm_w_mc1 rfl) hR.1 (by rw [qm_cat_cv]; omega) hr.1 hr.2 hdk (k H locs la hH hS hL)
    · rename_i x r
      cases hc8 : Nat.ble (qm_cat r) 8 with
      | false => simp only [hc8, cond_false] at hx; cases hx
      | true =>
        simp only [hc8, cond_true] at hx
        cases hx
        subst hnp
        have hcat : qm_cat r ≤ 8 := Nat.le_of_ble_eq_true hc8
        intro H locs la hH hS hL
        exact va_mabs hex hb (by rw [hml]; exact hL.2.1.symm) hown (hts _ hlk rfl) (hts _ qm_w_ms2 rfl) (hts _ qm_w_mi rfl) (hts _ qm_w_mc2 rfl) hR.1 (by rw [qm_cat_cv]; omega) hr.1 hr.2 hdk (k H locs la hH hS hL)
    · rename_i y x r
      cases hc8 : Nat.ble (qm_cat r) 8 with
      | false => simp only [hc8, cond_false] at hx; cases hx
      | true =>
        simp only [hc8, cond_true] at hx
        cases hx
        subst hnp
        have hcat : qm_cat r ≤ 8 := Nat.le_of_ble_eq_true hc8
        intro H locs la hH hS hL
        exact va_mmax_long hex hb (by rw [hml]; exact hL.2.1.symm) hown (hts _ hlk rfl) (hts _ qm_w_ms3 rfl) (hts _ qm_w_mi rfl) (hts _ qm_w_mc3 rfl) hR.1 (by rw [qm_cat_cv]; omega) hr.1 hr.2 hdk (k H locs la hH hS hL)
    · rename_i y x r
      cases hc8 : Nat.ble (qm_cat r) 8 with
      | false => simp only [hc8, cond_false] at hx; cases hx
      | true =>
        simp only [hc8, cond_true] at hx
        cases hx
        subst hnp
        have hcat : qm_cat r ≤ 8 := Nat.le_of_ble_eq_true hc8
        intro H locs la hH hS hL
        exact va_mmin_long hex hb (by rw [hml]; exact hL.2.1.symm) hown (hts _ hlk rfl) (hts _ qm_w_ms4 rfl) (hts _ qm_w_mi rfl) (hts _ qm_w_mc4 rfl) hR.1 (by rw [qm_cat_cv]; omega) hr.1 hr.2 hdk (k H locs la hH hS hL)
    · cases hx
  · cases hc8 : Nat.ble f st.length && Nat.ble (qm_cat (st.drop f)) 8 with
    | false => simp only [hc8, cond_false] at hx; cases hx
    | true => simp only [hc8, cond_true] at hx; cases hx
end QMS2
end
section
/-! branches, answers, calls; the run -/
def qm_dec (cc : ByteArray) (rt pc : Nat) (r : Option Value) : Prop := match r with
  | none => decode cc pc = .ok (.return_, 1) ∧ rt = 3
  | some (.int x) => decode cc pc = .ok (.ireturn, 1) ∧ (rt = 0 ∨ (rt = 1 ∧ (x = 0 ∨ x = 1)))
  | some (.long _) => decode cc pc = .ok (.lreturn, 1) ∧ rt = 2
  | _ => False
section QMB
variable {p : Program} {l : Launch} {e : Env} {R : Room} {s : State} {m : MethodId} {args : Array Value} {below : List Frame} {meth : Method} {c : Code} {Q : State → Prop}
variable {cc : ByteArray} {nL o rt : Nat} {ini : Bool} {D : va_G} {aC : Nat → ClassId} {b B L n0 t0 : Nat} {xs : Nat → Int32} {pc np a f : Nat} {v : Value} {ls st : List Value} {h : qm_H} {c1 c2 : qm_C} {bb : Bool}
theorem qm_b_if (C0 : qm_Cx p s m args meth c cc nL o ini D aC b B L xs) {q : ClassFile.Cond} {off : Int} (hok : qm_ok qm_hd o nL ini rt cc (pc, np, .ifCond q off, a, f, v) = true) (hx : qm_x (L, xs) (pc, np, .ifCond q off, a, f, v) (pc, ls, st, h) = some (.inr (.inl (bb, c1, c2))))
    (k1 : bb = true → qm_Wm p l e R s m args below meth c D aC b B n0 t0 nL Q c1) (k2 : bb = false → qm_Wm p l e R s m args below meth c D aC b B n0 t0 nL Q c2) : qm_Wm p l e R s m args below meth c D aC b B n0 t0 nL Q (pc, ls, st, h) := by
  obtain ⟨hex, hb, hml, hown, hts, hK, hX, hbB, hBs, hini⟩ := C0
  simp only [qm_ok, Bool.and_eq_true, decide_eq_true_eq] at hok
  obtain ⟨hdg, ht, hn⟩ := hok
  have hnp := qm_np hn
  have hdk := qm_dg hdg hnp
  simp only [qm_x, qm_br] at hx
  split at hx
  · rename_i x r
    cases hx
    subst hnp
    intro H locs la hH hS hL
    have k1 := fun z => k1 z H locs la hH hS hL
    have k2 := fun z => k2 z H locs la hH hS hL
    cases q with
    | eq => exact lv_if_eq hex hb hdk ht (fun z => k1 (decide_eq_true z)) (fun z => k2 (decide_eq_false z))
    | ne => exact lv_if_ne hex hb hdk ht (fun z => k1 (decide_eq_true z)) (fun z => k2 (decide_eq_false (fun y => y z)))
    | lt => exact lv_if_lt hex hb hdk ht (fun z => k1 (decide_eq_true z)) (fun z => k2 (decide_eq_false z))
    | ge => exact lv_if_ge hex hb hdk ht (fun z => k1 (decide_eq_true z)) (fun z => k2 (decide_eq_false z))
    | gt => exact lv_if_gt hex hb hdk ht (fun z => k1 (decide_eq_true z)) (fun z => k2 (decide_eq_false z))
    | le => exact lv_if_le hex hb hdk ht (fun z => k1 (decide_eq_true z)) (fun z => k2 (decide_eq_false z))
  · cases hx
theorem qm_b_icmp (C0 : qm_Cx p s m args meth c cc nL o ini D aC b B L xs) {q : ClassFile.Cond} {off : Int} (hok : qm_ok qm_hd o nL ini rt cc (pc, np, .if_icmp q off, a, f, v) = true) (hx : qm_x (L, xs) (pc, np, .if_icmp q off, a, f, v) (pc, ls, st, h) = some (.inr (.inl (bb, c1, c2))))
    (k1 : bb = true → qm_Wm p l e R s m args below meth c D aC b B n0 t0 nL Q c1) (k2 : bb = false → qm_Wm p l e R s m args below meth c D aC b B n0 t0 nL Q c2) : qm_Wm p l e R s m args below meth c D aC b B n0 t0 nL Q (pc, ls, st, h) := by
  obtain ⟨hex, hb, hml, hown, hts, hK, hX, hbB, hBs, hini⟩ := C0
  simp only [qm_ok, Bool.and_eq_true, decide_eq_true_eq] at hok
  obtain ⟨hdg, ht, hn⟩ := hok
  have hnp := qm_np hn
  have hdk := qm_dg hdg hnp
  simp only [qm_x, qm_br] at hx
  split at hx
  · rename_i y x r
    cases hx
    subst hnp
    intro H locs la hH hS hL
    have k1 := fun z => k1 z H locs la hH hS hL
    have k2 := fun z => k2 z H locs la hH hS hL
    cases q with
    | eq => exact lv_icmp_eq hex hb hdk ht (fun z => k1 (decide_eq_true z)) (fun z => k2 (decide_eq_false z))
    | ne => exact lv_icmp_ne hex hb hdk ht (fun z => k1 (decide_eq_true z)) (fun z => k2 (decide_eq_false (fun y => y z)))
    | lt => exact lv_icmp_lt hex hb hdk ht (fun z => k1 (decide_eq_true z)) (fun z => k2 (decide_eq_false z))
    | ge => exact lv_icmp_ge hex hb hdk ht (fun z => k1 (decide_eq_true z)) (fun z => k2 (decide_eq_false z))
    | gt => exact lv_icmp_gt hex hb hdk ht (fun z => k1 (decide_eq_true z)) (fun z => k2 (decide_eq_false z))
    | le => exact lv_icmp_le hex hb hdk ht (fun z => k1 (decide_eq_true z)) (fun z => k2 (decide_eq_false z))
  · cases hx
end QMB
end
section
/-! what an instruction of the small machine comes to: its kind, and that cells only come -/
def qm_kd (ins : Instr) : Nat := match ins with
  | .ifCond _ _ => 1
  | .if_icmp _ _ => 1
  | .ireturn => 2
  | .lreturn => 2
  | .return_ => 2
  | .invokevirtual _ => 3
  | .invokespecial _ => 4
  | .invokestatic _ => 4
  | _ => 0
def qm_fact (ins : Instr) (c : qm_C) (r : qm_C ⊕ ((Bool × qm_C × qm_C) ⊕ ((Option Value × qm_H) ⊕ (Nat × List Value × qm_C)))) : Prop := match r with
  | .inl c' => (qm_kd ins = 0 ∨ qm_kd ins = 4) ∧ ∃ t, c'.2.2.2.1 = c.2.2.2.1 ++ t
  | .inr (.inl q) => qm_kd ins = 1 ∧ q.2.1.2.2.2 = c.2.2.2 ∧ q.2.2.2.2.2 = c.2.2.2
  | .inr (.inr (.inl q)) => qm_kd ins = 2 ∧ q.2 = c.2.2.2
  | .inr (.inr (.inr q)) => (qm_kd ins = 3 ∨ qm_kd ins = 4) ∧ q.2.2.2.2.2 = c.2.2.2
set_option maxHeartbeats 4000000 in
theorem qm_x_fact (X : Nat × (Nat → Int32)) (pc np a f : Nat) (ins : Instr) (v : Value) (c : qm_C) {r : qm_C ⊕ ((Bool × qm_C × qm_C) ⊕ ((Option Value × qm_H) ⊕ (Nat × List Value × qm_C)))} (h : qm_x X (pc, np, ins, a, f, v) c = some r) : qm_fact ins c r := by
  have nil : ∀ (q : List (Nat × Nat)), ∃ t, q = q ++ t := fun q => ⟨[], (List.append_nil q).symm⟩
  cases ins <;> simp only [qm_x, qm_nx, qm_br, qm_rt, qm_cl, Bool.cond_eq_ite] at h <;> (repeat' split at h) <;> first
    | (cases h; exact ⟨Or.inl rfl, nil _⟩)
    | (cases h; exact ⟨Or.inr rfl, nil _⟩)
    | (cases h; exact ⟨Or.inl rfl, _, rfl⟩)
    | (cases h; exact ⟨rfl, rfl, rfl⟩)
    | (cases h; exact ⟨rfl, rfl⟩)
    | (cases h; exact ⟨Or.inl rfl, rfl⟩)
    | (cases h; exact ⟨Or.inr rfl, rfl⟩)
    | (cases h; done)
end
section
/-! the methods' heads, by the tables' words -/
def qm_hdf (e : qm_Hd) : Bool :=
  (decide (qm_at e.2.2.2.2.2.2.2.2.1 = some (bif e.2.2.2.2.2.2.1 then .static e.2.1 else .instanceMethod e.2.1)) &&
  ((e.2.2.2.2.2.2.1 || (decide (e.2.1.name = "<init>") || decide (qm_at e.2.2.2.2.2.2.2.2.2.1 = some (.selects e.2.1.cls e.2.1 e.2.1)))) &&
  (decide (qm_at e.2.2.2.2.2.2.2.2.2.2 = some (.initialized e.2.1.cls)) &&
  (decide (e.2.1.cls = qm_cn e.1) && (decide ((parseMethodDescriptor e.2.1.desc).map (fun d => d.parameters.length) = some e.2.2.2.2.2.1) &&
  ((decide (e.2.1.cls ≠ "java/lang/invoke/MethodHandle") && decide (e.2.1.cls ≠ "java/lang/invoke/VarHandle")) && (plainName e.2.1.cls && Nat.ble e.2.2.2.1 45)))))))
def qm_hcw (e : qm_Hd) : Prop := Cond.code e.2.1 e.2.2.1 e.2.2.2.1 e.2.2.2.2.1 ∈ lw_tbl
theorem qm_hdc_0 : qm_hd_0.all qm_hdf = true := by decide +kernel
theorem qm_hcw_0 : ∀ e ∈ qm_hd_0, qm_hcw e := List.forall_mem_cons.mpr ⟨qm_at_mem (q := 26) rfl, List.forall_mem_cons.mpr ⟨qm_at_mem (q := 34) rfl, List.forall_mem_cons.mpr ⟨qm_at_mem (q := 70) rfl, List.forall_mem_cons.mpr ⟨qm_at_mem (q := 122) rfl, List.forall_mem_cons.mpr ⟨qm_at_mem (q := 189) rfl, List.forall_mem_cons.mpr ⟨qm_at_mem (q := 228) rfl, List.forall_mem_cons.mpr ⟨qm_at_mem (q := 233) rfl, List.forall_mem_cons.mpr ⟨qm_at_mem (q := 1075) rfl, List.forall_mem_cons.mpr ⟨qm_at_mem (q := 1079) rfl, List.forall_mem_cons.mpr ⟨qm_at_mem (q := 1116) rfl, List.forall_mem_cons.mpr ⟨qm_at_mem (q := 1138) rfl, List.forall_mem_cons.mpr ⟨qm_at_mem (q := 1180) rfl, List.forall_mem_cons.mpr ⟨qm_at_mem (q := 1186) rfl, List.forall_mem_cons.mpr ⟨qm_at_mem (q := 1237) rfl, List.forall_mem_cons.mpr ⟨qm_at_mem (q := 2055) rfl, List.forall_mem_cons.mpr ⟨qm_at_mem (q := 2059) rfl, List.forall_mem_cons.mpr ⟨qm_at_mem (q := 2063) rfl, List.forall_mem_cons.mpr ⟨qm_at_mem (q := 2067) rfl, List.forall_mem_cons.mpr ⟨qm_at_mem (q := 2071) rfl, List.forall_mem_cons.mpr ⟨qm_at_mem (q := 2075) rfl, List.forall_mem_cons.mpr ⟨qm_at_mem (q := 2080) rfl, List.forall_mem_cons.mpr ⟨qm_at_mem (q := 2084) rfl, List.forall_mem_cons.mpr ⟨qm_at_mem (q := 2087) rfl, List.forall_mem_cons.mpr ⟨qm_at_mem (q := 2090) rfl, List.forall_mem_cons.mpr ⟨qm_at_mem (q := 2094) rfl, List.forall_mem_cons.mpr ⟨qm_at_mem (q := 2097) rfl, List.forall_mem_cons.mpr ⟨qm_at_mem (q := 2153) rfl, List.forall_mem_cons.mpr ⟨qm_at_mem (q := 2157) rfl, List.forall_mem_cons.mpr ⟨qm_at_mem (q := 2161) rfl, List.forall_mem_cons.mpr ⟨qm_at_mem (q := 2165) rfl, List.forall_mem_cons.mpr ⟨qm_at_mem (q := 2169) rfl, List.forall_mem_cons.mpr ⟨qm_at_mem (q := 2172) rfl, List.forall_mem_cons.mpr ⟨qm_at_mem (q := 2175) rfl, List.forall_mem_cons.mpr ⟨qm_at_mem (q := 2178) rfl, List.forall_mem_cons.mpr ⟨qm_at_mem (q := 2182) rfl, List.forall_mem_cons.mpr ⟨qm_at_mem (q := 2185) rfl, List.forall_mem_cons.mpr ⟨qm_at_mem (q := 2189) rfl, List.forall_mem_cons.mpr ⟨qm_at_mem (q := 2193) rfl, List.forall_mem_cons.mpr ⟨qm_at_mem (q := 2197) rfl, List.forall_mem_cons.mpr ⟨qm_at_mem (q := 2201) rfl, fun _ h => absurd h List.not_mem_nil⟩⟩⟩⟩⟩⟩⟩⟩⟩⟩⟩⟩⟩⟩⟩⟩⟩⟩⟩⟩⟩⟩⟩⟩⟩⟩⟩⟩⟩⟩⟩⟩⟩⟩⟩⟩⟩⟩⟩⟩
theorem qm_hdc_1 : qm_hd_1.all qm_hdf = true := by decide +kernel
theorem qm_hcw_1 : ∀ e ∈ qm_hd_1, qm_hcw e := List.forall_mem_cons.mpr ⟨qm_at_mem (q := 2205) rfl, List.forall_mem_cons.mpr ⟨qm_at_mem (q := 2209) rfl, List.forall_mem_cons.mpr ⟨qm_at_mem (q := 2213) rfl, List.forall_mem_cons.mpr ⟨qm_at_mem (q := 2217) rfl, List.forall_mem_cons.mpr ⟨qm_at_mem (q := 2221) rfl, List.forall_mem_cons.mpr ⟨qm_at_mem (q := 2225) rfl, List.forall_mem_cons.mpr ⟨qm_at_mem (q := 2229) rfl, List.forall_mem_cons.mpr ⟨qm_at_mem (q := 2233) rfl, List.forall_mem_cons.mpr ⟨qm_at_mem (q := 3000) rfl, List.forall_mem_cons.mpr ⟨qm_at_mem (q := 3004) rfl, List.forall_mem_cons.mpr ⟨qm_at_mem (q := 3008) rfl, List.forall_mem_cons.mpr ⟨qm_at_mem (q := 3012) rfl, List.forall_mem_cons.mpr ⟨qm_at_mem (q := 3016) rfl, List.forall_mem_cons.mpr ⟨qm_at_mem (q := 3019) rfl, List.forall_mem_cons.mpr ⟨qm_at_mem (q := 3023) rfl, List.forall_mem_cons.mpr ⟨qm_at_mem (q := 3026) rfl, List.forall_mem_cons.mpr ⟨qm_at_mem (q := 3030) rfl, List.forall_mem_cons.mpr ⟨qm_at_mem (q := 3034) rfl, List.forall_mem_cons.mpr ⟨qm_at_mem (q := 3037) rfl, List.forall_mem_cons.mpr ⟨qm_at_mem (q := 3042) rfl, List.forall_mem_cons.mpr ⟨qm_at_mem (q := 3052) rfl, List.forall_mem_cons.mpr ⟨qm_at_mem (q := 3058) rfl, List.forall_mem_cons.mpr ⟨qm_at_mem (q := 3074) rfl, List.forall_mem_cons.mpr ⟨qm_at_mem (q := 3079) rfl, List.forall_mem_cons.mpr ⟨qm_at_mem (q := 3083) rfl, List.forall_mem_cons.mpr ⟨qm_at_mem (q := 3086) rfl, List.forall_mem_cons.mpr ⟨qm_at_mem (q := 3090) rfl, List.forall_mem_cons.mpr ⟨qm_at_mem (q := 3094) rfl, List.forall_mem_cons.mpr ⟨qm_at_mem (q := 3098) rfl, List.forall_mem_cons.mpr ⟨qm_at_mem (q := 3102) rfl, List.forall_mem_cons.mpr ⟨qm_at_mem (q := 3106) rfl, List.forall_mem_cons.mpr ⟨qm_at_mem (q := 3110) rfl, List.forall_mem_cons.mpr ⟨qm_at_mem (q := 3114) rfl, List.forall_mem_cons.mpr ⟨qm_at_mem (q := 3118) rfl, List.forall_mem_cons.mpr ⟨qm_at_mem (q := 3122) rfl, List.forall_mem_cons.mpr ⟨qm_at_mem (q := 3125) rfl, List.forall_mem_cons.mpr ⟨qm_at_mem (q := 3129) rfl, List.forall_mem_cons.mpr ⟨qm_at_mem (q := 3133) rfl, List.forall_mem_cons.mpr ⟨qm_at_mem (q := 3138) rfl, List.forall_mem_cons.mpr ⟨qm_at_mem (q := 3142) rfl, fun _ h => absurd h List.not_mem_nil⟩⟩⟩⟩⟩⟩⟩⟩⟩⟩⟩⟩⟩⟩⟩⟩⟩⟩⟩⟩⟩⟩⟩⟩⟩⟩⟩⟩⟩⟩⟩⟩⟩⟩⟩⟩⟩⟩⟩⟩
theorem qm_hdc_2 : qm_hd_2.all qm_hdf = true := by decide +kernel
theorem qm_hcw_2 : ∀ e ∈ qm_hd_2, qm_hcw e := List.forall_mem_cons.mpr ⟨qm_at_mem (q := 3147) rfl, List.forall_mem_cons.mpr ⟨qm_at_mem (q := 3151) rfl, List.forall_mem_cons.mpr ⟨qm_at_mem (q := 3155) rfl, List.forall_mem_cons.mpr ⟨qm_at_mem (q := 3159) rfl, List.forall_mem_cons.mpr ⟨qm_at_mem (q := 3163) rfl, List.forall_mem_cons.mpr ⟨qm_at_mem (q := 3169) rfl, List.forall_mem_cons.mpr ⟨qm_at_mem (q := 3173) rfl, List.forall_mem_cons.mpr ⟨qm_at_mem (q := 3177) rfl, List.forall_mem_cons.mpr ⟨qm_at_mem (q := 3181) rfl, List.forall_mem_cons.mpr ⟨qm_at_mem (q := 3186) rfl, List.forall_mem_cons.mpr ⟨qm_at_mem (q := 3191) rfl, List.forall_mem_cons.mpr ⟨qm_at_mem (q := 3196) rfl, List.forall_mem_cons.mpr ⟨qm_at_mem (q := 3200) rfl, List.forall_mem_cons.mpr ⟨qm_at_mem (q := 3205) rfl, List.forall_mem_cons.mpr ⟨qm_at_mem (q := 3209) rfl, List.forall_mem_cons.mpr ⟨qm_at_mem (q := 3212) rfl, List.forall_mem_cons.mpr ⟨qm_at_mem (q := 3219) rfl, List.forall_mem_cons.mpr ⟨qm_at_mem (q := 3223) rfl, List.forall_mem_cons.mpr ⟨qm_at_mem (q := 3230) rfl, List.forall_mem_cons.mpr ⟨qm_at_mem (q := 3235) rfl, List.forall_mem_cons.mpr ⟨qm_at_mem (q := 3239) rfl, List.forall_mem_cons.mpr ⟨qm_at_mem (q := 4004) rfl, List.forall_mem_cons.mpr ⟨qm_at_mem (q := 4008) rfl, List.forall_mem_cons.mpr ⟨qm_at_mem (q := 4011) rfl, List.forall_mem_cons.mpr ⟨qm_at_mem (q := 4015) rfl, List.forall_mem_cons.mpr ⟨qm_at_mem (q := 4020) rfl, List.forall_mem_cons.mpr ⟨qm_at_mem (q := 4024) rfl, List.forall_mem_cons.mpr ⟨qm_at_mem (q := 4030) rfl, List.forall_mem_cons.mpr ⟨qm_at_mem (q := 4034) rfl, List.forall_mem_cons.mpr ⟨qm_at_mem (q := 4040) rfl, List.forall_mem_cons.mpr ⟨qm_at_mem (q := 4048) rfl, List.forall_mem_cons.mpr ⟨qm_at_mem (q := 4054) rfl, List.forall_mem_cons.mpr ⟨qm_at_mem (q := 4058) rfl, List.forall_mem_cons.mpr ⟨qm_at_mem (q := 4062) rfl, List.forall_mem_cons.mpr ⟨qm_at_mem (q := 4066) rfl, List.forall_mem_cons.mpr ⟨qm_at_mem (q := 4069) rfl, List.forall_mem_cons.mpr ⟨qm_at_mem (q := 4074) rfl, List.forall_mem_cons.mpr ⟨qm_at_mem (q := 4078) rfl, List.forall_mem_cons.mpr ⟨qm_at_mem (q := 4081) rfl, List.forall_mem_cons.mpr ⟨qm_at_mem (q := 4084) rfl, fun _ h => absurd h List.not_mem_nil⟩⟩⟩⟩⟩⟩⟩⟩⟩⟩⟩⟩⟩⟩⟩⟩⟩⟩⟩⟩⟩⟩⟩⟩⟩⟩⟩⟩⟩⟩⟩⟩⟩⟩⟩⟩⟩⟩⟩⟩
theorem qm_hdc_3 : qm_hd_3.all qm_hdf = true := by decide +kernel
theorem qm_hcw_3 : ∀ e ∈ qm_hd_3, qm_hcw e := List.forall_mem_cons.mpr ⟨qm_at_mem (q := 4087) rfl, List.forall_mem_cons.mpr ⟨qm_at_mem (q := 4091) rfl, List.forall_mem_cons.mpr ⟨qm_at_mem (q := 4095) rfl, List.forall_mem_cons.mpr ⟨qm_at_mem (q := 4099) rfl, List.forall_mem_cons.mpr ⟨qm_at_mem (q := 4104) rfl, List.forall_mem_cons.mpr ⟨qm_at_mem (q := 4108) rfl, List.forall_mem_cons.mpr ⟨qm_at_mem (q := 4112) rfl, List.forall_mem_cons.mpr ⟨qm_at_mem (q := 4116) rfl, List.forall_mem_cons.mpr ⟨qm_at_mem (q := 4121) rfl, List.forall_mem_cons.mpr ⟨qm_at_mem (q := 4125) rfl, List.forall_mem_cons.mpr ⟨qm_at_mem (q := 4130) rfl, List.forall_mem_cons.mpr ⟨qm_at_mem (q := 4134) rfl, List.forall_mem_cons.mpr ⟨qm_at_mem (q := 4138) rfl, List.forall_mem_cons.mpr ⟨qm_at_mem (q := 4142) rfl, List.forall_mem_cons.mpr ⟨qm_at_mem (q := 4146) rfl, List.forall_mem_cons.mpr ⟨qm_at_mem (q := 4150) rfl, List.forall_mem_cons.mpr ⟨qm_at_mem (q := 4154) rfl, List.forall_mem_cons.mpr ⟨qm_at_mem (q := 4158) rfl, List.forall_mem_cons.mpr ⟨qm_at_mem (q := 4162) rfl, List.forall_mem_cons.mpr ⟨qm_at_mem (q := 4167) rfl, List.forall_mem_cons.mpr ⟨qm_at_mem (q := 4171) rfl, List.forall_mem_cons.mpr ⟨qm_at_mem (q := 4175) rfl, List.forall_mem_cons.mpr ⟨qm_at_mem (q := 4180) rfl, List.forall_mem_cons.mpr ⟨qm_at_mem (q := 4184) rfl, List.forall_mem_cons.mpr ⟨qm_at_mem (q := 4188) rfl, List.forall_mem_cons.mpr ⟨qm_at_mem (q := 4192) rfl, List.forall_mem_cons.mpr ⟨qm_at_mem (q := 4196) rfl, List.forall_mem_cons.mpr ⟨qm_at_mem (q := 4200) rfl, List.forall_mem_cons.mpr ⟨qm_at_mem (q := 4203) rfl, List.forall_mem_cons.mpr ⟨qm_at_mem (q := 4210) rfl, List.forall_mem_cons.mpr ⟨qm_at_mem (q := 4215) rfl, List.forall_mem_cons.mpr ⟨qm_at_mem (q := 4219) rfl, List.forall_mem_cons.mpr ⟨qm_at_mem (q := 4224) rfl, List.forall_mem_cons.mpr ⟨qm_at_mem (q := 4228) rfl, List.forall_mem_cons.mpr ⟨qm_at_mem (q := 4232) rfl, List.forall_mem_cons.mpr ⟨qm_at_mem (q := 4237) rfl, List.forall_mem_cons.mpr ⟨qm_at_mem (q := 5001) rfl, List.forall_mem_cons.mpr ⟨qm_at_mem (q := 5005) rfl, List.forall_mem_cons.mpr ⟨qm_at_mem (q := 5009) rfl, List.forall_mem_cons.mpr ⟨qm_at_mem (q := 5013) rfl, fun _ h => absurd h List.not_mem_nil⟩⟩⟩⟩⟩⟩⟩⟩⟩⟩⟩⟩⟩⟩⟩⟩⟩⟩⟩⟩⟩⟩⟩⟩⟩⟩⟩⟩⟩⟩⟩⟩⟩⟩⟩⟩⟩⟩⟩⟩
theorem qm_hdc_4 : qm_hd_4.all qm_hdf = true := by decide +kernel
theorem qm_hcw_4 : ∀ e ∈ qm_hd_4, qm_hcw e := List.forall_mem_cons.mpr ⟨qm_at_mem (q := 5017) rfl, List.forall_mem_cons.mpr ⟨qm_at_mem (q := 5021) rfl, List.forall_mem_cons.mpr ⟨qm_at_mem (q := 5028) rfl, List.forall_mem_cons.mpr ⟨qm_at_mem (q := 5031) rfl, List.forall_mem_cons.mpr ⟨qm_at_mem (q := 5035) rfl, List.forall_mem_cons.mpr ⟨qm_at_mem (q := 5038) rfl, List.forall_mem_cons.mpr ⟨qm_at_mem (q := 5041) rfl, List.forall_mem_cons.mpr ⟨qm_at_mem (q := 5045) rfl, List.forall_mem_cons.mpr ⟨qm_at_mem (q := 5049) rfl, List.forall_mem_cons.mpr ⟨qm_at_mem (q := 5053) rfl, List.forall_mem_cons.mpr ⟨qm_at_mem (q := 5056) rfl, List.forall_mem_cons.mpr ⟨qm_at_mem (q := 5059) rfl, List.forall_mem_cons.mpr ⟨qm_at_mem (q := 5062) rfl, List.forall_mem_cons.mpr ⟨qm_at_mem (q := 5066) rfl, List.forall_mem_cons.mpr ⟨qm_at_mem (q := 5070) rfl, List.forall_mem_cons.mpr ⟨qm_at_mem (q := 5074) rfl, List.forall_mem_cons.mpr ⟨qm_at_mem (q := 5078) rfl, List.forall_mem_cons.mpr ⟨qm_at_mem (q := 5082) rfl, List.forall_mem_cons.mpr ⟨qm_at_mem (q := 5086) rfl, List.forall_mem_cons.mpr ⟨qm_at_mem (q := 5090) rfl, List.forall_mem_cons.mpr ⟨qm_at_mem (q := 5094) rfl, List.forall_mem_cons.mpr ⟨qm_at_mem (q := 5100) rfl, List.forall_mem_cons.mpr ⟨qm_at_mem (q := 5104) rfl, List.forall_mem_cons.mpr ⟨qm_at_mem (q := 5108) rfl, List.forall_mem_cons.mpr ⟨qm_at_mem (q := 5112) rfl, List.forall_mem_cons.mpr ⟨qm_at_mem (q := 5116) rfl, List.forall_mem_cons.mpr ⟨qm_at_mem (q := 5120) rfl, List.forall_mem_cons.mpr ⟨qm_at_mem (q := 5124) rfl, List.forall_mem_cons.mpr ⟨qm_at_mem (q := 5128) rfl, List.forall_mem_cons.mpr ⟨qm_at_mem (q := 5132) rfl, List.forall_mem_cons.mpr ⟨qm_at_mem (q := 5136) rfl, List.forall_mem_cons.mpr ⟨qm_at_mem (q := 5140) rfl, List.forall_mem_cons.mpr ⟨qm_at_mem (q := 5144) rfl, List.forall_mem_cons.mpr ⟨qm_at_mem (q := 5148) rfl, List.forall_mem_cons.mpr ⟨qm_at_mem (q := 5152) rfl, List.forall_mem_cons.mpr ⟨qm_at_mem (q := 5156) rfl, List.forall_mem_cons.mpr ⟨qm_at_mem (q := 5160) rfl, List.forall_mem_cons.mpr ⟨qm_at_mem (q := 5164) rfl, List.forall_mem_cons.mpr ⟨qm_at_mem (q := 5168) rfl, List.forall_mem_cons.mpr ⟨qm_at_mem (q := 5172) rfl, fun _ h => absurd h List.not_mem_nil⟩⟩⟩⟩⟩⟩⟩⟩⟩⟩⟩⟩⟩⟩⟩⟩⟩⟩⟩⟩⟩⟩⟩⟩⟩⟩⟩⟩⟩⟩⟩⟩⟩⟩⟩⟩⟩⟩⟩⟩
theorem qm_hdc_5 : qm_hd_5.all qm_hdf = true := by decide +kernel
theorem qm_hcw_5 : ∀ e ∈ qm_hd_5, qm_hcw e := List.forall_mem_cons.mpr ⟨qm_at_mem (q := 5176) rfl, List.forall_mem_cons.mpr ⟨qm_at_mem (q := 5181) rfl, List.forall_mem_cons.mpr ⟨qm_at_mem (q := 5185) rfl, List.forall_mem_cons.mpr ⟨qm_at_mem (q := 5189) rfl, List.forall_mem_cons.mpr ⟨qm_at_mem (q := 5193) rfl, List.forall_mem_cons.mpr ⟨qm_at_mem (q := 5200) rfl, List.forall_mem_cons.mpr ⟨qm_at_mem (q := 5204) rfl, List.forall_mem_cons.mpr ⟨qm_at_mem (q := 5208) rfl, List.forall_mem_cons.mpr ⟨qm_at_mem (q := 5212) rfl, List.forall_mem_cons.mpr ⟨qm_at_mem (q := 5216) rfl, List.forall_mem_cons.mpr ⟨qm_at_mem (q := 5220) rfl, List.forall_mem_cons.mpr ⟨qm_at_mem (q := 5226) rfl, List.forall_mem_cons.mpr ⟨qm_at_mem (q := 5230) rfl, List.forall_mem_cons.mpr ⟨qm_at_mem (q := 5234) rfl, List.forall_mem_cons.mpr ⟨qm_at_mem (q := 5238) rfl, List.forall_mem_cons.mpr ⟨qm_at_mem (q := 6002) rfl, List.forall_mem_cons.mpr ⟨qm_at_mem (q := 6006) rfl, List.forall_mem_cons.mpr ⟨qm_at_mem (q := 6010) rfl, List.forall_mem_cons.mpr ⟨qm_at_mem (q := 6014) rfl, List.forall_mem_cons.mpr ⟨qm_at_mem (q := 6018) rfl, List.forall_mem_cons.mpr ⟨qm_at_mem (q := 6022) rfl, List.forall_mem_cons.mpr ⟨qm_at_mem (q := 6026) rfl, List.forall_mem_cons.mpr ⟨qm_at_mem (q := 6031) rfl, List.forall_mem_cons.mpr ⟨qm_at_mem (q := 6035) rfl, List.forall_mem_cons.mpr ⟨qm_at_mem (q := 6039) rfl, List.forall_mem_cons.mpr ⟨qm_at_mem (q := 6043) rfl, List.forall_mem_cons.mpr ⟨qm_at_mem (q := 6046) rfl, List.forall_mem_cons.mpr ⟨qm_at_mem (q := 6050) rfl, List.forall_mem_cons.mpr ⟨qm_at_mem (q := 6054) rfl, List.forall_mem_cons.mpr ⟨qm_at_mem (q := 6059) rfl, List.forall_mem_cons.mpr ⟨qm_at_mem (q := 6065) rfl, List.forall_mem_cons.mpr ⟨qm_at_mem (q := 6069) rfl, List.forall_mem_cons.mpr ⟨qm_at_mem (q := 6073) rfl, List.forall_mem_cons.mpr ⟨qm_at_mem (q := 6077) rfl, List.forall_mem_cons.mpr ⟨qm_at_mem (q := 6084) rfl, List.forall_mem_cons.mpr ⟨qm_at_mem (q := 6090) rfl, List.forall_mem_cons.mpr ⟨qm_at_mem (q := 6094) rfl, List.forall_mem_cons.mpr ⟨qm_at_mem (q := 6098) rfl, List.forall_mem_cons.mpr ⟨qm_at_mem (q := 6103) rfl, List.forall_mem_cons.mpr ⟨qm_at_mem (q := 6107) rfl, fun _ h => absurd h List.not_mem_nil⟩⟩⟩⟩⟩⟩⟩⟩⟩⟩⟩⟩⟩⟩⟩⟩⟩⟩⟩⟩⟩⟩⟩⟩⟩⟩⟩⟩⟩⟩⟩⟩⟩⟩⟩⟩⟩⟩⟩⟩
theorem qm_hdc_6 : qm_hd_6.all qm_hdf = true := by decide +kernel
theorem qm_hcw_6 : ∀ e ∈ qm_hd_6, qm_hcw e := List.forall_mem_cons.mpr ⟨qm_at_mem (q := 6111) rfl, List.forall_mem_cons.mpr ⟨qm_at_mem (q := 6117) rfl, List.forall_mem_cons.mpr ⟨qm_at_mem (q := 6122) rfl, List.forall_mem_cons.mpr ⟨qm_at_mem (q := 6125) rfl, List.forall_mem_cons.mpr ⟨qm_at_mem (q := 6128) rfl, List.forall_mem_cons.mpr ⟨qm_at_mem (q := 7208) rfl, List.forall_mem_cons.mpr ⟨qm_at_mem (q := 7212) rfl, List.forall_mem_cons.mpr ⟨qm_at_mem (q := 7216) rfl, List.forall_mem_cons.mpr ⟨qm_at_mem (q := 7220) rfl, List.forall_mem_cons.mpr ⟨qm_at_mem (q := 7224) rfl, List.forall_mem_cons.mpr ⟨qm_at_mem (q := 7228) rfl, List.forall_mem_cons.mpr ⟨qm_at_mem (q := 7232) rfl, List.forall_mem_cons.mpr ⟨qm_at_mem (q := 7235) rfl, List.forall_mem_cons.mpr ⟨qm_at_mem (q := 7238) rfl, List.forall_mem_cons.mpr ⟨qm_at_mem (q := 8002) rfl, List.forall_mem_cons.mpr ⟨qm_at_mem (q := 8006) rfl, List.forall_mem_cons.mpr ⟨qm_at_mem (q := 8010) rfl, List.forall_mem_cons.mpr ⟨qm_at_mem (q := 8014) rfl, List.forall_mem_cons.mpr ⟨qm_at_mem (q := 8018) rfl, List.forall_mem_cons.mpr ⟨qm_at_mem (q := 8022) rfl, List.forall_mem_cons.mpr ⟨qm_at_mem (q := 8026) rfl, List.forall_mem_cons.mpr ⟨qm_at_mem (q := 8030) rfl, List.forall_mem_cons.mpr ⟨qm_at_mem (q := 8034) rfl, List.forall_mem_cons.mpr ⟨qm_at_mem (q := 8038) rfl, List.forall_mem_cons.mpr ⟨qm_at_mem (q := 8042) rfl, List.forall_mem_cons.mpr ⟨qm_at_mem (q := 8046) rfl, List.forall_mem_cons.mpr ⟨qm_at_mem (q := 8050) rfl, List.forall_mem_cons.mpr ⟨qm_at_mem (q := 8054) rfl, List.forall_mem_cons.mpr ⟨qm_at_mem (q := 8058) rfl, List.forall_mem_cons.mpr ⟨qm_at_mem (q := 8062) rfl, List.forall_mem_cons.mpr ⟨qm_at_mem (q := 8065) rfl, List.forall_mem_cons.mpr ⟨qm_at_mem (q := 8069) rfl, List.forall_mem_cons.mpr ⟨qm_at_mem (q := 8073) rfl, List.forall_mem_cons.mpr ⟨qm_at_mem (q := 8077) rfl, List.forall_mem_cons.mpr ⟨qm_at_mem (q := 8081) rfl, List.forall_mem_cons.mpr ⟨qm_at_mem (q := 8085) rfl, List.forall_mem_cons.mpr ⟨qm_at_mem (q := 8089) rfl, List.forall_mem_cons.mpr ⟨qm_at_mem (q := 8093) rfl, List.forall_mem_cons.mpr ⟨qm_at_mem (q := 8096) rfl, List.forall_mem_cons.mpr ⟨qm_at_mem (q := 8100) rfl, fun _ h => absurd h List.not_mem_nil⟩⟩⟩⟩⟩⟩⟩⟩⟩⟩⟩⟩⟩⟩⟩⟩⟩⟩⟩⟩⟩⟩⟩⟩⟩⟩⟩⟩⟩⟩⟩⟩⟩⟩⟩⟩⟩⟩⟩⟩
theorem qm_hdc_7 : qm_hd_7.all qm_hdf = true := by decide +kernel
theorem qm_hcw_7 : ∀ e ∈ qm_hd_7, qm_hcw e := List.forall_mem_cons.mpr ⟨qm_at_mem (q := 8104) rfl, List.forall_mem_cons.mpr ⟨qm_at_mem (q := 8108) rfl, List.forall_mem_cons.mpr ⟨qm_at_mem (q := 8112) rfl, List.forall_mem_cons.mpr ⟨qm_at_mem (q := 8116) rfl, List.forall_mem_cons.mpr ⟨qm_at_mem (q := 8120) rfl, List.forall_mem_cons.mpr ⟨qm_at_mem (q := 8124) rfl, List.forall_mem_cons.mpr ⟨qm_at_mem (q := 8128) rfl, List.forall_mem_cons.mpr ⟨qm_at_mem (q := 8132) rfl, List.forall_mem_cons.mpr ⟨qm_at_mem (q := 8136) rfl, List.forall_mem_cons.mpr ⟨qm_at_mem (q := 8140) rfl, List.forall_mem_cons.mpr ⟨qm_at_mem (q := 8144) rfl, List.forall_mem_cons.mpr ⟨qm_at_mem (q := 8148) rfl, List.forall_mem_cons.mpr ⟨qm_at_mem (q := 8152) rfl, List.forall_mem_cons.mpr ⟨qm_at_mem (q := 8156) rfl, List.forall_mem_cons.mpr ⟨qm_at_mem (q := 8159) rfl, List.forall_mem_cons.mpr ⟨qm_at_mem (q := 8163) rfl, List.forall_mem_cons.mpr ⟨qm_at_mem (q := 8167) rfl, List.forall_mem_cons.mpr ⟨qm_at_mem (q := 8171) rfl, List.forall_mem_cons.mpr ⟨qm_at_mem (q := 8175) rfl, List.forall_mem_cons.mpr ⟨qm_at_mem (q := 8179) rfl, List.forall_mem_cons.mpr ⟨qm_at_mem (q := 8183) rfl, List.forall_mem_cons.mpr ⟨qm_at_mem (q := 8187) rfl, List.forall_mem_cons.mpr ⟨qm_at_mem (q := 8192) rfl, List.forall_mem_cons.mpr ⟨qm_at_mem (q := 8196) rfl, List.forall_mem_cons.mpr ⟨qm_at_mem (q := 8200) rfl, List.forall_mem_cons.mpr ⟨qm_at_mem (q := 8204) rfl, List.forall_mem_cons.mpr ⟨qm_at_mem (q := 8208) rfl, List.forall_mem_cons.mpr ⟨qm_at_mem (q := 8212) rfl, List.forall_mem_cons.mpr ⟨qm_at_mem (q := 8216) rfl, List.forall_mem_cons.mpr ⟨qm_at_mem (q := 8220) rfl, List.forall_mem_cons.mpr ⟨qm_at_mem (q := 8224) rfl, List.forall_mem_cons.mpr ⟨qm_at_mem (q := 8228) rfl, List.forall_mem_cons.mpr ⟨qm_at_mem (q := 8232) rfl, List.forall_mem_cons.mpr ⟨qm_at_mem (q := 8236) rfl, List.forall_mem_cons.mpr ⟨qm_at_mem (q := 9000) rfl, List.forall_mem_cons.mpr ⟨qm_at_mem (q := 9004) rfl, List.forall_mem_cons.mpr ⟨qm_at_mem (q := 9008) rfl, List.forall_mem_cons.mpr ⟨qm_at_mem (q := 9012) rfl, List.forall_mem_cons.mpr ⟨qm_at_mem (q := 9016) rfl, List.forall_mem_cons.mpr ⟨qm_at_mem (q := 9020) rfl, fun _ h => absurd h List.not_mem_nil⟩⟩⟩⟩⟩⟩⟩⟩⟩⟩⟩⟩⟩⟩⟩⟩⟩⟩⟩⟩⟩⟩⟩⟩⟩⟩⟩⟩⟩⟩⟩⟩⟩⟩⟩⟩⟩⟩⟩⟩
theorem qm_hdc_8 : qm_hd_8.all qm_hdf = true := by decide +kernel
theorem qm_hcw_8 : ∀ e ∈ qm_hd_8, qm_hcw e := List.forall_mem_cons.mpr ⟨qm_at_mem (q := 9024) rfl, List.forall_mem_cons.mpr ⟨qm_at_mem (q := 9028) rfl, List.forall_mem_cons.mpr ⟨qm_at_mem (q := 9032) rfl, List.forall_mem_cons.mpr ⟨qm_at_mem (q := 9036) rfl, List.forall_mem_cons.mpr ⟨qm_at_mem (q := 9040) rfl, List.forall_mem_cons.mpr ⟨qm_at_mem (q := 9044) rfl, List.forall_mem_cons.mpr ⟨qm_at_mem (q := 9048) rfl, List.forall_mem_cons.mpr ⟨qm_at_mem (q := 9052) rfl, List.forall_mem_cons.mpr ⟨qm_at_mem (q := 9056) rfl, List.forall_mem_cons.mpr ⟨qm_at_mem (q := 9060) rfl, List.forall_mem_cons.mpr ⟨qm_at_mem (q := 9064) rfl, List.forall_mem_cons.mpr ⟨qm_at_mem (q := 9068) rfl, List.forall_mem_cons.mpr ⟨qm_at_mem (q := 9072) rfl, List.forall_mem_cons.mpr ⟨qm_at_mem (q := 9076) rfl, List.forall_mem_cons.mpr ⟨qm_at_mem (q := 9080) rfl, List.forall_mem_cons.mpr ⟨qm_at_mem (q := 9084) rfl, List.forall_mem_cons.mpr ⟨qm_at_mem (q := 9088) rfl, List.forall_mem_cons.mpr ⟨qm_at_mem (q := 9092) rfl, List.forall_mem_cons.mpr ⟨qm_at_mem (q := 9096) rfl, List.forall_mem_cons.mpr ⟨qm_at_mem (q := 9100) rfl, List.forall_mem_cons.mpr ⟨qm_at_mem (q := 9104) rfl, List.forall_mem_cons.mpr ⟨qm_at_mem (q := 9108) rfl, List.forall_mem_cons.mpr ⟨qm_at_mem (q := 9112) rfl, List.forall_mem_cons.mpr ⟨qm_at_mem (q := 9116) rfl, List.forall_mem_cons.mpr ⟨qm_at_mem (q := 9121) rfl, List.forall_mem_cons.mpr ⟨qm_at_mem (q := 9125) rfl, List.forall_mem_cons.mpr ⟨qm_at_mem (q := 9129) rfl, List.forall_mem_cons.mpr ⟨qm_at_mem (q := 9133) rfl, List.forall_mem_cons.mpr ⟨qm_at_mem (q := 9137) rfl, List.forall_mem_cons.mpr ⟨qm_at_mem (q := 9143) rfl, List.forall_mem_cons.mpr ⟨qm_at_mem (q := 9147) rfl, List.forall_mem_cons.mpr ⟨qm_at_mem (q := 9151) rfl, List.forall_mem_cons.mpr ⟨qm_at_mem (q := 9155) rfl, List.forall_mem_cons.mpr ⟨qm_at_mem (q := 9159) rfl, List.forall_mem_cons.mpr ⟨qm_at_mem (q := 9163) rfl, List.forall_mem_cons.mpr ⟨qm_at_mem (q := 9167) rfl, List.forall_mem_cons.mpr ⟨qm_at_mem (q := 9171) rfl, List.forall_mem_cons.mpr ⟨qm_at_mem (q := 9175) rfl, List.forall_mem_cons.mpr ⟨qm_at_mem (q := 9179) rfl, List.forall_mem_cons.mpr ⟨qm_at_mem (q := 9183) rfl, fun _ h => absurd h List.not_mem_nil⟩⟩⟩⟩⟩⟩⟩⟩⟩⟩⟩⟩⟩⟩⟩⟩⟩⟩⟩⟩⟩⟩⟩⟩⟩⟩⟩⟩⟩⟩⟩⟩⟩⟩⟩⟩⟩⟩⟩⟩
theorem qm_hdc_9 : qm_hd_9.all qm_hdf = true := by decide +kernel
theorem qm_hcw_9 : ∀ e ∈ qm_hd_9, qm_hcw e := List.forall_mem_cons.mpr ⟨qm_at_mem (q := 9187) rfl, List.forall_mem_cons.mpr ⟨qm_at_mem (q := 9191) rfl, List.forall_mem_cons.mpr ⟨qm_at_mem (q := 9195) rfl, List.forall_mem_cons.mpr ⟨qm_at_mem (q := 9199) rfl, List.forall_mem_cons.mpr ⟨qm_at_mem (q := 9203) rfl, List.forall_mem_cons.mpr ⟨qm_at_mem (q := 9209) rfl, List.forall_mem_cons.mpr ⟨qm_at_mem (q := 9213) rfl, List.forall_mem_cons.mpr ⟨qm_at_mem (q := 9217) rfl, List.forall_mem_cons.mpr ⟨qm_at_mem (q := 9221) rfl, List.forall_mem_cons.mpr ⟨qm_at_mem (q := 9225) rfl, List.forall_mem_cons.mpr ⟨qm_at_mem (q := 9229) rfl, List.forall_mem_cons.mpr ⟨qm_at_mem (q := 9233) rfl, List.forall_mem_cons.mpr ⟨qm_at_mem (q := 9237) rfl, List.forall_mem_cons.mpr ⟨qm_at_mem (q := 10001) rfl, List.forall_mem_cons.mpr ⟨qm_at_mem (q := 10005) rfl, List.forall_mem_cons.mpr ⟨qm_at_mem (q := 10009) rfl, List.forall_mem_cons.mpr ⟨qm_at_mem (q := 10014) rfl, List.forall_mem_cons.mpr ⟨qm_at_mem (q := 10018) rfl, List.forall_mem_cons.mpr ⟨qm_at_mem (q := 10022) rfl, List.forall_mem_cons.mpr ⟨qm_at_mem (q := 10027) rfl, List.forall_mem_cons.mpr ⟨qm_at_mem (q := 10031) rfl, fun _ h => absurd h List.not_mem_nil⟩⟩⟩⟩⟩⟩⟩⟩⟩⟩⟩⟩⟩⟩⟩⟩⟩⟩⟩⟩⟩
theorem qm_hd_in {e : qm_Hd} (hm : e ∈ qm_hd) : qm_hdf e = true := by
  rcases List.mem_append.mp hm with hm | hm
  · exact List.all_eq_true.mp qm_hdc_0 e hm
  rcases List.mem_append.mp hm with hm | hm
  · exact List.all_eq_true.mp qm_hdc_1 e hm
  rcases List.mem_append.mp hm with hm | hm
  · exact List.all_eq_true.mp qm_hdc_2 e hm
  rcases List.mem_append.mp hm with hm | hm
  · exact List.all_eq_true.mp qm_hdc_3 e hm
  rcases List.mem_append.mp hm with hm | hm
  · exact List.all_eq_true.mp qm_hdc_4 e hm
  rcases List.mem_append.mp hm with hm | hm
  · exact List.all_eq_true.mp qm_hdc_5 e hm
  rcases List.mem_append.mp hm with hm | hm
  · exact List.all_eq_true.mp qm_hdc_6 e hm
  rcases List.mem_append.mp hm with hm | hm
  · exact List.all_eq_true.mp qm_hdc_7 e hm
  rcases List.mem_append.mp hm with hm | hm
  · exact List.all_eq_true.mp qm_hdc_8 e hm
  exact List.all_eq_true.mp qm_hdc_9 e hm
theorem qm_hcw_in {e : qm_Hd} (hm : e ∈ qm_hd) : qm_hcw e := by
  rcases List.mem_append.mp hm with hm | hm
  · exact qm_hcw_0 e hm
  rcases List.mem_append.mp hm with hm | hm
  · exact qm_hcw_1 e hm
  rcases List.mem_append.mp hm with hm | hm
  · exact qm_hcw_2 e hm
  rcases List.mem_append.mp hm with hm | hm
  · exact qm_hcw_3 e hm
  rcases List.mem_append.mp hm with hm | hm
  · exact qm_hcw_4 e hm
  rcases List.mem_append.mp hm with hm | hm
  · exact qm_hcw_5 e hm
  rcases List.mem_append.mp hm with hm | hm
  · exact qm_hcw_6 e hm
  rcases List.mem_append.mp hm with hm | hm
  · exact qm_hcw_7 e hm
  rcases List.mem_append.mp hm with hm | hm
  · exact qm_hcw_8 e hm
  exact qm_hcw_9 e hm
def qm_hdOK (e : qm_Hd) : Prop := Cond.code e.2.1 e.2.2.1 e.2.2.2.1 e.2.2.2.2.1 ∈ lw_tbl ∧ (e.2.2.2.2.2.2.1 = true → Cond.static e.2.1 ∈ lw_tbl) ∧ (e.2.2.2.2.2.2.1 = false → Cond.instanceMethod e.2.1 ∈ lw_tbl) ∧ (e.2.2.2.2.2.2.1 = false → ¬ e.2.1.name = "<init>" → Cond.selects e.2.1.cls e.2.1 e.2.1 ∈ lw_tbl) ∧ Cond.initialized e.2.1.cls ∈ lw_tbl ∧ e.2.1.cls = qm_cn e.1 ∧ (parseMethodDescriptor e.2.1.desc).map (fun d => d.parameters.length) = some e.2.2.2.2.2.1 ∧ (e.2.1.cls ≠ "java/lang/invoke/MethodHandle" ∧ e.2.1.cls ≠ "java/lang/invoke/VarHandle") ∧ plainName e.2.1.cls = true ∧ e.2.2.2.1 ≤ 45
theorem qm_hds {j : Nat} {e : qm_Hd} (h : qm_hd[j]? = some e) : qm_hdOK e := by
  have hf := qm_hd_in (List.mem_of_getElem? h)
  have f1 := qm_hcw_in (List.mem_of_getElem? h)
  unfold qm_hdf at hf
  simp only [Bool.and_eq_true, Bool.or_eq_true, decide_eq_true_eq] at hf
  obtain ⟨f2, f3, f4, f5, f6, ⟨f7, f8⟩, f9, f10⟩ := hf
  refine ⟨f1, fun z => ?_, fun z => ?_, fun z1 z2 => ?_, qm_at_mem f4, f5, f6, ⟨f7, f8⟩, f9, Nat.le_of_ble_eq_true f10⟩
  · rw [z] at f2
    exact qm_at_mem f2
  · rw [z] at f2
    exact qm_at_mem f2
  · rcases f3 with z | z | z
    · rw [z1] at z
      cases z
    · exact absurd z z2
    · exact qm_at_mem z
end
section
/-! the run of the small machine, and that the real one does the same -/
def qm_run (F : Nat → Nat × qm_Cd) (X : Nat × (Nat → Int32)) : Nat → Nat → qm_Cd → qm_C → Option (Option Value × qm_H)
  | 0, _, _, _ => none
  | n + 1, d, cd, c => match qm_step X cd c with
    | none => none
    | some (.inl c') => qm_run F X n d cd c'
    | some (.inr (.inl q)) => qm_run F X n d cd (bif q.1 then q.2.1 else q.2.2)
    | some (.inr (.inr (.inl q))) => some q
    | some (.inr (.inr (.inr q))) => match d with
      | 0 => none
      | d' + 1 => bif Nat.ble (qm_la q.2.1).length (F q.1).1 then (match qm_run F X n d' (F q.1).2 (qm_ent (F q.1).1 q.2.1 q.2.2.2.2.2) with
        | none => none
        | some r => qm_run F X n (d' + 1) cd (q.2.2.1, q.2.2.2.1, r.1.toList ++ q.2.2.2.2.1, r.2)) else none
theorem qm_find_ok : ∀ {t : List qm_It} {pc : Nat} {it : qm_It}, qm_find t pc = some it → it ∈ t ∧ it.1 = pc
  | [], _, _, h => by cases h
  | x :: t, pc, it, h => by
    unfold qm_find at h
    cases hb : Nat.beq x.1 pc with
    | true =>
      simp only [hb, cond_true] at h
      cases h
      exact ⟨List.mem_cons_self, Nat.eq_of_beq_eq_true hb⟩
    | false =>
      simp only [hb, cond_false] at h
      exact ⟨List.mem_cons_of_mem _ (qm_find_ok h).1, (qm_find_ok h).2⟩
theorem qm_fetch_ok : ∀ {cd : qm_Cd} {pc : Nat} {it : qm_It}, qm_fetch cd pc = some it → (∃ q ∈ cd, it ∈ q.2) ∧ it.1 = pc
  | [], _, _, h => by cases h
  | x :: t, pc, it, h => by
    unfold qm_fetch at h
    cases hb : Nat.ble pc x.1 with
    | true =>
      simp only [hb, cond_true] at h
      exact ⟨⟨x, List.mem_cons_self, (qm_find_ok h).1⟩, (qm_find_ok h).2⟩
    | false =>
      simp only [hb, cond_false] at h
      obtain ⟨⟨q, h1, h2⟩, h3⟩ := qm_fetch_ok h
      exact ⟨⟨q, List.mem_cons_of_mem _ h1, h2⟩, h3⟩
/-- a method's rows are as its bytes say -/
def qm_okc (o nL : Nat) (ini : Bool) (rt : Nat) (cc : ByteArray) (cd : qm_Cd) : Prop := ∀ q ∈ cd, q.2.all (qm_ok qm_hd o nL ini rt cc) = true
def qm_okm (e : qm_Hd) (q : Nat × qm_Cd) : Prop := q.1 = e.2.2.2.1 ∧ qm_okc e.1 e.2.2.2.1 (decide (e.2.1.name = "<init>")) (qm_rto e.2.2.2.2.1) e.2.2.1 q.2
/-- cells only come -/
theorem qm_run_mono {F : Nat → Nat × qm_Cd} {X : Nat × (Nat → Int32)} : ∀ (n d : Nat) (cd : qm_Cd) (c : qm_C) (r : Option Value) (h' : qm_H), qm_run F X n d cd c = some (r, h') → ∃ t, h'.1 = c.2.2.2.1 ++ t
  | 0, _, _, _, _, _, h => by cases h
  | n + 1, d, cd, c, r, h', h => by
    unfold qm_run at h
    unfold qm_step at h
    cases hf : qm_fetch cd c.1 with
    | none => simp [hf] at h
    | some it =>
      simp only [hf] at h
      cases hx : qm_x X it c with
      | none => simp [hx] at h
      | some q =>
        have hfact := qm_x_fact X it.1 it.2.1 it.2.2.2.1 it.2.2.2.2.1 it.2.2.1 it.2.2.2.2.2 c (r := q) hx
        simp only [hx] at h
        match q, hfact, h with
        | .inl c', hfact, h =>
          obtain ⟨-, t, ht⟩ := hfact
          obtain ⟨t2, ht2⟩ := qm_run_mono n d cd c' r h' h
          exact ⟨t ++ t2, by rw [ht2, ht, List.append_assoc]⟩
        | .inr (.inl (b, c1, c2)), hfact, h =>
          obtain ⟨-, h1, h2⟩ := hfact
          obtain ⟨t2, ht2⟩ := qm_run_mono n d cd _ r h' h
          refine ⟨t2, ht2.trans ?_⟩
          cases b
          · show c2.2.2.2.1 ++ t2 = _
            rw [show c2.2.2.2 = c.2.2.2 from h2]
          · show c1.2.2.2.1 ++ t2 = _
            rw [show c1.2.2.2 = c.2.2.2 from h1]
        | .inr (.inr (.inl (v, h2))), hfact, h =>
          obtain ⟨-, h3⟩ := hfact
          cases h
          exact ⟨[], by rw [show h' = c.2.2.2 from h3, List.append_nil]⟩
        | .inr (.inr (.inr (j, as, c'))), hfact, h =>
          obtain ⟨-, h3⟩ := hfact
          have h3 : c'.2.2.2 = c.2.2.2 := h3
          match d, h with
          | d' + 1, h =>
            dsimp only at h
            cases hl : Nat.ble (qm_la as).length (F j).1 with
            | false => simp only [hl, cond_false] at h; cases h
            | true =>
              simp only [hl, cond_true] at h
              cases hr : qm_run F X n d' (F j).2 (qm_ent (F j).1 as c'.2.2.2) with
              | none => simp only [hr] at h; cases h
              | some q2 =>
                simp only [hr] at h
                obtain ⟨t1, ht1⟩ := qm_run_mono n d' _ _ q2.1 q2.2 hr
                obtain ⟨t2, ht2⟩ := qm_run_mono n (d' + 1) cd _ r h' h
                refine ⟨t1 ++ t2, ?_⟩
                rw [ht2]
                show q2.2.1 ++ t2 = _
                rw [ht1, List.append_assoc]
                show c'.2.2.2.1 ++ _ = _
                rw [h3]

section QMD
variable {p : Program} {l : Launch} {e : Env} {R : Room} {s : State} {m : MethodId} {args : Array Value} {below : List Frame} {meth : Method} {c : Code} {Q : State → Prop}
variable {cc : ByteArray} {nL o rt : Nat} {ini : Bool} {D : va_G} {aC : Nat → ClassId} {b B L n0 t0 : Nat} {xs : Nat → Int32} {pc np a f : Nat} {v : Value} {ls st : List Value} {h : qm_H} {c' c1 c2 : qm_C}
theorem qm_nx_ok (C0 : qm_Cx p s m args meth c cc nL o ini D aC b B L xs) {ins : Instr} (hok : qm_ok qm_hd o nL ini rt cc (pc, np, ins, a, f, v) = true) (hx : qm_x (L, xs) (pc, np, ins, a, f, v) (pc, ls, st, h) = some (.inl c')) (h0 : n0 ≤ h.1.length ∧ t0 ≤ qm_tot h.1) (hr : c'.2.2.2.1.length - n0 ≤ R.cells ∧ qm_tot c'.2.2.2.1 - t0 ≤ R.slots) (hr0 : h.1.length - n0 ≤ R.cells ∧ qm_tot h.1 - t0 ≤ R.slots) (hR : 1 ≤ R.frames ∧ 60 ≤ R.locals)
    (k : qm_Wm p l e R s m args below meth c D aC b B n0 t0 nL Q c') : qm_Wm p l e R s m args below meth c D aC b B n0 t0 nL Q (pc, ls, st, h) := by
  have hfact := qm_x_fact (L, xs) pc np a f ins v (pc, ls, st, h) hx
  cases ins with
  | iconst _ => exact qm_n_iconst C0 hok hx k
  | bipush _ => exact qm_n_bipush C0 hok hx k
  | sipush _ => exact qm_n_sipush C0 hok hx k
  | lconst _ => exact qm_n_lconst C0 hok hx k
  | ldc _ => exact qm_n_ldc C0 hok hx k
  | ldc_w _ => exact qm_n_ldc_w C0 hok hx k
  | ldc2_w _ => exact qm_n_ldc2_w C0 hok hx k
  | iload _ => exact qm_n_iload C0 hok hx k
  | lload _ => exact qm_n_lload C0 hok hx k
  | iload_n _ => exact qm_n_iload_n C0 hok hx k
  | lload_n _ => exact qm_n_lload_n C0 hok hx k
  | aload _ => exact qm_n_aload C0 hok hx k
  | aload_n _ => exact qm_n_aload_n C0 hok hx k
  | istore _ => exact qm_n_istore C0 hok hx k
  | lstore _ => exact qm_n_lstore C0 hok hx k
  | astore _ => exact qm_n_astore C0 hok hx k
  | istore_n _ => exact qm_n_istore_n C0 hok hx k
  | lstore_n _ => exact qm_n_lstore_n C0 hok hx k
  | astore_n _ => exact qm_n_astore_n C0 hok hx k
  | iinc _ _ => exact qm_n_iinc C0 hok hx k
  | iadd => exact qm_n_iadd C0 hok hx k
  | isub => exact qm_n_isub C0 hok hx k
  | imul => exact qm_n_imul C0 hok hx k
  | iand => exact qm_n_iand C0 hok hx k
  | ior => exact qm_n_ior C0 hok hx k
  | ixor => exact qm_n_ixor C0 hok hx k
  | idiv => exact qm_n_idiv C0 hok hx k
  | irem => exact qm_n_irem C0 hok hx k
  | ineg => exact qm_n_ineg C0 hok hx k
  | ishl => exact qm_n_ishl C0 hok hx k
  | ishr => exact qm_n_ishr C0 hok hx k
  | iushr => exact qm_n_iushr C0 hok hx k
  | ladd => exact qm_n_ladd C0 hok hx k
  | lsub => exact qm_n_lsub C0 hok hx k
  | lmul => exact qm_n_lmul C0 hok hx k
  | land => exact qm_n_land C0 hok hx k
  | lor => exact qm_n_lor C0 hok hx k
  | ldiv => exact qm_n_ldiv C0 hok hx k
  | lrem => exact qm_n_lrem C0 hok hx k
  | lshl => exact qm_n_lshl C0 hok hx k
  | lshr => exact qm_n_lshr C0 hok hx k
  | lcmp => exact qm_n_lcmp C0 hok hx k
  | i2l => exact qm_n_i2l C0 hok hx k
  | l2i => exact qm_n_l2i C0 hok hx k
  | i2b => exact qm_n_i2b C0 hok hx k
  | dup => exact qm_n_dup C0 hok hx k
  | pop => exact qm_n_pop C0 hok hx k
  | dup2 => exact qm_n_dup2 C0 hok hx k
  | goto _ => exact qm_n_goto C0 hok hx k
  | ifnull _ => exact qm_n_ifnull C0 hok hx k
  | ifnonnull _ => exact qm_n_ifnonnull C0 hok hx k
  | tableswitch _ _ _ _ => exact qm_n_tableswitch C0 hok hx k
  | lookupswitch _ _ => exact qm_n_lookupswitch C0 hok hx k
  | getfield _ => exact qm_n_getfield C0 hok hx k
  | putfield _ => exact qm_n_putfield C0 hok hx k
  | iaload => exact qm_n_iaload C0 hok hx k
  | baload => exact qm_n_baload C0 hok hx k
  | laload => exact qm_n_laload C0 hok hx k
  | aaload => exact qm_n_aaload C0 hok hx k
  | iastore => exact qm_n_iastore C0 hok hx k
  | bastore => exact qm_n_bastore C0 hok hx k
  | lastore => exact qm_n_lastore C0 hok hx k
  | arraylength => exact qm_n_arraylength C0 hok hx k
  | newarray _ => exact qm_n_newarray C0 hok hx h0 hr k
  | new _ => exact qm_n_new C0 hok hx h0 hr k
  | multianewarray _ _ => exact qm_n_multianewarray C0 hok hx h0 hr k
  | invokespecial _ => exact qm_n_invokespecial C0 hok hx hR k
  | invokestatic _ => exact qm_n_invokestatic C0 hok hx hr0 hR k
  | ifCond _ _ => rcases hfact.1 with z | z <;> cases z
  | if_icmp _ _ => rcases hfact.1 with z | z <;> cases z
  | ireturn => rcases hfact.1 with z | z <;> cases z
  | lreturn => rcases hfact.1 with z | z <;> cases z
  | return_ => rcases hfact.1 with z | z <;> cases z
  | invokevirtual _ => rcases hfact.1 with z | z <;> cases z
  | _ => cases hx
theorem qm_br_ok (C0 : qm_Cx p s m args meth c cc nL o ini D aC b B L xs) {ins : Instr} (hok : qm_ok qm_hd o nL ini rt cc (pc, np, ins, a, f, v) = true) {bb : Bool} (hx : qm_x (L, xs) (pc, np, ins, a, f, v) (pc, ls, st, h) = some (.inr (.inl (bb, c1, c2))))
    (k : qm_Wm p l e R s m args below meth c D aC b B n0 t0 nL Q (bif bb then c1 else c2)) : qm_Wm p l e R s m args below meth c D aC b B n0 t0 nL Q (pc, ls, st, h) := by
  have hfact := (qm_x_fact (L, xs) pc np a f ins v (pc, ls, st, h) hx).1
  have k1 : bb = true → qm_Wm p l e R s m args below meth c D aC b B n0 t0 nL Q c1 := fun z => by rw [z] at k; exact k
  have k2 : bb = false → qm_Wm p l e R s m args below meth c D aC b B n0 t0 nL Q c2 := fun z => by rw [z] at k; exact k
  cases ins with
  | ifCond _ _ => exact qm_b_if C0 hok hx k1 k2
  | if_icmp _ _ => exact qm_b_icmp C0 hok hx k1 k2
  | _ => cases hfact
theorem qm_rt_ok {ins : Instr} (hok : qm_ok qm_hd o nL ini rt cc (pc, np, ins, a, f, v) = true) {r : Option Value} {h' : qm_H} (hx : qm_x (L, xs) (pc, np, ins, a, f, v) (pc, ls, st, h) = some (.inr (.inr (.inl (r, h'))))) : qm_dec cc rt pc r ∧ st = r.toList ∧ h' = h := by
  have hfact := (qm_x_fact (L, xs) pc np a f ins v (pc, ls, st, h) hx).1
  cases ins with
  | ireturn =>
    simp only [qm_ok, Bool.and_eq_true, decide_eq_true_eq] at hok
    obtain ⟨hdg, ⟨ha, hrt⟩, hn⟩ := hok
    have hdk := qm_dg hdg (qm_np hn)
    have ha := Nat.eq_of_beq_eq_true ha
    have hrt : rt < 2 := Nat.le_of_ble_eq_true hrt
    simp only [qm_x, qm_rt] at hx
    split at hx
    · rename_i x
      cases hc : Nat.beq a 0 || (decide (x = 0) || decide (x = 1)) with
      | false => simp only [hc, cond_false] at hx; cases hx
      | true =>
        simp only [hc, cond_true] at hx
        simp only [Bool.or_eq_true, decide_eq_true_eq] at hc
        cases hx
        refine ⟨⟨hdk, ?_⟩, rfl, rfl⟩
        rcases hc with z | z
        · left
          rw [← ha]
          exact Nat.eq_of_beq_eq_true z
        · by_cases h0 : rt = 0
          · exact Or.inl h0
          · exact Or.inr ⟨by omega, z⟩
    · cases hx
  | lreturn =>
    simp only [qm_ok, Bool.and_eq_true, decide_eq_true_eq] at hok
    obtain ⟨hdg, hrt, hn⟩ := hok
    have hdk := qm_dg hdg (qm_np hn)
    simp only [qm_x, qm_rt] at hx
    split at hx
    · cases hx
      exact ⟨⟨hdk, Nat.eq_of_beq_eq_true hrt⟩, rfl, rfl⟩
    · cases hx
  | return_ =>
    simp only [qm_ok, Bool.and_eq_true, decide_eq_true_eq] at hok
    obtain ⟨hdg, hrt, hn⟩ := hok
    have hdk := qm_dg hdg (qm_np hn)
    simp only [qm_x, qm_rt] at hx
    split at hx
    · cases hx
      exact ⟨⟨hdk, Nat.eq_of_beq_eq_true hrt⟩, rfl, rfl⟩
    · cases hx
  | _ => cases hfact
end QMD
end
section
/-! calls -/
def qm_gw : List Cond := lw_tbl.filter goodWord
def qm_ws (e : qm_Hd) : List Cond := .code e.2.1 e.2.2.1 e.2.2.2.1 e.2.2.2.2.1 :: qm_gw
/-- the words that hold on by laws of their own -/
def qm_ow (U : State) : Prop := ∀ w ∈ lw_tbl, qm_use w = true → goodWord w = false → w.before #[] U = true
theorem qm_ow.same {u U : State} (h : u.vm = U.vm) (hw : qm_ow u) : qm_ow U := by
  intro w hm hu hg
  have h1 := hw w hm hu hg
  cases w with
  | methodLinkNest a i x y => exact va_Nw.same rfl h h1
  | arrayOver ty =>
    simp only [Cond.before, Cond.holds, Cond.value] at h1 ⊢
    rw [← h]
    exact h1
  | _ => simp [qm_use, hg] at hu
theorem qm_ow.warm {s U : State} (hW : s.WarmedH U.vm) (hw : qm_ow s) : qm_ow U := by
  intro w hm hu hg
  have h1 := hw w hm hu hg
  cases w with
  | methodLinkNest a i x y => exact va_Nw.warmM hW h1
  | arrayOver ty =>
    have h2 : (Cond.arrayOver ty).before #[] (s.setVm U.vm) = true := by rw [Cond.arrayOver_setVmC hW.alike]; exact h1
    simp only [Cond.before, Cond.holds, Cond.value] at h2 ⊢
    exact h2
  | _ => simp [qm_use, hg] at hu
theorem qm_ow.use {U : State} {A : Array Value} (hw : qm_ow U) {w : Cond} (hm : w ∈ lw_tbl) (hu : qm_use w = true) (hg : goodWord w = false) : w.before A U = true := by
  have h1 := hw w hm hu hg
  cases w with
  | methodLinkNest a i x y => exact va_Nw.use rfl h1
  | arrayOver ty =>
    simp only [Cond.before, Cond.holds, Cond.value] at h1 ⊢
    exact h1
  | _ => simp [qm_use, hg] at hu
def qm_Pc (D : va_G) (aC : Nat → ClassId) (b B L : Nat) (xs : Nat → Int32) (as : List Value) (h : qm_H) : Array Value → State → Prop := fun v U =>
  v = (as.map (qm_cv b B)).toArray ∧ qm_HI D aC b B h U.heap ∧ va_K D qm_vc (qm_tys aC) U ∧ va_X b L xs U U.heap ∧ (b < B ∧ B ≤ U.heap.size) ∧ qm_ow U
def qm_Qc (D : va_G) (aC : Nat → ClassId) (b B : Nat) (r : Option Value) (h' : qm_H) : Array Value → State → Outcome → State → Prop := fun _ st oc t =>
  oc = .returned (r.map (qm_cv b B)) ∧ qm_HI D aC b B h' t.heap ∧ va_F (qm_A B) st t
def qm_rm (d mc ms : Nat) : Room := { frames := d + 1, cells := mc, slots := ms, locals := 64 * (d + 1) }
theorem qm_Pc_blind {D : va_G} {aC : Nat → ClassId} {b B L : Nat} {xs : Nat → Int32} {as : List Value} {h : qm_H} : FrameBlind (qm_Pc D aC b B L xs as h) := fun a U g mk q =>
  ⟨q.1, q.2.1, va_K.moved (u := U) (U := U.calling g mk a) (Vm.Alike.refl U.vm) q.2.2.1, va_X.moved (u := U) (U := U.calling g mk a) (Vm.Alike.refl U.vm) q.2.2.2.1, q.2.2.2.2.1, qm_ow.same (u := U) (U := U.calling g mk a) rfl q.2.2.2.2.2⟩
section QMX
variable {p : Program} {l : Launch} {e : Env} {R : Room} {s : State} {m : MethodId} {args : Array Value} {below : List Frame} {meth : Method} {c : Code} {H : Heap} {locs : List Loc} {cells slots : Nat} {Q : State → Prop}
variable {cc : ByteArray} {nL o rt : Nat} {ini : Bool} {D : va_G} {aC : Nat → ClassId} {b B L n0 t0 : Nat} {xs : Nat → Int32} {pc np a f : Nat} {v : Value} {ls st : List Value} {h : qm_H} {c1 : qm_C}
theorem qm_callW {la : Array Slot} {st0 rest : List Value} {mc ms : Nat} {a0 : Array Value} {r : Option Value} {h1 : qm_H} (hr : va_Run p l e R s m args below meth c H locs cells slots mc ms (F0 m pc la st0) rest (qm_Qc D aC b B r h1 a0) (qm_A B)) (hS : va_S (qm_A B) s.heap H locs)
    (kk : ∀ (H1 : Heap) (locs1 : List Loc), qm_HI D aC b B h1 H1 → va_S (qm_A B) s.heap H1 locs1 → W p l e R s m args below meth c H1 locs1 (cells + mc) (slots + ms) Q (F0 m (pc + 3) la ((r.map (qm_cv b B)).toList ++ rest))) : W p l e R s m args below meth c H locs cells slots Q (F0 m pc la st0) := by
  intro T hT X
  obtain ⟨v, st₀, t, T', L, h0, X', hL, e1, e2, ⟨hv, hh, hz, hk⟩, st⟩ := hr T hT X
  cases hv
  rw [h0] at hz hk
  obtain ⟨t2, a1, b1⟩ := kk T'.heap (locs ++ L) (by rw [e1]; exact hh)
    ⟨Nat.le_trans hS.1 (by rw [e1]; exact hz), fun q h1 h2 => by rw [e1, hk q (Nat.lt_of_lt_of_le h1 hS.1) h2]; exact hS.2.1 q h1 h2, fun q hq => by
      rcases List.mem_append.mp hq with h | h
      · exact hS.2.2 q h
      · exact hL q h⟩ T' rfl X'
  exact ⟨t2, st t2 a1, b1⟩
theorem qm_call_ok (C0 : qm_Cx p s m args meth c cc nL o ini D aC b B L xs) (how : qm_ow s) {ins : Instr} (hok : qm_ok qm_hd o nL ini rt cc (pc, np, ins, a, f, v) = true) {j : Nat} {as : List Value} (hx : qm_x (L, xs) (pc, np, ins, a, f, v) (pc, ls, st, h) = some (.inr (.inr (.inr (j, as, c1))))) {hd : qm_Hd} (hhd : qm_hd[j]? = some hd) {d : Nat} {r : Option Value} {h1 : qm_H}
    (hM : Met l hd.2.1 (qm_ws hd) (qm_rm d (h1.1.length - h.1.length) (qm_tot h1.1 - qm_tot h.1)) (qm_Pc D aC b B L xs as h) (qm_Qc D aC b B r h1) (h1.1.length - h.1.length) (qm_tot h1.1 - qm_tot h.1) (qm_A B)) (hgrow : ∃ t, h1.1 = h.1 ++ t) (h0 : n0 ≤ h.1.length ∧ t0 ≤ qm_tot h.1) (hroom : h1.1.length - n0 ≤ R.cells ∧ qm_tot h1.1 - t0 ≤ R.slots) (hR : d + 2 ≤ R.frames ∧ 64 * (d + 2) ≤ R.locals)
    (k : qm_Wm p l e R s m args below meth c D aC b B n0 t0 nL Q (c1.1, c1.2.1, r.toList ++ c1.2.2.1, h1)) : qm_Wm p l e R s m args below meth c D aC b B n0 t0 nL Q (pc, ls, st, h) := by
  have hfact := (qm_x_fact (L, xs) pc np a f ins v (pc, ls, st, h) hx).1
  obtain ⟨hex, hb, hml, hown, hts, hK, hX, hbB, hBs, hini⟩ := C0
  obtain ⟨w1, w2, w3, w4, w5, w6, w7, w8, w9, w10⟩ := qm_hds hhd
  have hlen : h.1.length ≤ h1.1.length ∧ qm_tot h.1 ≤ qm_tot h1.1 := by
    obtain ⟨t, ht⟩ := hgrow
    rw [ht, qm_tot_push]
    simp
  have hws : ∀ w ∈ qm_ws hd, ∀ (a' : Array Value) (U : State), s.WarmedH U.vm → w.before a' U = true := by
    intro w hw a' U hW
    rcases List.mem_cons.mp hw with rfl | hw
    · exact word_at hW (good_of_word rfl) (hts _ w1 rfl)
    · obtain ⟨g1, g2⟩ := List.mem_filter.mp hw
      exact word_at hW (good_of_word g2) (hts w g1 (by simp [qm_use, g2]))
  have hcode : (Cond.code hd.2.1 hd.2.2.1 hd.2.2.2.1 hd.2.2.2.2.1).before args s = true := hts _ w1 rfl
  have hfr : (qm_rm d (h1.1.length - h.1.length) (qm_tot h1.1 - qm_tot h.1)).frames + 1 ≤ R.frames := by show d + 1 + 1 ≤ _; omega
  have hlo : 8 + (hd.2.2.2.1 + 11) + (qm_rm d (h1.1.length - h.1.length) (qm_tot h1.1 - qm_tot h.1)).locals ≤ R.locals := by show 8 + (hd.2.2.2.1 + 11) + 64 * (d + 1) ≤ _; omega
  have hpar : ∀ sig, parseMethodDescriptor hd.2.1.desc = some sig → hd.2.2.2.2.2.1 = sig.parameters.length := by
    intro sig hs
    rw [hs] at w7
    exact (Option.some.inj w7).symm
  have hsum : ∀ {H : Heap} {locs : List Loc} {la : Array Slot} {rest0 : List Value} {st0 : List Value} {a0 : Array Value} {qc : qm_C}, qc = c1 → qc.1 = pc + 3 → qc.2.1 = ls → qc.2.2.1 = rest0 → qm_LR b B nL ls la → va_S (qm_A B) s.heap H locs →
      va_Run p l e R s m args below meth c H locs (h.1.length - n0) (qm_tot h.1 - t0) (h1.1.length - h.1.length) (qm_tot h1.1 - qm_tot h.1) (F0 m pc la st0) (rest0.map (qm_cv b B)) (qm_Qc D aC b B r h1 a0) (qm_A B) → W p l e R s m args below meth c H locs (h.1.length - n0) (qm_tot h.1 - t0) Q (F0 m pc la st0) := by
    intro H locs la rest0 st0 a0 qc e0 e1 e2 e3 hL hS hr
    refine qm_callW hr hS (fun H1 locs1 hH1 hS1 => ?_)
    subst e0
    have := k H1 locs1 la hH1 hS1 (by show qm_LR b B nL qc.2.1 la; rw [e2]; exact hL)
    dsimp only at this
    rw [e1, e3] at this
    have ec : h1.1.length - n0 = h.1.length - n0 + (h1.1.length - h.1.length) := by omega
    have et : qm_tot h1.1 - t0 = qm_tot h.1 - t0 + (qm_tot h1.1 - qm_tot h.1) := by omega
    rw [ec, et, List.map_append] at this
    have er : (r.map (qm_cv b B)).toList = r.toList.map (qm_cv b B) := by cases r <;> rfl
    rw [er]
    exact this
  have hcf : h.1.length - n0 + (h1.1.length - h.1.length) ≤ R.cells ∧ qm_tot h.1 - t0 + (qm_tot h1.1 - qm_tot h.1) ≤ R.slots := by omega
  cases ins with
  | invokevirtual i =>
    simp only [qm_ok, Bool.and_eq_true, decide_eq_true_eq] at hok
    obtain ⟨hdg, hok, hn⟩ := hok
    have hnp := qm_np hn
    have hdk := qm_dg hdg hnp
    simp only [qm_x, qm_cl] at hx
    split at hx
    · rename_i q r0 hdr
      split at hx
      · rename_i z ci hq
        cases hc8 : Nat.beq z.1 (ci + 5) && Nat.ble (qm_cat r0) 8 with
        | false => simp only [hc8, cond_false] at hx; cases hx
        | true =>
          simp only [hc8, cond_true] at hx
          rw [Bool.and_eq_true] at hc8
          cases hx
          split at hok
          · rename_i q2 e2 hlk he2
            rw [hhd] at he2
            cases he2
            simp only [Bool.and_eq_true, Bool.not_eq_true', decide_eq_true_eq] at hok
            obtain ⟨⟨g1, g2⟩, ⟨g3, g4⟩, g5, g6⟩ := hok
            cases g5
            have g1 := Nat.eq_of_beq_eq_true g1
            have g2 := Nat.eq_of_beq_eq_true g2
            have g3 := Nat.eq_of_beq_eq_true g3
            have hlk : qm_lk qm_ml o i = some (q2.1, q2.2) := hlk
            rw [g1] at hlk
            have hlink : Cond.methodLink (qm_cn o) i hd.2.1 ∈ lw_tbl := by
              rcases qm_ml_use hlk hhd with ⟨-, z⟩ | ⟨z, -⟩
              · exact z
              · exact absurd g2 z
            have hz : h.1[q]? = some (hd.1 + 5, z.2) := by rw [hq, ← Nat.eq_of_beq_eq_true hc8.1]
            have hcat : qm_cat r0 ≤ 8 := Nat.le_of_ble_eq_true hc8.2
            have hfl : (st.take f).length = f := by
              have : f < st.length := by
                rcases Nat.lt_or_ge f st.length with y | y
                · exact y
                · rw [List.drop_eq_nil_of_le y] at hdr
                  cases hdr
              simp
              omega
            subst hnp
            intro H locs la hH hS hL
            obtain ⟨vr, hvr, -⟩ := hH.2.1 q _ (qm_w_get (aC := aC) (b := b) (B := B) hz)
            have hvr : qm_vc[hd.1]? = some vr := hvr
            have hrecv := va_recv hK hH.2.1 hvr (qm_w_get (aC := aC) (b := b) (B := B) hz)
            rw [← (qm_cls hvr).2.2.2.2.2.2.2, ← w6] at hrecv
            have hstk : st.map (qm_cv b B) = (((st.take f).reverse.map (qm_cv b B)).reverse) ++ .ref (B + q) :: r0.map (qm_cv b B) := by
              rw [← List.map_reverse, List.reverse_reverse]
              conv => lhs; rw [← List.take_append_drop f st, hdr]
              rw [List.map_append]
              rfl
            refine hsum (qc := (pc + 3, ls, r0, h)) rfl rfl rfl rfl hL hS (va_runV (C := hd.2.1.cls) (As := (st.take f).reverse.map (qm_cv b B)) (rest := r0.map (qm_cv b B)) (Ts := []) ⟨hex, hb, hml, hown, fun w hw => absurd hw List.not_mem_nil⟩ hM
              ⟨⟨rfl, rfl, hfr, hlo, hws, List.mem_cons_self, hcode, hts _ w5 rfl, w8, hpar, hts _ hlink rfl⟩, hts _ (w3 g4) rfl, hts _ (w4 g4 g6) rfl⟩
              ⟨qm_Pc_blind, hrecv, fun U hU hW => ⟨by rw [List.map_cons]; rfl, by rw [hU]; exact hH, va_K.moved hW.alike hK, ?_, ⟨hbB, by rw [hU]; exact Nat.le_trans hBs hS.1⟩, qm_ow.warm hW how⟩⟩ rfl (by rw [List.length_map, List.length_reverse, hfl, g3]) hL.2.1 hstk ?_ hdk hcf)
            · rw [hU]
              exact (va_X.moved hW.alike hX).kept (hS.2.1 b (Nat.lt_of_lt_of_le hbB hBs) (fun y => absurd y (Nat.not_le.mpr hbB)))
            · show 2 * 0 + _ ≤ 8
              rw [qm_cat_cv]
              omega
          · cases hok
      · cases hx
    · cases hx
  | invokespecial i =>
    simp only [qm_ok, Bool.and_eq_true, decide_eq_true_eq] at hok
    obtain ⟨hdg, hok, hn⟩ := hok
    have hnp := qm_np hn
    have hdk := qm_dg hdg hnp
    simp only [qm_x, qm_cl, qm_nx] at hx
    split at hx
    · rename_i q r0 hdr
      split at hx
      · cases hc8 : Nat.ble (qm_cat r0) 8 with
        | false => simp only [hc8, cond_false] at hx; cases hx
        | true => simp only [hc8, cond_true] at hx; cases hx
      · rename_i hvn
        cases hc8 : Nat.ble (qm_cat r0) 8 with
        | false => simp only [hc8, cond_false] at hx; cases hx
        | true =>
          simp only [hc8, cond_true] at hx
          cases hx
          split at hok
          · exact absurd rfl hvn
          · split at hok
            · rename_i q2 e2 hlk he2
              rw [hhd] at he2
              cases he2
              simp only [Bool.and_eq_true, Bool.not_eq_true', decide_eq_true_eq] at hok
              obtain ⟨g1, ⟨g3, g4⟩, g6, hret⟩ := hok
              have g1 := Nat.eq_of_beq_eq_true g1
              have g3 := Nat.eq_of_beq_eq_true g3
              have hlk : qm_lk qm_ml o i = some (q2.1, q2.2) := hlk
              rw [g1] at hlk
              have hcat : qm_cat r0 ≤ 8 := Nat.le_of_ble_eq_true hc8
              have hfl : (st.take f).length = f := by
                have : f < st.length := by
                  rcases Nat.lt_or_ge f st.length with y | y
                  · exact y
                  · rw [List.drop_eq_nil_of_le y] at hdr
                    cases hdr
                simp
                omega
              subst hnp
              intro H locs la hH hS hL
              have hstk : st.map (qm_cv b B) = (((st.take f).reverse.map (qm_cv b B)).reverse) ++ .ref (B + q) :: r0.map (qm_cv b B) := by
                rw [← List.map_reverse, List.reverse_reverse]
                conv => lhs; rw [← List.take_append_drop f st, hdr]
                rw [List.map_append]
                rfl
              have hpre : PreS s H (qm_Pc D aC b B L xs (.ref q :: (st.take f).reverse) h) (.ref (B + q) :: (st.take f).reverse.map (qm_cv b B)) := ⟨qm_Pc_blind, fun U hU hW => ⟨by rw [List.map_cons]; rfl, by rw [hU]; exact hH, va_K.moved hW.alike hK, by
                rw [hU]
                exact (va_X.moved hW.alike hX).kept (hS.2.1 b (Nat.lt_of_lt_of_le hbB hBs) (fun y => absurd y (Nat.not_le.mpr hbB))), ⟨hbB, by rw [hU]; exact Nat.le_trans hBs hS.1⟩, qm_ow.warm hW how⟩⟩
              have h8 : 2 * (F0 m pc la (st.map (qm_cv b B))).monitorRoom + ((r0.map (qm_cv b B)).map fun v => v.category).sum ≤ 8 := by
                show 2 * 0 + _ ≤ 8
                rw [qm_cat_cv]
                omega
              rw [hret] at hcode
              have hws' : Cond.code hd.2.1 hd.2.2.1 hd.2.2.2.1 none ∈ qm_ws hd := by
                rw [← hret]
                exact List.mem_cons_self
              rcases qm_ml_use hlk hhd with ⟨-, hlink⟩ | ⟨-, hlink⟩
              · exact hsum (qc := (pc + 3, ls, r0, h)) rfl rfl rfl rfl hL hS (va_runI (As := (st.take f).reverse.map (qm_cv b B)) (rest := r0.map (qm_cv b B)) (Ts := []) ⟨hex, hb, hml, hown, fun w hw => absurd hw List.not_mem_nil⟩ hM
                  ⟨⟨rfl, rfl, hfr, hlo, hws, hws', hcode, hts _ w5 rfl, w8, hpar, hts _ hlink rfl⟩, g6, hts _ (w3 g4) rfl⟩ hpre rfl (by rw [List.length_map, List.length_reverse, hfl, g3]) hL.2.1 hstk h8 hdk hcf)
              · exact hsum (qc := (pc + 3, ls, r0, h)) rfl rfl rfl rfl hL hS (va_runIN (host := "BoxQuay") (As := (st.take f).reverse.map (qm_cv b B)) (rest := r0.map (qm_cv b B)) (Ts := []) ⟨hex, hb, hml, hown, fun w hw => absurd hw List.not_mem_nil⟩ hM
                  ⟨⟨⟨rfl, rfl, hfr, hlo, hws, hws'⟩, hcode, hts _ w5 rfl, w8, hpar, hts _ hlink rfl⟩, g6, hts _ (w3 g4) rfl⟩ hpre rfl (by rw [List.length_map, List.length_reverse, hfl, g3]) hL.2.1 hstk h8 hdk hcf)
            · cases hok
    · cases hx
  | invokestatic i =>
    simp only [qm_ok, Bool.and_eq_true, decide_eq_true_eq] at hok
    obtain ⟨hdg, hok, hn⟩ := hok
    have hnp := qm_np hn
    have hdk := qm_dg hdg hnp
    simp only [qm_x, qm_cl, qm_nx, Bool.cond_eq_ite] at hx
    split at hx
    · (repeat' split at hx) <;> cases hx
    · (repeat' split at hx) <;> cases hx
    · rename_i hv1 hv2
      split at hx
      · rename_i hc8
        rw [Bool.and_eq_true] at hc8
        cases hx
        split at hok
        · exact absurd rfl hv1
        · exact absurd rfl (hv2 _)
        · split at hok
          · rename_i q2 e2 hlk he2
            rw [hhd] at he2
            cases he2
            simp only [Bool.and_eq_true] at hok
            obtain ⟨⟨g1, g2⟩, g3, g4⟩ := hok
            have g1 := Nat.eq_of_beq_eq_true g1
            have g2 := Nat.eq_of_beq_eq_true g2
            have g3 := Nat.eq_of_beq_eq_true g3
            have hlk : qm_lk qm_ml o i = some (q2.1, q2.2) := hlk
            rw [g1] at hlk
            have hlink : Cond.methodLink (qm_cn o) i hd.2.1 ∈ lw_tbl := by
              rcases qm_ml_use hlk hhd with ⟨-, z⟩ | ⟨z, -⟩
              · exact z
              · exact absurd g2 z
            have hfl : (st.take f).length = f := by
              have := Nat.le_of_ble_eq_true hc8.1
              simp
              omega
            have hcat : qm_cat (st.drop f) ≤ 8 := Nat.le_of_ble_eq_true hc8.2
            subst hnp
            intro H locs la hH hS hL
            have hstk : st.map (qm_cv b B) = (((st.take f).reverse.map (qm_cv b B)).reverse) ++ (st.drop f).map (qm_cv b B) := by
              rw [← List.map_reverse, List.reverse_reverse, ← List.map_append, List.take_append_drop]
            have hpre : PreS s H (qm_Pc D aC b B L xs ((st.take f).reverse) h) ((st.take f).reverse.map (qm_cv b B)) := ⟨qm_Pc_blind, fun U hU hW => ⟨rfl, by rw [hU]; exact hH, va_K.moved hW.alike hK, by
              rw [hU]
              exact (va_X.moved hW.alike hX).kept (hS.2.1 b (Nat.lt_of_lt_of_le hbB hBs) (fun y => absurd y (Nat.not_le.mpr hbB))), ⟨hbB, by rw [hU]; exact Nat.le_trans hBs hS.1⟩, qm_ow.warm hW how⟩⟩
            have h8 : 2 * (F0 m pc la (st.map (qm_cv b B))).monitorRoom + (((st.drop f).map (qm_cv b B)).map fun v => v.category).sum ≤ 8 := by
              show 2 * 0 + _ ≤ 8
              rw [qm_cat_cv]
              omega
            exact hsum (qc := (pc + 3, ls, st.drop f, h)) rfl rfl rfl rfl hL hS (va_runS (As := (st.take f).reverse.map (qm_cv b B)) (rest := (st.drop f).map (qm_cv b B)) (Ts := []) ⟨hex, hb, hml, hown, fun w hw => absurd hw List.not_mem_nil⟩ hM
              ⟨⟨rfl, rfl, hfr, hlo, hws, List.mem_cons_self, hcode, hts _ w5 rfl, w8, hpar, hts _ hlink rfl⟩, hts _ (w2 g4) rfl⟩ hpre rfl (by rw [List.length_map, List.length_reverse, hfl, g3]) hL.2.1 hstk h8 hdk hcf)
          · cases hok
      · cases hx
  | _ => rcases hfact with z | z <;> cases z
end QMX
end
section
/-! what the small machine runs, the real one does -/
theorem qm_main (l : Launch) (D : va_G) (aC : Nat → ClassId) (b B L : Nat) (xs : Nat → Int32) (F : Nat → Nat × qm_Cd) (hF : ∀ (j : Nat) (hd : qm_Hd), qm_hd[j]? = some hd → qm_okm hd (F j)) (hF0 : ∀ j, qm_hd[j]? = none → (F j).2 = []) :
    ∀ (n d : Nat) (p : Program) (e : Env) (R : Room) (s : State) (m : MethodId) (args : Array Value) (below : List Frame) (meth : Method) (c : Code) (cc : ByteArray) (nL o : Nat) (ini : Bool) (rt n0 t0 : Nat) (Q : State → Prop) (cd : qm_Cd) (cf : qm_C) (r : Option Value) (h' : qm_H),
      qm_Cx p s m args meth c cc nL o ini D aC b B L xs → qm_ow s → qm_okc o nL ini rt cc cd → qm_run F (L, xs) n d cd cf = some (r, h') → (d + 1 ≤ R.frames ∧ 64 * (d + 1) ≤ R.locals) → (n0 ≤ cf.2.2.2.1.length ∧ t0 ≤ qm_tot cf.2.2.2.1) → (h'.1.length - n0 ≤ R.cells ∧ qm_tot h'.1 - t0 ≤ R.slots) →
      (∀ (pc : Nat) (H : Heap) (locs : List Loc) (la : Array Slot), qm_dec cc rt pc r → qm_HI D aC b B h' H → va_S (qm_A B) s.heap H locs → W p l e R s m args below meth c H locs (h'.1.length - n0) (qm_tot h'.1 - t0) Q (F0 m pc la (r.toList.map (qm_cv b B)))) →
      qm_Wm p l e R s m args below meth c D aC b B n0 t0 nL Q cf := by
  intro n
  induction n with
  | zero =>
    intro d p e R s m args below meth c cc nL o ini rt n0 t0 Q cd cf r h' C0 how hcd hrun
    cases hrun
  | succ n ih =>
    intro d p e R s m args below meth c cc nL o ini rt n0 t0 Q cd cf r h' C0 how hcd hrun hR h0 hroom hret
    have hmono := qm_run_mono (n + 1) d cd cf r h' hrun
    unfold qm_run at hrun
    unfold qm_step at hrun
    cases hf : qm_fetch cd cf.1 with
    | none => simp [hf] at hrun
    | some it =>
      simp only [hf] at hrun
      obtain ⟨⟨q0, hq0, hit⟩, hpc⟩ := qm_fetch_ok hf
      have hok := List.all_eq_true.mp (hcd q0 hq0) it hit
      obtain ⟨pc, np, ins, a, f, v⟩ := it
      obtain ⟨pc', ls, st, h⟩ := cf
      have hpc : pc = pc' := hpc
      subst hpc
      cases hx : qm_x (L, xs) (pc, np, ins, a, f, v) (pc, ls, st, h) with
      | none => simp [hx] at hrun
      | some q =>
        have hfact := qm_x_fact (L, xs) pc np a f ins v (pc, ls, st, h) (r := q) hx
        simp only [hx] at hrun
        have hmono : ∃ t, h'.1 = h.1 ++ t := hmono
        have hl0 : h.1.length ≤ h'.1.length ∧ qm_tot h.1 ≤ qm_tot h'.1 := by
          obtain ⟨t, ht⟩ := hmono
          rw [ht, qm_tot_push]
          simp
        have h0 : n0 ≤ h.1.length ∧ t0 ≤ qm_tot h.1 := h0
        match q, hfact, hrun, hx with
        | .inl c', hfact, hrun, hx =>
          obtain ⟨-, t, ht⟩ := hfact
          have ht : c'.2.2.2.1 = h.1 ++ t := ht
          have hl1 : h.1.length ≤ c'.2.2.2.1.length ∧ qm_tot h.1 ≤ qm_tot c'.2.2.2.1 := by
            rw [ht, qm_tot_push]
            simp
          have hl2 : c'.2.2.2.1.length ≤ h'.1.length ∧ qm_tot c'.2.2.2.1 ≤ qm_tot h'.1 := by
            obtain ⟨t2, ht2⟩ := qm_run_mono n d cd c' r h' hrun
            rw [ht2, qm_tot_push]
            simp
          exact qm_nx_ok C0 hok hx h0 (by omega) (by omega) (by omega) (ih d p e R s m args below meth c cc nL o ini rt n0 t0 Q cd c' r h' C0 how hcd hrun hR (by omega) hroom hret)
        | .inr (.inl (bb, c1, c2)), hfact, hrun, hx =>
          obtain ⟨-, e1, e2⟩ := hfact
          refine qm_br_ok C0 hok hx (ih d p e R s m args below meth c cc nL o ini rt n0 t0 Q cd _ r h' C0 how hcd hrun hR ?_ hroom hret)
          cases bb
          · show n0 ≤ c2.2.2.2.1.length ∧ t0 ≤ qm_tot c2.2.2.2.1
            rw [show c2.2.2.2 = h from e2]
            exact h0
          · show n0 ≤ c1.2.2.2.1.length ∧ t0 ≤ qm_tot c1.2.2.2.1
            rw [show c1.2.2.2 = h from e1]
            exact h0
        | .inr (.inr (.inl (v2, h2))), hfact, hrun, hx =>
          cases hrun
          obtain ⟨g1, g2, g3⟩ := qm_rt_ok hok hx
          subst g3
          subst g2
          intro H locs la hH hS hL
          exact hret pc H locs la g1 hH hS
        | .inr (.inr (.inr (j, as, c1))), hfact, hrun, hx =>
          obtain ⟨-, e1⟩ := hfact
          have e1 : c1.2.2.2 = h := e1
          match d, hrun, hR with
          | 0, hrun, hR => cases hrun
          | d + 1, hrun, hR =>
            dsimp only at hrun
            cases hl : Nat.ble (qm_la as).length (F j).1 with
            | false => simp only [hl, cond_false] at hrun; cases hrun
            | true =>
              simp only [hl, cond_true] at hrun
              have hl := Nat.le_of_ble_eq_true hl
              cases hr : qm_run F (L, xs) n d (F j).2 (qm_ent (F j).1 as c1.2.2.2) with
              | none => simp only [hr] at hrun; cases hrun
              | some q2 =>
                obtain ⟨r2, h2⟩ := q2
                simp only [hr] at hrun
                rw [e1] at hr
                have hg1 := qm_run_mono n d _ _ r2 h2 hr
                have hg1 : ∃ t, h2.1 = h.1 ++ t := hg1
                have hg2 := qm_run_mono n (d + 1) cd _ r h' hrun
                have hg2 : ∃ t, h'.1 = h2.1 ++ t := hg2
                have hl1 : h.1.length ≤ h2.1.length ∧ qm_tot h.1 ≤ qm_tot h2.1 := by
                  obtain ⟨t, ht⟩ := hg1
                  rw [ht, qm_tot_push]
                  simp
                have hl2 : h2.1.length ≤ h'.1.length ∧ qm_tot h2.1 ≤ qm_tot h'.1 := by
                  obtain ⟨t, ht⟩ := hg2
                  rw [ht, qm_tot_push]
                  simp
                cases hhd : qm_hd[j]? with
                | none =>
                  rw [hF0 j hhd] at hr
                  cases n <;> cases hr
                | some hd =>
                  obtain ⟨k1, k2⟩ := hF j hd hhd
                  obtain ⟨w1, w2, w3, w4, w5, w6, w7, w8, w9, w10⟩ := qm_hds hhd
                  rw [k1] at hr hl
                  have hM : Met l hd.2.1 (qm_ws hd) (qm_rm d (h2.1.length - h.1.length) (qm_tot h2.1 - qm_tot h.1)) (qm_Pc D aC b B L xs as h) (qm_Qc D aC b B r2 h2) (h2.1.length - h.1.length) (qm_tot h2.1 - qm_tot h.1) (qm_A B) := by
                    refine Met.ofW (cc := hd.2.2.1) (maxL := hd.2.2.2.1) (ret := hd.2.2.2.2.1) w9 rfl ?_
                    intro p2 e2 s2 m2 args2 below2 meth2 c2 s₁ Bd hml hv
                    obtain ⟨rfl, hH, hK, hX, ⟨hbB, hBs⟩, how2⟩ := hv
                    have hts0 := atoms_spec (ws := qm_ws hd) Bd.pre
                    have C2 : qm_Cx p2 s2 m2 ((as.map (qm_cv b B)).toArray) meth2 c2 hd.2.2.1 hd.2.2.2.1 hd.1 (decide (hd.2.1.name = "<init>")) D aC b B L xs := by
                      refine ⟨Bd.exec, Bd.bytes, hml, ?_, ?_, hK, hX, hbB, hBs, ?_⟩
                      · rw [← w6]
                        exact findClass_of_methodNamed Bd.named
                      · intro w hw hu
                        cases hg : goodWord w with
                        | true => exact hts0 w (List.mem_cons_of_mem _ (List.mem_filter.mpr ⟨hw, hg⟩))
                        | false => exact how2.use hw hu hg
                      · intro z
                        rw [(name_of_methodNamed Bd.named Bd.method).1]
                        exact of_decide_eq_true z
                    have hWm := ih d p2 e2 (headSpec (qm_ws hd) (qm_rm d (h2.1.length - h.1.length) (qm_tot h2.1 - qm_tot h.1))).room s2 m2 ((as.map (qm_cv b B)).toArray) below2 meth2 c2 hd.2.2.1 hd.2.2.2.1 hd.1 (decide (hd.2.1.name = "<init>")) (qm_rto hd.2.2.2.2.1) h.1.length (qm_tot h.1) (MQ below2 (qm_Qc D aC b B r2 h2) ((as.map (qm_cv b B)).toArray) s2 (h2.1.length - h.1.length) (qm_tot h2.1 - qm_tot h.1) (qm_A B)) (F j).2 (qm_ent hd.2.2.2.1 as h) r2 h2 C2 how2 k2 hr ⟨Nat.le_refl _, Nat.le_refl _⟩ ⟨Nat.le_refl _, Nat.le_refl _⟩ ⟨Nat.le_refl _, Nat.le_refl _⟩ ?_
                    · have hent := qm_LR_ent (b := b) (B := B) (nL := hd.2.2.2.1) (as := as) hl h
                      have := hWm s2.heap [] _ hH va_S.rf hent
                      rw [show (qm_ent hd.2.2.2.1 as h).2.2.2.1.length - h.1.length = 0 from Nat.sub_self _, show qm_tot (qm_ent hd.2.2.2.1 as h).2.2.2.1 - qm_tot h.1 = 0 from Nat.sub_self _] at this
                      rw [lg_entry_eq]
                      exact this
                    · intro pc2 H locs la hdec hH2 hS2
                      have hlocks := Bd.notSynchronized
                      have hret2 := Bd.returns
                      have hres : ∀ t : State, t.heap = H → s2.WarmedH t.vm → qm_Qc D aC b B r2 h2 ((as.map (qm_cv b B)).toArray) s2 (.returned (r2.map (qm_cv b B))) t := fun t ht _ => ⟨rfl, by rw [ht]; exact hH2, hS2.F ht⟩
                      match r2, hdec, hres with
                      | none, hdec, hres =>
                        have hn : hd.2.2.2.2.1 = none := by
                          have := hdec.2
                          generalize hd.2.2.2.2.1 = rr at this
                          cases rr with
                          | none => rfl
                          | some ty => cases ty <;> simp [qm_rto] at this
                        exact W.vret Bd.exec Bd.bytes (by rw [hret2, hn]) hres hS2.2.2 hdec.1
                      | some (.int x), hdec, hres =>
                        rcases hdec.2 with hrt | ⟨hrt, hx01⟩
                        · have hn : hd.2.2.2.2.1 = some .int := by
                            generalize hd.2.2.2.2.1 = rr at hrt
                            cases rr with
                            | none => simp [qm_rto] at hrt
                            | some ty => cases ty <;> simp [qm_rto] at hrt <;> rfl
                          exact W.iret Bd.exec Bd.bytes (by rw [hret2, hn]) hres hS2.2.2 hdec.1
                        · have hn : hd.2.2.2.2.1 = some .boolean := by
                            generalize hd.2.2.2.2.1 = rr at hrt
                            cases rr with
                            | none => simp [qm_rto] at hrt
                            | some ty => cases ty <;> simp [qm_rto] at hrt <;> rfl
                          exact W.zret (ty := .boolean) Bd.exec Bd.bytes (by rw [hret2, hn]) (by rcases hx01 with rfl | rfl <;> rfl) hres hS2.2.2 hdec.1
                      | some (.long x), hdec, hres =>
                        have hn : hd.2.2.2.2.1 = some .long := by
                          have hrt := hdec.2
                          generalize hd.2.2.2.2.1 = rr at hrt
                          cases rr with
                          | none => simp [qm_rto] at hrt
                          | some ty => cases ty <;> simp [qm_rto] at hrt <;> rfl
                        exact W.lret Bd.exec Bd.bytes (by rw [hret2, hn]) hres hS2.2.2 hdec.1
                      | some .null, hdec, _ => exact hdec.elim
                      | some (.ref _), hdec, _ => exact hdec.elim
                      | some (.float _), hdec, _ => exact hdec.elim
                      | some (.double _), hdec, _ => exact hdec.elim
                      | some (.retAddr _), hdec, _ => exact hdec.elim
                  exact qm_call_ok C0 how hok hx hhd hM hg1 h0 (by omega) (by omega) (ih (d + 1) p e R s m args below meth c cc nL o ini rt n0 t0 Q cd _ r h' C0 how hcd hrun hR (by show n0 ≤ h2.1.length ∧ t0 ≤ qm_tot h2.1; omega) hroom hret)
end
