section
-- ===== PART A: goes FIRST, ahead of the names: the tables' words, and 'selects' of the private methods out of them =====
/-- a private method of a class that the tables say can be made, by its rows of tables_1 -/
def lw_okq (q : MethodName × Nat) : Prop := (q.1.cls ≠ "java/lang/invoke/MethodHandle" ∧ q.1.cls ≠ "java/lang/invoke/VarHandle") ∧ Cond.instantiable q.1.cls q.2 ∈ tables_1 ∧ Cond.privateMethod q.1 ∈ tables_1 ∧ Cond.instanceMethod q.1 ∈ tables_1
theorem lw_p0 : lw_okq (⟨"MeanSafe", "isOne", "(I)Z"⟩, 11) := ⟨⟨by decide +kernel, by decide +kernel⟩, List.mem_of_getElem? (i := 21) (by decide +kernel), List.mem_of_getElem? (i := 351) (by decide +kernel), List.mem_of_getElem? (i := 352) (by decide +kernel)⟩
theorem lw_p1 : lw_okq (⟨"MeanSafe$World", "draw", "()I"⟩, 12) := ⟨⟨by decide +kernel, by decide +kernel⟩, List.mem_of_getElem? (i := 73) (by decide +kernel), List.mem_of_getElem? (i := 429) (by decide +kernel), List.mem_of_getElem? (i := 430) (by decide +kernel)⟩
theorem lw_p2 : lw_okq (⟨"MeanSafe$World", "mean", "()I"⟩, 12) := ⟨⟨by decide +kernel, by decide +kernel⟩, List.mem_of_getElem? (i := 73) (by decide +kernel), List.mem_of_getElem? (i := 462) (by decide +kernel), List.mem_of_getElem? (i := 463) (by decide +kernel)⟩
theorem lw_p3 : lw_okq (⟨"MeanSafe$World", "weightUpTo", "(I)I"⟩, 12) := ⟨⟨by decide +kernel, by decide +kernel⟩, List.mem_of_getElem? (i := 73) (by decide +kernel), List.mem_of_getElem? (i := 466) (by decide +kernel), List.mem_of_getElem? (i := 467) (by decide +kernel)⟩
theorem lw_p4 : lw_okq (⟨"MeanSafe$World", "middle", "()I"⟩, 12) := ⟨⟨by decide +kernel, by decide +kernel⟩, List.mem_of_getElem? (i := 73) (by decide +kernel), List.mem_of_getElem? (i := 470) (by decide +kernel), List.mem_of_getElem? (i := 471) (by decide +kernel)⟩
theorem lw_p5 : lw_okq (⟨"MeanSafe$World", "greatest", "()I"⟩, 12) := ⟨⟨by decide +kernel, by decide +kernel⟩, List.mem_of_getElem? (i := 73) (by decide +kernel), List.mem_of_getElem? (i := 474) (by decide +kernel), List.mem_of_getElem? (i := 475) (by decide +kernel)⟩
theorem lw_p6 : lw_okq (⟨"MeanSafe$World", "turn", "()I"⟩, 12) := ⟨⟨by decide +kernel, by decide +kernel⟩, List.mem_of_getElem? (i := 73) (by decide +kernel), List.mem_of_getElem? (i := 487) (by decide +kernel), List.mem_of_getElem? (i := 488) (by decide +kernel)⟩
theorem lw_p7 : lw_okq (⟨"MeanSafe$Thought", "branch", "(I)V"⟩, 4) := ⟨⟨by decide +kernel, by decide +kernel⟩, List.mem_of_getElem? (i := 165) (by decide +kernel), List.mem_of_getElem? (i := 533) (by decide +kernel), List.mem_of_getElem? (i := 534) (by decide +kernel)⟩
theorem lw_p8 : lw_okq (⟨"MeanSafe$Thought", "gather", "(III)I"⟩, 4) := ⟨⟨by decide +kernel, by decide +kernel⟩, List.mem_of_getElem? (i := 165) (by decide +kernel), List.mem_of_getElem? (i := 539) (by decide +kernel), List.mem_of_getElem? (i := 540) (by decide +kernel)⟩
theorem lw_p9 : lw_okq (⟨"MeanSafe$Reader", "advance", "()V"⟩, 9) := ⟨⟨by decide +kernel, by decide +kernel⟩, List.mem_of_getElem? (i := 205) (by decide +kernel), List.mem_of_getElem? (i := 616) (by decide +kernel), List.mem_of_getElem? (i := 617) (by decide +kernel)⟩
theorem lw_p10 : lw_okq (⟨"MeanSafe$Reader", "readKey", "()V"⟩, 9) := ⟨⟨by decide +kernel, by decide +kernel⟩, List.mem_of_getElem? (i := 205) (by decide +kernel), List.mem_of_getElem? (i := 627) (by decide +kernel), List.mem_of_getElem? (i := 628) (by decide +kernel)⟩
theorem lw_p11 : lw_okq (⟨"MeanSafe$Reader", "isWord", "(Ljava/lang/String;)Z"⟩, 9) := ⟨⟨by decide +kernel, by decide +kernel⟩, List.mem_of_getElem? (i := 205) (by decide +kernel), List.mem_of_getElem? (i := 632) (by decide +kernel), List.mem_of_getElem? (i := 633) (by decide +kernel)⟩
theorem lw_p12 : lw_okq (⟨"MeanSafe$Reader", "level", "(I)V"⟩, 9) := ⟨⟨by decide +kernel, by decide +kernel⟩, List.mem_of_getElem? (i := 205) (by decide +kernel), List.mem_of_getElem? (i := 686) (by decide +kernel), List.mem_of_getElem? (i := 687) (by decide +kernel)⟩
theorem lw_p13 : lw_okq (⟨"MeanSafe$Reader", "piece", "()V"⟩, 9) := ⟨⟨by decide +kernel, by decide +kernel⟩, List.mem_of_getElem? (i := 205) (by decide +kernel), List.mem_of_getElem? (i := 690) (by decide +kernel), List.mem_of_getElem? (i := 691) (by decide +kernel)⟩
theorem lw_p14 : lw_okq (⟨"MeanSafe$Reader", "readNumber", "()V"⟩, 9) := ⟨⟨by decide +kernel, by decide +kernel⟩, List.mem_of_getElem? (i := 205) (by decide +kernel), List.mem_of_getElem? (i := 694) (by decide +kernel), List.mem_of_getElem? (i := 695) (by decide +kernel)⟩
theorem lw_p15 : lw_okq (⟨"MeanSafe$Reader", "readName", "()V"⟩, 9) := ⟨⟨by decide +kernel, by decide +kernel⟩, List.mem_of_getElem? (i := 205) (by decide +kernel), List.mem_of_getElem? (i := 702) (by decide +kernel), List.mem_of_getElem? (i := 703) (by decide +kernel)⟩
def lw_privs_1 : List (MethodName × Nat) := [(⟨"MeanSafe", "isOne", "(I)Z"⟩, 11), (⟨"MeanSafe$World", "draw", "()I"⟩, 12), (⟨"MeanSafe$World", "mean", "()I"⟩, 12), (⟨"MeanSafe$World", "weightUpTo", "(I)I"⟩, 12), (⟨"MeanSafe$World", "middle", "()I"⟩, 12), (⟨"MeanSafe$World", "greatest", "()I"⟩, 12), (⟨"MeanSafe$World", "turn", "()I"⟩, 12), (⟨"MeanSafe$Thought", "branch", "(I)V"⟩, 4), (⟨"MeanSafe$Thought", "gather", "(III)I"⟩, 4), (⟨"MeanSafe$Reader", "advance", "()V"⟩, 9), (⟨"MeanSafe$Reader", "readKey", "()V"⟩, 9), (⟨"MeanSafe$Reader", "isWord", "(Ljava/lang/String;)Z"⟩, 9), (⟨"MeanSafe$Reader", "level", "(I)V"⟩, 9), (⟨"MeanSafe$Reader", "piece", "()V"⟩, 9), (⟨"MeanSafe$Reader", "readNumber", "()V"⟩, 9), (⟨"MeanSafe$Reader", "readName", "()V"⟩, 9)]
theorem lw_r1 : ∀ q ∈ lw_privs_1, lw_okq q := List.forall_mem_cons.mpr ⟨lw_p0, List.forall_mem_cons.mpr ⟨lw_p1, List.forall_mem_cons.mpr ⟨lw_p2, List.forall_mem_cons.mpr ⟨lw_p3, List.forall_mem_cons.mpr ⟨lw_p4, List.forall_mem_cons.mpr ⟨lw_p5, List.forall_mem_cons.mpr ⟨lw_p6, List.forall_mem_cons.mpr ⟨lw_p7, List.forall_mem_cons.mpr ⟨lw_p8, List.forall_mem_cons.mpr ⟨lw_p9, List.forall_mem_cons.mpr ⟨lw_p10, List.forall_mem_cons.mpr ⟨lw_p11, List.forall_mem_cons.mpr ⟨lw_p12, List.forall_mem_cons.mpr ⟨lw_p13, List.forall_mem_cons.mpr ⟨lw_p14, List.forall_mem_cons.mpr ⟨lw_p15, fun _ h => absurd h List.not_mem_nil⟩⟩⟩⟩⟩⟩⟩⟩⟩⟩⟩⟩⟩⟩⟩⟩
theorem lw_p16 : lw_okq (⟨"MeanSafe$Reader", "sign", "()I"⟩, 9) := ⟨⟨by decide +kernel, by decide +kernel⟩, List.mem_of_getElem? (i := 205) (by decide +kernel), List.mem_of_getElem? (i := 767) (by decide +kernel), List.mem_of_getElem? (i := 768) (by decide +kernel)⟩
theorem lw_p17 : lw_okq (⟨"MeanSafe$Reader", "readNot", "()V"⟩, 9) := ⟨⟨by decide +kernel, by decide +kernel⟩, List.mem_of_getElem? (i := 205) (by decide +kernel), List.mem_of_getElem? (i := 771) (by decide +kernel), List.mem_of_getElem? (i := 772) (by decide +kernel)⟩
theorem lw_p18 : lw_okq (⟨"MeanSafe$Reader", "readBracket", "()V"⟩, 9) := ⟨⟨by decide +kernel, by decide +kernel⟩, List.mem_of_getElem? (i := 205) (by decide +kernel), List.mem_of_getElem? (i := 775) (by decide +kernel), List.mem_of_getElem? (i := 776) (by decide +kernel)⟩
theorem lw_p19 : lw_okq (⟨"MeanSafeModel", "comes", "(IIII)I"⟩, 34) := ⟨⟨by decide +kernel, by decide +kernel⟩, List.mem_of_getElem? (i := 891) (by decide +kernel), List.mem_of_getElem? (i := 1011) (by decide +kernel), List.mem_of_getElem? (i := 1012) (by decide +kernel)⟩
theorem lw_p20 : lw_okq (⟨"MeanSafeModel", "put", "(III)V"⟩, 34) := ⟨⟨by decide +kernel, by decide +kernel⟩, List.mem_of_getElem? (i := 891) (by decide +kernel), List.mem_of_getElem? (i := 1015) (by decide +kernel), List.mem_of_getElem? (i := 1016) (by decide +kernel)⟩
theorem lw_p21 : lw_okq (⟨"MeanSafeModel", "isOne", "(I)Z"⟩, 34) := ⟨⟨by decide +kernel, by decide +kernel⟩, List.mem_of_getElem? (i := 891) (by decide +kernel), List.mem_of_getElem? (i := 1023) (by decide +kernel), List.mem_of_getElem? (i := 1024) (by decide +kernel)⟩
theorem lw_p22 : lw_okq (⟨"MeanSafeModel", "of", "(II)I"⟩, 34) := ⟨⟨by decide +kernel, by decide +kernel⟩, List.mem_of_getElem? (i := 891) (by decide +kernel), List.mem_of_getElem? (i := 1027) (by decide +kernel), List.mem_of_getElem? (i := 1028) (by decide +kernel)⟩
theorem lw_p23 : lw_okq (⟨"MeanSafeModel", "setsTo", "(I)I"⟩, 34) := ⟨⟨by decide +kernel, by decide +kernel⟩, List.mem_of_getElem? (i := 891) (by decide +kernel), List.mem_of_getElem? (i := 1031) (by decide +kernel), List.mem_of_getElem? (i := 1032) (by decide +kernel)⟩
theorem lw_p24 : lw_okq (⟨"MeanSafeModel", "counts", "(I)I"⟩, 34) := ⟨⟨by decide +kernel, by decide +kernel⟩, List.mem_of_getElem? (i := 891) (by decide +kernel), List.mem_of_getElem? (i := 1035) (by decide +kernel), List.mem_of_getElem? (i := 1036) (by decide +kernel)⟩
theorem lw_p25 : lw_okq (⟨"MeanSafeModel", "worksOut", "(I)I"⟩, 34) := ⟨⟨by decide +kernel, by decide +kernel⟩, List.mem_of_getElem? (i := 891) (by decide +kernel), List.mem_of_getElem? (i := 1039) (by decide +kernel), List.mem_of_getElem? (i := 1040) (by decide +kernel)⟩
theorem lw_p26 : lw_okq (⟨"MeanSafeModel", "worthOf", "(I)I"⟩, 34) := ⟨⟨by decide +kernel, by decide +kernel⟩, List.mem_of_getElem? (i := 891) (by decide +kernel), List.mem_of_getElem? (i := 1049) (by decide +kernel), List.mem_of_getElem? (i := 1050) (by decide +kernel)⟩
theorem lw_p27 : lw_okq (⟨"MeanSafeModel", "becomes", "(II)I"⟩, 34) := ⟨⟨by decide +kernel, by decide +kernel⟩, List.mem_of_getElem? (i := 891) (by decide +kernel), List.mem_of_getElem? (i := 1065) (by decide +kernel), List.mem_of_getElem? (i := 1066) (by decide +kernel)⟩
theorem lw_p28 : lw_okq (⟨"MeanSafeModel", "believesAll", "(I)V"⟩, 34) := ⟨⟨by decide +kernel, by decide +kernel⟩, List.mem_of_getElem? (i := 891) (by decide +kernel), List.mem_of_getElem? (i := 1083) (by decide +kernel), List.mem_of_getElem? (i := 1084) (by decide +kernel)⟩
theorem lw_p29 : lw_okq (⟨"MeanSafeModel", "draw", "()I"⟩, 34) := ⟨⟨by decide +kernel, by decide +kernel⟩, List.mem_of_getElem? (i := 891) (by decide +kernel), List.mem_of_getElem? (i := 1091) (by decide +kernel), List.mem_of_getElem? (i := 1092) (by decide +kernel)⟩
theorem lw_p30 : lw_okq (⟨"MeanSafeModel", "saysNow", "()I"⟩, 34) := ⟨⟨by decide +kernel, by decide +kernel⟩, List.mem_of_getElem? (i := 891) (by decide +kernel), List.mem_of_getElem? (i := 1108) (by decide +kernel), List.mem_of_getElem? (i := 1109) (by decide +kernel)⟩
theorem lw_p31 : lw_okq (⟨"MeanSafeModel", "mean", "()I"⟩, 34) := ⟨⟨by decide +kernel, by decide +kernel⟩, List.mem_of_getElem? (i := 891) (by decide +kernel), List.mem_of_getElem? (i := 1112) (by decide +kernel), List.mem_of_getElem? (i := 1113) (by decide +kernel)⟩
def lw_privs_2 : List (MethodName × Nat) := [(⟨"MeanSafe$Reader", "sign", "()I"⟩, 9), (⟨"MeanSafe$Reader", "readNot", "()V"⟩, 9), (⟨"MeanSafe$Reader", "readBracket", "()V"⟩, 9), (⟨"MeanSafeModel", "comes", "(IIII)I"⟩, 34), (⟨"MeanSafeModel", "put", "(III)V"⟩, 34), (⟨"MeanSafeModel", "isOne", "(I)Z"⟩, 34), (⟨"MeanSafeModel", "of", "(II)I"⟩, 34), (⟨"MeanSafeModel", "setsTo", "(I)I"⟩, 34), (⟨"MeanSafeModel", "counts", "(I)I"⟩, 34), (⟨"MeanSafeModel", "worksOut", "(I)I"⟩, 34), (⟨"MeanSafeModel", "worthOf", "(I)I"⟩, 34), (⟨"MeanSafeModel", "becomes", "(II)I"⟩, 34), (⟨"MeanSafeModel", "believesAll", "(I)V"⟩, 34), (⟨"MeanSafeModel", "draw", "()I"⟩, 34), (⟨"MeanSafeModel", "saysNow", "()I"⟩, 34), (⟨"MeanSafeModel", "mean", "()I"⟩, 34)]
theorem lw_r2 : ∀ q ∈ lw_privs_2, lw_okq q := List.forall_mem_cons.mpr ⟨lw_p16, List.forall_mem_cons.mpr ⟨lw_p17, List.forall_mem_cons.mpr ⟨lw_p18, List.forall_mem_cons.mpr ⟨lw_p19, List.forall_mem_cons.mpr ⟨lw_p20, List.forall_mem_cons.mpr ⟨lw_p21, List.forall_mem_cons.mpr ⟨lw_p22, List.forall_mem_cons.mpr ⟨lw_p23, List.forall_mem_cons.mpr ⟨lw_p24, List.forall_mem_cons.mpr ⟨lw_p25, List.forall_mem_cons.mpr ⟨lw_p26, List.forall_mem_cons.mpr ⟨lw_p27, List.forall_mem_cons.mpr ⟨lw_p28, List.forall_mem_cons.mpr ⟨lw_p29, List.forall_mem_cons.mpr ⟨lw_p30, List.forall_mem_cons.mpr ⟨lw_p31, fun _ h => absurd h List.not_mem_nil⟩⟩⟩⟩⟩⟩⟩⟩⟩⟩⟩⟩⟩⟩⟩⟩
theorem lw_p32 : lw_okq (⟨"MeanSafeModel", "weights", "()I"⟩, 34) := ⟨⟨by decide +kernel, by decide +kernel⟩, List.mem_of_getElem? (i := 891) (by decide +kernel), List.mem_of_getElem? (i := 1116) (by decide +kernel), List.mem_of_getElem? (i := 1117) (by decide +kernel)⟩
theorem lw_p33 : lw_okq (⟨"MeanSafeModel", "middle", "()I"⟩, 34) := ⟨⟨by decide +kernel, by decide +kernel⟩, List.mem_of_getElem? (i := 891) (by decide +kernel), List.mem_of_getElem? (i := 1120) (by decide +kernel), List.mem_of_getElem? (i := 1121) (by decide +kernel)⟩
theorem lw_p34 : lw_okq (⟨"MeanSafeModel", "upTo", "(I)I"⟩, 34) := ⟨⟨by decide +kernel, by decide +kernel⟩, List.mem_of_getElem? (i := 891) (by decide +kernel), List.mem_of_getElem? (i := 1124) (by decide +kernel), List.mem_of_getElem? (i := 1125) (by decide +kernel)⟩
theorem lw_p35 : lw_okq (⟨"MeanSafeModel", "greatest", "()I"⟩, 34) := ⟨⟨by decide +kernel, by decide +kernel⟩, List.mem_of_getElem? (i := 891) (by decide +kernel), List.mem_of_getElem? (i := 1128) (by decide +kernel), List.mem_of_getElem? (i := 1129) (by decide +kernel)⟩
theorem lw_p36 : lw_okq (⟨"MeanSafeModel", "goesOn", "(I)I"⟩, 34) := ⟨⟨by decide +kernel, by decide +kernel⟩, List.mem_of_getElem? (i := 891) (by decide +kernel), List.mem_of_getElem? (i := 1136) (by decide +kernel), List.mem_of_getElem? (i := 1137) (by decide +kernel)⟩
theorem lw_p37 : lw_okq (⟨"MeanSafeModel", "aTry", "()I"⟩, 34) := ⟨⟨by decide +kernel, by decide +kernel⟩, List.mem_of_getElem? (i := 891) (by decide +kernel), List.mem_of_getElem? (i := 1140) (by decide +kernel), List.mem_of_getElem? (i := 1141) (by decide +kernel)⟩
theorem lw_p38 : lw_okq (⟨"MeanSafeModel", "isStill", "()Z"⟩, 34) := ⟨⟨by decide +kernel, by decide +kernel⟩, List.mem_of_getElem? (i := 891) (by decide +kernel), List.mem_of_getElem? (i := 1144) (by decide +kernel), List.mem_of_getElem? (i := 1145) (by decide +kernel)⟩
theorem lw_p39 : lw_okq (⟨"MeanSafeModel", "turn", "()I"⟩, 34) := ⟨⟨by decide +kernel, by decide +kernel⟩, List.mem_of_getElem? (i := 891) (by decide +kernel), List.mem_of_getElem? (i := 1148) (by decide +kernel), List.mem_of_getElem? (i := 1149) (by decide +kernel)⟩
theorem lw_p40 : lw_okq (⟨"MeanSafeModel", "hears", "(II)V"⟩, 34) := ⟨⟨by decide +kernel, by decide +kernel⟩, List.mem_of_getElem? (i := 891) (by decide +kernel), List.mem_of_getElem? (i := 1152) (by decide +kernel), List.mem_of_getElem? (i := 1153) (by decide +kernel)⟩
theorem lw_p41 : lw_okq (⟨"MeanSafeModel", "needsBy", "(I)I"⟩, 34) := ⟨⟨by decide +kernel, by decide +kernel⟩, List.mem_of_getElem? (i := 891) (by decide +kernel), List.mem_of_getElem? (i := 1160) (by decide +kernel), List.mem_of_getElem? (i := 1161) (by decide +kernel)⟩
theorem lw_p42 : lw_okq (⟨"MeanSafeModel", "takes", "([I[I)V"⟩, 34) := ⟨⟨by decide +kernel, by decide +kernel⟩, List.mem_of_getElem? (i := 891) (by decide +kernel), List.mem_of_getElem? (i := 1164) (by decide +kernel), List.mem_of_getElem? (i := 1165) (by decide +kernel)⟩
theorem lw_p43 : lw_okq (⟨"MeanSafeModel", "needsOf", "(I)I"⟩, 34) := ⟨⟨by decide +kernel, by decide +kernel⟩, List.mem_of_getElem? (i := 891) (by decide +kernel), List.mem_of_getElem? (i := 1168) (by decide +kernel), List.mem_of_getElem? (i := 1169) (by decide +kernel)⟩
theorem lw_p44 : lw_okq (⟨"MeanSafeModel", "needsAll", "()I"⟩, 34) := ⟨⟨by decide +kernel, by decide +kernel⟩, List.mem_of_getElem? (i := 891) (by decide +kernel), List.mem_of_getElem? (i := 1185) (by decide +kernel), List.mem_of_getElem? (i := 1186) (by decide +kernel)⟩
theorem lw_p45 : lw_okq (⟨"MeanSafeModel", "thinks", "()V"⟩, 34) := ⟨⟨by decide +kernel, by decide +kernel⟩, List.mem_of_getElem? (i := 891) (by decide +kernel), List.mem_of_getElem? (i := 1193) (by decide +kernel), List.mem_of_getElem? (i := 1194) (by decide +kernel)⟩
theorem lw_p46 : lw_okq (⟨"MeanSafeModel", "putsBack", "()V"⟩, 34) := ⟨⟨by decide +kernel, by decide +kernel⟩, List.mem_of_getElem? (i := 891) (by decide +kernel), List.mem_of_getElem? (i := 1197) (by decide +kernel), List.mem_of_getElem? (i := 1198) (by decide +kernel)⟩
theorem lw_p47 : lw_okq (⟨"MeanSafeModel", "answersBy", "(II)Z"⟩, 34) := ⟨⟨by decide +kernel, by decide +kernel⟩, List.mem_of_getElem? (i := 891) (by decide +kernel), List.mem_of_getElem? (i := 1217) (by decide +kernel), List.mem_of_getElem? (i := 1218) (by decide +kernel)⟩
def lw_privs_3 : List (MethodName × Nat) := [(⟨"MeanSafeModel", "weights", "()I"⟩, 34), (⟨"MeanSafeModel", "middle", "()I"⟩, 34), (⟨"MeanSafeModel", "upTo", "(I)I"⟩, 34), (⟨"MeanSafeModel", "greatest", "()I"⟩, 34), (⟨"MeanSafeModel", "goesOn", "(I)I"⟩, 34), (⟨"MeanSafeModel", "aTry", "()I"⟩, 34), (⟨"MeanSafeModel", "isStill", "()Z"⟩, 34), (⟨"MeanSafeModel", "turn", "()I"⟩, 34), (⟨"MeanSafeModel", "hears", "(II)V"⟩, 34), (⟨"MeanSafeModel", "needsBy", "(I)I"⟩, 34), (⟨"MeanSafeModel", "takes", "([I[I)V"⟩, 34), (⟨"MeanSafeModel", "needsOf", "(I)I"⟩, 34), (⟨"MeanSafeModel", "needsAll", "()I"⟩, 34), (⟨"MeanSafeModel", "thinks", "()V"⟩, 34), (⟨"MeanSafeModel", "putsBack", "()V"⟩, 34), (⟨"MeanSafeModel", "answersBy", "(II)Z"⟩, 34)]
theorem lw_r3 : ∀ q ∈ lw_privs_3, lw_okq q := List.forall_mem_cons.mpr ⟨lw_p32, List.forall_mem_cons.mpr ⟨lw_p33, List.forall_mem_cons.mpr ⟨lw_p34, List.forall_mem_cons.mpr ⟨lw_p35, List.forall_mem_cons.mpr ⟨lw_p36, List.forall_mem_cons.mpr ⟨lw_p37, List.forall_mem_cons.mpr ⟨lw_p38, List.forall_mem_cons.mpr ⟨lw_p39, List.forall_mem_cons.mpr ⟨lw_p40, List.forall_mem_cons.mpr ⟨lw_p41, List.forall_mem_cons.mpr ⟨lw_p42, List.forall_mem_cons.mpr ⟨lw_p43, List.forall_mem_cons.mpr ⟨lw_p44, List.forall_mem_cons.mpr ⟨lw_p45, List.forall_mem_cons.mpr ⟨lw_p46, List.forall_mem_cons.mpr ⟨lw_p47, fun _ h => absurd h List.not_mem_nil⟩⟩⟩⟩⟩⟩⟩⟩⟩⟩⟩⟩⟩⟩⟩⟩
theorem lw_p48 : lw_okq (⟨"MeanSafeModel", "answer", "()I"⟩, 34) := ⟨⟨by decide +kernel, by decide +kernel⟩, List.mem_of_getElem? (i := 891) (by decide +kernel), List.mem_of_getElem? (i := 1221) (by decide +kernel), List.mem_of_getElem? (i := 1222) (by decide +kernel)⟩
theorem lw_p49 : lw_okq (⟨"MeanSafeModel", "go", "()V"⟩, 34) := ⟨⟨by decide +kernel, by decide +kernel⟩, List.mem_of_getElem? (i := 891) (by decide +kernel), List.mem_of_getElem? (i := 1245) (by decide +kernel), List.mem_of_getElem? (i := 1246) (by decide +kernel)⟩
theorem lw_p50 : lw_okq (⟨"MeanSafeModel", "isLetter", "(I)Z"⟩, 34) := ⟨⟨by decide +kernel, by decide +kernel⟩, List.mem_of_getElem? (i := 891) (by decide +kernel), List.mem_of_getElem? (i := 1249) (by decide +kernel), List.mem_of_getElem? (i := 1250) (by decide +kernel)⟩
theorem lw_p51 : lw_okq (⟨"MeanSafeModel", "isFigure", "(I)Z"⟩, 34) := ⟨⟨by decide +kernel, by decide +kernel⟩, List.mem_of_getElem? (i := 891) (by decide +kernel), List.mem_of_getElem? (i := 1253) (by decide +kernel), List.mem_of_getElem? (i := 1254) (by decide +kernel)⟩
theorem lw_p52 : lw_okq (⟨"MeanSafeModel", "takesKey", "()Z"⟩, 34) := ⟨⟨by decide +kernel, by decide +kernel⟩, List.mem_of_getElem? (i := 891) (by decide +kernel), List.mem_of_getElem? (i := 1257) (by decide +kernel), List.mem_of_getElem? (i := 1258) (by decide +kernel)⟩
theorem lw_p53 : lw_okq (⟨"MeanSafeModel", "takesE", "()Z"⟩, 34) := ⟨⟨by decide +kernel, by decide +kernel⟩, List.mem_of_getElem? (i := 891) (by decide +kernel), List.mem_of_getElem? (i := 1261) (by decide +kernel), List.mem_of_getElem? (i := 1262) (by decide +kernel)⟩
theorem lw_p54 : lw_okq (⟨"MeanSafeModel", "takesPart", "()Z"⟩, 34) := ⟨⟨by decide +kernel, by decide +kernel⟩, List.mem_of_getElem? (i := 891) (by decide +kernel), List.mem_of_getElem? (i := 1265) (by decide +kernel), List.mem_of_getElem? (i := 1266) (by decide +kernel)⟩
theorem lw_p55 : lw_okq (⟨"MeanSafeModel", "nameOf", "(I)I"⟩, 34) := ⟨⟨by decide +kernel, by decide +kernel⟩, List.mem_of_getElem? (i := 891) (by decide +kernel), List.mem_of_getElem? (i := 1269) (by decide +kernel), List.mem_of_getElem? (i := 1270) (by decide +kernel)⟩
theorem lw_p56 : lw_okq (⟨"MeanSafeModel", "settle", "(I)V"⟩, 34) := ⟨⟨by decide +kernel, by decide +kernel⟩, List.mem_of_getElem? (i := 891) (by decide +kernel), List.mem_of_getElem? (i := 1273) (by decide +kernel), List.mem_of_getElem? (i := 1274) (by decide +kernel)⟩
theorem lw_p57 : lw_okq (⟨"MeanSafeModel", "notsOpen", "()I"⟩, 34) := ⟨⟨by decide +kernel, by decide +kernel⟩, List.mem_of_getElem? (i := 891) (by decide +kernel), List.mem_of_getElem? (i := 1280) (by decide +kernel), List.mem_of_getElem? (i := 1281) (by decide +kernel)⟩
theorem lw_p58 : lw_okq (⟨"MeanSafeModel", "signHere", "()I"⟩, 34) := ⟨⟨by decide +kernel, by decide +kernel⟩, List.mem_of_getElem? (i := 891) (by decide +kernel), List.mem_of_getElem? (i := 1284) (by decide +kernel), List.mem_of_getElem? (i := 1285) (by decide +kernel)⟩
theorem lw_p59 : lw_okq (⟨"MeanSafeModel", "hearing", "()I"⟩, 34) := ⟨⟨by decide +kernel, by decide +kernel⟩, List.mem_of_getElem? (i := 891) (by decide +kernel), List.mem_of_getElem? (i := 1363) (by decide +kernel), List.mem_of_getElem? (i := 1364) (by decide +kernel)⟩
def lw_privs_4 : List (MethodName × Nat) := [(⟨"MeanSafeModel", "answer", "()I"⟩, 34), (⟨"MeanSafeModel", "go", "()V"⟩, 34), (⟨"MeanSafeModel", "isLetter", "(I)Z"⟩, 34), (⟨"MeanSafeModel", "isFigure", "(I)Z"⟩, 34), (⟨"MeanSafeModel", "takesKey", "()Z"⟩, 34), (⟨"MeanSafeModel", "takesE", "()Z"⟩, 34), (⟨"MeanSafeModel", "takesPart", "()Z"⟩, 34), (⟨"MeanSafeModel", "nameOf", "(I)I"⟩, 34), (⟨"MeanSafeModel", "settle", "(I)V"⟩, 34), (⟨"MeanSafeModel", "notsOpen", "()I"⟩, 34), (⟨"MeanSafeModel", "signHere", "()I"⟩, 34), (⟨"MeanSafeModel", "hearing", "()I"⟩, 34)]
theorem lw_r4 : ∀ q ∈ lw_privs_4, lw_okq q := List.forall_mem_cons.mpr ⟨lw_p48, List.forall_mem_cons.mpr ⟨lw_p49, List.forall_mem_cons.mpr ⟨lw_p50, List.forall_mem_cons.mpr ⟨lw_p51, List.forall_mem_cons.mpr ⟨lw_p52, List.forall_mem_cons.mpr ⟨lw_p53, List.forall_mem_cons.mpr ⟨lw_p54, List.forall_mem_cons.mpr ⟨lw_p55, List.forall_mem_cons.mpr ⟨lw_p56, List.forall_mem_cons.mpr ⟨lw_p57, List.forall_mem_cons.mpr ⟨lw_p58, List.forall_mem_cons.mpr ⟨lw_p59, fun _ h => absurd h List.not_mem_nil⟩⟩⟩⟩⟩⟩⟩⟩⟩⟩⟩⟩
def lw_privs : List (MethodName × Nat) := lw_privs_1 ++ (lw_privs_2 ++ (lw_privs_3 ++ (lw_privs_4)))
def lw_tbl : List Cond := k2_sels lw_privs ++ tables_1
theorem lw_privs_ok : ∀ q ∈ lw_privs, lw_okq q := by
  show ∀ q ∈ lw_privs_1 ++ (lw_privs_2 ++ (lw_privs_3 ++ (lw_privs_4))), lw_okq q
  exact List.forall_mem_append.mpr ⟨lw_r1, List.forall_mem_append.mpr ⟨lw_r2, List.forall_mem_append.mpr ⟨lw_r3, lw_r4⟩⟩⟩
theorem goodIn_r {big : List Cond} (ws : List Cond) (ps : List Nat) (hp : ws = ps.filterMap (fun i => big[i]?)) (h : ws.all goodWord = true) : GoodIn big ws := by
  intro w hw
  have h1 := List.all_eq_true.mp h w hw
  rw [hp] at hw
  obtain ⟨i, -, hi⟩ := List.mem_filterMap.mp hw
  exact ⟨List.mem_of_getElem? hi, good_of_word h1⟩
def RX0 : String := "MeanSafe$Person"
def TX0 : u_T := fun k => match k with
  | 0 => ("MeanSafe$Person", "kind", "I", false)
  | 1 => ("MeanSafe$Person", "dial", "I", false)
  | 2 => ("MeanSafe$Person", "weight", "I", false)
  | 3 => ("MeanSafe$Person", "bias", "I", false)
  | 4 => ("MeanSafe$Person", "low", "I", false)
  | 5 => ("MeanSafe$Person", "high", "I", false)
  | _ => ("MeanSafe$Person", "hears", "Z", false)
def tyX0 : Nat → FieldType := fun k => match k with
  | 0 => .int
  | 1 => .int
  | 2 => .int
  | 3 => .int
  | 4 => .int
  | 5 => .int
  | _ => .boolean
abbrev wsX00 : List Cond := u_ws RX0 TX0 7
theorem nmX0 : ∀ a, a < 7 → ∀ b, b < 7 → a ≠ b → (TX0 a).2.1 ≠ (TX0 b).2.1 := by decide +kernel
theorem tyX0_ok : ∀ k, k < 7 → parseFieldDescriptor (TX0 k).2.2.1 = some (tyX0 k) := by decide +kernel
abbrev cX0_init : ByteArray := prog_2_method_1_code
def yX0_init : MethodName := ⟨RX0, "<init>", "()V"⟩
abbrev cX0_isTrait : ByteArray := prog_2_method_2_code
def yX0_isTrait : MethodName := ⟨RX0, "isTrait", "(I)Z"⟩
abbrev cX0_mayBe : ByteArray := prog_2_method_3_code
def yX0_mayBe : MethodName := ⟨RX0, "mayBe", "(II)Z"⟩
abbrev cX0_trait : ByteArray := prog_2_method_4_code
def yX0_trait : MethodName := ⟨RX0, "trait", "(I)I"⟩
abbrev cX0_change : ByteArray := prog_2_method_5_code
def yX0_change : MethodName := ⟨RX0, "change", "(II)V"⟩
abbrev cX0_become : ByteArray := prog_2_method_6_code
def yX0_become : MethodName := ⟨RX0, "become", "(LMeanSafe$Person;)V"⟩
abbrev cX0_believeAll : ByteArray := prog_2_method_7_code
def yX0_believeAll : MethodName := ⟨RX0, "believeAll", "()V"⟩
abbrev cX0_isOf : ByteArray := prog_2_method_8_code
def yX0_isOf : MethodName := ⟨RX0, "isOf", "(I)Z"⟩
abbrev cX0_worth : ByteArray := prog_2_method_9_code
def yX0_worth : MethodName := ⟨RX0, "worth", "()I"⟩
abbrev cX0_setting : ByteArray := prog_2_method_10_code
def yX0_setting : MethodName := ⟨RX0, "setting", "(LMeanSafe$Texts;I)I"⟩
abbrev cX0_hear : ByteArray := prog_2_method_11_code
def yX0_hear : MethodName := ⟨RX0, "hear", "(IZ)V"⟩
def RX1 : String := "MeanSafe$Reader"
def TX1 : u_T := fun k => match k with
  | 0 => ("MeanSafe$Reader", "tape", "LMeanSafe$Tape;", true)
  | 1 => ("MeanSafe$Reader", "read", "LMeanSafe$Text;", true)
  | 2 => ("MeanSafe$Reader", "start", "I", false)
  | 3 => ("MeanSafe$Reader", "end", "I", false)
  | 4 => ("MeanSafe$Reader", "sort", "I", false)
  | 5 => ("MeanSafe$Reader", "glued", "Z", false)
  | 6 => ("MeanSafe$Reader", "failed", "Z", false)
  | 7 => ("MeanSafe$Reader", "brackets", "I", false)
  | _ => ("MeanSafe$Reader", "nots", "I", false)
def tyX1 : Nat → FieldType := fun k => match k with
  | 0 => .object "MeanSafe$Tape"
  | 1 => .object "MeanSafe$Text"
  | 2 => .int
  | 3 => .int
  | 4 => .int
  | 5 => .boolean
  | 6 => .boolean
  | 7 => .int
  | _ => .int
abbrev wsX10 : List Cond := u_ws RX1 TX1 9
theorem nmX1 : ∀ a, a < 9 → ∀ b, b < 9 → a ≠ b → (TX1 a).2.1 ≠ (TX1 b).2.1 := by decide +kernel
theorem tyX1_ok : ∀ k, k < 9 → parseFieldDescriptor (TX1 k).2.2.1 = some (tyX1 k) := by decide +kernel
abbrev cX1_init : ByteArray := prog_3_method_1_code
def yX1_init : MethodName := ⟨RX1, "<init>", "(LMeanSafe$Tape;)V"⟩
abbrev cX1_readsWhole : ByteArray := prog_3_method_2_code
def yX1_readsWhole : MethodName := ⟨RX1, "readsWhole", "()Z"⟩
abbrev cX1_advance : ByteArray := prog_3_method_3_code
def yX1_advance : MethodName := ⟨RX1, "advance", "()V"⟩
abbrev cX1_sortOf : ByteArray := prog_3_method_4_code
def yX1_sortOf : MethodName := ⟨RX1, "sortOf", "(I)I"⟩
abbrev cX1_readKey : ByteArray := prog_3_method_5_code
def yX1_readKey : MethodName := ⟨RX1, "readKey", "()V"⟩
abbrev cX1_isWord : ByteArray := prog_3_method_6_code
def yX1_isWord : MethodName := ⟨RX1, "isWord", "(Ljava/lang/String;)Z"⟩
abbrev cX1_level : ByteArray := prog_3_method_7_code
def yX1_level : MethodName := ⟨RX1, "level", "(I)V"⟩
abbrev cX1_levelOf : ByteArray := prog_3_method_8_code
def yX1_levelOf : MethodName := ⟨RX1, "levelOf", "(I)I"⟩
abbrev cX1_sign : ByteArray := prog_3_method_9_code
def yX1_sign : MethodName := ⟨RX1, "sign", "()I"⟩
abbrev cX1_piece : ByteArray := prog_3_method_10_code
def yX1_piece : MethodName := ⟨RX1, "piece", "()V"⟩
abbrev cX1_readNumber : ByteArray := prog_3_method_11_code
def yX1_readNumber : MethodName := ⟨RX1, "readNumber", "()V"⟩
abbrev cX1_readName : ByteArray := prog_3_method_12_code
def yX1_readName : MethodName := ⟨RX1, "readName", "()V"⟩
abbrev cX1_lettersOf : ByteArray := prog_3_method_13_code
def yX1_lettersOf : MethodName := ⟨RX1, "lettersOf", "(I)Ljava/lang/String;"⟩
abbrev cX1_readNot : ByteArray := prog_3_method_14_code
def yX1_readNot : MethodName := ⟨RX1, "readNot", "()V"⟩
abbrev cX1_readBracket : ByteArray := prog_3_method_15_code
def yX1_readBracket : MethodName := ⟨RX1, "readBracket", "()V"⟩
def RX2 : String := "MeanSafe$Sheet"
def TX2 : u_T := fun k => match k with
  | 0 => ("MeanSafe$Sheet", "sort", "I", false)
  | 1 => ("MeanSafe$Sheet", "size", "I", false)
  | _ => ("MeanSafe$Sheet", "places", "[I", true)
def tyX2 : Nat → FieldType := fun k => match k with
  | 0 => .int
  | 1 => .int
  | _ => .array .int
abbrev wsX20 : List Cond := u_ws RX2 TX2 3
theorem nmX2 : ∀ a, a < 3 → ∀ b, b < 3 → a ≠ b → (TX2 a).2.1 ≠ (TX2 b).2.1 := by decide +kernel
theorem tyX2_ok : ∀ k, k < 3 → parseFieldDescriptor (TX2 k).2.2.1 = some (tyX2 k) := by decide +kernel
abbrev cX2_init : ByteArray := prog_4_method_1_code
def yX2_init : MethodName := ⟨RX2, "<init>", "()V"⟩
abbrev cX2_become : ByteArray := prog_4_method_2_code
def yX2_become : MethodName := ⟨RX2, "become", "(II)V"⟩
abbrev cX2_become_ : ByteArray := prog_4_method_3_code
def yX2_become_ : MethodName := ⟨RX2, "become", "(LMeanSafe$Sheet;)V"⟩
abbrev cX2_hasPlace : ByteArray := prog_4_method_4_code
def yX2_hasPlace : MethodName := ⟨RX2, "hasPlace", "(I)Z"⟩
abbrev cX2_hasRun : ByteArray := prog_4_method_5_code
def yX2_hasRun : MethodName := ⟨RX2, "hasRun", "(II)Z"⟩
def RX3 : String := "MeanSafe$Slot"
def TX3 : u_T := fun k => match k with
  | 0 => ("MeanSafe$Slot", "thing", "I", false)
  | 1 => ("MeanSafe$Slot", "one", "LMeanSafe$Person;", true)
  | 2 => ("MeanSafe$Slot", "sheet", "LMeanSafe$Sheet;", true)
  | _ => ("MeanSafe$Slot", "number", "I", false)
def tyX3 : Nat → FieldType := fun k => match k with
  | 0 => .int
  | 1 => .object "MeanSafe$Person"
  | 2 => .object "MeanSafe$Sheet"
  | _ => .int
abbrev wsX30 : List Cond := u_ws RX3 TX3 4
theorem nmX3 : ∀ a, a < 4 → ∀ b, b < 4 → a ≠ b → (TX3 a).2.1 ≠ (TX3 b).2.1 := by decide +kernel
theorem tyX3_ok : ∀ k, k < 4 → parseFieldDescriptor (TX3 k).2.2.1 = some (tyX3 k) := by decide +kernel
abbrev cX3_init : ByteArray := prog_5_method_1_code
def yX3_init : MethodName := ⟨RX3, "<init>", "()V"⟩
def RX4 : String := "MeanSafe$Tape"
def TX4 : u_T := fun k => match k with
  | 0 => ("MeanSafe$Tape", "bytes", "[I", true)
  | _ => ("MeanSafe$Tape", "length", "I", false)
def tyX4 : Nat → FieldType := fun k => match k with
  | 0 => .array .int
  | _ => .int
abbrev wsX40 : List Cond := u_ws RX4 TX4 2
theorem nmX4 : ∀ a, a < 2 → ∀ b, b < 2 → a ≠ b → (TX4 a).2.1 ≠ (TX4 b).2.1 := by decide +kernel
theorem tyX4_ok : ∀ k, k < 2 → parseFieldDescriptor (TX4 k).2.2.1 = some (tyX4 k) := by decide +kernel
abbrev cX4_init : ByteArray := prog_6_method_1_code
def yX4_init : MethodName := ⟨RX4, "<init>", "()V"⟩
abbrev cX4_take : ByteArray := prog_6_method_2_code
def yX4_take : MethodName := ⟨RX4, "take", "(I)V"⟩
abbrev cX4_at : ByteArray := prog_6_method_3_code
def yX4_at : MethodName := ⟨RX4, "at", "(I)I"⟩
def RX5 : String := "MeanSafe$Text"
def TX5 : u_T := fun k => match k with
  | 0 => ("MeanSafe$Text", "key", "I", false)
  | 1 => ("MeanSafe$Text", "leaves", "I", false)
  | 2 => ("MeanSafe$Text", "length", "I", false)
  | _ => ("MeanSafe$Text", "code", "[I", true)
def tyX5 : Nat → FieldType := fun k => match k with
  | 0 => .int
  | 1 => .int
  | 2 => .int
  | _ => .array .int
abbrev wsX50 : List Cond := u_ws RX5 TX5 4
theorem nmX5 : ∀ a, a < 4 → ∀ b, b < 4 → a ≠ b → (TX5 a).2.1 ≠ (TX5 b).2.1 := by decide +kernel
theorem tyX5_ok : ∀ k, k < 4 → parseFieldDescriptor (TX5 k).2.2.1 = some (tyX5 k) := by decide +kernel
abbrev cX5_init : ByteArray := prog_7_method_1_code
def yX5_init : MethodName := ⟨RX5, "<init>", "()V"⟩
abbrev cX5_add : ByteArray := prog_7_method_2_code
def yX5_add : MethodName := ⟨RX5, "add", "(I)V"⟩
abbrev cX5_write : ByteArray := prog_7_method_3_code
def yX5_write : MethodName := ⟨RX5, "write", "(LMeanSafe$Reader;)V"⟩
def RX6 : String := "MeanSafe$Texts"
def TX6 : u_T := fun k => match k with
  | 0 => ("MeanSafe$Texts", "all", "[LMeanSafe$Text;", true)
  | _ => ("MeanSafe$Texts", "stack", "[I", true)
def tyX6 : Nat → FieldType := fun k => match k with
  | 0 => .array (.object "MeanSafe$Text")
  | _ => .array .int
abbrev wsX60 : List Cond := u_ws RX6 TX6 2
theorem nmX6 : ∀ a, a < 2 → ∀ b, b < 2 → a ≠ b → (TX6 a).2.1 ≠ (TX6 b).2.1 := by decide +kernel
theorem tyX6_ok : ∀ k, k < 2 → parseFieldDescriptor (TX6 k).2.2.1 = some (tyX6 k) := by decide +kernel
abbrev cX6_init : ByteArray := prog_8_method_1_code
def yX6_init : MethodName := ⟨RX6, "<init>", "()V"⟩
abbrev cX6_give : ByteArray := prog_8_method_2_code
def yX6_give : MethodName := ⟨RX6, "give", "(IIII)I"⟩
abbrev cX6_leaf : ByteArray := prog_8_method_3_code
def yX6_leaf : MethodName := ⟨RX6, "leaf", "(IIII)I"⟩
abbrev cX6_join : ByteArray := prog_8_method_4_code
def yX6_join : MethodName := ⟨RX6, "join", "(III)I"⟩
def RX7 : String := "MeanSafe$Thought"
def TX7 : u_T := fun k => match k with
  | 0 => ("MeanSafe$Thought", "worlds", "[LMeanSafe$World;", true)
  | 1 => ("MeanSafe$Thought", "groups", "[[I", true)
  | 2 => ("MeanSafe$Thought", "sizes", "[I", true)
  | _ => ("MeanSafe$Thought", "needed", "[I", true)
def tyX7 : Nat → FieldType := fun k => match k with
  | 0 => .array (.object "MeanSafe$World")
  | 1 => .array (.array .int)
  | 2 => .array .int
  | _ => .array .int
abbrev wsX70 : List Cond := u_ws RX7 TX7 4
theorem nmX7 : ∀ a, a < 4 → ∀ b, b < 4 → a ≠ b → (TX7 a).2.1 ≠ (TX7 b).2.1 := by decide +kernel
theorem tyX7_ok : ∀ k, k < 4 → parseFieldDescriptor (TX7 k).2.2.1 = some (tyX7 k) := by decide +kernel
abbrev cX7_init : ByteArray := prog_9_method_1_code
def yX7_init : MethodName := ⟨RX7, "<init>", "(LMeanSafe$Texts;)V"⟩
abbrev cX7_begin : ByteArray := prog_9_method_2_code
def yX7_begin : MethodName := ⟨RX7, "begin", "(LMeanSafe$World;)LMeanSafe$World;"⟩
abbrev cX7_ponder : ByteArray := prog_9_method_3_code
def yX7_ponder : MethodName := ⟨RX7, "ponder", "(II)I"⟩
abbrev cX7_branch : ByteArray := prog_9_method_4_code
def yX7_branch : MethodName := ⟨RX7, "branch", "(I)V"⟩
abbrev cX7_gather : ByteArray := prog_9_method_5_code
def yX7_gather : MethodName := ⟨RX7, "gather", "(III)I"⟩
def RX8 : String := "MeanSafe$World"
def TX8 : u_T := fun k => match k with
  | 0 => ("MeanSafe$World", "texts", "LMeanSafe$Texts;", true)
  | 1 => ("MeanSafe$World", "people", "[LMeanSafe$Person;", true)
  | 2 => ("MeanSafe$World", "size", "I", false)
  | 3 => ("MeanSafe$World", "number", "I", false)
  | 4 => ("MeanSafe$World", "law", "I", false)
  | 5 => ("MeanSafe$World", "drift", "I", false)
  | 6 => ("MeanSafe$World", "bolts", "I", false)
  | 7 => ("MeanSafe$World", "open", "Z", false)
  | 8 => ("MeanSafe$World", "tried", "I", false)
  | 9 => ("MeanSafe$World", "z", "I", false)
  | 10 => ("MeanSafe$World", "textCount", "I", false)
  | _ => ("MeanSafe$World", "laws", "[I", true)
def tyX8 : Nat → FieldType := fun k => match k with
  | 0 => .object "MeanSafe$Texts"
  | 1 => .array (.object "MeanSafe$Person")
  | 2 => .int
  | 3 => .int
  | 4 => .int
  | 5 => .int
  | 6 => .int
  | 7 => .boolean
  | 8 => .int
  | 9 => .int
  | 10 => .int
  | _ => .array .int
abbrev wsX80 : List Cond := u_ws RX8 TX8 12
theorem nmX8 : ∀ a, a < 12 → ∀ b, b < 12 → a ≠ b → (TX8 a).2.1 ≠ (TX8 b).2.1 := by decide +kernel
theorem tyX8_ok : ∀ k, k < 12 → parseFieldDescriptor (TX8 k).2.2.1 = some (tyX8 k) := by decide +kernel
abbrev cX8_init : ByteArray := prog_10_method_1_code
def yX8_init : MethodName := ⟨RX8, "<init>", "(LMeanSafe$Texts;)V"⟩
abbrev cX8_become : ByteArray := prog_10_method_2_code
def yX8_become : MethodName := ⟨RX8, "become", "(LMeanSafe$World;)V"⟩
abbrev cX8_mayBe : ByteArray := prog_10_method_3_code
def yX8_mayBe : MethodName := ⟨RX8, "mayBe", "(II)Z"⟩
abbrev cX8_part : ByteArray := prog_10_method_4_code
def yX8_part : MethodName := ⟨RX8, "part", "(I)I"⟩
abbrev cX8_change : ByteArray := prog_10_method_5_code
def yX8_change : MethodName := ⟨RX8, "change", "(II)V"⟩
abbrev cX8_lawOf : ByteArray := prog_10_method_6_code
def yX8_lawOf : MethodName := ⟨RX8, "lawOf", "(I)I"⟩
abbrev cX8_addText : ByteArray := prog_10_method_7_code
def yX8_addText : MethodName := ⟨RX8, "addText", "()I"⟩
abbrev cX8_welcome : ByteArray := prog_10_method_8_code
def yX8_welcome : MethodName := ⟨RX8, "welcome", "(IIII)I"⟩
abbrev cX8_drawOne : ByteArray := prog_10_method_9_code
def yX8_drawOne : MethodName := ⟨RX8, "drawOne", "()V"⟩
abbrev cX8_draw : ByteArray := prog_10_method_10_code
def yX8_draw : MethodName := ⟨RX8, "draw", "()I"⟩
abbrev cX8_whoHear : ByteArray := prog_10_method_11_code
def yX8_whoHear : MethodName := ⟨RX8, "whoHear", "()I"⟩
abbrev cX8_onlyHears : ByteArray := prog_10_method_12_code
def yX8_onlyHears : MethodName := ⟨RX8, "onlyHears", "(I)V"⟩
abbrev cX8_voice : ByteArray := prog_10_method_13_code
def yX8_voice : MethodName := ⟨RX8, "voice", "()I"⟩
abbrev cX8_mean : ByteArray := prog_10_method_14_code
def yX8_mean : MethodName := ⟨RX8, "mean", "()I"⟩
abbrev cX8_middle : ByteArray := prog_10_method_15_code
def yX8_middle : MethodName := ⟨RX8, "middle", "()I"⟩
abbrev cX8_weightUpTo : ByteArray := prog_10_method_16_code
def yX8_weightUpTo : MethodName := ⟨RX8, "weightUpTo", "(I)I"⟩
abbrev cX8_greatest : ByteArray := prog_10_method_17_code
def yX8_greatest : MethodName := ⟨RX8, "greatest", "()I"⟩
abbrev cX8_attempt : ByteArray := prog_10_method_18_code
def yX8_attempt : MethodName := ⟨RX8, "attempt", "()Z"⟩
abbrev cX8_turn : ByteArray := prog_10_method_19_code
def yX8_turn : MethodName := ⟨RX8, "turn", "()I"⟩
abbrev cX8_spread : ByteArray := prog_10_method_20_code
def yX8_spread : MethodName := ⟨RX8, "spread", "(IZ)V"⟩
abbrev cX8_drifted : ByteArray := prog_10_method_21_code
def yX8_drifted : MethodName := ⟨RX8, "drifted", "(II)I"⟩
abbrev cX8_wouldAnswer : ByteArray := prog_10_method_22_code
def yX8_wouldAnswer : MethodName := ⟨RX8, "wouldAnswer", "(ILMeanSafe$Sheet;)Z"⟩
def RX9 : String := "MeanSafe"
def TX9 : u_T := fun k => match k with
  | 0 => ("MeanSafe", "texts", "LMeanSafe$Texts;", true)
  | 1 => ("MeanSafe", "now", "LMeanSafe$World;", true)
  | 2 => ("MeanSafe", "image", "LMeanSafe$World;", true)
  | 3 => ("MeanSafe", "thought", "LMeanSafe$Thought;", true)
  | 4 => ("MeanSafe", "tape", "LMeanSafe$Tape;", true)
  | 5 => ("MeanSafe", "reader", "LMeanSafe$Reader;", true)
  | 6 => ("MeanSafe", "sheets", "[LMeanSafe$Sheet;", true)
  | 7 => ("MeanSafe", "slots", "[LMeanSafe$Slot;", true)
  | 8 => ("MeanSafe", "waits", "[I", true)
  | 9 => ("MeanSafe", "waiting", "I", false)
  | _ => ("MeanSafe", "kept", "Z", false)
def tyX9 : Nat → FieldType := fun k => match k with
  | 0 => .object "MeanSafe$Texts"
  | 1 => .object "MeanSafe$World"
  | 2 => .object "MeanSafe$World"
  | 3 => .object "MeanSafe$Thought"
  | 4 => .object "MeanSafe$Tape"
  | 5 => .object "MeanSafe$Reader"
  | 6 => .array (.object "MeanSafe$Sheet")
  | 7 => .array (.object "MeanSafe$Slot")
  | 8 => .array .int
  | 9 => .int
  | _ => .boolean
abbrev wsX90 : List Cond := u_ws RX9 TX9 11
theorem nmX9 : ∀ a, a < 11 → ∀ b, b < 11 → a ≠ b → (TX9 a).2.1 ≠ (TX9 b).2.1 := by decide +kernel
theorem tyX9_ok : ∀ k, k < 11 → parseFieldDescriptor (TX9 k).2.2.1 = some (tyX9 k) := by decide +kernel
abbrev cX9_init : ByteArray := prog_1_method_1_code
def yX9_init : MethodName := ⟨RX9, "<init>", "()V"⟩
abbrev cX9_person : ByteArray := prog_1_method_2_code
def yX9_person : MethodName := ⟨RX9, "person", "(III)I"⟩
abbrev cX9_told : ByteArray := prog_1_method_3_code
def yX9_told : MethodName := ⟨RX9, "told", "(II)I"⟩
abbrev cX9_as : ByteArray := prog_1_method_4_code
def yX9_as : MethodName := ⟨RX9, "as", "(II)I"⟩
abbrev cX9_turns : ByteArray := prog_1_method_5_code
def yX9_turns : MethodName := ⟨RX9, "turns", "(II)I"⟩
abbrev cX9_set : ByteArray := prog_1_method_6_code
def yX9_set : MethodName := ⟨RX9, "set", "(III)I"⟩
abbrev cX9_forget : ByteArray := prog_1_method_7_code
def yX9_forget : MethodName := ⟨RX9, "forget", "()I"⟩
abbrev cX9_deal : ByteArray := prog_1_method_8_code
def yX9_deal : MethodName := ⟨RX9, "deal", "(I)I"⟩
abbrev cX9_seed : ByteArray := prog_1_method_9_code
def yX9_seed : MethodName := ⟨RX9, "seed", "(I)I"⟩
abbrev cX9_safe : ByteArray := prog_1_method_10_code
def yX9_safe : MethodName := ⟨RX9, "safe", "(II)I"⟩
abbrev cX9_says : ByteArray := prog_1_method_11_code
def yX9_says : MethodName := ⟨RX9, "says", "()I"⟩
abbrev cX9_tries : ByteArray := prog_1_method_12_code
def yX9_tries : MethodName := ⟨RX9, "tries", "(I)I"⟩
abbrev cX9_needs : ByteArray := prog_1_method_13_code
def yX9_needs : MethodName := ⟨RX9, "needs", "(I)I"⟩
abbrev cX9_worst : ByteArray := prog_1_method_14_code
def yX9_worst : MethodName := ⟨RX9, "worst", "(I)I"⟩
abbrev cX9_had : ByteArray := prog_1_method_15_code
def yX9_had : MethodName := ⟨RX9, "had", "(I)I"⟩
abbrev cX9_start : ByteArray := prog_1_method_16_code
def yX9_start : MethodName := ⟨RX9, "start", "(II)I"⟩
abbrev cX9_tells : ByteArray := prog_1_method_17_code
def yX9_tells : MethodName := ⟨RX9, "tells", "(I)I"⟩
abbrev cX9_keeps : ByteArray := prog_1_method_18_code
def yX9_keeps : MethodName := ⟨RX9, "keeps", "(I)I"⟩
abbrev cX9_behind : ByteArray := prog_1_method_19_code
def yX9_behind : MethodName := ⟨RX9, "behind", "(III)I"⟩
abbrev cX9_left : ByteArray := prog_1_method_20_code
def yX9_left : MethodName := ⟨RX9, "left", "(II)I"⟩
abbrev cX9_fee : ByteArray := prog_1_method_21_code
def yX9_fee : MethodName := ⟨RX9, "fee", "()I"⟩
abbrev cX9_fine : ByteArray := prog_1_method_22_code
def yX9_fine : MethodName := ⟨RX9, "fine", "(I)I"⟩
abbrev cX9_feed : ByteArray := prog_1_method_23_code
def yX9_feed : MethodName := ⟨RX9, "feed", "(III)I"⟩
abbrev cX9_trim : ByteArray := prog_1_method_24_code
def yX9_trim : MethodName := ⟨RX9, "trim", "(I)I"⟩
abbrev cX9_text : ByteArray := prog_1_method_25_code
def yX9_text : MethodName := ⟨RX9, "text", "()I"⟩
abbrev cX9_textTold : ByteArray := prog_1_method_26_code
def yX9_textTold : MethodName := ⟨RX9, "textTold", "(II)I"⟩
abbrev cX9_why : ByteArray := prog_1_method_27_code
def yX9_why : MethodName := ⟨RX9, "why", "(I)I"⟩
abbrev cX9_sheet : ByteArray := prog_1_method_28_code
def yX9_sheet : MethodName := ⟨RX9, "sheet", "(III)I"⟩
abbrev cX9_mark : ByteArray := prog_1_method_29_code
def yX9_mark : MethodName := ⟨RX9, "mark", "(III)I"⟩
abbrev cX9_pour : ByteArray := prog_1_method_30_code
def yX9_pour : MethodName := ⟨RX9, "pour", "(I)I"⟩
abbrev cX9_reads : ByteArray := prog_1_method_31_code
def yX9_reads : MethodName := ⟨RX9, "reads", "(I)I"⟩
abbrev cX9_copy : ByteArray := prog_1_method_32_code
def yX9_copy : MethodName := ⟨RX9, "copy", "(IIIII)I"⟩
abbrev cX9_lay : ByteArray := prog_1_method_33_code
def yX9_lay : MethodName := ⟨RX9, "lay", "(III)I"⟩
abbrev cX9_ask : ByteArray := prog_1_method_34_code
def yX9_ask : MethodName := ⟨RX9, "ask", "(II)I"⟩
abbrev cX9_item : ByteArray := prog_1_method_35_code
def yX9_item : MethodName := ⟨RX9, "item", "(II)I"⟩
abbrev cX9_rest : ByteArray := prog_1_method_36_code
def yX9_rest : MethodName := ⟨RX9, "rest", "(II)I"⟩
abbrev cX9_tell : ByteArray := prog_1_method_37_code
def yX9_tell : MethodName := ⟨RX9, "tell", "(I)I"⟩
abbrev cX9_check : ByteArray := prog_1_method_38_code
def yX9_check : MethodName := ⟨RX9, "check", "(I)I"⟩
abbrev cX9_keep : ByteArray := prog_1_method_39_code
def yX9_keep : MethodName := ⟨RX9, "keep", "()I"⟩
abbrev cX9_back : ByteArray := prog_1_method_40_code
def yX9_back : MethodName := ⟨RX9, "back", "()I"⟩
abbrev cX9_count : ByteArray := prog_1_method_41_code
def yX9_count : MethodName := ⟨RX9, "count", "(I)I"⟩
abbrev cX9_isOne : ByteArray := prog_1_method_42_code
def yX9_isOne : MethodName := ⟨RX9, "isOne", "(I)Z"⟩
abbrev cX9_isKind : ByteArray := prog_1_method_43_code
def yX9_isKind : MethodName := ⟨RX9, "isKind", "(I)Z"⟩
abbrev cX9_isSheet : ByteArray := prog_1_method_44_code
def yX9_isSheet : MethodName := ⟨RX9, "isSheet", "(I)Z"⟩
abbrev cX9_isSlot : ByteArray := prog_1_method_45_code
def yX9_isSlot : MethodName := ⟨RX9, "isSlot", "(I)Z"⟩
abbrev cX9_held : ByteArray := prog_1_method_46_code
def yX9_held : MethodName := ⟨RX9, "held", "(I)I"⟩
def RX10 : String := "MeanSafeModel"
def TX10 : u_T := fun k => match k with
  | 0 => ("MeanSafeModel", "now", "[I", true)
  | 1 => ("MeanSafeModel", "image", "[I", true)
  | 2 => ("MeanSafeModel", "aside", "[I", true)
  | 3 => ("MeanSafeModel", "hasImage", "Z", false)
  | 4 => ("MeanSafeModel", "before", "[I", true)
  | 5 => ("MeanSafeModel", "begins", "[I", true)
  | 6 => ("MeanSafeModel", "tape", "[I", true)
  | 7 => ("MeanSafeModel", "taped", "I", false)
  | 8 => ("MeanSafeModel", "next", "I", false)
  | 9 => ("MeanSafeModel", "from", "I", false)
  | 10 => ("MeanSafeModel", "token", "I", false)
  | 11 => ("MeanSafeModel", "value", "I", false)
  | 12 => ("MeanSafeModel", "ended", "I", false)
  | 13 => ("MeanSafeModel", "key", "I", false)
  | 14 => ("MeanSafeModel", "keys", "[C", true)
  | 15 => ("MeanSafeModel", "keyAt", "[I", true)
  | 16 => ("MeanSafeModel", "code", "[I", true)
  | 17 => ("MeanSafeModel", "codes", "I", false)
  | 18 => ("MeanSafeModel", "atoms", "I", false)
  | 19 => ("MeanSafeModel", "waits", "[I", true)
  | 20 => ("MeanSafeModel", "held", "I", false)
  | 21 => ("MeanSafeModel", "tested", "[Z", true)
  | 22 => ("MeanSafeModel", "stack", "[I", true)
  | 23 => ("MeanSafeModel", "facts", "[I", true)
  | 24 => ("MeanSafeModel", "sorts", "[I", true)
  | 25 => ("MeanSafeModel", "sizes", "[I", true)
  | 26 => ("MeanSafeModel", "cells", "[I", true)
  | 27 => ("MeanSafeModel", "holds", "[I", true)
  | 28 => ("MeanSafeModel", "holdsA", "[I", true)
  | 29 => ("MeanSafeModel", "holdsB", "[I", true)
  | 30 => ("MeanSafeModel", "heldCells", "[I", true)
  | 31 => ("MeanSafeModel", "moved", "[I", true)
  | 32 => ("MeanSafeModel", "told0", "[I", true)
  | _ => ("MeanSafeModel", "waiting", "I", false)
def tyX10 : Nat → FieldType := fun k => match k with
  | 0 => .array .int
  | 1 => .array .int
  | 2 => .array .int
  | 3 => .boolean
  | 4 => .array .int
  | 5 => .array .int
  | 6 => .array .int
  | 7 => .int
  | 8 => .int
  | 9 => .int
  | 10 => .int
  | 11 => .int
  | 12 => .int
  | 13 => .int
  | 14 => .array .char
  | 15 => .array .int
  | 16 => .array .int
  | 17 => .int
  | 18 => .int
  | 19 => .array .int
  | 20 => .int
  | 21 => .array .boolean
  | 22 => .array .int
  | 23 => .array .int
  | 24 => .array .int
  | 25 => .array .int
  | 26 => .array .int
  | 27 => .array .int
  | 28 => .array .int
  | 29 => .array .int
  | 30 => .array .int
  | 31 => .array .int
  | 32 => .array .int
  | _ => .int
abbrev wsX100 : List Cond := u_ws RX10 TX10 34
theorem nmX10 : ∀ a, a < 34 → ∀ b, b < 34 → a ≠ b → (TX10 a).2.1 ≠ (TX10 b).2.1 := by decide +kernel
theorem tyX10_ok : ∀ k, k < 34 → parseFieldDescriptor (TX10 k).2.2.1 = some (tyX10 k) := by decide +kernel
abbrev cX10_init : ByteArray := prog_12_method_1_code
def yX10_init : MethodName := ⟨RX10, "<init>", "()V"⟩
abbrev cX10_in : ByteArray := prog_12_method_2_code
def yX10_in : MethodName := ⟨RX10, "in", "(III)Z"⟩
abbrev cX10_within : ByteArray := prog_12_method_3_code
def yX10_within : MethodName := ⟨RX10, "within", "(III)I"⟩
abbrev cX10_copyAll : ByteArray := prog_12_method_4_code
def yX10_copyAll : MethodName := ⟨RX10, "copyAll", "([I[I)V"⟩
abbrev cX10_isOne : ByteArray := prog_12_method_5_code
def yX10_isOne : MethodName := ⟨RX10, "isOne", "(I)Z"⟩
abbrev cX10_of : ByteArray := prog_12_method_6_code
def yX10_of : MethodName := ⟨RX10, "of", "(II)I"⟩
abbrev cX10_put : ByteArray := prog_12_method_7_code
def yX10_put : MethodName := ⟨RX10, "put", "(III)V"⟩
abbrev cX10_becomes : ByteArray := prog_12_method_8_code
def yX10_becomes : MethodName := ⟨RX10, "becomes", "(II)I"⟩
abbrev cX10_comes : ByteArray := prog_12_method_9_code
def yX10_comes : MethodName := ⟨RX10, "comes", "(IIII)I"⟩
abbrev cX10_person : ByteArray := prog_12_method_10_code
def yX10_person : MethodName := ⟨RX10, "person", "(III)I"⟩
abbrev cX10_setsTo : ByteArray := prog_12_method_11_code
def yX10_setsTo : MethodName := ⟨RX10, "setsTo", "(I)I"⟩
abbrev cX10_worthOf : ByteArray := prog_12_method_12_code
def yX10_worthOf : MethodName := ⟨RX10, "worthOf", "(I)I"⟩
abbrev cX10_told : ByteArray := prog_12_method_13_code
def yX10_told : MethodName := ⟨RX10, "told", "(II)I"⟩
abbrev cX10_isUnder : ByteArray := prog_12_method_14_code
def yX10_isUnder : MethodName := ⟨RX10, "isUnder", "(II)Z"⟩
abbrev cX10_as : ByteArray := prog_12_method_15_code
def yX10_as : MethodName := ⟨RX10, "as", "(II)I"⟩
abbrev cX10_turns : ByteArray := prog_12_method_16_code
def yX10_turns : MethodName := ⟨RX10, "turns", "(II)I"⟩
abbrev cX10_leastOf : ByteArray := prog_12_method_17_code
def yX10_leastOf : MethodName := ⟨RX10, "leastOf", "(I)I"⟩
abbrev cX10_mostOf : ByteArray := prog_12_method_18_code
def yX10_mostOf : MethodName := ⟨RX10, "mostOf", "(I)I"⟩
abbrev cX10_set : ByteArray := prog_12_method_19_code
def yX10_set : MethodName := ⟨RX10, "set", "(III)I"⟩
abbrev cX10_believesAll : ByteArray := prog_12_method_20_code
def yX10_believesAll : MethodName := ⟨RX10, "believesAll", "(I)V"⟩
abbrev cX10_forget : ByteArray := prog_12_method_21_code
def yX10_forget : MethodName := ⟨RX10, "forget", "()I"⟩
abbrev cX10_draw : ByteArray := prog_12_method_22_code
def yX10_draw : MethodName := ⟨RX10, "draw", "()I"⟩
abbrev cX10_deal : ByteArray := prog_12_method_23_code
def yX10_deal : MethodName := ⟨RX10, "deal", "(I)I"⟩
abbrev cX10_seed : ByteArray := prog_12_method_24_code
def yX10_seed : MethodName := ⟨RX10, "seed", "(I)I"⟩
abbrev cX10_safe : ByteArray := prog_12_method_25_code
def yX10_safe : MethodName := ⟨RX10, "safe", "(II)I"⟩
abbrev cX10_weights : ByteArray := prog_12_method_26_code
def yX10_weights : MethodName := ⟨RX10, "weights", "()I"⟩
abbrev cX10_mean : ByteArray := prog_12_method_27_code
def yX10_mean : MethodName := ⟨RX10, "mean", "()I"⟩
abbrev cX10_upTo : ByteArray := prog_12_method_28_code
def yX10_upTo : MethodName := ⟨RX10, "upTo", "(I)I"⟩
abbrev cX10_middle : ByteArray := prog_12_method_29_code
def yX10_middle : MethodName := ⟨RX10, "middle", "()I"⟩
abbrev cX10_greatest : ByteArray := prog_12_method_30_code
def yX10_greatest : MethodName := ⟨RX10, "greatest", "()I"⟩
abbrev cX10_saysNow : ByteArray := prog_12_method_31_code
def yX10_saysNow : MethodName := ⟨RX10, "saysNow", "()I"⟩
abbrev cX10_says : ByteArray := prog_12_method_32_code
def yX10_says : MethodName := ⟨RX10, "says", "()I"⟩
abbrev cX10_hears : ByteArray := prog_12_method_33_code
def yX10_hears : MethodName := ⟨RX10, "hears", "(II)V"⟩
abbrev cX10_turn : ByteArray := prog_12_method_34_code
def yX10_turn : MethodName := ⟨RX10, "turn", "()I"⟩
abbrev cX10_isStill : ByteArray := prog_12_method_35_code
def yX10_isStill : MethodName := ⟨RX10, "isStill", "()Z"⟩
abbrev cX10_aTry : ByteArray := prog_12_method_36_code
def yX10_aTry : MethodName := ⟨RX10, "aTry", "()I"⟩
abbrev cX10_goesOn : ByteArray := prog_12_method_37_code
def yX10_goesOn : MethodName := ⟨RX10, "goesOn", "(I)I"⟩
abbrev cX10_tries : ByteArray := prog_12_method_38_code
def yX10_tries : MethodName := ⟨RX10, "tries", "(I)I"⟩
abbrev cX10_takes : ByteArray := prog_12_method_39_code
def yX10_takes : MethodName := ⟨RX10, "takes", "([I[I)V"⟩
abbrev cX10_thinks : ByteArray := prog_12_method_40_code
def yX10_thinks : MethodName := ⟨RX10, "thinks", "()V"⟩
abbrev cX10_putsBack : ByteArray := prog_12_method_41_code
def yX10_putsBack : MethodName := ⟨RX10, "putsBack", "()V"⟩
abbrev cX10_needsOf : ByteArray := prog_12_method_42_code
def yX10_needsOf : MethodName := ⟨RX10, "needsOf", "(I)I"⟩
abbrev cX10_needsBy : ByteArray := prog_12_method_43_code
def yX10_needsBy : MethodName := ⟨RX10, "needsBy", "(I)I"⟩
abbrev cX10_needsAll : ByteArray := prog_12_method_44_code
def yX10_needsAll : MethodName := ⟨RX10, "needsAll", "()I"⟩
abbrev cX10_needs : ByteArray := prog_12_method_45_code
def yX10_needs : MethodName := ⟨RX10, "needs", "(I)I"⟩
abbrev cX10_worst : ByteArray := prog_12_method_46_code
def yX10_worst : MethodName := ⟨RX10, "worst", "(I)I"⟩
abbrev cX10_had : ByteArray := prog_12_method_47_code
def yX10_had : MethodName := ⟨RX10, "had", "(I)I"⟩
abbrev cX10_start : ByteArray := prog_12_method_48_code
def yX10_start : MethodName := ⟨RX10, "start", "(II)I"⟩
abbrev cX10_tells : ByteArray := prog_12_method_49_code
def yX10_tells : MethodName := ⟨RX10, "tells", "(I)I"⟩
abbrev cX10_keeps : ByteArray := prog_12_method_50_code
def yX10_keeps : MethodName := ⟨RX10, "keeps", "(I)I"⟩
abbrev cX10_behind : ByteArray := prog_12_method_51_code
def yX10_behind : MethodName := ⟨RX10, "behind", "(III)I"⟩
abbrev cX10_answer : ByteArray := prog_12_method_52_code
def yX10_answer : MethodName := ⟨RX10, "answer", "()I"⟩
abbrev cX10_answersBy : ByteArray := prog_12_method_53_code
def yX10_answersBy : MethodName := ⟨RX10, "answersBy", "(II)Z"⟩
abbrev cX10_left : ByteArray := prog_12_method_54_code
def yX10_left : MethodName := ⟨RX10, "left", "(II)I"⟩
abbrev cX10_fee : ByteArray := prog_12_method_55_code
def yX10_fee : MethodName := ⟨RX10, "fee", "()I"⟩
abbrev cX10_fine : ByteArray := prog_12_method_56_code
def yX10_fine : MethodName := ⟨RX10, "fine", "(I)I"⟩
abbrev cX10_feed : ByteArray := prog_12_method_57_code
def yX10_feed : MethodName := ⟨RX10, "feed", "(III)I"⟩
abbrev cX10_trim : ByteArray := prog_12_method_58_code
def yX10_trim : MethodName := ⟨RX10, "trim", "(I)I"⟩
abbrev cX10_isLetter : ByteArray := prog_12_method_59_code
def yX10_isLetter : MethodName := ⟨RX10, "isLetter", "(I)Z"⟩
abbrev cX10_isFigure : ByteArray := prog_12_method_60_code
def yX10_isFigure : MethodName := ⟨RX10, "isFigure", "(I)Z"⟩
abbrev cX10_go : ByteArray := prog_12_method_61_code
def yX10_go : MethodName := ⟨RX10, "go", "()V"⟩
abbrev cX10_takesKey : ByteArray := prog_12_method_62_code
def yX10_takesKey : MethodName := ⟨RX10, "takesKey", "()Z"⟩
abbrev cX10_nameOf : ByteArray := prog_12_method_63_code
def yX10_nameOf : MethodName := ⟨RX10, "nameOf", "(I)I"⟩
abbrev cX10_rank : ByteArray := prog_12_method_64_code
def yX10_rank : MethodName := ⟨RX10, "rank", "(I)I"⟩
abbrev cX10_settle : ByteArray := prog_12_method_65_code
def yX10_settle : MethodName := ⟨RX10, "settle", "(I)V"⟩
abbrev cX10_signHere : ByteArray := prog_12_method_66_code
def yX10_signHere : MethodName := ⟨RX10, "signHere", "()I"⟩
abbrev cX10_takesPart : ByteArray := prog_12_method_67_code
def yX10_takesPart : MethodName := ⟨RX10, "takesPart", "()Z"⟩
abbrev cX10_takesE : ByteArray := prog_12_method_68_code
def yX10_takesE : MethodName := ⟨RX10, "takesE", "()Z"⟩
abbrev cX10_notsOpen : ByteArray := prog_12_method_69_code
def yX10_notsOpen : MethodName := ⟨RX10, "notsOpen", "()I"⟩
abbrev cX10_text : ByteArray := prog_12_method_70_code
def yX10_text : MethodName := ⟨RX10, "text", "()I"⟩
abbrev cX10_textTold : ByteArray := prog_12_method_71_code
def yX10_textTold : MethodName := ⟨RX10, "textTold", "(II)I"⟩
abbrev cX10_counts : ByteArray := prog_12_method_72_code
def yX10_counts : MethodName := ⟨RX10, "counts", "(I)I"⟩
abbrev cX10_why : ByteArray := prog_12_method_73_code
def yX10_why : MethodName := ⟨RX10, "why", "(I)I"⟩
abbrev cX10_two : ByteArray := prog_12_method_74_code
def yX10_two : MethodName := ⟨RX10, "two", "(III)I"⟩
abbrev cX10_worksOut : ByteArray := prog_12_method_75_code
def yX10_worksOut : MethodName := ⟨RX10, "worksOut", "(I)I"⟩
abbrev cX10_isSheet : ByteArray := prog_12_method_76_code
def yX10_isSheet : MethodName := ⟨RX10, "isSheet", "(I)Z"⟩
abbrev cX10_isSlot : ByteArray := prog_12_method_77_code
def yX10_isSlot : MethodName := ⟨RX10, "isSlot", "(I)Z"⟩
abbrev cX10_sheet : ByteArray := prog_12_method_78_code
def yX10_sheet : MethodName := ⟨RX10, "sheet", "(III)I"⟩
abbrev cX10_mark : ByteArray := prog_12_method_79_code
def yX10_mark : MethodName := ⟨RX10, "mark", "(III)I"⟩
abbrev cX10_pour : ByteArray := prog_12_method_80_code
def yX10_pour : MethodName := ⟨RX10, "pour", "(I)I"⟩
abbrev cX10_reads : ByteArray := prog_12_method_81_code
def yX10_reads : MethodName := ⟨RX10, "reads", "(I)I"⟩
abbrev cX10_copy : ByteArray := prog_12_method_82_code
def yX10_copy : MethodName := ⟨RX10, "copy", "(IIIII)I"⟩
abbrev cX10_lay : ByteArray := prog_12_method_83_code
def yX10_lay : MethodName := ⟨RX10, "lay", "(III)I"⟩
abbrev cX10_ask : ByteArray := prog_12_method_84_code
def yX10_ask : MethodName := ⟨RX10, "ask", "(II)I"⟩
abbrev cX10_item : ByteArray := prog_12_method_85_code
def yX10_item : MethodName := ⟨RX10, "item", "(II)I"⟩
abbrev cX10_rest : ByteArray := prog_12_method_86_code
def yX10_rest : MethodName := ⟨RX10, "rest", "(II)I"⟩
abbrev cX10_tell : ByteArray := prog_12_method_87_code
def yX10_tell : MethodName := ⟨RX10, "tell", "(I)I"⟩
abbrev cX10_check : ByteArray := prog_12_method_88_code
def yX10_check : MethodName := ⟨RX10, "check", "(I)I"⟩
abbrev cX10_keep : ByteArray := prog_12_method_89_code
def yX10_keep : MethodName := ⟨RX10, "keep", "()I"⟩
abbrev cX10_back : ByteArray := prog_12_method_90_code
def yX10_back : MethodName := ⟨RX10, "back", "()I"⟩
abbrev cX10_hearing : ByteArray := prog_12_method_91_code
def yX10_hearing : MethodName := ⟨RX10, "hearing", "()I"⟩
abbrev cX10_count : ByteArray := prog_12_method_92_code
def yX10_count : MethodName := ⟨RX10, "count", "(I)I"⟩
def RJ11 : String := "java/lang/Character"
def TJ11 : u_T := fun k => match k with
  | _ => ("", "", "", false)
def tyJ11 : Nat → FieldType := fun k => match k with
  | _ => .int
abbrev wsJ110 : List Cond := u_ws RJ11 TJ11 0
theorem nmJ11 : ∀ a, a < 0 → ∀ b, b < 0 → a ≠ b → (TJ11 a).2.1 ≠ (TJ11 b).2.1 := by decide +kernel
theorem tyJ11_ok : ∀ k, k < 0 → parseFieldDescriptor (TJ11 k).2.2.1 = some (tyJ11 k) := by decide +kernel
abbrev cJ11_isValidCodePoint_9a6ad : ByteArray := prog_13_method_11_code
def yJ11_isValidCodePoint_9a6ad : MethodName := ⟨RJ11, "isValidCodePoint", "(I)Z"⟩
abbrev cJ11_highSurrogate_5068e : ByteArray := prog_13_method_28_code
def yJ11_highSurrogate_5068e : MethodName := ⟨RJ11, "highSurrogate", "(I)C"⟩
abbrev cJ11_lowSurrogate_5068e : ByteArray := prog_13_method_29_code
def yJ11_lowSurrogate_5068e : MethodName := ⟨RJ11, "lowSurrogate", "(I)C"⟩
def RJ6 : String := "java/lang/Integer"
def TJ6 : u_T := fun k => match k with
  | _ => ("", "", "", false)
def tyJ6 : Nat → FieldType := fun k => match k with
  | _ => .int
abbrev wsJ60 : List Cond := u_ws RJ6 TJ6 0
theorem nmJ6 : ∀ a, a < 0 → ∀ b, b < 0 → a ≠ b → (TJ6 a).2.1 ≠ (TJ6 b).2.1 := by decide +kernel
theorem tyJ6_ok : ∀ k, k < 0 → parseFieldDescriptor (TJ6 k).2.2.1 = some (tyJ6 k) := by decide +kernel
abbrev cJ6_compare_7cf53 : ByteArray := prog_14_method_40_code
def yJ6_compare_7cf53 : MethodName := ⟨RJ6, "compare", "(II)I"⟩
def RJ9 : String := "java/lang/Math"
def TJ9 : u_T := fun k => match k with
  | _ => ("", "", "", false)
def tyJ9 : Nat → FieldType := fun k => match k with
  | _ => .int
abbrev wsJ90 : List Cond := u_ws RJ9 TJ9 0
theorem nmJ9 : ∀ a, a < 0 → ∀ b, b < 0 → a ≠ b → (TJ9 a).2.1 ≠ (TJ9 b).2.1 := by decide +kernel
theorem tyJ9_ok : ∀ k, k < 0 → parseFieldDescriptor (TJ9 k).2.2.1 = some (tyJ9 k) := by decide +kernel
abbrev cJ9_floorMod_7cf53 : ByteArray := prog_15_method_50_code
def yJ9_floorMod_7cf53 : MethodName := ⟨RJ9, "floorMod", "(II)I"⟩
abbrev cJ9_max_7cf53 : ByteArray := prog_15_method_65_code
def yJ9_max_7cf53 : MethodName := ⟨RJ9, "max", "(II)I"⟩
abbrev cJ9_min_7cf53 : ByteArray := prog_15_method_69_code
def yJ9_min_7cf53 : MethodName := ⟨RJ9, "min", "(II)I"⟩
def RJ0 : String := "java/lang/String"
def TJ0 : u_T := fun k => match k with
  | _ => ("", "", "", false)
def tyJ0 : Nat → FieldType := fun k => match k with
  | _ => .int
abbrev wsJ00 : List Cond := u_ws RJ0 TJ0 0
theorem nmJ0 : ∀ a, a < 0 → ∀ b, b < 0 → a ≠ b → (TJ0 a).2.1 ≠ (TJ0 b).2.1 := by decide +kernel
theorem tyJ0_ok : ∀ k, k < 0 → parseFieldDescriptor (TJ0 k).2.2.1 = some (tyJ0 k) := by decide +kernel
abbrev cJ0_length_8abf5 : ByteArray := prog_16_method_54_code
def yJ0_length_8abf5 : MethodName := ⟨RJ0, "length", "()I"⟩
abbrev cJ0_charAt_5068e : ByteArray := prog_16_method_56_code
def yJ0_charAt_5068e : MethodName := ⟨RJ0, "charAt", "(I)C"⟩
abbrev cJ0_indexOf_0f7a4 : ByteArray := prog_16_method_79_code
def yJ0_indexOf_0f7a4 : MethodName := ⟨RJ0, "indexOf", "(I)I"⟩
abbrev cJ0_indexOf_7cf53 : ByteArray := prog_16_method_80_code
def yJ0_indexOf_7cf53 : MethodName := ⟨RJ0, "indexOf", "(II)I"⟩
abbrev cJ0_coder_7d493 : ByteArray := prog_16_method_152_code
def yJ0_coder_7d493 : MethodName := ⟨RJ0, "coder", "()B"⟩
abbrev cJ0_isLatin1_aae02 : ByteArray := prog_16_method_154_code
def yJ0_isLatin1_aae02 : MethodName := ⟨RJ0, "isLatin1", "()Z"⟩
abbrev cJ0_checkIndex_df160 : ByteArray := prog_16_method_155_code
def yJ0_checkIndex_df160 : MethodName := ⟨RJ0, "checkIndex", "(II)V"⟩
abbrev cJ0_checkBoundsBeginEnd_23922 : ByteArray := prog_16_method_158_code
def yJ0_checkBoundsBeginEnd_23922 : MethodName := ⟨RJ0, "checkBoundsBeginEnd", "(III)V"⟩
def RJ1 : String := "java/lang/StringLatin1"
def TJ1 : u_T := fun k => match k with
  | _ => ("", "", "", false)
def tyJ1 : Nat → FieldType := fun k => match k with
  | _ => .int
abbrev wsJ10 : List Cond := u_ws RJ1 TJ1 0
theorem nmJ1 : ∀ a, a < 0 → ∀ b, b < 0 → a ≠ b → (TJ1 a).2.1 ≠ (TJ1 b).2.1 := by decide +kernel
theorem tyJ1_ok : ∀ k, k < 0 → parseFieldDescriptor (TJ1 k).2.2.1 = some (tyJ1 k) := by decide +kernel
abbrev cJ1_charAt_3b067 : ByteArray := prog_17_method_2_code
def yJ1_charAt_3b067 : MethodName := ⟨RJ1, "charAt", "([BI)C"⟩
abbrev cJ1_canEncode_9a6ad : ByteArray := prog_17_method_4_code
def yJ1_canEncode_9a6ad : MethodName := ⟨RJ1, "canEncode", "(I)Z"⟩
abbrev cJ1_indexOf_4cfef : ByteArray := prog_17_method_22_code
def yJ1_indexOf_4cfef : MethodName := ⟨RJ1, "indexOf", "([BIII)I"⟩
abbrev cJ1_indexOfChar_4cfef : ByteArray := prog_17_method_23_code
def yJ1_indexOfChar_4cfef : MethodName := ⟨RJ1, "indexOfChar", "([BIII)I"⟩
def RJ2 : String := "java/lang/StringUTF16"
def TJ2 : u_T := fun k => match k with
  | _ => ("", "", "", false)
def tyJ2 : Nat → FieldType := fun k => match k with
  | _ => .int
abbrev wsJ20 : List Cond := u_ws RJ2 TJ2 0
theorem nmJ2 : ∀ a, a < 0 → ∀ b, b < 0 → a ≠ b → (TJ2 a).2.1 ≠ (TJ2 b).2.1 := by decide +kernel
theorem tyJ2_ok : ∀ k, k < 0 → parseFieldDescriptor (TJ2 k).2.2.1 = some (tyJ2 k) := by decide +kernel
abbrev cJ2_getChar_3b067 : ByteArray := prog_18_method_5_code
def yJ2_getChar_3b067 : MethodName := ⟨RJ2, "getChar", "([BI)C"⟩
abbrev cJ2_length_9d52b : ByteArray := prog_18_method_6_code
def yJ2_length_9d52b : MethodName := ⟨RJ2, "length", "([B)I"⟩
abbrev cJ2_indexOf_4cfef : ByteArray := prog_18_method_40_code
def yJ2_indexOf_4cfef : MethodName := ⟨RJ2, "indexOf", "([BIII)I"⟩
abbrev cJ2_indexOfChar_4cfef : ByteArray := prog_18_method_47_code
def yJ2_indexOfChar_4cfef : MethodName := ⟨RJ2, "indexOfChar", "([BIII)I"⟩
abbrev cJ2_indexOfCharUnsafe_4cfef : ByteArray := prog_18_method_48_code
def yJ2_indexOfCharUnsafe_4cfef : MethodName := ⟨RJ2, "indexOfCharUnsafe", "([BIII)I"⟩
abbrev cJ2_indexOfSupplementary_4cfef : ByteArray := prog_18_method_49_code
def yJ2_indexOfSupplementary_4cfef : MethodName := ⟨RJ2, "indexOfSupplementary", "([BIII)I"⟩
abbrev cJ2_charAt_3b067 : ByteArray := prog_18_method_83_code
def yJ2_charAt_3b067 : MethodName := ⟨RJ2, "charAt", "([BI)C"⟩
abbrev cJ2_checkIndex_2214a : ByteArray := prog_18_method_91_code
def yJ2_checkIndex_2214a : MethodName := ⟨RJ2, "checkIndex", "(I[B)V"⟩
abbrev cJ2_checkBoundsBeginEnd_d044e : ByteArray := prog_18_method_93_code
def yJ2_checkBoundsBeginEnd_d044e : MethodName := ⟨RJ2, "checkBoundsBeginEnd", "(II[B)V"⟩
def RJ10 : String := "java/lang/System"
def TJ10 : u_T := fun k => match k with
  | _ => ("", "", "", false)
def tyJ10 : Nat → FieldType := fun k => match k with
  | _ => .int
abbrev wsJ100 : List Cond := u_ws RJ10 TJ10 0
theorem nmJ10 : ∀ a, a < 0 → ∀ b, b < 0 → a ≠ b → (TJ10 a).2.1 ≠ (TJ10 b).2.1 := by decide +kernel
theorem tyJ10_ok : ∀ k, k < 0 → parseFieldDescriptor (TJ10 k).2.2.1 = some (tyJ10 k) := by decide +kernel
def RJ3 : String := "jdk/internal/util/Preconditions"
def TJ3 : u_T := fun k => match k with
  | _ => ("", "", "", false)
def tyJ3 : Nat → FieldType := fun k => match k with
  | _ => .int
abbrev wsJ30 : List Cond := u_ws RJ3 TJ3 0
theorem nmJ3 : ∀ a, a < 0 → ∀ b, b < 0 → a ≠ b → (TJ3 a).2.1 ≠ (TJ3 b).2.1 := by decide +kernel
theorem tyJ3_ok : ∀ k, k < 0 → parseFieldDescriptor (TJ3 k).2.2.1 = some (tyJ3 k) := by decide +kernel
abbrev cJ3_checkIndex_8e157 : ByteArray := prog_20_method_11_code
def yJ3_checkIndex_8e157 : MethodName := ⟨RJ3, "checkIndex", "(IILjava/util/function/BiFunction;)I"⟩
abbrev cJ3_checkFromToIndex_8c36e : ByteArray := prog_20_method_12_code
def yJ3_checkFromToIndex_8c36e : MethodName := ⟨RJ3, "checkFromToIndex", "(IIILjava/util/function/BiFunction;)I"⟩
def RL : String := "MeanSafeLaw"
abbrev cL_law : ByteArray := code
def yL_law : MethodName := ⟨RL, "law", "([I)Z"⟩
abbrev vwCl : List vw_C := [(RX0, TX0, 7), (RX1, TX1, 9), (RX2, TX2, 3), (RX3, TX3, 4), (RX4, TX4, 2), (RX5, TX5, 4), (RX6, TX6, 2), (RX7, TX7, 4), (RX8, TX8, 12), (RX9, TX9, 11), (RX10, TX10, 34)]
end
section
/-! THE PICTURE: cells by numbers from the base b on; their ints in one table M (kind, i, j, place) -/
def zT : List Cond := lw_tbl.filter goodWord
theorem zT_good : GoodIn zT zT := fun w h => ⟨h, good_of_word (List.mem_filter.mp h).2⟩
theorem zT_in {w : Cond} (h : w ∈ lw_tbl) (g : goodWord w = true) : w ∈ zT := List.mem_filter.mpr ⟨h, g⟩
theorem zT_code {y : MethodName} {cc : ByteArray} {n : Nat} {ret : Option FieldType} (h : Cond.code y cc n ret ∈ zT) : GoodIn zT (Cond.code y cc n ret :: zT) := fun w hw => (List.mem_cons.mp hw).elim (fun e => e ▸ zT_good _ h) (fun h => zT_good _ h)
abbrev zM : Type := Nat → Nat → Nat → Nat → Int32
def zu (M : zM) (a i j f : Nat) (v : Int32) : zM := fun a' i' j' f' => if a' = a ∧ i' = i ∧ j' = j ∧ f' = f then v else M a' i' j' f'
theorem zu_self (M : zM) (a i j f : Nat) (v : Int32) : zu M a i j f v a i j f = v := if_pos ⟨rfl, rfl, rfl, rfl⟩
theorem zu_ne (M : zM) {a i j f a' i' j' f' : Nat} (v : Int32) (h : ¬ (a' = a ∧ i' = i ∧ j' = j ∧ f' = f)) : zu M a i j f v a' i' j' f' = M a' i' j' f' := if_neg h
abbrev zB : Type := (Nat × List (Option (Option Nat))) ⊕ (Nat × Nat) ⊕ (Nat × List (Option Nat))
abbrev zS : Type := (Nat × Nat × Nat) × zB
def zrv (b : Nat) (o : Option Nat) : Value := match o with
  | none => .null
  | some r => .ref (b + r)
def zfv (b : Nat) (f : Nat → Int32) (k : Nat) (o : Option (Option Nat)) : Value := match o with
  | none => .int (f k)
  | some x => zrv b x
def zat (M : zM) (q : Nat × Nat × Nat) : Nat → Int32 := M q.1 q.2.1 q.2.2
def zE (b : Nat) (tc : Nat → ClassId) (M : zM) (x : zS) : va_E := match x.2 with
  | .inl o => .inr (o.1, o.2.mapIdx (zfv b (zat M x.1)))
  | .inr (.inl a) => .inl (tc a.1, a.2, .inl (zat M x.1))
  | .inr (.inr a) => .inl (tc a.1, a.2.length, .inr (.inr (.inr (.inr (fun k => ((a.2.getD k none).map (fun r => b + r)))))))
def zws (sh : List zS) (b : Nat) (tc : Nat → ClassId) (M : zM) : va_W := sh.mapIdx (fun k x => (b + k, zE b tc M x))
def zND (sh : List zS) : Prop := ∀ (i j : Nat) (x y : zS), sh[i]? = some x → sh[j]? = some y → x.1 = y.1 → i = j
theorem zws_get {sh : List zS} {b : Nat} {tc : Nat → ClassId} {M : zM} {k : Nat} {x : zS} (h : sh[k]? = some x) : (zws sh b tc M)[k]? = some (b + k, zE b tc M x) := by
  simp [zws, List.getElem?_mapIdx, h]
theorem zE_congr {b : Nat} {tc : Nat → ClassId} {M M' : zM} {x : zS} (h : zat M x.1 = zat M' x.1) : zE b tc M x = zE b tc M' x := by
  unfold zE
  rw [h]
theorem zws_set {sh : List zS} {b : Nat} {tc : Nat → ClassId} {M M' : zM} {k : Nat} {x : zS} (hN : zND sh) (h : sh[k]? = some x) (ho : ∀ q, q ≠ x.1 → zat M q = zat M' q) : (zws sh b tc M).set k (b + k, zE b tc M' x) = zws sh b tc M' := by
  apply List.ext_getElem?
  intro j
  by_cases e : j = k
  · subst e
    rw [zws_get h, List.getElem?_set_self]
    have hl := (List.getElem?_eq_some_iff.mp h).1
    simpa [zws] using hl
  · rw [List.getElem?_set_ne (Ne.symm e)]
    simp only [zws, List.getElem?_mapIdx]
    cases hj : sh[j]? with
    | none => rfl
    | some y =>
      simp only [Option.map_some]
      rw [zE_congr (ho y.1 (fun q => e (hN j k y x hj h q)))]
theorem zws_len (sh : List zS) (b : Nat) (tc : Nat → ClassId) (M : zM) : (zws sh b tc M).length = sh.length := by simp [zws]
theorem zws_D (sh : List zS) (b : Nat) (tc : Nat → ClassId) (M : zM) : va_D (fun q => b ≤ q) (zws sh b tc M) := by
  have key : ∀ (k : Nat) (q : Nat × va_E), (zws sh b tc M)[k]? = some q → q.1 = b + k := by
    intro k q h
    simp only [zws, List.getElem?_mapIdx] at h
    cases hs : sh[k]? with
    | none => rw [hs] at h; cases h
    | some x => rw [hs] at h; cases h; rfl
  refine ⟨fun i j p q hi hj e => ?_, fun k q hk => ?_⟩
  · have h1 := key i p hi
    have h2 := key j q hj
    omega
  · have h1 := key k q hk
    show b ≤ q.1
    omega
theorem zat_zu_self (M : zM) (a i j f : Nat) (v : Int32) (k : Nat) : zat (zu M a i j f v) (a, i, j) k = if k = f then v else zat M (a, i, j) k := by
  by_cases h : k = f
  · subst h
    simp [zat, zu]
  · simp [zat, zu, h]
theorem zat_zu_ne (M : zM) (a i j f : Nat) (v : Int32) (q : Nat × Nat × Nat) (h : q ≠ (a, i, j)) : zat M q = zat (zu M a i j f v) q := by
  funext k
  obtain ⟨a', i', j'⟩ := q
  simp only [zat, zu]
  rw [if_neg]
  rintro ⟨rfl, rfl, rfl, -⟩
  exact h rfl
/-- fields: an int is stored -/
theorem zfs_set {b : Nat} {M : zM} {a i j f : Nat} {v : Int32} {fl : List (Option (Option Nat))} (h : fl[f]? = some none) : (fl.mapIdx (zfv b (zat M (a, i, j)))).set f (.int v) = fl.mapIdx (zfv b (zat (zu M a i j f v) (a, i, j))) := by
  apply List.ext_getElem?
  intro k
  have hl := (List.getElem?_eq_some_iff.mp h).1
  by_cases e : k = f
  · subst e
    rw [List.getElem?_set_self (by simpa using hl)]
    simp only [List.getElem?_mapIdx, h, Option.map_some, zfv]
    rw [zat_zu_self, if_pos rfl]
  · rw [List.getElem?_set_ne (Ne.symm e)]
    simp only [List.getElem?_mapIdx]
    cases hk : fl[k]? with
    | none => rfl
    | some o =>
      simp only [Option.map_some]
      cases o with
      | none =>
        simp only [zfv]
        rw [zat_zu_self, if_neg e]
      | some x => rfl
/-- fields: a reference is stored -/
theorem zfs_setR {b : Nat} {f : Nat → Int32} {k r : Nat} {fl : List (Option (Option Nat))} (h : k < fl.length) : (fl.mapIdx (zfv b f)).set k (.ref (b + r)) = (fl.set k (some (some r))).mapIdx (zfv b f) := by
  apply List.ext_getElem?
  intro j
  by_cases e : j = k
  · subst e
    rw [List.getElem?_set_self (by simpa using h)]
    simp [List.getElem?_mapIdx, h, zfv, zrv]
  · rw [List.getElem?_set_ne (Ne.symm e)]
    simp [List.getElem?_mapIdx, List.getElem?_set_ne (Ne.symm e)]
/-- locals -/
def zpl : Nat → List (Option Value) → List (Nat × Value)
  | _, [] => []
  | n, none :: r => zpl (n + 1) r
  | n, some v :: r => (n, v) :: zpl (n + 1) r
theorem zpl_mem (q : Nat × Value) : ∀ (L : List (Option Value)) (n : Nat), q ∈ zpl n L ↔ n ≤ q.1 ∧ L[q.1 - n]? = some (some q.2)
  | [], n => by simp [zpl]
  | none :: r, n => by
    rw [zpl, zpl_mem q r (n + 1)]
    constructor
    · rintro ⟨h1, h2⟩
      refine ⟨by omega, ?_⟩
      rw [show q.1 - n = (q.1 - (n + 1)) + 1 by omega, List.getElem?_cons_succ]
      exact h2
    · rintro ⟨h1, h2⟩
      by_cases e : q.1 = n
      · rw [e, Nat.sub_self] at h2
        cases h2
      · refine ⟨by omega, ?_⟩
        rw [show q.1 - n = (q.1 - (n + 1)) + 1 by omega, List.getElem?_cons_succ] at h2
        exact h2
  | some v :: r, n => by
    rw [zpl, List.mem_cons, zpl_mem q r (n + 1)]
    constructor
    · rintro (h | ⟨h1, h2⟩)
      · subst h
        exact ⟨Nat.le_refl _, by simp⟩
      · refine ⟨by omega, ?_⟩
        rw [show q.1 - n = (q.1 - (n + 1)) + 1 by omega, List.getElem?_cons_succ]
        exact h2
    · rintro ⟨h1, h2⟩
      by_cases e : q.1 = n
      · rw [e, Nat.sub_self] at h2
        left
        obtain ⟨q1, q2⟩ := q
        simp only [List.getElem?_cons_zero, Option.some.injEq] at h2 e
        rw [e, h2]
      · right
        refine ⟨by omega, ?_⟩
        rw [show q.1 - n = (q.1 - (n + 1)) + 1 by omega, List.getElem?_cons_succ] at h2
        exact h2
def zLs (ls : Array Slot) (nL : Nat) (L : List (Option Value)) : Prop := lv_has ls nL (zpl 0 L) ∧ ∀ (i : Nat) (v : Value), L[i]? = some (some v) → v.category = 1
theorem zLs.get {ls : Array Slot} {nL : Nat} {L : List (Option Value)} (h : zLs ls nL L) {i : Nat} {v : Value} (hi : L[i]? = some (some v)) : ls[i]? = some (.val v) :=
  h.1.2.2 (i, v) ((zpl_mem (i, v) L 0).mpr ⟨Nat.zero_le _, hi⟩)
theorem zLs.store {ls' : Array Slot} {nL : Nat} {L : List (Option Value)} {i : Nat} {v : Value} (hL : ∀ (i : Nat) (v : Value), L[i]? = some (some v) → v.category = 1) (hv : v.category = 1) (h : lv_has ls' nL ((i, v) :: (zpl 0 L).filter (fun q => !(q.1 == i) && !(q.1 + 1 == i && q.2.category == 2)))) : zLs ls' nL (L.set i (some v)) := by
  have key : ∀ (k : Nat) (w : Value), (L.set i (some v))[k]? = some (some w) → (k = i ∧ w = v) ∨ (k ≠ i ∧ L[k]? = some (some w)) := by
    intro k w hk
    by_cases e : k = i
    · subst e
      left
      by_cases hl : k < L.length
      · rw [List.getElem?_set_self hl] at hk
        cases hk
        exact ⟨rfl, rfl⟩
      · rw [List.getElem?_eq_none (by simpa using hl)] at hk
        cases hk
    · rw [List.getElem?_set_ne (Ne.symm e)] at hk
      exact Or.inr ⟨e, hk⟩
  refine ⟨⟨h.1, h.2.1, fun q hq => ?_⟩, fun k w hk => ?_⟩
  · obtain ⟨-, hq⟩ := (zpl_mem q _ 0).mp hq
    rcases key q.1 q.2 hq with ⟨e1, e2⟩ | ⟨e1, e2⟩
    · have := h.2.2 (i, v) List.mem_cons_self
      rw [e1, e2]
      exact this
    · refine h.2.2 q (List.mem_cons_of_mem _ (List.mem_filter.mpr ⟨(zpl_mem q L 0).mpr ⟨Nat.zero_le _, e2⟩, ?_⟩))
      have hc := hL _ _ e2
      simp [e1, hc]
  · rcases key k w hk with ⟨-, e2⟩ | ⟨-, e2⟩
    · rw [e2]; exact hv
    · exact hL _ _ e2
theorem zpl_args : ∀ (vs : List Value) (n : Nat), (∀ v ∈ vs, v.category = 1) → lv_args n vs = zpl n (vs.map some)
  | [], _, _ => rfl
  | v :: vs, n, h => by
    have hv : ¬ v.category = 2 := by rw [h v List.mem_cons_self]; decide
    rw [lv_args, List.map_cons, zpl, if_neg hv, zpl_args vs (n + 1) (fun w hw => h w (List.mem_cons_of_mem _ hw))]
theorem zpl_pad : ∀ (L : List (Option Value)) (n k : Nat), zpl n (L ++ List.replicate k none) = zpl n L
  | [], n, 0 => rfl
  | [], n, k + 1 => by
    rw [List.nil_append, List.replicate_succ, zpl]
    exact zpl_pad [] (n + 1) k
  | none :: r, n, k => by rw [List.cons_append, zpl, zpl, zpl_pad r (n + 1) k]
  | some v :: r, n, k => by rw [List.cons_append, zpl, zpl, zpl_pad r (n + 1) k]
theorem zsl_len : ∀ (vs : List Value), (∀ v ∈ vs, v.category = 1) → (lg_sl vs).length = vs.length
  | [], _ => rfl
  | v :: vs, h => by
    have hv : ¬ v.category = 2 := by rw [h v List.mem_cons_self]; decide
    have ih := zsl_len vs (fun w hw => h w (List.mem_cons_of_mem _ hw))
    unfold lg_sl at ih ⊢
    rw [List.flatMap_cons, if_neg hv, List.length_append, ih]
    simp [Nat.add_comm]
/-- a method's locals at its entry -/
theorem zLs.entry (vs : List Value) {n : Nat} (h : vs.length ≤ n) (hv : ∀ v ∈ vs, v.category = 1) : zLs ((lg_sl vs ++ List.replicate (n - (lg_sl vs).length) Slot.unset).toArray) n (vs.map some ++ List.replicate (n - vs.length) none) := by
  refine ⟨?_, fun i v hi => ?_⟩
  · rw [zpl_pad, ← zpl_args vs 0 hv]
    exact lv_entry vs (by rw [zsl_len vs hv]; exact h)
  · have := List.mem_of_getElem? hi
    rcases List.mem_append.mp this with h1 | h1
    · obtain ⟨w, hw, e⟩ := List.mem_map.mp h1
      cases e
      exact hv _ hw
    · have := List.eq_of_mem_replicate h1
      cases this
end
section
/-! CONTEXT AND JUDGEMENT -/
abbrev zG : Type := va_G × (Nat → ClassId) × (Nat → Nat)
def zty (tc : Nat → ClassId) : List (ClassId × FieldType) := [(tc 0, .int), (tc 1, .boolean), (tc 2, .char), (tc 3, .object RX5), (tc 4, .object RX0), (tc 5, .object RX8), (tc 6, .array .int), (tc 7, .object RX2), (tc 8, .object RX3)]
def zabv (k : Nat) : Int32 := match k with
  | 0 => -1
  | 1 => 0
  | 2 => 0
  | 3 => 1
  | 4 => 2
  | _ => 0
def zlen : List Nat := [3, 3, 4, 3, 2, 2]
def zbyt : List (List Int32) := [[115, 101, 116], [102, 101, 101], [102, 105, 110, 101], [108, 104, 100], [116, 98], [119, 100]]
def zsix (i : Nat) : Nat := match i with
  | 0 => 71
  | 1 => 80
  | 2 => 82
  | 3 => 124
  | 4 => 126
  | _ => 128
def zstx (i : Nat) : String := match i with
  | 0 => "set"
  | 1 => "fee"
  | 2 => "fine"
  | 3 => "lhd"
  | 4 => "tb"
  | _ => "wd"
/-- what stays as it was at the law's start, seen from a state -/
def zAmb (G : zG) (b : Nat) (U : State) : Prop :=
  va_K G.1 vwCl (zty G.2.1) U ∧ va_Nw (.methodLinkNest RX0 44 yX9_held "MeanSafe") U ∧ va_Nw (.fieldLinkNest RX0 34 "MeanSafe" "ABOVE" "[I" "MeanSafe") U ∧
  va_Z "MeanSafe" "ABOVE" "[I" (.ref (G.2.2 0)) (fun q => b ≤ q) U U.heap ∧ (va_X (G.2.2 0) 6 zabv U U.heap ∧ G.2.2 0 < b) ∧
  vk_S 6 zlen zbyt (fun i => G.2.2 (1 + i)) (fun i => G.2.2 (10 + i)) (fun q => b ≤ q) U U.heap ∧ (∀ i, i < 6 → vk_R RX1 (zsix i) (zstx i) (G.2.2 (1 + i)) U) ∧
  va_Z "java/lang/String" "COMPACT_STRINGS" "Z" (.int 1) (fun q => b ≤ q) U U.heap
theorem zAmb.same {G : zG} {b : Nat} {u U : State} (hv : u.vm = U.vm) (hh : u.heap = U.heap) (h : zAmb G b u) : zAmb G b U := by
  obtain ⟨h1, h2, h3, h4, h5, h6, h7, h8⟩ := h
  have hA : u.vm.Alike U.vm := by rw [hv]; exact Vm.Alike.refl _
  rw [hh] at h4 h5 h6 h8
  exact ⟨h1.moved hA, va_Nw.same rfl hv h2, va_Nw.same rfl hv h3, h4.moved hA, ⟨h5.1.moved hA, h5.2⟩, h6.moved hA, fun i hi => vk_R.same hv.symm (h7 i hi), h8.moved hA⟩
theorem zAmb.go {G : zG} {b : Nat} {u U : State} (hW : u.WarmedH U.vm) (hh : ∀ q : Nat, q < u.heap.size → ¬ b ≤ q → U.heap[q]? = u.heap[q]?) (h : zAmb G b u) : zAmb G b U := by
  obtain ⟨h1, h2, h3, h4, h5, h6, h7, h8⟩ := h
  have hA : u.vm.Alike U.vm := hW.alike
  have hq : U.heap[G.2.2 0]? = u.heap[G.2.2 0]? := by
    obtain ⟨scr, e, -⟩ := h5.1
    exact hh _ (Array.getElem?_eq_some_iff.mp e).1 (by have := h5.2; omega)
  exact ⟨h1.moved hA, va_Nw.warmM hW h2, va_Nw.warmF hW h3, (h4.kept hh).moved hA, ⟨(h5.1.kept hq).moved hA, h5.2⟩, (h6.kept hh).moved hA, fun i hi => vk_R.warm hW (h7 i hi), (h8.kept hh).moved hA⟩
def zsz (x : zS) : Nat := match x.2 with
  | .inl o => o.2.length
  | .inr (.inl a) => a.2
  | .inr (.inr a) => a.2.length
def zsl (sh : List zS) : Nat := (sh.map zsz).sum
abbrev zX : Type := Program × Launch × Env × Room × State × MethodId × Array Value × List Frame × Method × Code × (State → Prop) × Nat × Nat × zG × Nat
/-- the machine, in this frame, with this picture, comes to where it should -/
def zW (X : zX) (sh : List zS) (M : zM) (pc : Nat) (L : List (Option Value)) (st : List Value) : Prop := match X with
  | (p, l, e, R, s, m, args, below, meth, c, Q, n0, s0, G, b) => ∀ (H : Heap) (locs : List Loc) (ls : Array Slot), va_P G.1 vwCl (zws sh b G.2.1 M) H → (sh.length < 262 → H.size = b + sh.length) → va_S (fun q => b ≤ q) s.heap H locs → zND sh → (n0 ≤ sh.length ∧ sh.length - n0 ≤ R.cells) → (s0 ≤ zsl sh ∧ zsl sh - s0 ≤ R.slots) → zLs ls c.maxLocals L → W p l e R s m args below meth c H locs (sh.length - n0) (zsl sh - s0) Q (F0 m pc ls st)
/-- what is known while a body runs -/
def zOK (X : zX) (l : Launch) (G : zG) (b : Nat) (cc : ByteArray) (nL : Nat) (own : String) (d : Nat) : Prop := match X with
  | (p, l', _, R, s, m, args, _, _, c, _, _, _, G', b') => l' = l ∧ G' = G ∧ b' = b ∧ p.tables.exec = Jvm.exec ∧ c.code = cc ∧ c.maxLocals = nL ∧ s.vm.findClass own = some m.cls ∧ (∀ w ∈ zT, w.before args s = true) ∧ zAmb G b s ∧ b ≤ s.heap.size ∧ d ≤ R.frames ∧ 40 * d ≤ R.locals
/-- room for what is made -/
def zAl (X : zX) (n0 s0 mc ms : Nat) : Prop := match X with
  | (_, _, _, R, _, _, _, _, _, _, _, n0', s0', _, _) => n0' = n0 ∧ s0' = s0 ∧ mc ≤ R.cells ∧ ms ≤ R.slots
def zQ (G : zG) (b : Nat) (sh' : List zS) (post : Option Value → zM → Prop) : Array Value → State → Outcome → State → Prop := fun _ st o t => ∃ (r : Option Value) (M' : zM), o = .returned r ∧ post r M' ∧ va_P G.1 vwCl (zws sh' b G.2.1 M') t.heap ∧ (sh'.length < 262 → t.heap.size = b + sh'.length) ∧ zND sh' ∧ va_F (fun q => b ≤ q) st t
def zP (G : zG) (b : Nat) (sh : List zS) (M : zM) (av : List Value) : Array Value → State → Prop := va_Pc av (fun U => zAmb G b U ∧ va_P G.1 vwCl (zws sh b G.2.1 M) U.heap ∧ (sh.length < 262 → U.heap.size = b + sh.length) ∧ b ≤ U.heap.size ∧ zND sh)
/-- how it returns -/
def zRt (X : zX) (ret : Option FieldType) (sh' : List zS) (post : Option Value → zM → Prop) : Prop := match X with
  | (_, _, _, _, s, _, args, below, meth, _, Q, n0, s0, G, b) => meth.sig.returnType = ret ∧ meth.locks = false ∧ Q = MQ below (zQ G b sh' post) args s (sh'.length - n0) (zsl sh' - s0) (fun q => b ≤ q)
/-- a method's contract -/
def zMet (l : Launch) (G : zG) (b : Nat) (y : MethodName) (cc : ByteArray) (nL : Nat) (ret : Option FieldType) (h : Nat) (sh sh' : List zS) (av : List Value) (M : zM) (post : Option Value → zM → Prop) : Prop :=
  sh.length ≤ sh'.length ∧ zsl sh ≤ zsl sh' ∧ Met l y (Cond.code y cc nL ret :: zT) { frames := h, cells := sh'.length - sh.length, slots := zsl sh' - zsl sh, locals := 40 * h } (zP G b sh M av) (zQ G b sh' post) (sh'.length - sh.length) (zsl sh' - zsl sh) (fun q => b ≤ q)
theorem zP.blind {G : zG} {b : Nat} {sh : List zS} {M : zM} {av : List Value} : FrameBlind (zP G b sh M av) := by
  intro a U g mk h
  obtain ⟨h1, h2, h3, h4, h5, h6⟩ := h
  exact ⟨h1, h2.same (u := U) (U := U.calling g mk a) rfl rfl, h3, h4, h5, h6⟩
theorem zMet.of {l : Launch} {G : zG} {b : Nat} {y : MethodName} {cc : ByteArray} {nL : Nat} {ret : Option FieldType} {h : Nat} {sh sh' : List zS} {av : List Value} {M : zM} {post : Option Value → zM → Prop} {L0 : List (Option Value)}
    (hy : plainName y.cls = true) (hle : sh.length ≤ sh'.length) (hsl : zsl sh ≤ zsl sh') (hav : av.length ≤ nL) (hcat : ∀ v ∈ av, v.category = 1) (hL0 : av.map some ++ List.replicate (nL - av.length) none = L0)
    (body : ∀ X : zX, zOK X l G b cc nL y.cls h → zAl X sh.length (zsl sh) (sh'.length - sh.length) (zsl sh' - zsl sh) → zRt X ret sh' post → zW X sh M 0 L0 []) : zMet l G b y cc nL ret h sh sh' av M post := by
  refine ⟨hle, hsl, Met.ofW (cc := cc) (maxL := nL) (ret := ret) hy rfl ?_⟩
  intro p e s m args below meth c s₁ B hml hv
  obtain ⟨rfl, hAm, hP, hz, hbz, hN⟩ := hv
  have hts := atoms_spec (ws := Cond.code y cc nL ret :: zT) B.pre
  have K := body (p, l, e, (headSpec (Cond.code y cc nL ret :: zT) { frames := h, cells := sh'.length - sh.length, slots := zsl sh' - zsl sh, locals := 40 * h }).room, s, m, av.toArray, below, meth, c, MQ below (zQ G b sh' post) av.toArray s (sh'.length - sh.length) (zsl sh' - zsl sh) (fun q => b ≤ q), sh.length, zsl sh, G, b)
    ⟨rfl, rfl, rfl, B.exec, B.bytes, hml, findClass_of_methodNamed B.named, fun w hw => hts w (List.mem_cons_of_mem _ hw), hAm, hbz, Nat.le_refl _, Nat.le_refl _⟩ ⟨rfl, rfl, Nat.le_refl _, Nat.le_refl _⟩ ⟨B.returns, B.notSynchronized, rfl⟩
  have hE := zLs.entry av hav hcat
  rw [hL0] at hE
  have KW := K s.heap [] _ hP hz va_S.rf hN ⟨Nat.le_refl _, by rw [Nat.sub_self]; exact Nat.zero_le _⟩ ⟨Nat.le_refl _, by rw [Nat.sub_self]; exact Nat.zero_le _⟩ (by rw [hml]; exact hE)
  rw [Nat.sub_self, Nat.sub_self] at KW
  rw [lg_entry_eq]
  exact KW
theorem zMet.post {l : Launch} {G : zG} {b : Nat} {y : MethodName} {cc : ByteArray} {nL : Nat} {ret : Option FieldType} {h : Nat} {sh sh' : List zS} {av : List Value} {M : zM} {post post' : Option Value → zM → Prop} (hM : zMet l G b y cc nL ret h sh sh' av M post) (hp : ∀ r M', post r M' → post' r M') : zMet l G b y cc nL ret h sh sh' av M post' := by
  refine ⟨hM.1, hM.2.1, ?_⟩
  have h3 := hM.2.2
  intro p e ha hc hk s m args below hf happ hP hK
  obtain ⟨k, o, h1, h2, h3', hq, hfr⟩ := h3 p e ha hc hk s m args below hf happ hP hK
  obtain ⟨r, M', e1, e2, e3⟩ := hq
  exact ⟨k, o, h1, h2, h3', ⟨r, M', e1, hp r M' e2, e3⟩, hfr⟩
def zI (p : Int32 → zM → Prop) : Option Value → zM → Prop := fun r M' => ∃ v : Int32, r = some (.int v) ∧ p v M'
def zV (p : zM → Prop) : Option Value → zM → Prop := fun r M' => r = none ∧ p M'
def zR (b : Nat) (p : Nat → zM → Prop) : Option Value → zM → Prop := fun r M' => ∃ k : Nat, r = some (.ref (b + k)) ∧ p k M'
section ZROWS
variable {X : zX} {l : Launch} {G : zG} {b : Nat} {cc : ByteArray} {nL : Nat} {own : String} {d : Nat} {sh : List zS} {M : zM} {pc : Nat} {L : List (Option Value)} {st : List Value}
theorem z_iconst (C : zOK X l G b cc nL own d) {n : Int} {v : Int32} (hdg : decode cc pc = .ok (.iconst n, 1)) (hv : Int32.ofInt n = v) (kk : zW X sh M (pc + 1) L (.int v :: st)) : zW X sh M pc L st := by
  obtain ⟨p, l', e, R, s, m, args, below, meth, c, Q, n0, s0, G', b'⟩ := X
  obtain ⟨rfl, rfl, rfl, hx, hb, -⟩ := C
  intro H locs ls hP hz hS hN hn hs hL
  exact lv_iconst hx hb hdg hv (kk H locs ls hP hz hS hN hn hs hL)
theorem z_bipush (C : zOK X l G b cc nL own d) {n : Int} {v : Int32} (hdg : decode cc pc = .ok (.bipush n, 2)) (hv : (Int8.ofInt n).toInt32 = v) (kk : zW X sh M (pc + 2) L (.int v :: st)) : zW X sh M pc L st := by
  obtain ⟨p, l', e, R, s, m, args, below, meth, c, Q, n0, s0, G', b'⟩ := X
  obtain ⟨rfl, rfl, rfl, hx, hb, -⟩ := C
  intro H locs ls hP hz hS hN hn hs hL
  exact lv_bipush hx hb hdg hv (kk H locs ls hP hz hS hN hn hs hL)
theorem z_sipush (C : zOK X l G b cc nL own d) {n : Int} {v : Int32} (hdg : decode cc pc = .ok (.sipush n, 3)) (hv : (Int16.ofInt n).toInt32 = v) (kk : zW X sh M (pc + 3) L (.int v :: st)) : zW X sh M pc L st := by
  obtain ⟨p, l', e, R, s, m, args, below, meth, c, Q, n0, s0, G', b'⟩ := X
  obtain ⟨rfl, rfl, rfl, hx, hb, -⟩ := C
  intro H locs ls hP hz hS hN hn hs hL
  exact lv_sipush hx hb hdg hv (kk H locs ls hP hz hS hN hn hs hL)
theorem z_ldc (C : zOK X l G b cc nL own d) {index : Nat} {v : Int32} (hw : Cond.constant own index v ∈ zT) (hdg : decode cc pc = .ok (.ldc index, 2)) (kk : zW X sh M (pc + 2) L (.int v :: st)) : zW X sh M pc L st := by
  obtain ⟨p, l', e, R, s, m, args, below, meth, c, Q, n0, s0, G', b'⟩ := X
  obtain ⟨rfl, rfl, rfl, hx, hb, -, hown, hts, -⟩ := C
  intro H locs ls hP hz hS hN hn hs hL
  exact lv_ldc hx hb hown (hts _ hw) hdg (kk H locs ls hP hz hS hN hn hs hL)
theorem z_ldcw (C : zOK X l G b cc nL own d) {index : Nat} {v : Int32} (hw : Cond.constant own index v ∈ zT) (hdg : decode cc pc = .ok (.ldc_w index, 3)) (kk : zW X sh M (pc + 3) L (.int v :: st)) : zW X sh M pc L st := by
  obtain ⟨p, l', e, R, s, m, args, below, meth, c, Q, n0, s0, G', b'⟩ := X
  obtain ⟨rfl, rfl, rfl, hx, hb, -, hown, hts, -⟩ := C
  intro H locs ls hP hz hS hN hn hs hL
  exact lv_ldcw hx hb hown (hts _ hw) hdg (kk H locs ls hP hz hS hN hn hs hL)
theorem z_iload_n (C : zOK X l G b cc nL own d) {k : Fin 4} (i : Nat) {x : Int32} (hdg : decode cc pc = .ok (.iload_n k, 1)) (hi : (k : Nat) = i) (hl : L[i]? = some (some (.int x))) (kk : zW X sh M (pc + 1) L (.int x :: st)) : zW X sh M pc L st := by
  obtain ⟨p, l', e, R, s, m, args, below, meth, c, Q, n0, s0, G', b'⟩ := X
  obtain ⟨rfl, rfl, rfl, hx, hb, -⟩ := C
  intro H locs ls hP hz hS hN hn hs hL
  exact lv_iload_n hx hb hdg hi (hL.get hl) (kk H locs ls hP hz hS hN hn hs hL)
theorem z_iload (C : zOK X l G b cc nL own d) (i : Nat) {x : Int32} (hdg : decode cc pc = .ok (.iload i, 2)) (hl : L[i]? = some (some (.int x))) (kk : zW X sh M (pc + 2) L (.int x :: st)) : zW X sh M pc L st := by
  obtain ⟨p, l', e, R, s, m, args, below, meth, c, Q, n0, s0, G', b'⟩ := X
  obtain ⟨rfl, rfl, rfl, hx, hb, -⟩ := C
  intro H locs ls hP hz hS hN hn hs hL
  exact lv_iload hx hb hdg (hL.get hl) (kk H locs ls hP hz hS hN hn hs hL)
theorem z_aload_n (C : zOK X l G b cc nL own d) {k : Fin 4} (i : Nat) {x : Nat} (hdg : decode cc pc = .ok (.aload_n k, 1)) (hi : (k : Nat) = i) (hl : L[i]? = some (some (.ref x))) (kk : zW X sh M (pc + 1) L (.ref x :: st)) : zW X sh M pc L st := by
  obtain ⟨p, l', e, R, s, m, args, below, meth, c, Q, n0, s0, G', b'⟩ := X
  obtain ⟨rfl, rfl, rfl, hx, hb, -⟩ := C
  intro H locs ls hP hz hS hN hn hs hL
  exact lv_aload_n hx hb hdg hi (hL.get hl) (kk H locs ls hP hz hS hN hn hs hL)
theorem z_aload (C : zOK X l G b cc nL own d) (i : Nat) {x : Nat} (hdg : decode cc pc = .ok (.aload i, 2)) (hl : L[i]? = some (some (.ref x))) (kk : zW X sh M (pc + 2) L (.ref x :: st)) : zW X sh M pc L st := by
  obtain ⟨p, l', e, R, s, m, args, below, meth, c, Q, n0, s0, G', b'⟩ := X
  obtain ⟨rfl, rfl, rfl, hx, hb, -⟩ := C
  intro H locs ls hP hz hS hN hn hs hL
  exact lv_aload hx hb hdg (hL.get hl) (kk H locs ls hP hz hS hN hn hs hL)
theorem z_istore_n (C : zOK X l G b cc nL own d) {k : Fin 4} (i : Nat) {x : Int32} {L' : List (Option Value)} (hdg : decode cc pc = .ok (.istore_n k, 1)) (hi : (k : Nat) = i) (hn : i < nL) (hl : L.set i (some (.int x)) = L') (kk : zW X sh M (pc + 1) L' st) : zW X sh M pc L (.int x :: st) := by
  obtain ⟨p, l', e, R, s, m, args, below, meth, c, Q, n0, s0, G', b'⟩ := X
  obtain ⟨rfl, rfl, rfl, hx, hb, hml, -⟩ := C
  subst hl
  intro H locs ls hP hz hS hN hn' hs hL
  exact lv_istore_n hx hb hdg hi hL.1 (by rw [hml]; exact hn) rfl (fun ls' h' => kk H locs ls' hP hz hS hN hn' hs (zLs.store hL.2 rfl h'))
theorem z_istore (C : zOK X l G b cc nL own d) (i : Nat) {x : Int32} {L' : List (Option Value)} (hdg : decode cc pc = .ok (.istore i, 2)) (hn : i < nL) (hl : L.set i (some (.int x)) = L') (kk : zW X sh M (pc + 2) L' st) : zW X sh M pc L (.int x :: st) := by
  obtain ⟨p, l', e, R, s, m, args, below, meth, c, Q, n0, s0, G', b'⟩ := X
  obtain ⟨rfl, rfl, rfl, hx, hb, hml, -⟩ := C
  subst hl
  intro H locs ls hP hz hS hN hn' hs hL
  exact lv_istore hx hb hdg hL.1 (by rw [hml]; exact hn) rfl (fun ls' h' => kk H locs ls' hP hz hS hN hn' hs (zLs.store hL.2 rfl h'))
theorem z_astore_n (C : zOK X l G b cc nL own d) {k : Fin 4} (i : Nat) {x : Nat} {L' : List (Option Value)} (hdg : decode cc pc = .ok (.astore_n k, 1)) (hi : (k : Nat) = i) (hn : i < nL) (hl : L.set i (some (.ref x)) = L') (kk : zW X sh M (pc + 1) L' st) : zW X sh M pc L (.ref x :: st) := by
  obtain ⟨p, l', e, R, s, m, args, below, meth, c, Q, n0, s0, G', b'⟩ := X
  obtain ⟨rfl, rfl, rfl, hx, hb, hml, -⟩ := C
  subst hl
  intro H locs ls hP hz hS hN hn' hs hL
  exact lv_astore_n hx hb hdg hi hL.1 (by rw [hml]; exact hn) rfl (fun ls' h' => kk H locs ls' hP hz hS hN hn' hs (zLs.store hL.2 rfl h'))
theorem z_astore (C : zOK X l G b cc nL own d) (i : Nat) {x : Nat} {L' : List (Option Value)} (hdg : decode cc pc = .ok (.astore i, 2)) (hn : i < nL) (hl : L.set i (some (.ref x)) = L') (kk : zW X sh M (pc + 2) L' st) : zW X sh M pc L (.ref x :: st) := by
  obtain ⟨p, l', e, R, s, m, args, below, meth, c, Q, n0, s0, G', b'⟩ := X
  obtain ⟨rfl, rfl, rfl, hx, hb, hml, -⟩ := C
  subst hl
  intro H locs ls hP hz hS hN hn' hs hL
  exact lv_astore hx hb hdg hL.1 (by rw [hml]; exact hn) rfl (fun ls' h' => kk H locs ls' hP hz hS hN hn' hs (zLs.store hL.2 rfl h'))
theorem z_iinc (C : zOK X l G b cc nL own d) (i : Nat) {n : Int} {x v : Int32} {L' : List (Option Value)} (hdg : decode cc pc = .ok (.iinc i n, 3)) (hn : i < nL) (hg : L[i]? = some (some (.int x))) (hv : Int32.ofInt n = v) (hl : L.set i (some (.int (x + v))) = L') (kk : zW X sh M (pc + 3) L' st) : zW X sh M pc L st := by
  obtain ⟨p, l', e, R, s, m, args, below, meth, c, Q, n0, s0, G', b'⟩ := X
  obtain ⟨rfl, rfl, rfl, hx, hb, hml, -⟩ := C
  subst hl
  intro H locs ls hP hz hS hN hn' hs hL
  obtain ⟨k, hk⟩ := List.getElem?_of_mem ((zpl_mem (i, .int x) L 0).mpr ⟨Nat.zero_le _, hg⟩)
  exact lv_iinc hx hb hdg hL.1 hk (by rw [hv]) (by rw [hml]; exact hn) rfl (fun ls' h' => kk H locs ls' hP hz hS hN hn' hs (zLs.store hL.2 rfl h'))
end ZROWS
end
section
/-! INSTRUCTIONS: arithmetic, branches -/
section ZROW2
variable {X : zX} {l : Launch} {G : zG} {b : Nat} {cc : ByteArray} {nL : Nat} {own : String} {d : Nat} {sh : List zS} {M : zM} {pc : Nat} {L : List (Option Value)} {st : List Value}
theorem z_iadd (C : zOK X l G b cc nL own d) {x y : Int32} (hdg : decode cc pc = .ok (.iadd, 1)) (kk : zW X sh M (pc + 1) L (.int (x + y) :: st)) : zW X sh M pc L (.int y :: .int x :: st) := by
  obtain ⟨p, l', e, R, s, m, args, below, meth, c, Q, n0, s0, G', b'⟩ := X
  obtain ⟨rfl, rfl, rfl, hx, hb, -⟩ := C
  intro H locs ls hP hz hS hN hn hs hL
  exact lv_iadd hx hb hdg (kk H locs ls hP hz hS hN hn hs hL)
theorem z_isub (C : zOK X l G b cc nL own d) {x y : Int32} (hdg : decode cc pc = .ok (.isub, 1)) (kk : zW X sh M (pc + 1) L (.int (x - y) :: st)) : zW X sh M pc L (.int y :: .int x :: st) := by
  obtain ⟨p, l', e, R, s, m, args, below, meth, c, Q, n0, s0, G', b'⟩ := X
  obtain ⟨rfl, rfl, rfl, hx, hb, -⟩ := C
  intro H locs ls hP hz hS hN hn hs hL
  exact lv_isub hx hb hdg (kk H locs ls hP hz hS hN hn hs hL)
theorem z_imul (C : zOK X l G b cc nL own d) {x y : Int32} (hdg : decode cc pc = .ok (.imul, 1)) (kk : zW X sh M (pc + 1) L (.int (x * y) :: st)) : zW X sh M pc L (.int y :: .int x :: st) := by
  obtain ⟨p, l', e, R, s, m, args, below, meth, c, Q, n0, s0, G', b'⟩ := X
  obtain ⟨rfl, rfl, rfl, hx, hb, -⟩ := C
  intro H locs ls hP hz hS hN hn hs hL
  exact lv_imul hx hb hdg (kk H locs ls hP hz hS hN hn hs hL)
theorem z_iand (C : zOK X l G b cc nL own d) {x y : Int32} (hdg : decode cc pc = .ok (.iand, 1)) (kk : zW X sh M (pc + 1) L (.int (x &&& y) :: st)) : zW X sh M pc L (.int y :: .int x :: st) := by
  obtain ⟨p, l', e, R, s, m, args, below, meth, c, Q, n0, s0, G', b'⟩ := X
  obtain ⟨rfl, rfl, rfl, hx, hb, -⟩ := C
  intro H locs ls hP hz hS hN hn hs hL
  exact lv_iand hx hb hdg (kk H locs ls hP hz hS hN hn hs hL)
theorem z_ior (C : zOK X l G b cc nL own d) {x y : Int32} (hdg : decode cc pc = .ok (.ior, 1)) (kk : zW X sh M (pc + 1) L (.int (x ||| y) :: st)) : zW X sh M pc L (.int y :: .int x :: st) := by
  obtain ⟨p, l', e, R, s, m, args, below, meth, c, Q, n0, s0, G', b'⟩ := X
  obtain ⟨rfl, rfl, rfl, hx, hb, -⟩ := C
  intro H locs ls hP hz hS hN hn hs hL
  exact lv_ior hx hb hdg (kk H locs ls hP hz hS hN hn hs hL)
theorem z_ixor (C : zOK X l G b cc nL own d) {x y : Int32} (hdg : decode cc pc = .ok (.ixor, 1)) (kk : zW X sh M (pc + 1) L (.int (x ^^^ y) :: st)) : zW X sh M pc L (.int y :: .int x :: st) := by
  obtain ⟨p, l', e, R, s, m, args, below, meth, c, Q, n0, s0, G', b'⟩ := X
  obtain ⟨rfl, rfl, rfl, hx, hb, -⟩ := C
  intro H locs ls hP hz hS hN hn hs hL
  exact lv_ixor hx hb hdg (kk H locs ls hP hz hS hN hn hs hL)
theorem z_ishl (C : zOK X l G b cc nL own d) {x y : Int32} (hdg : decode cc pc = .ok (.ishl, 1)) (kk : zW X sh M (pc + 1) L (.int (x <<< (y &&& 31)) :: st)) : zW X sh M pc L (.int y :: .int x :: st) := by
  obtain ⟨p, l', e, R, s, m, args, below, meth, c, Q, n0, s0, G', b'⟩ := X
  obtain ⟨rfl, rfl, rfl, hx, hb, -⟩ := C
  intro H locs ls hP hz hS hN hn hs hL
  exact lv_ishl hx hb hdg (kk H locs ls hP hz hS hN hn hs hL)
theorem z_ishr (C : zOK X l G b cc nL own d) {x y : Int32} (hdg : decode cc pc = .ok (.ishr, 1)) (kk : zW X sh M (pc + 1) L (.int (x >>> (y &&& 31)) :: st)) : zW X sh M pc L (.int y :: .int x :: st) := by
  obtain ⟨p, l', e, R, s, m, args, below, meth, c, Q, n0, s0, G', b'⟩ := X
  obtain ⟨rfl, rfl, rfl, hx, hb, -⟩ := C
  intro H locs ls hP hz hS hN hn hs hL
  exact lv_ishr hx hb hdg (kk H locs ls hP hz hS hN hn hs hL)
theorem z_idiv (C : zOK X l G b cc nL own d) {x y : Int32} (hdg : decode cc pc = .ok (.idiv, 1)) (hne : ¬ y = 0) (kk : zW X sh M (pc + 1) L (.int (x / y) :: st)) : zW X sh M pc L (.int y :: .int x :: st) := by
  obtain ⟨p, l', e, R, s, m, args, below, meth, c, Q, n0, s0, G', b'⟩ := X
  obtain ⟨rfl, rfl, rfl, hx, hb, -⟩ := C
  intro H locs ls hP hz hS hN hn hs hL
  exact lv_idiv hx hb hdg hne (kk H locs ls hP hz hS hN hn hs hL)
theorem z_irem (C : zOK X l G b cc nL own d) {x y : Int32} (hdg : decode cc pc = .ok (.irem, 1)) (hne : ¬ y = 0) (kk : zW X sh M (pc + 1) L (.int (x - x / y * y) :: st)) : zW X sh M pc L (.int y :: .int x :: st) := by
  obtain ⟨p, l', e, R, s, m, args, below, meth, c, Q, n0, s0, G', b'⟩ := X
  obtain ⟨rfl, rfl, rfl, hx, hb, -⟩ := C
  intro H locs ls hP hz hS hN hn hs hL
  exact lv_irem hx hb hdg hne (kk H locs ls hP hz hS hN hn hs hL)
def zushr (x y : Int32) : Int32 := (x.toUInt32 >>> (y.toUInt32 &&& Int32.toUInt32 31)).toInt32
theorem z_iushr (C : zOK X l G b cc nL own d) {x y : Int32} (hdg : decode cc pc = .ok (.iushr, 1)) (kk : zW X sh M (pc + 1) L (.int (zushr x y) :: st)) : zW X sh M pc L (.int y :: .int x :: st) := by
  obtain ⟨p, l', e, R, s, m, args, below, meth, c, Q, n0, s0, G', b'⟩ := X
  obtain ⟨rfl, rfl, rfl, hx, hb, -⟩ := C
  intro H locs ls hP hz hS hN hn hs hL
  exact lv_iushr hx hb hdg rfl (kk H locs ls hP hz hS hN hn hs hL)
theorem z_i2s (C : zOK X l G b cc nL own d) {x : Int32} (hdg : decode cc pc = .ok (.i2s, 1)) (kk : zW X sh M (pc + 1) L (.int (x.toInt16.toInt32) :: st)) : zW X sh M pc L (.int x :: st) := by
  obtain ⟨p, l', e, R, s, m, args, below, meth, c, Q, n0, s0, G', b'⟩ := X
  obtain ⟨rfl, rfl, rfl, hx, hb, -⟩ := C
  intro H locs ls hP hz hS hN hn hs hL
  exact lv_i2s hx hb hdg rfl (kk H locs ls hP hz hS hN hn hs hL)
theorem z_i2b (C : zOK X l G b cc nL own d) {x : Int32} (hdg : decode cc pc = .ok (.i2b, 1)) (kk : zW X sh M (pc + 1) L (.int (x.toInt8.toInt32) :: st)) : zW X sh M pc L (.int x :: st) := by
  obtain ⟨p, l', e, R, s, m, args, below, meth, c, Q, n0, s0, G', b'⟩ := X
  obtain ⟨rfl, rfl, rfl, hx, hb, -⟩ := C
  intro H locs ls hP hz hS hN hn hs hL
  exact lv_i2b hx hb hdg rfl (kk H locs ls hP hz hS hN hn hs hL)
theorem z_i2c (C : zOK X l G b cc nL own d) {x : Int32} (hdg : decode cc pc = .ok (.i2c, 1)) (kk : zW X sh M (pc + 1) L (.int ((x.toUInt32 % 65536).toInt32) :: st)) : zW X sh M pc L (.int x :: st) := by
  obtain ⟨p, l', e, R, s, m, args, below, meth, c, Q, n0, s0, G', b'⟩ := X
  obtain ⟨rfl, rfl, rfl, hx, hb, -⟩ := C
  intro H locs ls hP hz hS hN hn hs hL
  exact lv_i2c hx hb hdg rfl (kk H locs ls hP hz hS hN hn hs hL)
theorem z_dup (C : zOK X l G b cc nL own d) {v : Value} (hdg : decode cc pc = .ok (.dup, 1)) (hv : v.category = 1) (kk : zW X sh M (pc + 1) L (v :: v :: st)) : zW X sh M pc L (v :: st) := by
  obtain ⟨p, l', e, R, s, m, args, below, meth, c, Q, n0, s0, G', b'⟩ := X
  obtain ⟨rfl, rfl, rfl, hx, hb, -⟩ := C
  intro H locs ls hP hz hS hN hn hs hL
  exact lv_dup hx hb hdg hv (kk H locs ls hP hz hS hN hn hs hL)
theorem z_dup2 (C : zOK X l G b cc nL own d) {v w : Value} (hdg : decode cc pc = .ok (.dup2, 1)) (hv : v.category = 1) (hw : w.category = 1) (kk : zW X sh M (pc + 1) L (v :: w :: v :: w :: st)) : zW X sh M pc L (v :: w :: st) := by
  obtain ⟨p, l', e, R, s, m, args, below, meth, c, Q, n0, s0, G', b'⟩ := X
  obtain ⟨rfl, rfl, rfl, hx, hb, -⟩ := C
  intro H locs ls hP hz hS hN hn hs hL
  exact lv_dup2_11 hx hb hdg hv hw (kk H locs ls hP hz hS hN hn hs hL)
theorem z_pop (C : zOK X l G b cc nL own d) {v : Value} (hdg : decode cc pc = .ok (.pop, 1)) (hv : v.category = 1) (kk : zW X sh M (pc + 1) L st) : zW X sh M pc L (v :: st) := by
  obtain ⟨p, l', e, R, s, m, args, below, meth, c, Q, n0, s0, G', b'⟩ := X
  obtain ⟨rfl, rfl, rfl, hx, hb, -⟩ := C
  intro H locs ls hP hz hS hN hn hs hL
  exact lv_pop hx hb hdg hv (kk H locs ls hP hz hS hN hn hs hL)
theorem z_if_eq (C : zOK X l G b cc nL own d) {x : Int32} {off : Int} (tgt : Nat) (hdg : decode cc pc = .ok (.ifCond .eq off, 3)) (ht : (pc : Int) + off = (tgt : Int)) (kt : x = 0 → zW X sh M tgt L st) (kf : ¬ x = 0 → zW X sh M (pc + 3) L st) : zW X sh M pc L (.int x :: st) := by
  obtain ⟨p, l', e, R, s, m, args, below, meth, c, Q, n0, s0, G', b'⟩ := X
  obtain ⟨rfl, rfl, rfl, hx, hb, -⟩ := C
  intro H locs ls hP hz hS hN hn hs hL
  exact lv_if_eq hx hb hdg ht (fun q => kt q H locs ls hP hz hS hN hn hs hL) (fun q => kf q H locs ls hP hz hS hN hn hs hL)
theorem z_if_ne (C : zOK X l G b cc nL own d) {x : Int32} {off : Int} (tgt : Nat) (hdg : decode cc pc = .ok (.ifCond .ne off, 3)) (ht : (pc : Int) + off = (tgt : Int)) (kt : ¬ x = 0 → zW X sh M tgt L st) (kf : x = 0 → zW X sh M (pc + 3) L st) : zW X sh M pc L (.int x :: st) := by
  obtain ⟨p, l', e, R, s, m, args, below, meth, c, Q, n0, s0, G', b'⟩ := X
  obtain ⟨rfl, rfl, rfl, hx, hb, -⟩ := C
  intro H locs ls hP hz hS hN hn hs hL
  exact lv_if_ne hx hb hdg ht (fun q => kt q H locs ls hP hz hS hN hn hs hL) (fun q => kf q H locs ls hP hz hS hN hn hs hL)
theorem z_if_lt (C : zOK X l G b cc nL own d) {x : Int32} {off : Int} (tgt : Nat) (hdg : decode cc pc = .ok (.ifCond .lt off, 3)) (ht : (pc : Int) + off = (tgt : Int)) (kt : x < 0 → zW X sh M tgt L st) (kf : ¬ x < 0 → zW X sh M (pc + 3) L st) : zW X sh M pc L (.int x :: st) := by
  obtain ⟨p, l', e, R, s, m, args, below, meth, c, Q, n0, s0, G', b'⟩ := X
  obtain ⟨rfl, rfl, rfl, hx, hb, -⟩ := C
  intro H locs ls hP hz hS hN hn hs hL
  exact lv_if_lt hx hb hdg ht (fun q => kt q H locs ls hP hz hS hN hn hs hL) (fun q => kf q H locs ls hP hz hS hN hn hs hL)
theorem z_if_ge (C : zOK X l G b cc nL own d) {x : Int32} {off : Int} (tgt : Nat) (hdg : decode cc pc = .ok (.ifCond .ge off, 3)) (ht : (pc : Int) + off = (tgt : Int)) (kt : 0 ≤ x → zW X sh M tgt L st) (kf : ¬ 0 ≤ x → zW X sh M (pc + 3) L st) : zW X sh M pc L (.int x :: st) := by
  obtain ⟨p, l', e, R, s, m, args, below, meth, c, Q, n0, s0, G', b'⟩ := X
  obtain ⟨rfl, rfl, rfl, hx, hb, -⟩ := C
  intro H locs ls hP hz hS hN hn hs hL
  exact lv_if_ge hx hb hdg ht (fun q => kt q H locs ls hP hz hS hN hn hs hL) (fun q => kf q H locs ls hP hz hS hN hn hs hL)
theorem z_if_gt (C : zOK X l G b cc nL own d) {x : Int32} {off : Int} (tgt : Nat) (hdg : decode cc pc = .ok (.ifCond .gt off, 3)) (ht : (pc : Int) + off = (tgt : Int)) (kt : 0 < x → zW X sh M tgt L st) (kf : ¬ 0 < x → zW X sh M (pc + 3) L st) : zW X sh M pc L (.int x :: st) := by
  obtain ⟨p, l', e, R, s, m, args, below, meth, c, Q, n0, s0, G', b'⟩ := X
  obtain ⟨rfl, rfl, rfl, hx, hb, -⟩ := C
  intro H locs ls hP hz hS hN hn hs hL
  exact lv_if_gt hx hb hdg ht (fun q => kt q H locs ls hP hz hS hN hn hs hL) (fun q => kf q H locs ls hP hz hS hN hn hs hL)
theorem z_if_le (C : zOK X l G b cc nL own d) {x : Int32} {off : Int} (tgt : Nat) (hdg : decode cc pc = .ok (.ifCond .le off, 3)) (ht : (pc : Int) + off = (tgt : Int)) (kt : x ≤ 0 → zW X sh M tgt L st) (kf : ¬ x ≤ 0 → zW X sh M (pc + 3) L st) : zW X sh M pc L (.int x :: st) := by
  obtain ⟨p, l', e, R, s, m, args, below, meth, c, Q, n0, s0, G', b'⟩ := X
  obtain ⟨rfl, rfl, rfl, hx, hb, -⟩ := C
  intro H locs ls hP hz hS hN hn hs hL
  exact lv_if_le hx hb hdg ht (fun q => kt q H locs ls hP hz hS hN hn hs hL) (fun q => kf q H locs ls hP hz hS hN hn hs hL)
theorem z_icmp_eq (C : zOK X l G b cc nL own d) {x y : Int32} {off : Int} (tgt : Nat) (hdg : decode cc pc = .ok (.if_icmp .eq off, 3)) (ht : (pc : Int) + off = (tgt : Int)) (kt : x = y → zW X sh M tgt L st) (kf : ¬ x = y → zW X sh M (pc + 3) L st) : zW X sh M pc L (.int y :: .int x :: st) := by
  obtain ⟨p, l', e, R, s, m, args, below, meth, c, Q, n0, s0, G', b'⟩ := X
  obtain ⟨rfl, rfl, rfl, hx, hb, -⟩ := C
  intro H locs ls hP hz hS hN hn hs hL
  exact lv_icmp_eq hx hb hdg ht (fun q => kt q H locs ls hP hz hS hN hn hs hL) (fun q => kf q H locs ls hP hz hS hN hn hs hL)
theorem z_icmp_ne (C : zOK X l G b cc nL own d) {x y : Int32} {off : Int} (tgt : Nat) (hdg : decode cc pc = .ok (.if_icmp .ne off, 3)) (ht : (pc : Int) + off = (tgt : Int)) (kt : ¬ x = y → zW X sh M tgt L st) (kf : x = y → zW X sh M (pc + 3) L st) : zW X sh M pc L (.int y :: .int x :: st) := by
  obtain ⟨p, l', e, R, s, m, args, below, meth, c, Q, n0, s0, G', b'⟩ := X
  obtain ⟨rfl, rfl, rfl, hx, hb, -⟩ := C
  intro H locs ls hP hz hS hN hn hs hL
  exact lv_icmp_ne hx hb hdg ht (fun q => kt q H locs ls hP hz hS hN hn hs hL) (fun q => kf q H locs ls hP hz hS hN hn hs hL)
theorem z_icmp_lt (C : zOK X l G b cc nL own d) {x y : Int32} {off : Int} (tgt : Nat) (hdg : decode cc pc = .ok (.if_icmp .lt off, 3)) (ht : (pc : Int) + off = (tgt : Int)) (kt : x < y → zW X sh M tgt L st) (kf : ¬ x < y → zW X sh M (pc + 3) L st) : zW X sh M pc L (.int y :: .int x :: st) := by
  obtain ⟨p, l', e, R, s, m, args, below, meth, c, Q, n0, s0, G', b'⟩ := X
  obtain ⟨rfl, rfl, rfl, hx, hb, -⟩ := C
  intro H locs ls hP hz hS hN hn hs hL
  exact lv_icmp_lt hx hb hdg ht (fun q => kt q H locs ls hP hz hS hN hn hs hL) (fun q => kf q H locs ls hP hz hS hN hn hs hL)
theorem z_icmp_ge (C : zOK X l G b cc nL own d) {x y : Int32} {off : Int} (tgt : Nat) (hdg : decode cc pc = .ok (.if_icmp .ge off, 3)) (ht : (pc : Int) + off = (tgt : Int)) (kt : y ≤ x → zW X sh M tgt L st) (kf : ¬ y ≤ x → zW X sh M (pc + 3) L st) : zW X sh M pc L (.int y :: .int x :: st) := by
  obtain ⟨p, l', e, R, s, m, args, below, meth, c, Q, n0, s0, G', b'⟩ := X
  obtain ⟨rfl, rfl, rfl, hx, hb, -⟩ := C
  intro H locs ls hP hz hS hN hn hs hL
  exact lv_icmp_ge hx hb hdg ht (fun q => kt q H locs ls hP hz hS hN hn hs hL) (fun q => kf q H locs ls hP hz hS hN hn hs hL)
theorem z_icmp_gt (C : zOK X l G b cc nL own d) {x y : Int32} {off : Int} (tgt : Nat) (hdg : decode cc pc = .ok (.if_icmp .gt off, 3)) (ht : (pc : Int) + off = (tgt : Int)) (kt : y < x → zW X sh M tgt L st) (kf : ¬ y < x → zW X sh M (pc + 3) L st) : zW X sh M pc L (.int y :: .int x :: st) := by
  obtain ⟨p, l', e, R, s, m, args, below, meth, c, Q, n0, s0, G', b'⟩ := X
  obtain ⟨rfl, rfl, rfl, hx, hb, -⟩ := C
  intro H locs ls hP hz hS hN hn hs hL
  exact lv_icmp_gt hx hb hdg ht (fun q => kt q H locs ls hP hz hS hN hn hs hL) (fun q => kf q H locs ls hP hz hS hN hn hs hL)
theorem z_icmp_le (C : zOK X l G b cc nL own d) {x y : Int32} {off : Int} (tgt : Nat) (hdg : decode cc pc = .ok (.if_icmp .le off, 3)) (ht : (pc : Int) + off = (tgt : Int)) (kt : x ≤ y → zW X sh M tgt L st) (kf : ¬ x ≤ y → zW X sh M (pc + 3) L st) : zW X sh M pc L (.int y :: .int x :: st) := by
  obtain ⟨p, l', e, R, s, m, args, below, meth, c, Q, n0, s0, G', b'⟩ := X
  obtain ⟨rfl, rfl, rfl, hx, hb, -⟩ := C
  intro H locs ls hP hz hS hN hn hs hL
  exact lv_icmp_le hx hb hdg ht (fun q => kt q H locs ls hP hz hS hN hn hs hL) (fun q => kf q H locs ls hP hz hS hN hn hs hL)
theorem z_goto (C : zOK X l G b cc nL own d) {off : Int} (tgt : Nat) (hdg : decode cc pc = .ok (.goto off, 3)) (ht : (pc : Int) + off = (tgt : Int)) (kk : zW X sh M tgt L st) : zW X sh M pc L st := by
  obtain ⟨p, l', e, R, s, m, args, below, meth, c, Q, n0, s0, G', b'⟩ := X
  obtain ⟨rfl, rfl, rfl, hx, hb, -⟩ := C
  intro H locs ls hP hz hS hN hn hs hL
  exact lv_goto hx hb hdg ht (kk H locs ls hP hz hS hN hn hs hL)
theorem z_lookup (C : zOK X l G b cc nL own d) {dflt : Int} {ps : Array (Int × Int)} {len : Nat} {x : Int32} {off : Int} (tgt : Nat) (hdg : decode cc pc = .ok (.lookupswitch dflt ps, len)) (hp : (ps.toList.zip (ps.toList.drop 1)).all (fun (a, next) => a.1 < next.1) = true) (ho : Op.lookupswitch.offset ps.toList dflt x.toInt = off) (ht : (pc : Int) + off = (tgt : Int)) (kk : zW X sh M tgt L st) : zW X sh M pc L (.int x :: st) := by
  obtain ⟨p, l', e, R, s, m, args, below, meth, c, Q, n0, s0, G', b'⟩ := X
  obtain ⟨rfl, rfl, rfl, hx, hb, -⟩ := C
  intro H locs ls hP hz hS hN hn hs hL
  exact lv_lookup hx hb hdg hp ho ht (kk H locs ls hP hz hS hN hn hs hL)
theorem z_tswOut (C : zOK X l G b cc nL own d) {dflt lo hi : Int} {offs : Array Int} {len : Nat} {x : Int32} (tgt : Nat) (hdg : decode cc pc = .ok (.tableswitch dflt lo hi offs, len)) (h : x.toInt < lo ∨ hi < x.toInt) (ht : (pc : Int) + dflt = (tgt : Int)) (kk : zW X sh M tgt L st) : zW X sh M pc L (.int x :: st) := by
  obtain ⟨p, l', e, R, s, m, args, below, meth, c, Q, n0, s0, G', b'⟩ := X
  obtain ⟨rfl, rfl, rfl, hx, hb, -⟩ := C
  intro H locs ls hP hz hS hN hn hs hL
  exact lv_tableOut hx hb hdg h ht (kk H locs ls hP hz hS hN hn hs hL)
theorem z_tswIn (C : zOK X l G b cc nL own d) {dflt lo hi : Int} {offs : Array Int} {len : Nat} {x : Int32} (v : Int) {off : Int} (tgt : Nat) (hdg : decode cc pc = .ok (.tableswitch dflt lo hi offs, len)) (hv : x.toInt = v) (h1 : ¬ v < lo) (h2 : ¬ hi < v) (ho : offs[(v - lo).toNat]? = some off) (ht : (pc : Int) + off = (tgt : Int)) (kk : zW X sh M tgt L st) : zW X sh M pc L (.int x :: st) := by
  subst hv
  obtain ⟨p, l', e, R, s, m, args, below, meth, c, Q, n0, s0, G', b'⟩ := X
  obtain ⟨rfl, rfl, rfl, hx, hb, -⟩ := C
  intro H locs ls hP hz hS hN hn hs hL
  exact lv_tableIn hx hb hdg h1 h2 ho ht (kk H locs ls hP hz hS hN hn hs hL)
end ZROW2
/-! fields, arrays -/
/-- a field by its link in a class's pool: the class's number, the field's place, whether final -/
def zFld (own : String) (index ci f : Nat) (fin : Bool) (ty : FieldType) : Prop := ∃ (C ref : String) (T : u_T) (N : Nat) (ty0 : Nat → FieldType), vwCl[ci]? = some (C, T, N) ∧ f < N ∧ Cond.fieldLink own index ref (T f).2.1 (T f).2.2.1 ∈ zT ∧ (T f).1 = ref ∧ (∀ w ∈ u_ws C T N, w ∈ zT) ∧ (T f).2.2.2 = fin ∧ (∀ k, k < N → parseFieldDescriptor (T k).2.2.1 = some (ty0 k)) ∧ (∀ a, a < N → ∀ b, b < N → a ≠ b → (T a).2.1 ≠ (T b).2.1) ∧ parseFieldDescriptor (T f).2.2.1 = some ty
section ZROW3
variable {X : zX} {l : Launch} {G : zG} {b : Nat} {cc : ByteArray} {nL : Nat} {own : String} {d : Nat} {sh : List zS} {M : zM} {pc : Nat} {L : List (Option Value)} {st : List Value}
theorem z_getI (C : zOK X l G b cc nL own d) {index ci f : Nat} {fin : Bool} {ty : FieldType} {k a i j : Nat} {fl : List (Option (Option Nat))} (hdg : decode cc pc = .ok (.getfield index, 3)) (hf : zFld own index ci f fin ty) (hsh : sh[k]? = some ((a, i, j), .inl (ci, fl))) (hfl : fl[f]? = some none) (kk : zW X sh M (pc + 3) L (.int (M a i j f) :: st)) : zW X sh M pc L (.ref (b + k) :: st) := by
  obtain ⟨p, l', e, R, s, m, args, below, meth, c, Q, n0, s0, G', b'⟩ := X
  obtain ⟨rfl, rfl, rfl, hx, hb, -, hown, hts, hAm, -⟩ := C
  obtain ⟨Cn, ref, T, N, ty0, h1, h2, h3, h4, h5, -⟩ := hf
  intro H locs ls hP hz hS hN hn hs hL
  refine va_get hx hb hts h5 hown hAm.1 hP k (zws_get hsh) h1 f h2 (hts _ h3) (fun x hx => by rw [← h4]; exact hx) (v := .int (M a i j f)) ?_ hdg (kk H locs ls hP hz hS hN hn hs hL)
  simp [List.getElem?_mapIdx, hfl, zfv, zat]
theorem z_getR (C : zOK X l G b cc nL own d) {index ci f : Nat} {fin : Bool} {ty : FieldType} {k r : Nat} {q : Nat × Nat × Nat} {fl : List (Option (Option Nat))} (hdg : decode cc pc = .ok (.getfield index, 3)) (hf : zFld own index ci f fin ty) (hsh : sh[k]? = some (q, .inl (ci, fl))) (hfl : fl[f]? = some (some (some r))) (kk : zW X sh M (pc + 3) L (.ref (b + r) :: st)) : zW X sh M pc L (.ref (b + k) :: st) := by
  obtain ⟨p, l', e, R, s, m, args, below, meth, c, Q, n0, s0, G', b'⟩ := X
  obtain ⟨rfl, rfl, rfl, hx, hb, -, hown, hts, hAm, -⟩ := C
  obtain ⟨Cn, ref, T, N, ty0, h1, h2, h3, h4, h5, -⟩ := hf
  intro H locs ls hP hz hS hN hn hs hL
  refine va_get hx hb hts h5 hown hAm.1 hP k (zws_get hsh) h1 f h2 (hts _ h3) (fun x hx => by rw [← h4]; exact hx) (v := .ref (b' + r)) ?_ hdg (kk H locs ls hP hz hS hN hn hs hL)
  simp [List.getElem?_mapIdx, hfl, zfv, zrv]
theorem z_putI (C : zOK X l G b cc nL own d) {index ci f : Nat} {ty : FieldType} {k a i j : Nat} {fl : List (Option (Option Nat))} {v : Int32} (hdg : decode cc pc = .ok (.putfield index, 3)) (hf : zFld own index ci f false ty) (hsh : sh[k]? = some ((a, i, j), .inl (ci, fl))) (hfl : fl[f]? = some none) (hv : narrow ty (.int v) = .int v) (hv2 : fits ty (.int v) = true) (kk : zW X sh (zu M a i j f v) (pc + 3) L st) : zW X sh M pc L (.int v :: .ref (b + k) :: st) := by
  obtain ⟨p, l', e, R, s, m, args, below, meth, c, Q, n0, s0, G', b'⟩ := X
  obtain ⟨rfl, rfl, rfl, hx, hb, -, hown, hts, hAm, -⟩ := C
  obtain ⟨Cn, ref, T, N, ty0, h1, h2, h3, h4, h5, h6, h7, h8, h9⟩ := hf
  intro H locs ls hP hz hS hN hn hs hL
  have hl : f < fl.length := (List.getElem?_eq_some_iff.mp hfl).1
  have hK := hAm.1
  have hD := zws_D sh b' G'.2.1 M
  have he := zws_get (b := b') (tc := G'.2.1) (M := M) hsh
  have hap := va_apart (own := own) hts h5 ty0 h7 h8 hK h1
  obtain ⟨r, g1, cell, q1, q2, q3, q4⟩ := hP k _ he
  have hr : r = (Cn, T, N) := Option.some.inj (g1.symm.trans h1)
  subst hr
  obtain ⟨hSl, hfc, kC, hkC, hkind⟩ := hK.1 ci _ h1
  obtain ⟨cf, kf, fi, fd, hi, hsl⟩ := hSl f h2
  have hlay := hts _ (h5 _ (u_in_lay h2))
  unfold u_lay at hlay
  rw [if_neg (by rw [h6]; decide)] at hlay
  have hst := (u_facts hfc hkC (u_lays hts h5 h2) hi).1
  have h10 := u_store hfc hkC hkind hlay hi h9 hv hv2
  have hsame : s.fieldFound? ref (T f).2.1 (T f).2.2.1 = some (cf, kf, fi, fd) := by rw [← h4]; exact hi
  refine W.putK hx hb (f := fd) ⟨hown, hts _ h3, ⟨_, _, _, hsame⟩, hst⟩ (by rw [q2]; exact h10) q1 q3 (by rw [hsl]; exact k2_hasslot (q4 f h2)) rfl rfl hdg fun H' e1 e2 e3 => ?_
  rw [hsl] at e1 ⊢
  have hP1 := hP.set (e := .inr (ci, (fl.mapIdx (zfv b' (zat M (a, i, j)))).set f (.int v))) (H1 := H') hD he ⟨_, h1, t_OB.to (V := updV (vp_V (fl.mapIdx (zfv b' (zat M (a, i, j))))) f (.int v)) ⟨_, e1, q2, q3, t_set q4 hap h2 (.int v)⟩ (fun j _ => vp_updV_set (by simpa using hl) (.int v) j)⟩ e3
  rw [zfs_set (M := M) hfl] at hP1
  have w1 : (zws sh b' G'.2.1 M).set k (b' + k, .inr (ci, fl.mapIdx (zfv b' (zat (zu M a i j f v) (a, i, j))))) = zws sh b' G'.2.1 (zu M a i j f v) := zws_set (M' := zu M a i j f v) hN hsh (fun q hq => zat_zu_ne M a i j f v q hq)
  rw [w1] at hP1
  exact kk H' _ ls hP1 (fun h => by rw [e2]; exact hz h) (hS.put e2 e3 (hD.2 k _ he)) hN hn hs hL
theorem z_putII (C : zOK X l G b cc nL own d) {index ci f : Nat} {k a i j : Nat} {fl : List (Option (Option Nat))} {v : Int32} (hdg : decode cc pc = .ok (.putfield index, 3)) (hf : zFld own index ci f false .int) (hsh : sh[k]? = some ((a, i, j), .inl (ci, fl))) (hfl : fl[f]? = some none) (kk : zW X sh (zu M a i j f v) (pc + 3) L st) : zW X sh M pc L (.int v :: .ref (b + k) :: st) := z_putI C hdg hf hsh hfl rfl rfl kk
theorem z_bool {v : Int32} (h : v = 0 ∨ v = 1) : narrow .boolean (.int v) = .int v ∧ fits .boolean (.int v) = true := by rcases h with rfl | rfl <;> decide
theorem z_putZ (C : zOK X l G b cc nL own d) {index ci f : Nat} {k a i j : Nat} {fl : List (Option (Option Nat))} {v : Int32} (hdg : decode cc pc = .ok (.putfield index, 3)) (hf : zFld own index ci f false .boolean) (hsh : sh[k]? = some ((a, i, j), .inl (ci, fl))) (hfl : fl[f]? = some none) (hv : v = 0 ∨ v = 1) (kk : zW X sh (zu M a i j f v) (pc + 3) L st) : zW X sh M pc L (.int v :: .ref (b + k) :: st) := z_putI C hdg hf hsh hfl (z_bool hv).1 (z_bool hv).2 kk
/-- arrays of ints -/
theorem z_iaload (C : zOK X l G b cc nL own d) {k a i j n : Nat} {x : Int32} (hdg : decode cc pc = .ok (.iaload, 1)) (hsh : sh[k]? = some ((a, i, j), .inr (.inl (0, n)))) (hin : vp_in x n) (kk : zW X sh M (pc + 1) L (.int (M a i j x.toNatClampNeg) :: st)) : zW X sh M pc L (.int x :: .ref (b + k) :: st) := by
  obtain ⟨p, l', e, R, s, m, args, below, meth, c, Q, n0, s0, G', b'⟩ := X
  obtain ⟨rfl, rfl, rfl, hx, hb, -, hown, hts, hAm, -⟩ := C
  intro H locs ls hP hz hS hN hn hs hL
  exact va_iald hx hb hAm.1 hP k 0 (zws_get hsh) rfl hin hdg (kk H locs ls hP hz hS hN hn hs hL)
theorem z_zaload (C : zOK X l G b cc nL own d) {k a i j n : Nat} {x : Int32} (hdg : decode cc pc = .ok (.baload, 1)) (hsh : sh[k]? = some ((a, i, j), .inr (.inl (1, n)))) (hin : vp_in x n) (kk : zW X sh M (pc + 1) L (.int (M a i j x.toNatClampNeg) :: st)) : zW X sh M pc L (.int x :: .ref (b + k) :: st) := by
  obtain ⟨p, l', e, R, s, m, args, below, meth, c, Q, n0, s0, G', b'⟩ := X
  obtain ⟨rfl, rfl, rfl, hx, hb, -, hown, hts, hAm, -⟩ := C
  intro H locs ls hP hz hS hN hn hs hL
  exact va_zald hx hb hAm.1 hP k 1 (zws_get hsh) rfl hin hdg (kk H locs ls hP hz hS hN hn hs hL)
theorem z_caload (C : zOK X l G b cc nL own d) {k a i j n : Nat} {x : Int32} (hdg : decode cc pc = .ok (.caload, 1)) (hsh : sh[k]? = some ((a, i, j), .inr (.inl (2, n)))) (hin : vp_in x n) (kk : zW X sh M (pc + 1) L (.int (M a i j x.toNatClampNeg) :: st)) : zW X sh M pc L (.int x :: .ref (b + k) :: st) := by
  obtain ⟨p, l', e, R, s, m, args, below, meth, c, Q, n0, s0, G', b'⟩ := X
  obtain ⟨rfl, rfl, rfl, hx, hb, -, hown, hts, hAm, -⟩ := C
  intro H locs ls hP hz hS hN hn hs hL
  exact va_cald hx hb hAm.1 hP k 2 (zws_get hsh) rfl hin hdg (kk H locs ls hP hz hS hN hn hs hL)
/-- a store into an array, by its cell -/
theorem zst {b : Nat} {G : zG} {a i j k n t : Nat} {H H' : Heap} {x : Nat} {y : Int32} (hP : va_P G.1 vwCl (zws sh b G.2.1 M) H) (hN : zND sh) (hsh : sh[k]? = some ((a, i, j), .inr (.inl (t, n)))) (e1 : H'[b + k]? = some ((arrV (G.2.1 t) n (fun q => .int (M a i j q))).setSlot x (.int y))) (e3 : ∀ q, q ≠ b + k → H'[q]? = H[q]?) : va_P G.1 vwCl (zws sh b G.2.1 (zu M a i j x y)) H' := by
  have he := zws_get (b := b) (tc := G.2.1) (M := M) hsh
  have w1 : (zws sh b G.2.1 M).set k (b + k, zE b G.2.1 (zu M a i j x y) ((a, i, j), .inr (.inl (t, n)))) = zws sh b G.2.1 (zu M a i j x y) := zws_set (M' := zu M a i j x y) hN hsh (fun q hq => zat_zu_ne M a i j x y q hq)
  rw [← w1]
  refine hP.set (zws_D sh b G.2.1 M) he ?_ e3
  show H'[b + k]? = some (vp_cell _ _)
  rw [e1, arrV_store, vp_cell_i]
  congr 2
  funext q
  rw [zat_zu_self]
  by_cases hq : q = x
  · simp [updV, hq]
  · simp [updV, hq, zat]
theorem z_iastore (C : zOK X l G b cc nL own d) {k a i j n : Nat} {x y : Int32} (hdg : decode cc pc = .ok (.iastore, 1)) (hsh : sh[k]? = some ((a, i, j), .inr (.inl (0, n)))) (hin : vp_in x n) (kk : zW X sh (zu M a i j x.toNatClampNeg y) (pc + 1) L st) : zW X sh M pc L (.int y :: .int x :: .ref (b + k) :: st) := by
  obtain ⟨p, l', e, R, s, m, args, below, meth, c, Q, n0, s0, G', b'⟩ := X
  obtain ⟨rfl, rfl, rfl, hx, hb, -, hown, hts, hAm, -⟩ := C
  intro H locs ls hP hz hS hN hn hs hL
  refine W.iast hx hb (hP k _ (zws_get hsh)) ((hAm.1.2 0 _ rfl).1 n (fun q => .int (M a i j q))) (fun q => by cases q) (by show ¬ (x < 0 ∨ (arrV _ _ _).slots.size ≤ _); rw [arrV_size]; exact hin) rfl rfl hdg fun H' e1 e2 e3 => ?_
  exact kk H' _ ls (zst hP hN hsh e1 e3) (fun h => by rw [e2]; exact hz h) (hS.put e2 e3 (Nat.le_add_right _ _)) hN hn hs hL
theorem z_zastore (C : zOK X l G b cc nL own d) {k a i j n : Nat} {x y : Int32} (hdg : decode cc pc = .ok (.bastore, 1)) (hsh : sh[k]? = some ((a, i, j), .inr (.inl (1, n)))) (hin : vp_in x n) (hy : y = 0 ∨ y = 1) (kk : zW X sh (zu M a i j x.toNatClampNeg y) (pc + 1) L st) : zW X sh M pc L (.int y :: .int x :: .ref (b + k) :: st) := by
  obtain ⟨p, l', e, R, s, m, args, below, meth, c, Q, n0, s0, G', b'⟩ := X
  obtain ⟨rfl, rfl, rfl, hx, hb, -, hown, hts, hAm, -⟩ := C
  intro H locs ls hP hz hS hN hn hs hL
  refine W.zast hx hb (hP k _ (zws_get hsh)) ((hAm.1.2 1 _ rfl).1 n (fun q => .int (M a i j q))) (fun q => by cases q) (by show ¬ (x < 0 ∨ (arrV _ _ _).slots.size ≤ _); rw [arrV_size]; exact hin) rfl rfl hdg fun H' e1 e2 e3 => ?_
  rw [(z_bool hy).1] at e1
  exact kk H' _ ls (zst hP hN hsh e1 e3) (fun h => by rw [e2]; exact hz h) (hS.put e2 e3 (Nat.le_add_right _ _)) hN hn hs hL
theorem z_castore (C : zOK X l G b cc nL own d) {k a i j n : Nat} {x y : Int32} (hdg : decode cc pc = .ok (.castore, 1)) (hsh : sh[k]? = some ((a, i, j), .inr (.inl (2, n)))) (hin : vp_in x n) (hy : narrow .char (.int y) = .int y) (kk : zW X sh (zu M a i j x.toNatClampNeg y) (pc + 1) L st) : zW X sh M pc L (.int y :: .int x :: .ref (b + k) :: st) := by
  obtain ⟨p, l', e, R, s, m, args, below, meth, c, Q, n0, s0, G', b'⟩ := X
  obtain ⟨rfl, rfl, rfl, hx, hb, -, hown, hts, hAm, -⟩ := C
  intro H locs ls hP hz hS hN hn hs hL
  refine W.cast hx hb (hP k _ (zws_get hsh)) ((hAm.1.2 2 _ rfl).1 n (fun q => .int (M a i j q))) (fun q => by cases q) (by show ¬ (x < 0 ∨ (arrV _ _ _).slots.size ≤ _); rw [arrV_size]; exact hin) rfl rfl hdg fun H' e1 e2 e3 => ?_
  rw [hy] at e1
  exact kk H' _ ls (zst hP hN hsh e1 e3) (fun h => by rw [e2]; exact hz h) (hS.put e2 e3 (Nat.le_add_right _ _)) hN hn hs hL
/-- arrays of references -/
theorem z_aaload (C : zOK X l G b cc nL own d) {k t r : Nat} {q : Nat × Nat × Nat} {rs : List (Option Nat)} {x : Int32} {cA : ClassId} {ty : FieldType} (hdg : decode cc pc = .ok (.aaload, 1)) (hsh : sh[k]? = some (q, .inr (.inr (t, rs)))) (ht : (zty G.2.1)[t]? = some (G.2.1 t, ty)) (hty : ty.isReference = true) (hin : vp_in x rs.length) (hr : rs[x.toNatClampNeg]? = some (some r)) (kk : zW X sh M (pc + 1) L (.ref (b + r) :: st)) : zW X sh M pc L (.int x :: .ref (b + k) :: st) := by
  obtain ⟨p, l', e, R, s, m, args, below, meth, c, Q, n0, s0, G', b'⟩ := X
  obtain ⟨rfl, rfl, rfl, hx, hb, -, hown, hts, hAm, -⟩ := C
  intro H locs ls hP hz hS hN hn hs hL
  have hlt : x.toNatClampNeg < rs.length := Nat.not_le.mp fun q => hin (Or.inr q)
  refine W.aald (v := .ref (b' + r)) (ty := ty) hx hb (hP k _ (zws_get hsh)) ((hAm.1.2 t _ ht).1 rs.length _) hty (fun q => by cases q) (by show ¬ (x < 0 ∨ (arrV _ _ _).slots.size ≤ _); rw [arrV_size]; exact hin) ?_ rfl rfl hdg (kk H locs ls hP hz hS hN hn hs hL)
  show (arrV _ _ _).slots[_]? = _
  rw [arrV_read _ _ hlt]
  simp [List.getD_eq_getElem?_getD, hr, va_rf]
theorem z_alen (C : zOK X l G b cc nL own d) {k t n : Nat} {q : Nat × Nat × Nat} {ty : FieldType} (hdg : decode cc pc = .ok (.arraylength, 1)) (hsh : sh[k]? = some (q, .inr (.inl (t, n)))) (ht : (zty G.2.1)[t]? = some (G.2.1 t, ty)) (kk : zW X sh M (pc + 1) L (.int (Int32.ofNat n) :: st)) : zW X sh M pc L (.ref (b + k) :: st) := by
  obtain ⟨p, l', e, R, s, m, args, below, meth, c, Q, n0, s0, G', b'⟩ := X
  obtain ⟨rfl, rfl, rfl, hx, hb, -, hown, hts, hAm, -⟩ := C
  intro H locs ls hP hz hS hN hn hs hL
  exact va_alen hx hb hAm.1 hP k t (zws_get hsh) ht rfl hdg (kk H locs ls hP hz hS hN hn hs hL)
/-- the table ABOVE -/
theorem z_above (C : zOK X l G b cc nL RX0 d) (hdg : decode cc pc = .ok (.getstatic 34, 3)) (kk : zW X sh M (pc + 3) L (.ref (G.2.2 0) :: st)) : zW X sh M pc L st := by
  obtain ⟨p, l', e, R, s, m, args, below, meth, c, Q, n0, s0, G', b'⟩ := X
  obtain ⟨rfl, rfl, rfl, hx, hb, -, hown, hts, hAm, -⟩ := C
  intro H locs ls hP hz hS hN hn hs hL
  exact va_getsN hx hb hAm.2.2.2.1 hS hown (va_Nw.use rfl hAm.2.2.1) (fun x h => h) hdg (kk H locs ls hP hz hS hN hn hs hL)
theorem z_aboveld (C : zOK X l G b cc nL own d) {x : Int32} (hdg : decode cc pc = .ok (.iaload, 1)) (hin : vp_in x 6) (kk : zW X sh M (pc + 1) L (.int (zabv x.toNatClampNeg) :: st)) : zW X sh M pc L (.int x :: .ref (G.2.2 0) :: st) := by
  obtain ⟨p, l', e, R, s, m, args, below, meth, c, Q, n0, s0, G', b'⟩ := X
  obtain ⟨rfl, rfl, rfl, hx, hb, -, hown, hts, hAm, -⟩ := C
  intro H locs ls hP hz hS hN hn hs hL
  have h5 := hAm.2.2.2.2.1
  have hq : G'.2.2 0 < s.heap.size := by
    obtain ⟨scr, e, -⟩ := h5.1
    exact (Array.getElem?_eq_some_iff.mp e).1
  exact va_sld hx hb h5.1 hq (by have := h5.2; omega) hS hin hdg (kk H locs ls hP hz hS hN hn hs hL)
/-- returns -/
theorem z_ireturn (C : zOK X l G b cc nL own d) {v : Int32} {post : Option Value → zM → Prop} (K : zRt X (some .int) sh post) (hdg : decode cc pc = .ok (.ireturn, 1)) (hp : post (some (.int v)) M) : zW X sh M pc L [.int v] := by
  obtain ⟨p, l', e, R, s, m, args, below, meth, c, Q, n0, s0, G', b'⟩ := X
  obtain ⟨rfl, rfl, rfl, hx, hb, -⟩ := C
  obtain ⟨hr, hlk, rfl⟩ := K
  intro H locs ls hP hz hS hN hn hs hL
  exact W.iret hx hb hr (fun t ht hW => ⟨_, M, rfl, hp, by rw [ht]; exact hP, fun h => by rw [ht]; exact hz h, hN, hS.F ht⟩) hS.2.2 hdg hlk
theorem z_zreturn (C : zOK X l G b cc nL own d) {v : Int32} {post : Option Value → zM → Prop} (K : zRt X (some .boolean) sh post) (hdg : decode cc pc = .ok (.ireturn, 1)) (hv : v = 0 ∨ v = 1) (hp : post (some (.int v)) M) : zW X sh M pc L [.int v] := by
  obtain ⟨p, l', e, R, s, m, args, below, meth, c, Q, n0, s0, G', b'⟩ := X
  obtain ⟨rfl, rfl, rfl, hx, hb, -⟩ := C
  obtain ⟨hr, hlk, rfl⟩ := K
  intro H locs ls hP hz hS hN hn hs hL
  exact W.zret hx hb hr (z_bool hv).1 (fun t ht hW => ⟨_, M, rfl, hp, by rw [ht]; exact hP, fun h => by rw [ht]; exact hz h, hN, hS.F ht⟩) hS.2.2 hdg hlk
theorem z_return (C : zOK X l G b cc nL own d) {post : Option Value → zM → Prop} (K : zRt X none sh post) (hdg : decode cc pc = .ok (.return_, 1)) (hp : post none M) : zW X sh M pc L [] := by
  obtain ⟨p, l', e, R, s, m, args, below, meth, c, Q, n0, s0, G', b'⟩ := X
  obtain ⟨rfl, rfl, rfl, hx, hb, -⟩ := C
  obtain ⟨hr, hlk, rfl⟩ := K
  intro H locs ls hP hz hS hN hn hs hL
  exact W.vret hx hb hr (fun t ht hW => ⟨_, M, rfl, hp, by rw [ht]; exact hP, fun h => by rw [ht]; exact hz h, hN, hS.F ht⟩) hS.2.2 hdg hlk
theorem z_areturn (C : zOK X l G b cc nL own d) {v : Nat} {rt : FieldType} {post : Option Value → zM → Prop} (K : zRt X (some rt) sh post) (hrt : (∃ n, rt = .object n) ∨ ∃ t, rt = .array t) (hdg : decode cc pc = .ok (.areturn, 1)) (hp : post (some (.ref v)) M) : zW X sh M pc L [.ref v] := by
  obtain ⟨p, l', e, R, s, m, args, below, meth, c, Q, n0, s0, G', b'⟩ := X
  obtain ⟨rfl, rfl, rfl, hx, hb, -⟩ := C
  obtain ⟨hr, hlk, rfl⟩ := K
  intro H locs ls hP hz hS hN hn hs hL
  exact W.aret hx hb hr hrt (Or.inr ⟨v, rfl⟩) (fun t ht hW => ⟨_, M, rfl, hp, by rw [ht]; exact hP, fun h => by rw [ht]; exact hz h, hN, hS.F ht⟩) hS.2.2 hdg hlk
end ZROW3
end
section
/-! CALLS -/
/-- what the tables say of a call's site -/
def zCV (own : String) (index : Nat) (y : MethodName) (cc : ByteArray) (nL : Nat) (ret : Option FieldType) (n : Nat) : Prop := Cond.code y cc nL ret ∈ zT ∧ Cond.methodLink own index y ∈ zT ∧ Cond.instanceMethod y ∈ zT ∧ Cond.selects y.cls y y ∈ zT ∧ Cond.initialized y.cls ∈ zT ∧ (y.cls ≠ "java/lang/invoke/MethodHandle" ∧ y.cls ≠ "java/lang/invoke/VarHandle" ∧ (parseMethodDescriptor y.desc).map (fun d => d.parameters.length) = some n) ∧ nL ≤ 21
def zCS (own : String) (index : Nat) (y : MethodName) (cc : ByteArray) (nL : Nat) (ret : Option FieldType) (n : Nat) : Prop := Cond.code y cc nL ret ∈ zT ∧ Cond.methodLink own index y ∈ zT ∧ Cond.static y ∈ zT ∧ Cond.initialized y.cls ∈ zT ∧ (y.cls ≠ "java/lang/invoke/MethodHandle" ∧ y.cls ≠ "java/lang/invoke/VarHandle" ∧ (parseMethodDescriptor y.desc).map (fun d => d.parameters.length) = some n) ∧ nL ≤ 21
section ZCALL
variable {X : zX} {l : Launch} {G : zG} {b : Nat} {cc : ByteArray} {nL : Nat} {own : String} {d : Nat} {sh sh' : List zS} {M : zM} {pc : Nat} {L : List (Option Value)} {st rest : List Value}
variable {y : MethodName} {cy : ByteArray} {ny ky index h : Nat} {ret : Option FieldType} {As : List Value} {post : Option Value → zM → Prop}
/-- behind a call -/
theorem zcall {p : Program} {e : Env} {R : Room} {s : State} {m : MethodId} {args : Array Value} {below : List Frame} {meth : Method} {c : Code} {Q : State → Prop} {n0 s0 : Nat} {H : Heap} {locs : List Loc} {ls : Array Slot} {av : Array Value}
    (hr : va_Run p l e R s m args below meth c H locs (sh.length - n0) (zsl sh - s0) (sh'.length - sh.length) (zsl sh' - zsl sh) (F0 m pc ls st) rest (zQ G b sh' post av) (fun q => b ≤ q)) (hle : sh.length ≤ sh'.length) (hsl : zsl sh ≤ zsl sh') (hS : va_S (fun q => b ≤ q) s.heap H locs) (hn : n0 ≤ sh.length) (hs : s0 ≤ zsl sh) (hn' : sh'.length - n0 ≤ R.cells) (hs' : zsl sh' - s0 ≤ R.slots) (hL : zLs ls c.maxLocals L)
    (kk : ∀ r M', post r M' → zW (p, l, e, R, s, m, args, below, meth, c, Q, n0, s0, G, b) sh' M' (pc + 3) L (r.toList ++ rest)) : W p l e R s m args below meth c H locs (sh.length - n0) (zsl sh - s0) Q (F0 m pc ls st) := by
  intro T hT Xs
  obtain ⟨v, st₀, t, T', L', h0, X', hL', e1, e2, ⟨r, M', hv, hp, hP, hz, hN, hF⟩, go⟩ := hr T hT Xs
  cases hv
  have hz1 : H.size ≤ T'.heap.size := by rw [e1, ← h0]; exact hF.1
  have hS' : va_S (fun q => b ≤ q) s.heap T'.heap (locs ++ L') := by
    refine ⟨Nat.le_trans hS.1 hz1, fun q h1 h2 => ?_, fun q hq => ?_⟩
    · rw [e1, hF.2 q (by rw [h0]; exact Nat.lt_of_lt_of_le h1 hS.1) h2, h0]
      exact hS.2.1 q h1 h2
    · rcases List.mem_append.mp hq with h | h
      · exact hS.2.2 q h
      · exact hL' q h
  have K := kk v M' hp T'.heap (locs ++ L') ls (by rw [e1]; exact hP) (fun h => by rw [e1]; exact hz h) hS' hN ⟨Nat.le_trans hn hle, hn'⟩ ⟨Nat.le_trans hs hsl, hs'⟩ hL
  have ec : (sh.length - n0) + (sh'.length - sh.length) = sh'.length - n0 := by omega
  have es : (zsl sh - s0) + (zsl sh' - zsl sh) = zsl sh' - s0 := by omega
  rw [ec, es] at X'
  obtain ⟨t2, a1, b1⟩ := K T' rfl X'
  exact ⟨t2, go t2 a1, b1⟩
theorem zpre {s : State} {H : Heap} {locs : List Loc} {av : List Value} (hAm : zAmb G b s) (hbz : b ≤ s.heap.size) (hP : va_P G.1 vwCl (zws sh b G.2.1 M) H) (hz : sh.length < 262 → H.size = b + sh.length) (hS : va_S (fun q => b ≤ q) s.heap H locs) (hN : zND sh) : PreS s H (zP G b sh M av) av := by
  refine ⟨zP.blind, fun U hU hW => ⟨rfl, hAm.go hW (fun q h1 h2 => by rw [hU]; exact hS.2.1 q h1 h2), by rw [hU]; exact hP, fun h => by rw [hU]; exact hz h, ?_, hN⟩⟩
  rw [hU]
  exact Nat.le_trans hbz hS.1
theorem z_callV (C : zOK X l G b cc nL own d) {k ci : Nat} {q : Nat × Nat × Nat} {fl : List (Option (Option Nat))} {T : u_T} {N : Nat} (hdg : decode cc pc = .ok (.invokevirtual index, 3)) (hw : zCV own index y cy ny ret ky) (hM : zMet l G b y cy ny ret h sh sh (.ref (b + k) :: As) M post) (hd : h + 1 ≤ d) (hsh : sh[k]? = some (q, .inl (ci, fl))) (hci : vwCl[ci]? = some (y.cls, T, N)) (hn : As.length = ky) (hst : st = As.reverse ++ .ref (b + k) :: rest) (hr : (rest.map fun v => v.category).sum ≤ 8) (kk : ∀ r M', post r M' → zW X sh M' (pc + 3) L (r.toList ++ rest)) : zW X sh M pc L st := by
  obtain ⟨p, l', e, R, s, m, args, below, meth, c, Q, n0, s0, G', b'⟩ := X
  obtain ⟨rfl, rfl, rfl, hx, hb, hml, hown, hts, hAm, hbz, hd1, hd2⟩ := C
  obtain ⟨w1, w2, w3, w4, w5, w6, w7⟩ := hw
  obtain ⟨hle, hsl, hMM⟩ := hM
  subst hst
  intro H locs ls hP hz hS hN hn' hs hL
  have hpre := zpre (av := .ref (b' + k) :: As) hAm hbz hP hz hS hN
  have hrec := va_recv hAm.1 hP hci (zws_get hsh)
  refine zcall (va_runV (C := y.cls) (As := As) (rest := rest) (n := ky) (nL := nL) ⟨hx, hb, hml, hown, hts⟩ hMM ⟨callB_of ky hts (zT_code w1) rfl rfl rfl (hts _ w5) (hts _ w2) w6 ⟨?_, ?_⟩, hts _ w3, hts _ w4⟩ ⟨hpre.1, hrec, hpre.2⟩ rfl hn (hL.1.1.trans hml) rfl ?_ hdg ⟨?_, ?_⟩) hle hsl hS hn'.1 hs.1 hn'.2 hs.2 hL kk
  · show h + 1 ≤ R.frames
    omega
  · show 8 + (ny + 11) + 40 * h ≤ R.locals
    omega
  · exact lv_room hr
  · rw [Nat.sub_self]; exact hn'.2
  · rw [Nat.sub_self]; exact hs.2
theorem z_callS (C : zOK X l G b cc nL own d) (hdg : decode cc pc = .ok (.invokestatic index, 3)) (hw : zCS own index y cy ny ret ky) (hM : zMet l G b y cy ny ret h sh sh As M post) (hd : h + 1 ≤ d) (hn : As.length = ky) (hst : st = As.reverse ++ rest) (hr : (rest.map fun v => v.category).sum ≤ 8) (kk : ∀ r M', post r M' → zW X sh M' (pc + 3) L (r.toList ++ rest)) : zW X sh M pc L st := by
  obtain ⟨p, l', e, R, s, m, args, below, meth, c, Q, n0, s0, G', b'⟩ := X
  obtain ⟨rfl, rfl, rfl, hx, hb, hml, hown, hts, hAm, hbz, hd1, hd2⟩ := C
  obtain ⟨w1, w2, w3, w5, w6, w7⟩ := hw
  obtain ⟨hle, hsl, hMM⟩ := hM
  subst hst
  intro H locs ls hP hz hS hN hn' hs hL
  have hpre := zpre (av := As) hAm hbz hP hz hS hN
  refine zcall (va_runS (As := As) (rest := rest) (n := ky) (nL := nL) ⟨hx, hb, hml, hown, hts⟩ hMM ⟨callB_of ky hts (zT_code w1) rfl rfl rfl (hts _ w5) (hts _ w2) w6 ⟨?_, ?_⟩, hts _ w3⟩ hpre rfl hn (hL.1.1.trans hml) rfl ?_ hdg ⟨?_, ?_⟩) hle hsl hS hn'.1 hs.1 hn'.2 hs.2 hL kk
  · show h + 1 ≤ R.frames
    omega
  · show 8 + (ny + 11) + 40 * h ≤ R.locals
    omega
  · exact lv_room hr
  · rw [Nat.sub_self]; exact hn'.2
  · rw [Nat.sub_self]; exact hs.2
theorem z_callVi (C : zOK X l G b cc nL own d) {k ci : Nat} {q : Nat × Nat × Nat} {fl : List (Option (Option Nat))} {T : u_T} {N : Nat} {p : Int32 → zM → Prop} (hdg : decode cc pc = .ok (.invokevirtual index, 3)) (hw : zCV own index y cy ny ret ky) (hM : zMet l G b y cy ny ret h sh sh (.ref (b + k) :: As) M (zI p)) (hd : h + 1 ≤ d) (hsh : sh[k]? = some (q, .inl (ci, fl))) (hci : vwCl[ci]? = some (y.cls, T, N)) (hn : As.length = ky) (hst : st = As.reverse ++ .ref (b + k) :: rest) (hr : (rest.map fun v => v.category).sum ≤ 8) (kk : ∀ v M', p v M' → zW X sh M' (pc + 3) L (.int v :: rest)) : zW X sh M pc L st :=
  z_callV C hdg hw hM hd hsh hci hn hst hr (fun r M' h => by obtain ⟨v, rfl, hp⟩ := h; exact kk v M' hp)
theorem z_callVv (C : zOK X l G b cc nL own d) {k ci : Nat} {q : Nat × Nat × Nat} {fl : List (Option (Option Nat))} {T : u_T} {N : Nat} {p : zM → Prop} (hdg : decode cc pc = .ok (.invokevirtual index, 3)) (hw : zCV own index y cy ny ret ky) (hM : zMet l G b y cy ny ret h sh sh (.ref (b + k) :: As) M (zV p)) (hd : h + 1 ≤ d) (hsh : sh[k]? = some (q, .inl (ci, fl))) (hci : vwCl[ci]? = some (y.cls, T, N)) (hn : As.length = ky) (hst : st = As.reverse ++ .ref (b + k) :: rest) (hr : (rest.map fun v => v.category).sum ≤ 8) (kk : ∀ M', p M' → zW X sh M' (pc + 3) L rest) : zW X sh M pc L st :=
  z_callV C hdg hw hM hd hsh hci hn hst hr (fun r M' h => by obtain ⟨rfl, hp⟩ := h; exact kk M' hp)
theorem z_callVr (C : zOK X l G b cc nL own d) {k ci : Nat} {q : Nat × Nat × Nat} {fl : List (Option (Option Nat))} {T : u_T} {N : Nat} {p : Nat → zM → Prop} (hdg : decode cc pc = .ok (.invokevirtual index, 3)) (hw : zCV own index y cy ny ret ky) (hM : zMet l G b y cy ny ret h sh sh (.ref (b + k) :: As) M (zR b p)) (hd : h + 1 ≤ d) (hsh : sh[k]? = some (q, .inl (ci, fl))) (hci : vwCl[ci]? = some (y.cls, T, N)) (hn : As.length = ky) (hst : st = As.reverse ++ .ref (b + k) :: rest) (hr : (rest.map fun v => v.category).sum ≤ 8) (kk : ∀ v M', p v M' → zW X sh M' (pc + 3) L (.ref (b + v) :: rest)) : zW X sh M pc L st :=
  z_callV C hdg hw hM hd hsh hci hn hst hr (fun r M' h => by obtain ⟨v, rfl, hp⟩ := h; exact kk v M' hp)
theorem z_callSi (C : zOK X l G b cc nL own d) {p : Int32 → zM → Prop} (hdg : decode cc pc = .ok (.invokestatic index, 3)) (hw : zCS own index y cy ny ret ky) (hM : zMet l G b y cy ny ret h sh sh As M (zI p)) (hd : h + 1 ≤ d) (hn : As.length = ky) (hst : st = As.reverse ++ rest) (hr : (rest.map fun v => v.category).sum ≤ 8) (kk : ∀ v M', p v M' → zW X sh M' (pc + 3) L (.int v :: rest)) : zW X sh M pc L st :=
  z_callS C hdg hw hM hd hn hst hr (fun r M' h => by obtain ⟨v, rfl, hp⟩ := h; exact kk v M' hp)
theorem z_callSv (C : zOK X l G b cc nL own d) {p : zM → Prop} (hdg : decode cc pc = .ok (.invokestatic index, 3)) (hw : zCS own index y cy ny ret ky) (hM : zMet l G b y cy ny ret h sh sh As M (zV p)) (hd : h + 1 ≤ d) (hn : As.length = ky) (hst : st = As.reverse ++ rest) (hr : (rest.map fun v => v.category).sum ≤ 8) (kk : ∀ M', p M' → zW X sh M' (pc + 3) L rest) : zW X sh M pc L st :=
  z_callS C hdg hw hM hd hn hst hr (fun r M' h => by obtain ⟨rfl, hp⟩ := h; exact kk M' hp)
/-- held, from a person: a nest mate's static -/
theorem z_callHeld (C : zOK X l G b cc nL RX0 d) {p : Int32 → zM → Prop} (hdg : decode cc pc = .ok (.invokestatic 44, 3)) (w1 : Cond.code yX9_held cy ny ret ∈ zT) (w3 : Cond.static yX9_held ∈ zT) (w5 : Cond.initialized RX9 ∈ zT) (w6 : ny ≤ 21) {x : Int32} (hM : zMet l G b yX9_held cy ny ret h sh sh [.int x] M (zI p)) (hd : h + 1 ≤ d) (hst : st = .int x :: rest) (hr : (rest.map fun v => v.category).sum ≤ 8) (kk : ∀ v M', p v M' → zW X sh M' (pc + 3) L (.int v :: rest)) : zW X sh M pc L st := by
  obtain ⟨q, l', e, R, s, m, args, below, meth, c, Q, n0, s0, G', b'⟩ := X
  obtain ⟨rfl, rfl, rfl, hx, hb, hml, hown, hts, hAm, hbz, hd1, hd2⟩ := C
  obtain ⟨hle, hsl, hMM⟩ := hM
  subst hst
  intro H locs ls hP hz hS hN hn' hs hL
  have hpre := zpre (av := [.int x]) hAm hbz hP hz hS hN
  refine zcall (va_runSN (As := [.int x]) (rest := rest) (n := 1) (nL := nL) (host := "MeanSafe") ⟨hx, hb, hml, hown, hts⟩ hMM ⟨va_cnB 1 hts (zT_code w1) rfl rfl rfl hAm.2.1 (hts _ w5) (by decide) ⟨?_, ?_⟩, hts _ w3, trivial⟩ hpre rfl rfl (hL.1.1.trans hml) rfl ?_ hdg ⟨?_, ?_⟩) hle hsl hS hn'.1 hs.1 hn'.2 hs.2 hL (fun r M' h => by obtain ⟨v, rfl, hp⟩ := h; exact kk v M' hp)
  · show h + 1 ≤ R.frames
    omega
  · show 8 + (ny + 11) + 40 * h ≤ R.locals
    omega
  · exact lv_room hr
  · rw [Nat.sub_self]; exact hn'.2
  · rw [Nat.sub_self]; exact hs.2
theorem z_max (C : zOK X l G b cc nL own d) (hd : 1 ≤ d) (w1 : Cond.methodLink own index Lib.Math.max.name ∈ zT) (w2 : Cond.static Lib.Math.max.name ∈ zT) (w3 : Cond.initialized "java/lang/Math" ∈ zT) (w4 : Cond.code Lib.Math.max.name Lib.Math.max.code 2 (some .int) ∈ zT) {x y : Int32} (hdg : decode cc pc = .ok (.invokestatic index, 3)) (hr : (st.map fun v => v.category).sum ≤ 8) (kk : zW X sh M (pc + 3) L (.int (if x < y then y else x) :: st)) : zW X sh M pc L (.int y :: .int x :: st) := by
  obtain ⟨q, l', e, R, s, m, args, below, meth, c, Q, n0, s0, G', b'⟩ := X
  obtain ⟨rfl, rfl, rfl, hx, hb, hml, hown, hts, hAm, hbz, hd1, hd2⟩ := C
  intro H locs ls hP hz hS hN hn hs hL
  exact va_mmax hx hb hL.1.1.symm hown (hts _ w1) (hts _ w2) (hts _ w3) (hts _ w4) (by omega) (by omega) hn.2 hs.2 hdg (kk H locs ls hP hz hS hN hn hs hL)
theorem z_min (C : zOK X l G b cc nL own d) (hd : 1 ≤ d) (w1 : Cond.methodLink own index Lib.Math.min.name ∈ zT) (w2 : Cond.static Lib.Math.min.name ∈ zT) (w3 : Cond.initialized "java/lang/Math" ∈ zT) (w4 : Cond.code Lib.Math.min.name Lib.Math.min.code 2 (some .int) ∈ zT) {x y : Int32} (hdg : decode cc pc = .ok (.invokestatic index, 3)) (hr : (st.map fun v => v.category).sum ≤ 8) (kk : zW X sh M (pc + 3) L (.int (if y < x then y else x) :: st)) : zW X sh M pc L (.int y :: .int x :: st) := by
  obtain ⟨q, l', e, R, s, m, args, below, meth, c, Q, n0, s0, G', b'⟩ := X
  obtain ⟨rfl, rfl, rfl, hx, hb, hml, hown, hts, hAm, hbz, hd1, hd2⟩ := C
  intro H locs ls hP hz hS hN hn hs hL
  exact va_mmin hx hb hL.1.1.symm hown (hts _ w1) (hts _ w2) (hts _ w3) (hts _ w4) (by omega) (by omega) hn.2 hs.2 hdg (kk H locs ls hP hz hS hN hn hs hL)
/-- System.arraycopy between two int arrays of the picture, or within one -/
def zcp (M : zM) (a i j a' i' j' sp dp n : Nat) : zM := fun x y z f => if x = a' ∧ y = i' ∧ z = j' ∧ dp ≤ f ∧ f < dp + n then M a i j (sp + (f - dp)) else M x y z f
theorem z_copy (C : zOK X l G b cc nL own d) (hd : 1 ≤ d) (hlen : 262 ≤ sh.length) (w1 : Cond.methodLink own index arraycopyName ∈ zT) (w2 : Cond.native arraycopyName ∈ zT) (w3 : Cond.static arraycopyName ∈ zT) (w4 : Cond.initialized "java/lang/System" ∈ zT) {k0 k1 a i j a' i' j' n0 n1 : Nat} {sp dp n : Int32} (hdg : decode cc pc = .ok (.invokestatic index, 3)) (hs0 : sh[k0]? = some ((a, i, j), .inr (.inl (0, n0)))) (hs1 : sh[k1]? = some ((a', i', j'), .inr (.inl (0, n1)))) (h1 : ¬ sp < 0) (h2 : ¬ dp < 0) (h3 : ¬ n < 0) (h4 : sp.toNatClampNeg + n.toNatClampNeg ≤ n0) (h5 : dp.toNatClampNeg + n.toNatClampNeg ≤ n1) (hr : (st.map fun v => v.category).sum ≤ 8)
    (kk : zW X sh (zcp M a i j a' i' j' sp.toNatClampNeg dp.toNatClampNeg n.toNatClampNeg) (pc + 3) L st) : zW X sh M pc L (.int n :: .int dp :: .ref (b + k1) :: .int sp :: .ref (b + k0) :: st) := by
  obtain ⟨q, l', e, R, s, m, args, below, meth, c, Q, m0, s0, G', b'⟩ := X
  obtain ⟨rfl, rfl, rfl, hx, hb, hml, hown, hts, hAm, hbz, hd1, hd2⟩ := C
  intro H locs ls hP hz hS hN hn hs hL
  refine va_copyi hx hb hL.1.1.symm hown (hts _ w1) (hts _ w2) (hts _ w3) (hts _ w4) hAm.1 hP (zws_D sh b' G'.2.1 M) hS k0 k1 0 0 (zws_get hs0) (zws_get hs1) rfl rfl rfl h1 h2 h3 h4 h5 (fun _ _ => rfl) (by omega) ?_ hdg (fun H1 locs1 hP1 _ hS1 => ?_)
  · have : nativeFrameWords "java/lang/System" "arraycopy" 5 ≤ 20 := by decide
    omega
  · refine kk H1 locs1 ls ?_ (fun h => absurd h (by omega)) hS1 hN hn hs hL
    have w9 : (zws sh b' G'.2.1 M).set k1 (b' + k1, zE b' G'.2.1 (zcp M a i j a' i' j' sp.toNatClampNeg dp.toNatClampNeg n.toNatClampNeg) ((a', i', j'), .inr (.inl (0, n1)))) = zws sh b' G'.2.1 (zcp M a i j a' i' j' sp.toNatClampNeg dp.toNatClampNeg n.toNatClampNeg) := by
      refine zws_set hN hs1 (fun x hx => ?_)
      funext f
      obtain ⟨x1, x2, x3⟩ := x
      simp only [zat, zcp]
      rw [if_neg]
      rintro ⟨rfl, rfl, rfl, -⟩
      exact hx rfl
    rw [← w9]
    have e9 : va_cpy (zat M (a, i, j)) (zat M (a', i', j')) sp.toNatClampNeg dp.toNatClampNeg n.toNatClampNeg = zat (zcp M a i j a' i' j' sp.toNatClampNeg dp.toNatClampNeg n.toNatClampNeg) (a', i', j') := by
      funext f
      simp [va_cpy, zat, zcp]
    rw [e9] at hP1
    exact hP1
end ZCALL
end
