-- ===== PART A: goes FIRST, ahead of the names: the tables' words, and 'selects' of the private methods out of them =====
/-- a private method of a class that the tables say can be made, by its rows of tables_1 -/
def lw_okq (q : MethodName × Nat) : Prop := (q.1.cls ≠ "java/lang/invoke/MethodHandle" ∧ q.1.cls ≠ "java/lang/invoke/VarHandle") ∧ Cond.instantiable q.1.cls q.2 ∈ tables_1 ∧ Cond.privateMethod q.1 ∈ tables_1 ∧ Cond.instanceMethod q.1 ∈ tables_1
theorem lw_p0 : lw_okq (⟨"DixonEliminator", "beginChange", "()V"⟩, 7) := ⟨⟨by decide +kernel, by decide +kernel⟩, List.mem_of_getElem? (i := 17) (by decide +kernel), List.mem_of_getElem? (i := 316) (by decide +kernel), List.mem_of_getElem? (i := 317) (by decide +kernel)⟩
theorem lw_p1 : lw_okq (⟨"DixonEliminator$History", "stateIn", "(I)LDixonEliminator$Polynomials;"⟩, 3) := ⟨⟨by decide +kernel, by decide +kernel⟩, List.mem_of_getElem? (i := 170) (by decide +kernel), List.mem_of_getElem? (i := 324) (by decide +kernel), List.mem_of_getElem? (i := 325) (by decide +kernel)⟩
theorem lw_p2 : lw_okq (⟨"DixonEliminator", "forgetResults", "()V"⟩, 7) := ⟨⟨by decide +kernel, by decide +kernel⟩, List.mem_of_getElem? (i := 17) (by decide +kernel), List.mem_of_getElem? (i := 343) (by decide +kernel), List.mem_of_getElem? (i := 344) (by decide +kernel)⟩
theorem lw_p3 : lw_okq (⟨"DixonEliminator$Text", "skipSpaces", "()V"⟩, 4) := ⟨⟨by decide +kernel, by decide +kernel⟩, List.mem_of_getElem? (i := 190) (by decide +kernel), List.mem_of_getElem? (i := 394) (by decide +kernel), List.mem_of_getElem? (i := 395) (by decide +kernel)⟩
theorem lw_p4 : lw_okq (⟨"DixonEliminator$Text", "peek", "()I"⟩, 4) := ⟨⟨by decide +kernel, by decide +kernel⟩, List.mem_of_getElem? (i := 190) (by decide +kernel), List.mem_of_getElem? (i := 398) (by decide +kernel), List.mem_of_getElem? (i := 399) (by decide +kernel)⟩
theorem lw_p5 : lw_okq (⟨"DixonEliminator$Text", "takeSign", "()I"⟩, 4) := ⟨⟨by decide +kernel, by decide +kernel⟩, List.mem_of_getElem? (i := 190) (by decide +kernel), List.mem_of_getElem? (i := 402) (by decide +kernel), List.mem_of_getElem? (i := 403) (by decide +kernel)⟩
theorem lw_p6 : lw_okq (⟨"DixonEliminator$Text", "takeTerm", "(ZI)Z"⟩, 4) := ⟨⟨by decide +kernel, by decide +kernel⟩, List.mem_of_getElem? (i := 190) (by decide +kernel), List.mem_of_getElem? (i := 406) (by decide +kernel), List.mem_of_getElem? (i := 407) (by decide +kernel)⟩
theorem lw_p7 : lw_okq (⟨"DixonEliminator$Text", "takeNumber", "()I"⟩, 4) := ⟨⟨by decide +kernel, by decide +kernel⟩, List.mem_of_getElem? (i := 190) (by decide +kernel), List.mem_of_getElem? (i := 410) (by decide +kernel), List.mem_of_getElem? (i := 411) (by decide +kernel)⟩
theorem lw_p8 : lw_okq (⟨"DixonEliminator$Text", "takeFactors", "()I"⟩, 4) := ⟨⟨by decide +kernel, by decide +kernel⟩, List.mem_of_getElem? (i := 190) (by decide +kernel), List.mem_of_getElem? (i := 417) (by decide +kernel), List.mem_of_getElem? (i := 418) (by decide +kernel)⟩
theorem lw_p9 : lw_okq (⟨"DixonEliminator$Text", "takeExponent", "()I"⟩, 4) := ⟨⟨by decide +kernel, by decide +kernel⟩, List.mem_of_getElem? (i := 190) (by decide +kernel), List.mem_of_getElem? (i := 424) (by decide +kernel), List.mem_of_getElem? (i := 425) (by decide +kernel)⟩
theorem lw_p10 : lw_okq (⟨"DixonEliminator", "noMatrix", "()Z"⟩, 7) := ⟨⟨by decide +kernel, by decide +kernel⟩, List.mem_of_getElem? (i := 17) (by decide +kernel), List.mem_of_getElem? (i := 549) (by decide +kernel), List.mem_of_getElem? (i := 550) (by decide +kernel)⟩
theorem lw_p11 : lw_okq (⟨"DixonEliminator$DixonMatrix", "multiplyAcross", "(II)Z"⟩, 8) := ⟨⟨by decide +kernel, by decide +kernel⟩, List.mem_of_getElem? (i := 46) (by decide +kernel), List.mem_of_getElem? (i := 566) (by decide +kernel), List.mem_of_getElem? (i := 567) (by decide +kernel)⟩
theorem lw_p12 : lw_okq (⟨"DixonEliminator$DixonMatrix", "closeBracket", "(I)V"⟩, 8) := ⟨⟨by decide +kernel, by decide +kernel⟩, List.mem_of_getElem? (i := 46) (by decide +kernel), List.mem_of_getElem? (i := 578) (by decide +kernel), List.mem_of_getElem? (i := 579) (by decide +kernel)⟩
theorem lw_p13 : lw_okq (⟨"DixonEliminator$DixonMatrix", "addBracket", "(III)V"⟩, 8) := ⟨⟨by decide +kernel, by decide +kernel⟩, List.mem_of_getElem? (i := 46) (by decide +kernel), List.mem_of_getElem? (i := 582) (by decide +kernel), List.mem_of_getElem? (i := 583) (by decide +kernel)⟩
theorem lw_p14 : lw_okq (⟨"DixonEliminator$DixonMatrix", "addTo", "([I)V"⟩, 8) := ⟨⟨by decide +kernel, by decide +kernel⟩, List.mem_of_getElem? (i := 46) (by decide +kernel), List.mem_of_getElem? (i := 590) (by decide +kernel), List.mem_of_getElem? (i := 591) (by decide +kernel)⟩
theorem lw_p15 : lw_okq (⟨"DixonEliminator$Span", "leadOf", "()I"⟩, 6) := ⟨⟨by decide +kernel, by decide +kernel⟩, List.mem_of_getElem? (i := 88) (by decide +kernel), List.mem_of_getElem? (i := 636) (by decide +kernel), List.mem_of_getElem? (i := 637) (by decide +kernel)⟩
def lw_privs_1 : List (MethodName × Nat) := [(⟨"DixonEliminator", "beginChange", "()V"⟩, 7), (⟨"DixonEliminator$History", "stateIn", "(I)LDixonEliminator$Polynomials;"⟩, 3), (⟨"DixonEliminator", "forgetResults", "()V"⟩, 7), (⟨"DixonEliminator$Text", "skipSpaces", "()V"⟩, 4), (⟨"DixonEliminator$Text", "peek", "()I"⟩, 4), (⟨"DixonEliminator$Text", "takeSign", "()I"⟩, 4), (⟨"DixonEliminator$Text", "takeTerm", "(ZI)Z"⟩, 4), (⟨"DixonEliminator$Text", "takeNumber", "()I"⟩, 4), (⟨"DixonEliminator$Text", "takeFactors", "()I"⟩, 4), (⟨"DixonEliminator$Text", "takeExponent", "()I"⟩, 4), (⟨"DixonEliminator", "noMatrix", "()Z"⟩, 7), (⟨"DixonEliminator$DixonMatrix", "multiplyAcross", "(II)Z"⟩, 8), (⟨"DixonEliminator$DixonMatrix", "closeBracket", "(I)V"⟩, 8), (⟨"DixonEliminator$DixonMatrix", "addBracket", "(III)V"⟩, 8), (⟨"DixonEliminator$DixonMatrix", "addTo", "([I)V"⟩, 8), (⟨"DixonEliminator$Span", "leadOf", "()I"⟩, 6)]
theorem lw_r1 : ∀ q ∈ lw_privs_1, lw_okq q := List.forall_mem_cons.mpr ⟨lw_p0, List.forall_mem_cons.mpr ⟨lw_p1, List.forall_mem_cons.mpr ⟨lw_p2, List.forall_mem_cons.mpr ⟨lw_p3, List.forall_mem_cons.mpr ⟨lw_p4, List.forall_mem_cons.mpr ⟨lw_p5, List.forall_mem_cons.mpr ⟨lw_p6, List.forall_mem_cons.mpr ⟨lw_p7, List.forall_mem_cons.mpr ⟨lw_p8, List.forall_mem_cons.mpr ⟨lw_p9, List.forall_mem_cons.mpr ⟨lw_p10, List.forall_mem_cons.mpr ⟨lw_p11, List.forall_mem_cons.mpr ⟨lw_p12, List.forall_mem_cons.mpr ⟨lw_p13, List.forall_mem_cons.mpr ⟨lw_p14, List.forall_mem_cons.mpr ⟨lw_p15, fun _ h => absurd h List.not_mem_nil⟩⟩⟩⟩⟩⟩⟩⟩⟩⟩⟩⟩⟩⟩⟩⟩
theorem lw_p16 : lw_okq (⟨"DixonEliminator$Ranks", "findDrops", "()V"⟩, 15) := ⟨⟨by decide +kernel, by decide +kernel⟩, List.mem_of_getElem? (i := 82) (by decide +kernel), List.mem_of_getElem? (i := 664) (by decide +kernel), List.mem_of_getElem? (i := 665) (by decide +kernel)⟩
theorem lw_p17 : lw_okq (⟨"DixonEliminator$Ranks", "selectRows", "()V"⟩, 15) := ⟨⟨by decide +kernel, by decide +kernel⟩, List.mem_of_getElem? (i := 82) (by decide +kernel), List.mem_of_getElem? (i := 668) (by decide +kernel), List.mem_of_getElem? (i := 669) (by decide +kernel)⟩
theorem lw_p18 : lw_okq (⟨"DixonEliminator$Ranks", "selectColumns", "()V"⟩, 15) := ⟨⟨by decide +kernel, by decide +kernel⟩, List.mem_of_getElem? (i := 82) (by decide +kernel), List.mem_of_getElem? (i := 672) (by decide +kernel), List.mem_of_getElem? (i := 673) (by decide +kernel)⟩
theorem lw_p19 : lw_okq (⟨"DixonEliminator", "form", "(Z)[I"⟩, 7) := ⟨⟨by decide +kernel, by decide +kernel⟩, List.mem_of_getElem? (i := 17) (by decide +kernel), List.mem_of_getElem? (i := 700) (by decide +kernel), List.mem_of_getElem? (i := 701) (by decide +kernel)⟩
theorem lw_p20 : lw_okq (⟨"DixonEliminator$Eliminant", "expand", "(I)V"⟩, 12) := ⟨⟨by decide +kernel, by decide +kernel⟩, List.mem_of_getElem? (i := 234) (by decide +kernel), List.mem_of_getElem? (i := 713) (by decide +kernel), List.mem_of_getElem? (i := 714) (by decide +kernel)⟩
theorem lw_p21 : lw_okq (⟨"DixonEliminator$Roots", "ordinatesOf", "(I)I"⟩, 5) := ⟨⟨by decide +kernel, by decide +kernel⟩, List.mem_of_getElem? (i := 211) (by decide +kernel), List.mem_of_getElem? (i := 733) (by decide +kernel), List.mem_of_getElem? (i := 734) (by decide +kernel)⟩
theorem lw_p22 : lw_okq (⟨"DixonEliminator$Eliminant", "divideByLeading", "(I)V"⟩, 12) := ⟨⟨by decide +kernel, by decide +kernel⟩, List.mem_of_getElem? (i := 234) (by decide +kernel), List.mem_of_getElem? (i := 751) (by decide +kernel), List.mem_of_getElem? (i := 752) (by decide +kernel)⟩
theorem lw_p23 : lw_okq (⟨"DixonEliminator", "countPairs", "()I"⟩, 7) := ⟨⟨by decide +kernel, by decide +kernel⟩, List.mem_of_getElem? (i := 17) (by decide +kernel), List.mem_of_getElem? (i := 831) (by decide +kernel), List.mem_of_getElem? (i := 832) (by decide +kernel)⟩
theorem lw_p24 : lw_okq (⟨"DixonEliminatorModel", "forgets", "()V"⟩, 41) := ⟨⟨by decide +kernel, by decide +kernel⟩, List.mem_of_getElem? (i := 854) (by decide +kernel), List.mem_of_getElem? (i := 988) (by decide +kernel), List.mem_of_getElem? (i := 989) (by decide +kernel)⟩
theorem lw_p25 : lw_okq (⟨"DixonEliminatorModel", "begins", "()V"⟩, 41) := ⟨⟨by decide +kernel, by decide +kernel⟩, List.mem_of_getElem? (i := 854) (by decide +kernel), List.mem_of_getElem? (i := 999) (by decide +kernel), List.mem_of_getElem? (i := 1000) (by decide +kernel)⟩
theorem lw_p26 : lw_okq (⟨"DixonEliminatorModel", "p", "()I"⟩, 41) := ⟨⟨by decide +kernel, by decide +kernel⟩, List.mem_of_getElem? (i := 854) (by decide +kernel), List.mem_of_getElem? (i := 1003) (by decide +kernel), List.mem_of_getElem? (i := 1004) (by decide +kernel)⟩
theorem lw_p27 : lw_okq (⟨"DixonEliminatorModel", "reads", "()I"⟩, 41) := ⟨⟨by decide +kernel, by decide +kernel⟩, List.mem_of_getElem? (i := 854) (by decide +kernel), List.mem_of_getElem? (i := 1019) (by decide +kernel), List.mem_of_getElem? (i := 1020) (by decide +kernel)⟩
theorem lw_p28 : lw_okq (⟨"DixonEliminatorModel", "skips", "()V"⟩, 41) := ⟨⟨by decide +kernel, by decide +kernel⟩, List.mem_of_getElem? (i := 854) (by decide +kernel), List.mem_of_getElem? (i := 1023) (by decide +kernel), List.mem_of_getElem? (i := 1024) (by decide +kernel)⟩
theorem lw_p29 : lw_okq (⟨"DixonEliminatorModel", "here", "()I"⟩, 41) := ⟨⟨by decide +kernel, by decide +kernel⟩, List.mem_of_getElem? (i := 854) (by decide +kernel), List.mem_of_getElem? (i := 1027) (by decide +kernel), List.mem_of_getElem? (i := 1028) (by decide +kernel)⟩
theorem lw_p30 : lw_okq (⟨"DixonEliminatorModel", "readsTerm", "(I)V"⟩, 41) := ⟨⟨by decide +kernel, by decide +kernel⟩, List.mem_of_getElem? (i := 854) (by decide +kernel), List.mem_of_getElem? (i := 1031) (by decide +kernel), List.mem_of_getElem? (i := 1032) (by decide +kernel)⟩
theorem lw_p31 : lw_okq (⟨"DixonEliminatorModel", "isDigit", "()Z"⟩, 41) := ⟨⟨by decide +kernel, by decide +kernel⟩, List.mem_of_getElem? (i := 854) (by decide +kernel), List.mem_of_getElem? (i := 1035) (by decide +kernel), List.mem_of_getElem? (i := 1036) (by decide +kernel)⟩
def lw_privs_2 : List (MethodName × Nat) := [(⟨"DixonEliminator$Ranks", "findDrops", "()V"⟩, 15), (⟨"DixonEliminator$Ranks", "selectRows", "()V"⟩, 15), (⟨"DixonEliminator$Ranks", "selectColumns", "()V"⟩, 15), (⟨"DixonEliminator", "form", "(Z)[I"⟩, 7), (⟨"DixonEliminator$Eliminant", "expand", "(I)V"⟩, 12), (⟨"DixonEliminator$Roots", "ordinatesOf", "(I)I"⟩, 5), (⟨"DixonEliminator$Eliminant", "divideByLeading", "(I)V"⟩, 12), (⟨"DixonEliminator", "countPairs", "()I"⟩, 7), (⟨"DixonEliminatorModel", "forgets", "()V"⟩, 41), (⟨"DixonEliminatorModel", "begins", "()V"⟩, 41), (⟨"DixonEliminatorModel", "p", "()I"⟩, 41), (⟨"DixonEliminatorModel", "reads", "()I"⟩, 41), (⟨"DixonEliminatorModel", "skips", "()V"⟩, 41), (⟨"DixonEliminatorModel", "here", "()I"⟩, 41), (⟨"DixonEliminatorModel", "readsTerm", "(I)V"⟩, 41), (⟨"DixonEliminatorModel", "isDigit", "()Z"⟩, 41)]
theorem lw_r2 : ∀ q ∈ lw_privs_2, lw_okq q := List.forall_mem_cons.mpr ⟨lw_p16, List.forall_mem_cons.mpr ⟨lw_p17, List.forall_mem_cons.mpr ⟨lw_p18, List.forall_mem_cons.mpr ⟨lw_p19, List.forall_mem_cons.mpr ⟨lw_p20, List.forall_mem_cons.mpr ⟨lw_p21, List.forall_mem_cons.mpr ⟨lw_p22, List.forall_mem_cons.mpr ⟨lw_p23, List.forall_mem_cons.mpr ⟨lw_p24, List.forall_mem_cons.mpr ⟨lw_p25, List.forall_mem_cons.mpr ⟨lw_p26, List.forall_mem_cons.mpr ⟨lw_p27, List.forall_mem_cons.mpr ⟨lw_p28, List.forall_mem_cons.mpr ⟨lw_p29, List.forall_mem_cons.mpr ⟨lw_p30, List.forall_mem_cons.mpr ⟨lw_p31, fun _ h => absurd h List.not_mem_nil⟩⟩⟩⟩⟩⟩⟩⟩⟩⟩⟩⟩⟩⟩⟩⟩
theorem lw_p32 : lw_okq (⟨"DixonEliminatorModel", "mod", "(I)I"⟩, 41) := ⟨⟨by decide +kernel, by decide +kernel⟩, List.mem_of_getElem? (i := 854) (by decide +kernel), List.mem_of_getElem? (i := 1039) (by decide +kernel), List.mem_of_getElem? (i := 1040) (by decide +kernel)⟩
theorem lw_p33 : lw_okq (⟨"DixonEliminatorModel", "termsOf", "(I)I"⟩, 41) := ⟨⟨by decide +kernel, by decide +kernel⟩, List.mem_of_getElem? (i := 854) (by decide +kernel), List.mem_of_getElem? (i := 1043) (by decide +kernel), List.mem_of_getElem? (i := 1044) (by decide +kernel)⟩
theorem lw_p34 : lw_okq (⟨"DixonEliminatorModel", "isNumber", "(I)Z"⟩, 41) := ⟨⟨by decide +kernel, by decide +kernel⟩, List.mem_of_getElem? (i := 854) (by decide +kernel), List.mem_of_getElem? (i := 1054) (by decide +kernel), List.mem_of_getElem? (i := 1055) (by decide +kernel)⟩
theorem lw_p35 : lw_okq (⟨"DixonEliminatorModel", "of", "(IIII)I"⟩, 41) := ⟨⟨by decide +kernel, by decide +kernel⟩, List.mem_of_getElem? (i := 854) (by decide +kernel), List.mem_of_getElem? (i := 1058) (by decide +kernel), List.mem_of_getElem? (i := 1059) (by decide +kernel)⟩
theorem lw_p36 : lw_okq (⟨"DixonEliminatorModel", "terms", "()I"⟩, 41) := ⟨⟨by decide +kernel, by decide +kernel⟩, List.mem_of_getElem? (i := 854) (by decide +kernel), List.mem_of_getElem? (i := 1074) (by decide +kernel), List.mem_of_getElem? (i := 1075) (by decide +kernel)⟩
theorem lw_p37 : lw_okq (⟨"DixonEliminatorModel", "valueOf", "(IIII)I"⟩, 41) := ⟨⟨by decide +kernel, by decide +kernel⟩, List.mem_of_getElem? (i := 854) (by decide +kernel), List.mem_of_getElem? (i := 1082) (by decide +kernel), List.mem_of_getElem? (i := 1083) (by decide +kernel)⟩
theorem lw_p38 : lw_okq (⟨"DixonEliminatorModel", "power", "(II)I"⟩, 41) := ⟨⟨by decide +kernel, by decide +kernel⟩, List.mem_of_getElem? (i := 854) (by decide +kernel), List.mem_of_getElem? (i := 1086) (by decide +kernel), List.mem_of_getElem? (i := 1087) (by decide +kernel)⟩
theorem lw_p39 : lw_okq (⟨"DixonEliminatorModel", "degreeOf", "(II)I"⟩, 41) := ⟨⟨by decide +kernel, by decide +kernel⟩, List.mem_of_getElem? (i := 854) (by decide +kernel), List.mem_of_getElem? (i := 1110) (by decide +kernel), List.mem_of_getElem? (i := 1111) (by decide +kernel)⟩
theorem lw_p40 : lw_okq (⟨"DixonEliminatorModel", "cutDegree", "(III)I"⟩, 41) := ⟨⟨by decide +kernel, by decide +kernel⟩, List.mem_of_getElem? (i := 854) (by decide +kernel), List.mem_of_getElem? (i := 1118) (by decide +kernel), List.mem_of_getElem? (i := 1119) (by decide +kernel)⟩
theorem lw_p41 : lw_okq (⟨"DixonEliminatorModel", "cut", "(IIII)I"⟩, 41) := ⟨⟨by decide +kernel, by decide +kernel⟩, List.mem_of_getElem? (i := 854) (by decide +kernel), List.mem_of_getElem? (i := 1122) (by decide +kernel), List.mem_of_getElem? (i := 1123) (by decide +kernel)⟩
theorem lw_p42 : lw_okq (⟨"DixonEliminatorModel", "isMatrix", "()Z"⟩, 41) := ⟨⟨by decide +kernel, by decide +kernel⟩, List.mem_of_getElem? (i := 854) (by decide +kernel), List.mem_of_getElem? (i := 1134) (by decide +kernel), List.mem_of_getElem? (i := 1135) (by decide +kernel)⟩
theorem lw_p43 : lw_okq (⟨"DixonEliminatorModel", "greatest", "(I)I"⟩, 41) := ⟨⟨by decide +kernel, by decide +kernel⟩, List.mem_of_getElem? (i := 854) (by decide +kernel), List.mem_of_getElem? (i := 1138) (by decide +kernel), List.mem_of_getElem? (i := 1139) (by decide +kernel)⟩
theorem lw_p44 : lw_okq (⟨"DixonEliminatorModel", "has", "()Z"⟩, 41) := ⟨⟨by decide +kernel, by decide +kernel⟩, List.mem_of_getElem? (i := 854) (by decide +kernel), List.mem_of_getElem? (i := 1146) (by decide +kernel), List.mem_of_getElem? (i := 1147) (by decide +kernel)⟩
theorem lw_p45 : lw_okq (⟨"DixonEliminatorModel", "knows", "()V"⟩, 41) := ⟨⟨by decide +kernel, by decide +kernel⟩, List.mem_of_getElem? (i := 854) (by decide +kernel), List.mem_of_getElem? (i := 1150) (by decide +kernel), List.mem_of_getElem? (i := 1151) (by decide +kernel)⟩
theorem lw_p46 : lw_okq (⟨"DixonEliminatorModel", "findsDixon", "()V"⟩, 41) := ⟨⟨by decide +kernel, by decide +kernel⟩, List.mem_of_getElem? (i := 854) (by decide +kernel), List.mem_of_getElem? (i := 1154) (by decide +kernel), List.mem_of_getElem? (i := 1155) (by decide +kernel)⟩
theorem lw_p47 : lw_okq (⟨"DixonEliminatorModel", "differsInX", "(I)V"⟩, 41) := ⟨⟨by decide +kernel, by decide +kernel⟩, List.mem_of_getElem? (i := 854) (by decide +kernel), List.mem_of_getElem? (i := 1158) (by decide +kernel), List.mem_of_getElem? (i := 1159) (by decide +kernel)⟩
def lw_privs_3 : List (MethodName × Nat) := [(⟨"DixonEliminatorModel", "mod", "(I)I"⟩, 41), (⟨"DixonEliminatorModel", "termsOf", "(I)I"⟩, 41), (⟨"DixonEliminatorModel", "isNumber", "(I)Z"⟩, 41), (⟨"DixonEliminatorModel", "of", "(IIII)I"⟩, 41), (⟨"DixonEliminatorModel", "terms", "()I"⟩, 41), (⟨"DixonEliminatorModel", "valueOf", "(IIII)I"⟩, 41), (⟨"DixonEliminatorModel", "power", "(II)I"⟩, 41), (⟨"DixonEliminatorModel", "degreeOf", "(II)I"⟩, 41), (⟨"DixonEliminatorModel", "cutDegree", "(III)I"⟩, 41), (⟨"DixonEliminatorModel", "cut", "(IIII)I"⟩, 41), (⟨"DixonEliminatorModel", "isMatrix", "()Z"⟩, 41), (⟨"DixonEliminatorModel", "greatest", "(I)I"⟩, 41), (⟨"DixonEliminatorModel", "has", "()Z"⟩, 41), (⟨"DixonEliminatorModel", "knows", "()V"⟩, 41), (⟨"DixonEliminatorModel", "findsDixon", "()V"⟩, 41), (⟨"DixonEliminatorModel", "differsInX", "(I)V"⟩, 41)]
theorem lw_r3 : ∀ q ∈ lw_privs_3, lw_okq q := List.forall_mem_cons.mpr ⟨lw_p32, List.forall_mem_cons.mpr ⟨lw_p33, List.forall_mem_cons.mpr ⟨lw_p34, List.forall_mem_cons.mpr ⟨lw_p35, List.forall_mem_cons.mpr ⟨lw_p36, List.forall_mem_cons.mpr ⟨lw_p37, List.forall_mem_cons.mpr ⟨lw_p38, List.forall_mem_cons.mpr ⟨lw_p39, List.forall_mem_cons.mpr ⟨lw_p40, List.forall_mem_cons.mpr ⟨lw_p41, List.forall_mem_cons.mpr ⟨lw_p42, List.forall_mem_cons.mpr ⟨lw_p43, List.forall_mem_cons.mpr ⟨lw_p44, List.forall_mem_cons.mpr ⟨lw_p45, List.forall_mem_cons.mpr ⟨lw_p46, List.forall_mem_cons.mpr ⟨lw_p47, fun _ h => absurd h List.not_mem_nil⟩⟩⟩⟩⟩⟩⟩⟩⟩⟩⟩⟩⟩⟩⟩⟩
theorem lw_p48 : lw_okq (⟨"DixonEliminatorModel", "differsInY", "(I)V"⟩, 41) := ⟨⟨by decide +kernel, by decide +kernel⟩, List.mem_of_getElem? (i := 854) (by decide +kernel), List.mem_of_getElem? (i := 1162) (by decide +kernel), List.mem_of_getElem? (i := 1163) (by decide +kernel)⟩
theorem lw_p49 : lw_okq (⟨"DixonEliminatorModel", "multiplies", "(III)V"⟩, 41) := ⟨⟨by decide +kernel, by decide +kernel⟩, List.mem_of_getElem? (i := 854) (by decide +kernel), List.mem_of_getElem? (i := 1166) (by decide +kernel), List.mem_of_getElem? (i := 1167) (by decide +kernel)⟩
theorem lw_p50 : lw_okq (⟨"DixonEliminatorModel", "addsProduct", "(I)V"⟩, 41) := ⟨⟨by decide +kernel, by decide +kernel⟩, List.mem_of_getElem? (i := 854) (by decide +kernel), List.mem_of_getElem? (i := 1170) (by decide +kernel), List.mem_of_getElem? (i := 1171) (by decide +kernel)⟩
theorem lw_p51 : lw_okq (⟨"DixonEliminatorModel", "findsRanks", "()V"⟩, 41) := ⟨⟨by decide +kernel, by decide +kernel⟩, List.mem_of_getElem? (i := 854) (by decide +kernel), List.mem_of_getElem? (i := 1174) (by decide +kernel), List.mem_of_getElem? (i := 1175) (by decide +kernel)⟩
theorem lw_p52 : lw_okq (⟨"DixonEliminatorModel", "lays", "(IZ)V"⟩, 41) := ⟨⟨by decide +kernel, by decide +kernel⟩, List.mem_of_getElem? (i := 854) (by decide +kernel), List.mem_of_getElem? (i := 1178) (by decide +kernel), List.mem_of_getElem? (i := 1179) (by decide +kernel)⟩
theorem lw_p53 : lw_okq (⟨"DixonEliminatorModel", "entryValue", "(III)I"⟩, 41) := ⟨⟨by decide +kernel, by decide +kernel⟩, List.mem_of_getElem? (i := 854) (by decide +kernel), List.mem_of_getElem? (i := 1182) (by decide +kernel), List.mem_of_getElem? (i := 1183) (by decide +kernel)⟩
theorem lw_p54 : lw_okq (⟨"DixonEliminatorModel", "independent", "(I)I"⟩, 41) := ⟨⟨by decide +kernel, by decide +kernel⟩, List.mem_of_getElem? (i := 854) (by decide +kernel), List.mem_of_getElem? (i := 1186) (by decide +kernel), List.mem_of_getElem? (i := 1187) (by decide +kernel)⟩
theorem lw_p55 : lw_okq (⟨"DixonEliminatorModel", "keeps", "(I)Z"⟩, 41) := ⟨⟨by decide +kernel, by decide +kernel⟩, List.mem_of_getElem? (i := 854) (by decide +kernel), List.mem_of_getElem? (i := 1190) (by decide +kernel), List.mem_of_getElem? (i := 1191) (by decide +kernel)⟩
theorem lw_p56 : lw_okq (⟨"DixonEliminatorModel", "inverse", "(I)I"⟩, 41) := ⟨⟨by decide +kernel, by decide +kernel⟩, List.mem_of_getElem? (i := 854) (by decide +kernel), List.mem_of_getElem? (i := 1194) (by decide +kernel), List.mem_of_getElem? (i := 1195) (by decide +kernel)⟩
theorem lw_p57 : lw_okq (⟨"DixonEliminatorModel", "findsEliminant", "()V"⟩, 41) := ⟨⟨by decide +kernel, by decide +kernel⟩, List.mem_of_getElem? (i := 854) (by decide +kernel), List.mem_of_getElem? (i := 1201) (by decide +kernel), List.mem_of_getElem? (i := 1202) (by decide +kernel)⟩
theorem lw_p58 : lw_okq (⟨"DixonEliminatorModel", "findsPart", "(I)V"⟩, 41) := ⟨⟨by decide +kernel, by decide +kernel⟩, List.mem_of_getElem? (i := 854) (by decide +kernel), List.mem_of_getElem? (i := 1205) (by decide +kernel), List.mem_of_getElem? (i := 1206) (by decide +kernel)⟩
theorem lw_p59 : lw_okq (⟨"DixonEliminatorModel", "reduces", "()V"⟩, 41) := ⟨⟨by decide +kernel, by decide +kernel⟩, List.mem_of_getElem? (i := 854) (by decide +kernel), List.mem_of_getElem? (i := 1212) (by decide +kernel), List.mem_of_getElem? (i := 1213) (by decide +kernel)⟩
theorem lw_p60 : lw_okq (⟨"DixonEliminatorModel", "knowsRoots", "()V"⟩, 41) := ⟨⟨by decide +kernel, by decide +kernel⟩, List.mem_of_getElem? (i := 854) (by decide +kernel), List.mem_of_getElem? (i := 1216) (by decide +kernel), List.mem_of_getElem? (i := 1217) (by decide +kernel)⟩
theorem lw_p61 : lw_okq (⟨"DixonEliminatorModel", "roots", "(II)I"⟩, 41) := ⟨⟨by decide +kernel, by decide +kernel⟩, List.mem_of_getElem? (i := 854) (by decide +kernel), List.mem_of_getElem? (i := 1220) (by decide +kernel), List.mem_of_getElem? (i := 1221) (by decide +kernel)⟩
theorem lw_p62 : lw_okq (⟨"DixonEliminatorModel", "valueAt", "([II)I"⟩, 41) := ⟨⟨by decide +kernel, by decide +kernel⟩, List.mem_of_getElem? (i := 854) (by decide +kernel), List.mem_of_getElem? (i := 1224) (by decide +kernel), List.mem_of_getElem? (i := 1225) (by decide +kernel)⟩
theorem lw_p63 : lw_okq (⟨"DixonEliminatorModel", "divides", "([II)V"⟩, 41) := ⟨⟨by decide +kernel, by decide +kernel⟩, List.mem_of_getElem? (i := 854) (by decide +kernel), List.mem_of_getElem? (i := 1228) (by decide +kernel), List.mem_of_getElem? (i := 1229) (by decide +kernel)⟩
def lw_privs_4 : List (MethodName × Nat) := [(⟨"DixonEliminatorModel", "differsInY", "(I)V"⟩, 41), (⟨"DixonEliminatorModel", "multiplies", "(III)V"⟩, 41), (⟨"DixonEliminatorModel", "addsProduct", "(I)V"⟩, 41), (⟨"DixonEliminatorModel", "findsRanks", "()V"⟩, 41), (⟨"DixonEliminatorModel", "lays", "(IZ)V"⟩, 41), (⟨"DixonEliminatorModel", "entryValue", "(III)I"⟩, 41), (⟨"DixonEliminatorModel", "independent", "(I)I"⟩, 41), (⟨"DixonEliminatorModel", "keeps", "(I)Z"⟩, 41), (⟨"DixonEliminatorModel", "inverse", "(I)I"⟩, 41), (⟨"DixonEliminatorModel", "findsEliminant", "()V"⟩, 41), (⟨"DixonEliminatorModel", "findsPart", "(I)V"⟩, 41), (⟨"DixonEliminatorModel", "reduces", "()V"⟩, 41), (⟨"DixonEliminatorModel", "knowsRoots", "()V"⟩, 41), (⟨"DixonEliminatorModel", "roots", "(II)I"⟩, 41), (⟨"DixonEliminatorModel", "valueAt", "([II)I"⟩, 41), (⟨"DixonEliminatorModel", "divides", "([II)V"⟩, 41)]
theorem lw_r4 : ∀ q ∈ lw_privs_4, lw_okq q := List.forall_mem_cons.mpr ⟨lw_p48, List.forall_mem_cons.mpr ⟨lw_p49, List.forall_mem_cons.mpr ⟨lw_p50, List.forall_mem_cons.mpr ⟨lw_p51, List.forall_mem_cons.mpr ⟨lw_p52, List.forall_mem_cons.mpr ⟨lw_p53, List.forall_mem_cons.mpr ⟨lw_p54, List.forall_mem_cons.mpr ⟨lw_p55, List.forall_mem_cons.mpr ⟨lw_p56, List.forall_mem_cons.mpr ⟨lw_p57, List.forall_mem_cons.mpr ⟨lw_p58, List.forall_mem_cons.mpr ⟨lw_p59, List.forall_mem_cons.mpr ⟨lw_p60, List.forall_mem_cons.mpr ⟨lw_p61, List.forall_mem_cons.mpr ⟨lw_p62, List.forall_mem_cons.mpr ⟨lw_p63, fun _ h => absurd h List.not_mem_nil⟩⟩⟩⟩⟩⟩⟩⟩⟩⟩⟩⟩⟩⟩⟩⟩
theorem lw_p64 : lw_okq (⟨"DixonEliminatorModel", "isCell", "(II)Z"⟩, 41) := ⟨⟨by decide +kernel, by decide +kernel⟩, List.mem_of_getElem? (i := 854) (by decide +kernel), List.mem_of_getElem? (i := 1235) (by decide +kernel), List.mem_of_getElem? (i := 1236) (by decide +kernel)⟩
theorem lw_p65 : lw_okq (⟨"DixonEliminatorModel", "recoveredAt", "(II)I"⟩, 41) := ⟨⟨by decide +kernel, by decide +kernel⟩, List.mem_of_getElem? (i := 854) (by decide +kernel), List.mem_of_getElem? (i := 1307) (by decide +kernel), List.mem_of_getElem? (i := 1308) (by decide +kernel)⟩
theorem lw_p66 : lw_okq (⟨"DixonEliminatorModel", "findsKernel", "(I)V"⟩, 41) := ⟨⟨by decide +kernel, by decide +kernel⟩, List.mem_of_getElem? (i := 854) (by decide +kernel), List.mem_of_getElem? (i := 1311) (by decide +kernel), List.mem_of_getElem? (i := 1312) (by decide +kernel)⟩
theorem lw_p67 : lw_okq (⟨"DixonEliminatorModel", "exchanges", "(II)V"⟩, 41) := ⟨⟨by decide +kernel, by decide +kernel⟩, List.mem_of_getElem? (i := 854) (by decide +kernel), List.mem_of_getElem? (i := 1315) (by decide +kernel), List.mem_of_getElem? (i := 1316) (by decide +kernel)⟩
theorem lw_p68 : lw_okq (⟨"DixonEliminatorModel", "clears", "(II)V"⟩, 41) := ⟨⟨by decide +kernel, by decide +kernel⟩, List.mem_of_getElem? (i := 854) (by decide +kernel), List.mem_of_getElem? (i := 1319) (by decide +kernel), List.mem_of_getElem? (i := 1320) (by decide +kernel)⟩
theorem lw_p69 : lw_okq (⟨"DixonEliminatorModel", "isConfirmed", "(I)I"⟩, 41) := ⟨⟨by decide +kernel, by decide +kernel⟩, List.mem_of_getElem? (i := 854) (by decide +kernel), List.mem_of_getElem? (i := 1327) (by decide +kernel), List.mem_of_getElem? (i := 1328) (by decide +kernel)⟩
theorem lw_p70 : lw_okq (⟨"DixonEliminatorModel", "mixes", "(I)V"⟩, 41) := ⟨⟨by decide +kernel, by decide +kernel⟩, List.mem_of_getElem? (i := 854) (by decide +kernel), List.mem_of_getElem? (i := 1341) (by decide +kernel), List.mem_of_getElem? (i := 1342) (by decide +kernel)⟩
theorem lw_p71 : lw_okq (⟨"DixonEliminatorModel", "mixesPoly", "(Z)V"⟩, 41) := ⟨⟨by decide +kernel, by decide +kernel⟩, List.mem_of_getElem? (i := 854) (by decide +kernel), List.mem_of_getElem? (i := 1350) (by decide +kernel), List.mem_of_getElem? (i := 1351) (by decide +kernel)⟩
def lw_privs_5 : List (MethodName × Nat) := [(⟨"DixonEliminatorModel", "isCell", "(II)Z"⟩, 41), (⟨"DixonEliminatorModel", "recoveredAt", "(II)I"⟩, 41), (⟨"DixonEliminatorModel", "findsKernel", "(I)V"⟩, 41), (⟨"DixonEliminatorModel", "exchanges", "(II)V"⟩, 41), (⟨"DixonEliminatorModel", "clears", "(II)V"⟩, 41), (⟨"DixonEliminatorModel", "isConfirmed", "(I)I"⟩, 41), (⟨"DixonEliminatorModel", "mixes", "(I)V"⟩, 41), (⟨"DixonEliminatorModel", "mixesPoly", "(Z)V"⟩, 41)]
theorem lw_r5 : ∀ q ∈ lw_privs_5, lw_okq q := List.forall_mem_cons.mpr ⟨lw_p64, List.forall_mem_cons.mpr ⟨lw_p65, List.forall_mem_cons.mpr ⟨lw_p66, List.forall_mem_cons.mpr ⟨lw_p67, List.forall_mem_cons.mpr ⟨lw_p68, List.forall_mem_cons.mpr ⟨lw_p69, List.forall_mem_cons.mpr ⟨lw_p70, List.forall_mem_cons.mpr ⟨lw_p71, fun _ h => absurd h List.not_mem_nil⟩⟩⟩⟩⟩⟩⟩⟩
def lw_privs : List (MethodName × Nat) := lw_privs_1 ++ (lw_privs_2 ++ (lw_privs_3 ++ (lw_privs_4 ++ (lw_privs_5))))
def lw_tbl : List Cond := k2_sels lw_privs ++ tables_1
theorem lw_privs_ok : ∀ q ∈ lw_privs, lw_okq q := by
  show ∀ q ∈ lw_privs_1 ++ (lw_privs_2 ++ (lw_privs_3 ++ (lw_privs_4 ++ (lw_privs_5)))), lw_okq q
  exact List.forall_mem_append.mpr ⟨lw_r1, List.forall_mem_append.mpr ⟨lw_r2, List.forall_mem_append.mpr ⟨lw_r3, List.forall_mem_append.mpr ⟨lw_r4, lw_r5⟩⟩⟩⟩

def RX0 : String := "DixonEliminator$DixonMatrix"
def TX0 : u_T := fun k => match k with
  | 0 => ("DixonEliminator$DixonMatrix", "m", "I", false)
  | 1 => ("DixonEliminator$DixonMatrix", "n", "I", false)
  | 2 => ("DixonEliminator$DixonMatrix", "side", "I", false)
  | 3 => ("DixonEliminator$DixonMatrix", "ready", "Z", false)
  | 4 => ("DixonEliminator$DixonMatrix", "polynomials", "LDixonEliminator$Polynomials;", true)
  | 5 => ("DixonEliminator$DixonMatrix", "entries", "[[I", true)
  | 6 => ("DixonEliminator$DixonMatrix", "cross", "[[I", true)
  | _ => ("DixonEliminator$DixonMatrix", "bracket", "[I", true)
def tyX0 : Nat → FieldType := fun k => match k with
  | 0 => .int
  | 1 => .int
  | 2 => .int
  | 3 => .boolean
  | 4 => .object "DixonEliminator$Polynomials"
  | 5 => .array (.array .int)
  | 6 => .array (.array .int)
  | _ => .array .int
theorem nmX0 : ∀ a, a < 8 → ∀ b, b < 8 → a ≠ b → (TX0 a).2.1 ≠ (TX0 b).2.1 := by decide +kernel
theorem tyX0_ok : ∀ k, k < 8 → parseFieldDescriptor (TX0 k).2.2.1 = some (tyX0 k) := by decide +kernel
abbrev cX0_init : ByteArray := prog_2_method_1_code
def yX0_init : MethodName := ⟨RX0, "<init>", "(LDixonEliminator$Polynomials;)V"⟩
abbrev cX0_forget : ByteArray := prog_2_method_2_code
def yX0_forget : MethodName := ⟨RX0, "forget", "()V"⟩
abbrev cX0_at : ByteArray := prog_2_method_3_code
def yX0_at : MethodName := ⟨RX0, "at", "(II)[I"⟩
abbrev cX0_termAt : ByteArray := prog_2_method_4_code
def yX0_termAt : MethodName := ⟨RX0, "termAt", "(III)I"⟩
abbrev cX0_measure : ByteArray := prog_2_method_5_code
def yX0_measure : MethodName := ⟨RX0, "measure", "()V"⟩
abbrev cX0_fill : ByteArray := prog_2_method_6_code
def yX0_fill : MethodName := ⟨RX0, "fill", "()V"⟩
abbrev cX0_multiplyAcross : ByteArray := prog_2_method_7_code
def yX0_multiplyAcross : MethodName := ⟨RX0, "multiplyAcross", "(II)Z"⟩
abbrev cX0_addCrossTerms : ByteArray := prog_2_method_8_code
def yX0_addCrossTerms : MethodName := ⟨RX0, "addCrossTerms", "([I[II[III)V"⟩
abbrev cX0_closeBracket : ByteArray := prog_2_method_9_code
def yX0_closeBracket : MethodName := ⟨RX0, "closeBracket", "(I)V"⟩
abbrev cX0_addBracket : ByteArray := prog_2_method_10_code
def yX0_addBracket : MethodName := ⟨RX0, "addBracket", "(III)V"⟩
abbrev cX0_addTo : ByteArray := prog_2_method_11_code
def yX0_addTo : MethodName := ⟨RX0, "addTo", "([I)V"⟩
abbrev cX0_writeRow : ByteArray := prog_2_method_12_code
def yX0_writeRow : MethodName := ⟨RX0, "writeRow", "(II[I)V"⟩
abbrev cX0_writeColumn : ByteArray := prog_2_method_13_code
def yX0_writeColumn : MethodName := ⟨RX0, "writeColumn", "(II[I)V"⟩
def RX1 : String := "DixonEliminator$Eliminant"
def TX1 : u_T := fun k => match k with
  | 0 => ("DixonEliminator$Eliminant", "whole", "[I", true)
  | 1 => ("DixonEliminator$Eliminant", "rest", "[I", true)
  | 2 => ("DixonEliminator$Eliminant", "extraneousSet", "I", false)
  | 3 => ("DixonEliminator$Eliminant", "polynomials", "LDixonEliminator$Polynomials;", true)
  | 4 => ("DixonEliminator$Eliminant", "matrix", "LDixonEliminator$DixonMatrix;", true)
  | 5 => ("DixonEliminator$Eliminant", "ranks", "LDixonEliminator$Ranks;", true)
  | 6 => ("DixonEliminator$Eliminant", "quotient", "[I", true)
  | 7 => ("DixonEliminator$Eliminant", "rows", "[I", true)
  | 8 => ("DixonEliminator$Eliminant", "columns", "[I", true)
  | 9 => ("DixonEliminator$Eliminant", "minors", "[[I", true)
  | 10 => ("DixonEliminator$Eliminant", "computed", "Z", false)
  | _ => ("DixonEliminator$Eliminant", "cleared", "Z", false)
def tyX1 : Nat → FieldType := fun k => match k with
  | 0 => .array .int
  | 1 => .array .int
  | 2 => .int
  | 3 => .object "DixonEliminator$Polynomials"
  | 4 => .object "DixonEliminator$DixonMatrix"
  | 5 => .object "DixonEliminator$Ranks"
  | 6 => .array .int
  | 7 => .array .int
  | 8 => .array .int
  | 9 => .array (.array .int)
  | 10 => .boolean
  | _ => .boolean
theorem nmX1 : ∀ a, a < 12 → ∀ b, b < 12 → a ≠ b → (TX1 a).2.1 ≠ (TX1 b).2.1 := by decide +kernel
theorem tyX1_ok : ∀ k, k < 12 → parseFieldDescriptor (TX1 k).2.2.1 = some (tyX1 k) := by decide +kernel
abbrev cX1_init : ByteArray := prog_3_method_1_code
def yX1_init : MethodName := ⟨RX1, "<init>", "(LDixonEliminator$Polynomials;LDixonEliminator$DixonMatrix;LDixonEliminator$Ranks;)V"⟩
abbrev cX1_forget : ByteArray := prog_3_method_2_code
def yX1_forget : MethodName := ⟨RX1, "forget", "()V"⟩
abbrev cX1_compute : ByteArray := prog_3_method_3_code
def yX1_compute : MethodName := ⟨RX1, "compute", "()V"⟩
abbrev cX1_listMembers : ByteArray := prog_3_method_4_code
def yX1_listMembers : MethodName := ⟨RX1, "listMembers", "(I[I)I"⟩
abbrev cX1_expand : ByteArray := prog_3_method_5_code
def yX1_expand : MethodName := ⟨RX1, "expand", "(I)V"⟩
abbrev cX1_multiplicityOf : ByteArray := prog_3_method_6_code
def yX1_multiplicityOf : MethodName := ⟨RX1, "multiplicityOf", "(I)I"⟩
abbrev cX1_reduce : ByteArray := prog_3_method_7_code
def yX1_reduce : MethodName := ⟨RX1, "reduce", "(LDixonEliminator$Roots;)V"⟩
abbrev cX1_divideByLeading : ByteArray := prog_3_method_8_code
def yX1_divideByLeading : MethodName := ⟨RX1, "divideByLeading", "(I)V"⟩
def RX2 : String := "DixonEliminator$History"
def TX2 : u_T := fun k => match k with
  | 0 => ("DixonEliminator$History", "held", "I", false)
  | 1 => ("DixonEliminator$History", "next", "I", false)
  | _ => ("DixonEliminator$History", "states", "[LDixonEliminator$Polynomials;", true)
def tyX2 : Nat → FieldType := fun k => match k with
  | 0 => .int
  | 1 => .int
  | _ => .array (.object "DixonEliminator$Polynomials")
theorem nmX2 : ∀ a, a < 3 → ∀ b, b < 3 → a ≠ b → (TX2 a).2.1 ≠ (TX2 b).2.1 := by decide +kernel
theorem tyX2_ok : ∀ k, k < 3 → parseFieldDescriptor (TX2 k).2.2.1 = some (tyX2 k) := by decide +kernel
abbrev cX2_init : ByteArray := prog_4_method_1_code
def yX2_init : MethodName := ⟨RX2, "<init>", "()V"⟩
abbrev cX2_stateIn : ByteArray := prog_4_method_2_code
def yX2_stateIn : MethodName := ⟨RX2, "stateIn", "(I)LDixonEliminator$Polynomials;"⟩
abbrev cX2_remember : ByteArray := prog_4_method_3_code
def yX2_remember : MethodName := ⟨RX2, "remember", "(LDixonEliminator$Polynomials;)V"⟩
abbrev cX2_restore : ByteArray := prog_4_method_4_code
def yX2_restore : MethodName := ⟨RX2, "restore", "(LDixonEliminator$Polynomials;)V"⟩
def RX3 : String := "DixonEliminator$Modulo"
def TX3 : u_T := fun k => match k with
  | _ => ("", "", "", false)
def tyX3 : Nat → FieldType := fun k => match k with
  | _ => .int
theorem nmX3 : ∀ a, a < 0 → ∀ b, b < 0 → a ≠ b → (TX3 a).2.1 ≠ (TX3 b).2.1 := by decide +kernel
theorem tyX3_ok : ∀ k, k < 0 → parseFieldDescriptor (TX3 k).2.2.1 = some (tyX3 k) := by decide +kernel
abbrev cX3_residue : ByteArray := prog_5_method_2_code
def yX3_residue : MethodName := ⟨RX3, "residue", "(II)I"⟩
abbrev cX3_inverse : ByteArray := prog_5_method_3_code
def yX3_inverse : MethodName := ⟨RX3, "inverse", "(II)I"⟩
abbrev cX3_horner : ByteArray := prog_5_method_4_code
def yX3_horner : MethodName := ⟨RX3, "horner", "([III)I"⟩
abbrev cX3_topOf : ByteArray := prog_5_method_5_code
def yX3_topOf : MethodName := ⟨RX3, "topOf", "([I)I"⟩
abbrev cX3_addProduct : ByteArray := prog_5_method_6_code
def yX3_addProduct : MethodName := ⟨RX3, "addProduct", "([I[I[II)V"⟩
abbrev cX3_reduceAll : ByteArray := prog_5_method_7_code
def yX3_reduceAll : MethodName := ⟨RX3, "reduceAll", "([II)V"⟩
abbrev cX3_strip : ByteArray := prog_5_method_8_code
def yX3_strip : MethodName := ⟨RX3, "strip", "([III)I"⟩
abbrev cX3_divideByRoot : ByteArray := prog_5_method_9_code
def yX3_divideByRoot : MethodName := ⟨RX3, "divideByRoot", "([III)V"⟩
def RX4 : String := "DixonEliminator$Polynomials"
def TX4 : u_T := fun k => match k with
  | 0 => ("DixonEliminator$Polynomials", "p", "I", false)
  | _ => ("DixonEliminator$Polynomials", "terms", "[[I", true)
def tyX4 : Nat → FieldType := fun k => match k with
  | 0 => .int
  | _ => .array (.array .int)
theorem nmX4 : ∀ a, a < 2 → ∀ b, b < 2 → a ≠ b → (TX4 a).2.1 ≠ (TX4 b).2.1 := by decide +kernel
theorem tyX4_ok : ∀ k, k < 2 → parseFieldDescriptor (TX4 k).2.2.1 = some (tyX4 k) := by decide +kernel
abbrev cX4_init : ByteArray := prog_6_method_1_code
def yX4_init : MethodName := ⟨RX4, "<init>", "()V"⟩
abbrev cX4_termsOf : ByteArray := prog_6_method_2_code
def yX4_termsOf : MethodName := ⟨RX4, "termsOf", "(I)[I"⟩
abbrev cX4_term : ByteArray := prog_6_method_3_code
def yX4_term : MethodName := ⟨RX4, "term", "(II)I"⟩
abbrev cX4_setTerm : ByteArray := prog_6_method_4_code
def yX4_setTerm : MethodName := ⟨RX4, "setTerm", "(III)V"⟩
abbrev cX4_erase : ByteArray := prog_6_method_5_code
def yX4_erase : MethodName := ⟨RX4, "erase", "()V"⟩
abbrev cX4_replace : ByteArray := prog_6_method_6_code
def yX4_replace : MethodName := ⟨RX4, "replace", "(I[I)V"⟩
abbrev cX4_copyFrom : ByteArray := prog_6_method_7_code
def yX4_copyFrom : MethodName := ⟨RX4, "copyFrom", "(LDixonEliminator$Polynomials;)V"⟩
abbrev cX4_termCount : ByteArray := prog_6_method_8_code
def yX4_termCount : MethodName := ⟨RX4, "termCount", "(I)I"⟩
abbrev cX4_termCountOfAll : ByteArray := prog_6_method_9_code
def yX4_termCountOfAll : MethodName := ⟨RX4, "termCountOfAll", "()I"⟩
abbrev cX4_scatter : ByteArray := prog_6_method_10_code
def yX4_scatter : MethodName := ⟨RX4, "scatter", "(IIIII)V"⟩
abbrev cX4_exchange : ByteArray := prog_6_method_11_code
def yX4_exchange : MethodName := ⟨RX4, "exchange", "(II)Z"⟩
abbrev cX4_leavesRange : ByteArray := prog_6_method_12_code
def yX4_leavesRange : MethodName := ⟨RX4, "leavesRange", "(IIII)Z"⟩
abbrev cX4_addMultiple : ByteArray := prog_6_method_13_code
def yX4_addMultiple : MethodName := ⟨RX4, "addMultiple", "(IIII)V"⟩
abbrev cX4_substitute : ByteArray := prog_6_method_14_code
def yX4_substitute : MethodName := ⟨RX4, "substitute", "(I)V"⟩
abbrev cX4_valueOf : ByteArray := prog_6_method_15_code
def yX4_valueOf : MethodName := ⟨RX4, "valueOf", "(IIII)I"⟩
abbrev cX4_factorAt : ByteArray := prog_6_method_16_code
def yX4_factorAt : MethodName := ⟨RX4, "factorAt", "(III)I"⟩
abbrev cX4_degreeIn : ByteArray := prog_6_method_17_code
def yX4_degreeIn : MethodName := ⟨RX4, "degreeIn", "(II)I"⟩
abbrev cX4_degreeInAt : ByteArray := prog_6_method_18_code
def yX4_degreeInAt : MethodName := ⟨RX4, "degreeInAt", "(III)I"⟩
abbrev cX4_greatestDegree : ByteArray := prog_6_method_19_code
def yX4_greatestDegree : MethodName := ⟨RX4, "greatestDegree", "(I)I"⟩
abbrev cX4_dropsAt : ByteArray := prog_6_method_20_code
def yX4_dropsAt : MethodName := ⟨RX4, "dropsAt", "(I)Z"⟩
def RX5 : String := "DixonEliminator$Ranks"
def TX5 : u_T := fun k => match k with
  | 0 => ("DixonEliminator$Ranks", "greatest", "I", false)
  | 1 => ("DixonEliminator$Ranks", "greatestWithoutFirst", "I", false)
  | 2 => ("DixonEliminator$Ranks", "pivot", "I", false)
  | 3 => ("DixonEliminator$Ranks", "rowSet", "I", false)
  | 4 => ("DixonEliminator$Ranks", "columnSet", "I", false)
  | 5 => ("DixonEliminator$Ranks", "dropSet", "I", false)
  | 6 => ("DixonEliminator$Ranks", "polynomials", "LDixonEliminator$Polynomials;", true)
  | 7 => ("DixonEliminator$Ranks", "matrix", "LDixonEliminator$DixonMatrix;", true)
  | 8 => ("DixonEliminator$Ranks", "span", "LDixonEliminator$Span;", true)
  | 9 => ("DixonEliminator$Ranks", "rankAtPoint", "[I", true)
  | 10 => ("DixonEliminator$Ranks", "rankWithoutFirst", "[I", true)
  | 11 => ("DixonEliminator$Ranks", "abscissa", "[I", true)
  | 12 => ("DixonEliminator$Ranks", "ordinate", "[I", true)
  | 13 => ("DixonEliminator$Ranks", "examined", "I", false)
  | _ => ("DixonEliminator$Ranks", "surveyed", "Z", false)
def tyX5 : Nat → FieldType := fun k => match k with
  | 0 => .int
  | 1 => .int
  | 2 => .int
  | 3 => .int
  | 4 => .int
  | 5 => .int
  | 6 => .object "DixonEliminator$Polynomials"
  | 7 => .object "DixonEliminator$DixonMatrix"
  | 8 => .object "DixonEliminator$Span"
  | 9 => .array .int
  | 10 => .array .int
  | 11 => .array .int
  | 12 => .array .int
  | 13 => .int
  | _ => .boolean
theorem nmX5 : ∀ a, a < 15 → ∀ b, b < 15 → a ≠ b → (TX5 a).2.1 ≠ (TX5 b).2.1 := by decide +kernel
theorem tyX5_ok : ∀ k, k < 15 → parseFieldDescriptor (TX5 k).2.2.1 = some (tyX5 k) := by decide +kernel
abbrev cX5_init : ByteArray := prog_7_method_1_code
def yX5_init : MethodName := ⟨RX5, "<init>", "(LDixonEliminator$Polynomials;LDixonEliminator$DixonMatrix;)V"⟩
abbrev cX5_forget : ByteArray := prog_7_method_2_code
def yX5_forget : MethodName := ⟨RX5, "forget", "()V"⟩
abbrev cX5_examine : ByteArray := prog_7_method_3_code
def yX5_examine : MethodName := ⟨RX5, "examine", "(I)V"⟩
abbrev cX5_rankOf : ByteArray := prog_7_method_4_code
def yX5_rankOf : MethodName := ⟨RX5, "rankOf", "(I)I"⟩
abbrev cX5_coordinate : ByteArray := prog_7_method_5_code
def yX5_coordinate : MethodName := ⟨RX5, "coordinate", "(IZ)I"⟩
abbrev cX5_survey : ByteArray := prog_7_method_6_code
def yX5_survey : MethodName := ⟨RX5, "survey", "()V"⟩
abbrev cX5_findDrops : ByteArray := prog_7_method_7_code
def yX5_findDrops : MethodName := ⟨RX5, "findDrops", "()V"⟩
abbrev cX5_selectRows : ByteArray := prog_7_method_8_code
def yX5_selectRows : MethodName := ⟨RX5, "selectRows", "()V"⟩
abbrev cX5_selectColumns : ByteArray := prog_7_method_9_code
def yX5_selectColumns : MethodName := ⟨RX5, "selectColumns", "()V"⟩
def RX6 : String := "DixonEliminator$Roots"
def TX6 : u_T := fun k => match k with
  | 0 => ("DixonEliminator$Roots", "polynomials", "LDixonEliminator$Polynomials;", true)
  | 1 => ("DixonEliminator$Roots", "ordinates", "[[I", true)
  | 2 => ("DixonEliminator$Roots", "atPoint", "[[I", true)
  | 3 => ("DixonEliminator$Roots", "inY", "[[I", true)
  | _ => ("DixonEliminator$Roots", "searched", "I", false)
def tyX6 : Nat → FieldType := fun k => match k with
  | 0 => .object "DixonEliminator$Polynomials"
  | 1 => .array (.array .int)
  | 2 => .array (.array .int)
  | 3 => .array (.array .int)
  | _ => .int
theorem nmX6 : ∀ a, a < 5 → ∀ b, b < 5 → a ≠ b → (TX6 a).2.1 ≠ (TX6 b).2.1 := by decide +kernel
theorem tyX6_ok : ∀ k, k < 5 → parseFieldDescriptor (TX6 k).2.2.1 = some (tyX6 k) := by decide +kernel
abbrev cX6_init : ByteArray := prog_8_method_1_code
def yX6_init : MethodName := ⟨RX6, "<init>", "(LDixonEliminator$Polynomials;)V"⟩
abbrev cX6_forget : ByteArray := prog_8_method_2_code
def yX6_forget : MethodName := ⟨RX6, "forget", "()V"⟩
abbrev cX6_search : ByteArray := prog_8_method_3_code
def yX6_search : MethodName := ⟨RX6, "search", "(I)V"⟩
abbrev cX6_ordinatesOf : ByteArray := prog_8_method_4_code
def yX6_ordinatesOf : MethodName := ⟨RX6, "ordinatesOf", "(I)I"⟩
abbrev cX6_countAt : ByteArray := prog_8_method_5_code
def yX6_countAt : MethodName := ⟨RX6, "countAt", "(I)I"⟩
abbrev cX6_rootAt : ByteArray := prog_8_method_6_code
def yX6_rootAt : MethodName := ⟨RX6, "rootAt", "(II)I"⟩
abbrev cX6_memberOf : ByteArray := prog_8_method_7_code
def yX6_memberOf : MethodName := ⟨RX6, "memberOf", "(II)I"⟩
def RX7 : String := "DixonEliminator$Span"
def TX7 : u_T := fun k => match k with
  | 0 => ("DixonEliminator$Span", "found", "I", false)
  | 1 => ("DixonEliminator$Span", "vector", "[I", true)
  | 2 => ("DixonEliminator$Span", "relation", "[I", true)
  | 3 => ("DixonEliminator$Span", "basis", "[[I", true)
  | 4 => ("DixonEliminator$Span", "leads", "[I", true)
  | _ => ("DixonEliminator$Span", "p", "I", false)
def tyX7 : Nat → FieldType := fun k => match k with
  | 0 => .int
  | 1 => .array .int
  | 2 => .array .int
  | 3 => .array (.array .int)
  | 4 => .array .int
  | _ => .int
theorem nmX7 : ∀ a, a < 6 → ∀ b, b < 6 → a ≠ b → (TX7 a).2.1 ≠ (TX7 b).2.1 := by decide +kernel
theorem tyX7_ok : ∀ k, k < 6 → parseFieldDescriptor (TX7 k).2.2.1 = some (tyX7 k) := by decide +kernel
abbrev cX7_init : ByteArray := prog_9_method_1_code
def yX7_init : MethodName := ⟨RX7, "<init>", "()V"⟩
abbrev cX7_begin : ByteArray := prog_9_method_2_code
def yX7_begin : MethodName := ⟨RX7, "begin", "(I)V"⟩
abbrev cX7_take : ByteArray := prog_9_method_3_code
def yX7_take : MethodName := ⟨RX7, "take", "()Z"⟩
abbrev cX7_leadOf : ByteArray := prog_9_method_4_code
def yX7_leadOf : MethodName := ⟨RX7, "leadOf", "()I"⟩
abbrev cX7_ratio : ByteArray := prog_9_method_5_code
def yX7_ratio : MethodName := ⟨RX7, "ratio", "(I)I"⟩
def RX8 : String := "DixonEliminator$Text"
def TX8 : u_T := fun k => match k with
  | 0 => ("DixonEliminator$Text", "length", "I", false)
  | 1 => ("DixonEliminator$Text", "sum", "[I", true)
  | 2 => ("DixonEliminator$Text", "codes", "[I", true)
  | _ => ("DixonEliminator$Text", "position", "I", false)
def tyX8 : Nat → FieldType := fun k => match k with
  | 0 => .int
  | 1 => .array .int
  | 2 => .array .int
  | _ => .int
theorem nmX8 : ∀ a, a < 4 → ∀ b, b < 4 → a ≠ b → (TX8 a).2.1 ≠ (TX8 b).2.1 := by decide +kernel
theorem tyX8_ok : ∀ k, k < 4 → parseFieldDescriptor (TX8 k).2.2.1 = some (tyX8 k) := by decide +kernel
abbrev cX8_init : ByteArray := prog_10_method_1_code
def yX8_init : MethodName := ⟨RX8, "<init>", "()V"⟩
abbrev cX8_append : ByteArray := prog_10_method_2_code
def yX8_append : MethodName := ⟨RX8, "append", "(I)Z"⟩
abbrev cX8_parse : ByteArray := prog_10_method_3_code
def yX8_parse : MethodName := ⟨RX8, "parse", "(I)I"⟩
abbrev cX8_peek : ByteArray := prog_10_method_4_code
def yX8_peek : MethodName := ⟨RX8, "peek", "()I"⟩
abbrev cX8_skipSpaces : ByteArray := prog_10_method_5_code
def yX8_skipSpaces : MethodName := ⟨RX8, "skipSpaces", "()V"⟩
abbrev cX8_takeSign : ByteArray := prog_10_method_6_code
def yX8_takeSign : MethodName := ⟨RX8, "takeSign", "()I"⟩
abbrev cX8_takeTerm : ByteArray := prog_10_method_7_code
def yX8_takeTerm : MethodName := ⟨RX8, "takeTerm", "(ZI)Z"⟩
abbrev cX8_takeNumber : ByteArray := prog_10_method_8_code
def yX8_takeNumber : MethodName := ⟨RX8, "takeNumber", "()I"⟩
abbrev cX8_takeFactors : ByteArray := prog_10_method_9_code
def yX8_takeFactors : MethodName := ⟨RX8, "takeFactors", "()I"⟩
abbrev cX8_letterOf : ByteArray := prog_10_method_10_code
def yX8_letterOf : MethodName := ⟨RX8, "letterOf", "(I)I"⟩
abbrev cX8_takeExponent : ByteArray := prog_10_method_11_code
def yX8_takeExponent : MethodName := ⟨RX8, "takeExponent", "()I"⟩
def RX9 : String := "DixonEliminator"
def TX9 : u_T := fun k => match k with
  | 0 => ("DixonEliminator", "now", "LDixonEliminator$Polynomials;", true)
  | 1 => ("DixonEliminator", "past", "LDixonEliminator$History;", true)
  | 2 => ("DixonEliminator", "text", "LDixonEliminator$Text;", true)
  | 3 => ("DixonEliminator", "roots", "LDixonEliminator$Roots;", true)
  | 4 => ("DixonEliminator", "matrix", "LDixonEliminator$DixonMatrix;", true)
  | 5 => ("DixonEliminator", "ranks", "LDixonEliminator$Ranks;", true)
  | _ => ("DixonEliminator", "minor", "LDixonEliminator$Eliminant;", true)
def tyX9 : Nat → FieldType := fun k => match k with
  | 0 => .object "DixonEliminator$Polynomials"
  | 1 => .object "DixonEliminator$History"
  | 2 => .object "DixonEliminator$Text"
  | 3 => .object "DixonEliminator$Roots"
  | 4 => .object "DixonEliminator$DixonMatrix"
  | 5 => .object "DixonEliminator$Ranks"
  | _ => .object "DixonEliminator$Eliminant"
theorem nmX9 : ∀ a, a < 7 → ∀ b, b < 7 → a ≠ b → (TX9 a).2.1 ≠ (TX9 b).2.1 := by decide +kernel
theorem tyX9_ok : ∀ k, k < 7 → parseFieldDescriptor (TX9 k).2.2.1 = some (tyX9 k) := by decide +kernel
abbrev cX9_init : ByteArray := prog_1_method_1_code
def yX9_init : MethodName := ⟨RX9, "<init>", "()V"⟩
abbrev cX9_setPrime : ByteArray := prog_1_method_2_code
def yX9_setPrime : MethodName := ⟨RX9, "setPrime", "(I)I"⟩
abbrev cX9_type : ByteArray := prog_1_method_3_code
def yX9_type : MethodName := ⟨RX9, "type", "(I)I"⟩
abbrev cX9_clearText : ByteArray := prog_1_method_4_code
def yX9_clearText : MethodName := ⟨RX9, "clearText", "()I"⟩
abbrev cX9_read : ByteArray := prog_1_method_5_code
def yX9_read : MethodName := ⟨RX9, "read", "(I)I"⟩
abbrev cX9_setCoefficient : ByteArray := prog_1_method_6_code
def yX9_setCoefficient : MethodName := ⟨RX9, "setCoefficient", "(IIIII)I"⟩
abbrev cX9_coefficient : ByteArray := prog_1_method_7_code
def yX9_coefficient : MethodName := ⟨RX9, "coefficient", "(IIII)I"⟩
abbrev cX9_draw : ByteArray := prog_1_method_8_code
def yX9_draw : MethodName := ⟨RX9, "draw", "(IIIII)I"⟩
abbrev cX9_plant : ByteArray := prog_1_method_9_code
def yX9_plant : MethodName := ⟨RX9, "plant", "(III)I"⟩
abbrev cX9_swap : ByteArray := prog_1_method_10_code
def yX9_swap : MethodName := ⟨RX9, "swap", "(II)I"⟩
abbrev cX9_combine : ByteArray := prog_1_method_11_code
def yX9_combine : MethodName := ⟨RX9, "combine", "(IIIIII)I"⟩
abbrev cX9_shift : ByteArray := prog_1_method_12_code
def yX9_shift : MethodName := ⟨RX9, "shift", "(I)I"⟩
abbrev cX9_value : ByteArray := prog_1_method_13_code
def yX9_value : MethodName := ⟨RX9, "value", "(IIII)I"⟩
abbrev cX9_degree : ByteArray := prog_1_method_14_code
def yX9_degree : MethodName := ⟨RX9, "degree", "(II)I"⟩
abbrev cX9_degreeAt : ByteArray := prog_1_method_15_code
def yX9_degreeAt : MethodName := ⟨RX9, "degreeAt", "(III)I"⟩
abbrev cX9_degreeDrops : ByteArray := prog_1_method_16_code
def yX9_degreeDrops : MethodName := ⟨RX9, "degreeDrops", "()I"⟩
abbrev cX9_size : ByteArray := prog_1_method_17_code
def yX9_size : MethodName := ⟨RX9, "size", "()I"⟩
abbrev cX9_entry : ByteArray := prog_1_method_18_code
def yX9_entry : MethodName := ⟨RX9, "entry", "(III)I"⟩
abbrev cX9_entryAt : ByteArray := prog_1_method_19_code
def yX9_entryAt : MethodName := ⟨RX9, "entryAt", "(III)I"⟩
abbrev cX9_rankAt : ByteArray := prog_1_method_20_code
def yX9_rankAt : MethodName := ⟨RX9, "rankAt", "(I)I"⟩
abbrev cX9_rank : ByteArray := prog_1_method_21_code
def yX9_rank : MethodName := ⟨RX9, "rank", "()I"⟩
abbrev cX9_pivotPoint : ByteArray := prog_1_method_22_code
def yX9_pivotPoint : MethodName := ⟨RX9, "pivotPoint", "()I"⟩
abbrev cX9_selected : ByteArray := prog_1_method_23_code
def yX9_selected : MethodName := ⟨RX9, "selected", "(Z)I"⟩
abbrev cX9_rankDrops : ByteArray := prog_1_method_24_code
def yX9_rankDrops : MethodName := ⟨RX9, "rankDrops", "()I"⟩
abbrev cX9_condition : ByteArray := prog_1_method_25_code
def yX9_condition : MethodName := ⟨RX9, "condition", "()I"⟩
abbrev cX9_eliminantDegree : ByteArray := prog_1_method_26_code
def yX9_eliminantDegree : MethodName := ⟨RX9, "eliminantDegree", "(Z)I"⟩
abbrev cX9_eliminant : ByteArray := prog_1_method_27_code
def yX9_eliminant : MethodName := ⟨RX9, "eliminant", "(ZI)I"⟩
abbrev cX9_eliminantAt : ByteArray := prog_1_method_28_code
def yX9_eliminantAt : MethodName := ⟨RX9, "eliminantAt", "(ZI)I"⟩
abbrev cX9_multiplicity : ByteArray := prog_1_method_29_code
def yX9_multiplicity : MethodName := ⟨RX9, "multiplicity", "(I)I"⟩
abbrev cX9_extraneous : ByteArray := prog_1_method_30_code
def yX9_extraneous : MethodName := ⟨RX9, "extraneous", "()I"⟩
abbrev cX9_commonRoots : ByteArray := prog_1_method_31_code
def yX9_commonRoots : MethodName := ⟨RX9, "commonRoots", "(I)I"⟩
abbrev cX9_commonRoot : ByteArray := prog_1_method_32_code
def yX9_commonRoot : MethodName := ⟨RX9, "commonRoot", "(II)I"⟩
abbrev cX9_solvable : ByteArray := prog_1_method_33_code
def yX9_solvable : MethodName := ⟨RX9, "solvable", "()I"⟩
abbrev cX9_kernel : ByteArray := prog_1_method_34_code
def yX9_kernel : MethodName := ⟨RX9, "kernel", "(I)I"⟩
abbrev cX9_recovered : ByteArray := prog_1_method_35_code
def yX9_recovered : MethodName := ⟨RX9, "recovered", "(IZ)I"⟩
abbrev cX9_confirmed : ByteArray := prog_1_method_36_code
def yX9_confirmed : MethodName := ⟨RX9, "confirmed", "(I)I"⟩
abbrev cX9_undo : ByteArray := prog_1_method_37_code
def yX9_undo : MethodName := ⟨RX9, "undo", "()I"⟩
abbrev cX9_count : ByteArray := prog_1_method_38_code
def yX9_count : MethodName := ⟨RX9, "count", "(I)I"⟩
abbrev cX9_digest : ByteArray := prog_1_method_39_code
def yX9_digest : MethodName := ⟨RX9, "digest", "()J"⟩
abbrev cX9_outside : ByteArray := prog_1_method_40_code
def yX9_outside : MethodName := ⟨RX9, "outside", "(II)Z"⟩
abbrev cX9_noTerm : ByteArray := prog_1_method_41_code
def yX9_noTerm : MethodName := ⟨RX9, "noTerm", "(IIII)Z"⟩
abbrev cX9_place : ByteArray := prog_1_method_42_code
def yX9_place : MethodName := ⟨RX9, "place", "(III)I"⟩
abbrev cX9_isPrime : ByteArray := prog_1_method_43_code
def yX9_isPrime : MethodName := ⟨RX9, "isPrime", "(I)Z"⟩
abbrev cX9_beginChange : ByteArray := prog_1_method_44_code
def yX9_beginChange : MethodName := ⟨RX9, "beginChange", "()V"⟩
abbrev cX9_forgetResults : ByteArray := prog_1_method_45_code
def yX9_forgetResults : MethodName := ⟨RX9, "forgetResults", "()V"⟩
abbrev cX9_noMatrix : ByteArray := prog_1_method_46_code
def yX9_noMatrix : MethodName := ⟨RX9, "noMatrix", "()Z"⟩
abbrev cX9_form : ByteArray := prog_1_method_47_code
def yX9_form : MethodName := ⟨RX9, "form", "(Z)[I"⟩
abbrev cX9_countPairs : ByteArray := prog_1_method_48_code
def yX9_countPairs : MethodName := ⟨RX9, "countPairs", "()I"⟩
def RX10 : String := "DixonEliminatorModel"
def TX10 : u_T := fun k => match k with
  | 0 => ("DixonEliminatorModel", "row", "[I", true)
  | 1 => ("DixonEliminatorModel", "backs", "[I", true)
  | 2 => ("DixonEliminatorModel", "backMany", "I", false)
  | 3 => ("DixonEliminatorModel", "text", "[I", true)
  | 4 => ("DixonEliminatorModel", "typed", "I", false)
  | 5 => ("DixonEliminatorModel", "spot", "I", false)
  | 6 => ("DixonEliminatorModel", "fault", "I", false)
  | 7 => ("DixonEliminatorModel", "made", "[I", true)
  | 8 => ("DixonEliminatorModel", "known", "Z", false)
  | 9 => ("DixonEliminatorModel", "m", "I", false)
  | 10 => ("DixonEliminatorModel", "n", "I", false)
  | 11 => ("DixonEliminatorModel", "s", "I", false)
  | 12 => ("DixonEliminatorModel", "first", "[I", true)
  | 13 => ("DixonEliminatorModel", "second", "[I", true)
  | 14 => ("DixonEliminatorModel", "pair", "[I", true)
  | 15 => ("DixonEliminatorModel", "dixon", "[I", true)
  | 16 => ("DixonEliminatorModel", "entries", "[I", true)
  | 17 => ("DixonEliminatorModel", "ranks", "[I", true)
  | 18 => ("DixonEliminatorModel", "rank", "I", false)
  | 19 => ("DixonEliminatorModel", "pivot", "I", false)
  | 20 => ("DixonEliminatorModel", "rows", "I", false)
  | 21 => ("DixonEliminatorModel", "columns", "I", false)
  | 22 => ("DixonEliminatorModel", "isSatisfied", "Z", false)
  | 23 => ("DixonEliminatorModel", "eliminant", "[I", true)
  | 24 => ("DixonEliminatorModel", "reduced", "[I", true)
  | 25 => ("DixonEliminatorModel", "outside", "I", false)
  | 26 => ("DixonEliminatorModel", "work", "[I", true)
  | 27 => ("DixonEliminatorModel", "workRank", "I", false)
  | 28 => ("DixonEliminatorModel", "keptRow", "[I", true)
  | 29 => ("DixonEliminatorModel", "keptAt", "[I", true)
  | 30 => ("DixonEliminatorModel", "parts", "[I", true)
  | 31 => ("DixonEliminatorModel", "rest", "[I", true)
  | 32 => ("DixonEliminatorModel", "rootsKnown", "Z", false)
  | 33 => ("DixonEliminatorModel", "solvable", "I", false)
  | 34 => ("DixonEliminatorModel", "pairs", "I", false)
  | 35 => ("DixonEliminatorModel", "rootMany", "[I", true)
  | 36 => ("DixonEliminatorModel", "flat", "[I", true)
  | 37 => ("DixonEliminatorModel", "line", "[I", true)
  | 38 => ("DixonEliminatorModel", "kernelRow", "[I", true)
  | 39 => ("DixonEliminatorModel", "tracks", "[I", true)
  | _ => ("DixonEliminatorModel", "hash", "J", false)
def tyX10 : Nat → FieldType := fun k => match k with
  | 0 => .array .int
  | 1 => .array .int
  | 2 => .int
  | 3 => .array .int
  | 4 => .int
  | 5 => .int
  | 6 => .int
  | 7 => .array .int
  | 8 => .boolean
  | 9 => .int
  | 10 => .int
  | 11 => .int
  | 12 => .array .int
  | 13 => .array .int
  | 14 => .array .int
  | 15 => .array .int
  | 16 => .array .int
  | 17 => .array .int
  | 18 => .int
  | 19 => .int
  | 20 => .int
  | 21 => .int
  | 22 => .boolean
  | 23 => .array .int
  | 24 => .array .int
  | 25 => .int
  | 26 => .array .int
  | 27 => .int
  | 28 => .array .int
  | 29 => .array .int
  | 30 => .array .int
  | 31 => .array .int
  | 32 => .boolean
  | 33 => .int
  | 34 => .int
  | 35 => .array .int
  | 36 => .array .int
  | 37 => .array .int
  | 38 => .array .int
  | 39 => .array .int
  | _ => .long
theorem nmX10 : ∀ a, a < 41 → ∀ b, b < 41 → a ≠ b → (TX10 a).2.1 ≠ (TX10 b).2.1 := by decide +kernel
theorem tyX10_ok : ∀ k, k < 41 → parseFieldDescriptor (TX10 k).2.2.1 = some (tyX10 k) := by decide +kernel
abbrev cX10_init : ByteArray := prog_12_method_1_code
def yX10_init : MethodName := ⟨RX10, "<init>", "()V"⟩
abbrev cX10_in : ByteArray := prog_12_method_3_code
def yX10_in : MethodName := ⟨RX10, "in", "(III)Z"⟩
abbrev cX10_p : ByteArray := prog_12_method_4_code
def yX10_p : MethodName := ⟨RX10, "p", "()I"⟩
abbrev cX10_mod : ByteArray := prog_12_method_5_code
def yX10_mod : MethodName := ⟨RX10, "mod", "(I)I"⟩
abbrev cX10_isNumber : ByteArray := prog_12_method_6_code
def yX10_isNumber : MethodName := ⟨RX10, "isNumber", "(I)Z"⟩
abbrev cX10_at : ByteArray := prog_12_method_7_code
def yX10_at : MethodName := ⟨RX10, "at", "(IIII)I"⟩
abbrev cX10_of : ByteArray := prog_12_method_8_code
def yX10_of : MethodName := ⟨RX10, "of", "(IIII)I"⟩
abbrev cX10_inverse : ByteArray := prog_12_method_9_code
def yX10_inverse : MethodName := ⟨RX10, "inverse", "(I)I"⟩
abbrev cX10_begins : ByteArray := prog_12_method_10_code
def yX10_begins : MethodName := ⟨RX10, "begins", "()V"⟩
abbrev cX10_forgets : ByteArray := prog_12_method_11_code
def yX10_forgets : MethodName := ⟨RX10, "forgets", "()V"⟩
abbrev cX10_undo : ByteArray := prog_12_method_12_code
def yX10_undo : MethodName := ⟨RX10, "undo", "()I"⟩
abbrev cX10_termsOf : ByteArray := prog_12_method_13_code
def yX10_termsOf : MethodName := ⟨RX10, "termsOf", "(I)I"⟩
abbrev cX10_terms : ByteArray := prog_12_method_14_code
def yX10_terms : MethodName := ⟨RX10, "terms", "()I"⟩
abbrev cX10_setPrime : ByteArray := prog_12_method_15_code
def yX10_setPrime : MethodName := ⟨RX10, "setPrime", "(I)I"⟩
abbrev cX10_type : ByteArray := prog_12_method_16_code
def yX10_type : MethodName := ⟨RX10, "type", "(I)I"⟩
abbrev cX10_clearText : ByteArray := prog_12_method_17_code
def yX10_clearText : MethodName := ⟨RX10, "clearText", "()I"⟩
abbrev cX10_here : ByteArray := prog_12_method_18_code
def yX10_here : MethodName := ⟨RX10, "here", "()I"⟩
abbrev cX10_isDigit : ByteArray := prog_12_method_19_code
def yX10_isDigit : MethodName := ⟨RX10, "isDigit", "()Z"⟩
abbrev cX10_skips : ByteArray := prog_12_method_21_code
def yX10_skips : MethodName := ⟨RX10, "skips", "()V"⟩
abbrev cX10_readsTerm : ByteArray := prog_12_method_22_code
def yX10_readsTerm : MethodName := ⟨RX10, "readsTerm", "(I)V"⟩
abbrev cX10_reads : ByteArray := prog_12_method_23_code
def yX10_reads : MethodName := ⟨RX10, "reads", "()I"⟩
abbrev cX10_read : ByteArray := prog_12_method_24_code
def yX10_read : MethodName := ⟨RX10, "read", "(I)I"⟩
abbrev cX10_isPlace : ByteArray := prog_12_method_25_code
def yX10_isPlace : MethodName := ⟨RX10, "isPlace", "(IIII)Z"⟩
abbrev cX10_setCoefficient : ByteArray := prog_12_method_26_code
def yX10_setCoefficient : MethodName := ⟨RX10, "setCoefficient", "(IIIII)I"⟩
abbrev cX10_coefficient : ByteArray := prog_12_method_27_code
def yX10_coefficient : MethodName := ⟨RX10, "coefficient", "(IIII)I"⟩
abbrev cX10_draw : ByteArray := prog_12_method_28_code
def yX10_draw : MethodName := ⟨RX10, "draw", "(IIIII)I"⟩
abbrev cX10_power : ByteArray := prog_12_method_29_code
def yX10_power : MethodName := ⟨RX10, "power", "(II)I"⟩
abbrev cX10_valueOf : ByteArray := prog_12_method_30_code
def yX10_valueOf : MethodName := ⟨RX10, "valueOf", "(IIII)I"⟩
abbrev cX10_plant : ByteArray := prog_12_method_31_code
def yX10_plant : MethodName := ⟨RX10, "plant", "(III)I"⟩
abbrev cX10_swap : ByteArray := prog_12_method_32_code
def yX10_swap : MethodName := ⟨RX10, "swap", "(II)I"⟩
abbrev cX10_combine : ByteArray := prog_12_method_33_code
def yX10_combine : MethodName := ⟨RX10, "combine", "(IIIIII)I"⟩
abbrev cX10_shift : ByteArray := prog_12_method_34_code
def yX10_shift : MethodName := ⟨RX10, "shift", "(I)I"⟩
abbrev cX10_value : ByteArray := prog_12_method_35_code
def yX10_value : MethodName := ⟨RX10, "value", "(IIII)I"⟩
abbrev cX10_degreeOf : ByteArray := prog_12_method_36_code
def yX10_degreeOf : MethodName := ⟨RX10, "degreeOf", "(II)I"⟩
abbrev cX10_degree : ByteArray := prog_12_method_37_code
def yX10_degree : MethodName := ⟨RX10, "degree", "(II)I"⟩
abbrev cX10_cut : ByteArray := prog_12_method_38_code
def yX10_cut : MethodName := ⟨RX10, "cut", "(IIII)I"⟩
abbrev cX10_cutDegree : ByteArray := prog_12_method_39_code
def yX10_cutDegree : MethodName := ⟨RX10, "cutDegree", "(III)I"⟩
abbrev cX10_degreeAt : ByteArray := prog_12_method_40_code
def yX10_degreeAt : MethodName := ⟨RX10, "degreeAt", "(III)I"⟩
abbrev cX10_degreeDrops : ByteArray := prog_12_method_41_code
def yX10_degreeDrops : MethodName := ⟨RX10, "degreeDrops", "()I"⟩
abbrev cX10_greatest : ByteArray := prog_12_method_42_code
def yX10_greatest : MethodName := ⟨RX10, "greatest", "(I)I"⟩
abbrev cX10_isMatrix : ByteArray := prog_12_method_43_code
def yX10_isMatrix : MethodName := ⟨RX10, "isMatrix", "()Z"⟩
abbrev cX10_differsInX : ByteArray := prog_12_method_44_code
def yX10_differsInX : MethodName := ⟨RX10, "differsInX", "(I)V"⟩
abbrev cX10_differsInY : ByteArray := prog_12_method_45_code
def yX10_differsInY : MethodName := ⟨RX10, "differsInY", "(I)V"⟩
abbrev cX10_multiplies : ByteArray := prog_12_method_46_code
def yX10_multiplies : MethodName := ⟨RX10, "multiplies", "(III)V"⟩
abbrev cX10_addsProduct : ByteArray := prog_12_method_47_code
def yX10_addsProduct : MethodName := ⟨RX10, "addsProduct", "(I)V"⟩
abbrev cX10_findsDixon : ByteArray := prog_12_method_48_code
def yX10_findsDixon : MethodName := ⟨RX10, "findsDixon", "()V"⟩
abbrev cX10_entryValue : ByteArray := prog_12_method_49_code
def yX10_entryValue : MethodName := ⟨RX10, "entryValue", "(III)I"⟩
abbrev cX10_lays : ByteArray := prog_12_method_50_code
def yX10_lays : MethodName := ⟨RX10, "lays", "(IZ)V"⟩
abbrev cX10_keeps : ByteArray := prog_12_method_51_code
def yX10_keeps : MethodName := ⟨RX10, "keeps", "(I)Z"⟩
abbrev cX10_independent : ByteArray := prog_12_method_52_code
def yX10_independent : MethodName := ⟨RX10, "independent", "(I)I"⟩
abbrev cX10_bits : ByteArray := prog_12_method_53_code
def yX10_bits : MethodName := ⟨RX10, "bits", "(I)I"⟩
abbrev cX10_findsRanks : ByteArray := prog_12_method_54_code
def yX10_findsRanks : MethodName := ⟨RX10, "findsRanks", "()V"⟩
abbrev cX10_place : ByteArray := prog_12_method_55_code
def yX10_place : MethodName := ⟨RX10, "place", "(II)I"⟩
abbrev cX10_findsPart : ByteArray := prog_12_method_56_code
def yX10_findsPart : MethodName := ⟨RX10, "findsPart", "(I)V"⟩
abbrev cX10_findsEliminant : ByteArray := prog_12_method_57_code
def yX10_findsEliminant : MethodName := ⟨RX10, "findsEliminant", "()V"⟩
abbrev cX10_valueAt : ByteArray := prog_12_method_58_code
def yX10_valueAt : MethodName := ⟨RX10, "valueAt", "([II)I"⟩
abbrev cX10_divides : ByteArray := prog_12_method_59_code
def yX10_divides : MethodName := ⟨RX10, "divides", "([II)V"⟩
abbrev cX10_degreeIn : ByteArray := prog_12_method_60_code
def yX10_degreeIn : MethodName := ⟨RX10, "degreeIn", "([I)I"⟩
abbrev cX10_reduces : ByteArray := prog_12_method_61_code
def yX10_reduces : MethodName := ⟨RX10, "reduces", "()V"⟩
abbrev cX10_knows : ByteArray := prog_12_method_62_code
def yX10_knows : MethodName := ⟨RX10, "knows", "()V"⟩
abbrev cX10_has : ByteArray := prog_12_method_63_code
def yX10_has : MethodName := ⟨RX10, "has", "()Z"⟩
abbrev cX10_size : ByteArray := prog_12_method_64_code
def yX10_size : MethodName := ⟨RX10, "size", "()I"⟩
abbrev cX10_isCell : ByteArray := prog_12_method_65_code
def yX10_isCell : MethodName := ⟨RX10, "isCell", "(II)Z"⟩
abbrev cX10_entry : ByteArray := prog_12_method_66_code
def yX10_entry : MethodName := ⟨RX10, "entry", "(III)I"⟩
abbrev cX10_entryAt : ByteArray := prog_12_method_67_code
def yX10_entryAt : MethodName := ⟨RX10, "entryAt", "(III)I"⟩
abbrev cX10_rankAt : ByteArray := prog_12_method_68_code
def yX10_rankAt : MethodName := ⟨RX10, "rankAt", "(I)I"⟩
abbrev cX10_rank : ByteArray := prog_12_method_69_code
def yX10_rank : MethodName := ⟨RX10, "rank", "()I"⟩
abbrev cX10_pivotPoint : ByteArray := prog_12_method_70_code
def yX10_pivotPoint : MethodName := ⟨RX10, "pivotPoint", "()I"⟩
abbrev cX10_selected : ByteArray := prog_12_method_71_code
def yX10_selected : MethodName := ⟨RX10, "selected", "(Z)I"⟩
abbrev cX10_rankDrops : ByteArray := prog_12_method_72_code
def yX10_rankDrops : MethodName := ⟨RX10, "rankDrops", "()I"⟩
abbrev cX10_condition : ByteArray := prog_12_method_73_code
def yX10_condition : MethodName := ⟨RX10, "condition", "()I"⟩
abbrev cX10_eliminantDegree : ByteArray := prog_12_method_74_code
def yX10_eliminantDegree : MethodName := ⟨RX10, "eliminantDegree", "(Z)I"⟩
abbrev cX10_eliminant : ByteArray := prog_12_method_75_code
def yX10_eliminant : MethodName := ⟨RX10, "eliminant", "(ZI)I"⟩
abbrev cX10_eliminantAt : ByteArray := prog_12_method_76_code
def yX10_eliminantAt : MethodName := ⟨RX10, "eliminantAt", "(ZI)I"⟩
abbrev cX10_multiplicity : ByteArray := prog_12_method_77_code
def yX10_multiplicity : MethodName := ⟨RX10, "multiplicity", "(I)I"⟩
abbrev cX10_extraneous : ByteArray := prog_12_method_78_code
def yX10_extraneous : MethodName := ⟨RX10, "extraneous", "()I"⟩
abbrev cX10_roots : ByteArray := prog_12_method_79_code
def yX10_roots : MethodName := ⟨RX10, "roots", "(II)I"⟩
abbrev cX10_knowsRoots : ByteArray := prog_12_method_80_code
def yX10_knowsRoots : MethodName := ⟨RX10, "knowsRoots", "()V"⟩
abbrev cX10_commonRoots : ByteArray := prog_12_method_81_code
def yX10_commonRoots : MethodName := ⟨RX10, "commonRoots", "(I)I"⟩
abbrev cX10_commonRoot : ByteArray := prog_12_method_82_code
def yX10_commonRoot : MethodName := ⟨RX10, "commonRoot", "(II)I"⟩
abbrev cX10_solvable : ByteArray := prog_12_method_83_code
def yX10_solvable : MethodName := ⟨RX10, "solvable", "()I"⟩
abbrev cX10_kernel : ByteArray := prog_12_method_84_code
def yX10_kernel : MethodName := ⟨RX10, "kernel", "(I)I"⟩
abbrev cX10_findsKernel : ByteArray := prog_12_method_85_code
def yX10_findsKernel : MethodName := ⟨RX10, "findsKernel", "(I)V"⟩
abbrev cX10_exchanges : ByteArray := prog_12_method_86_code
def yX10_exchanges : MethodName := ⟨RX10, "exchanges", "(II)V"⟩
abbrev cX10_clears : ByteArray := prog_12_method_87_code
def yX10_clears : MethodName := ⟨RX10, "clears", "(II)V"⟩
abbrev cX10_recoveredAt : ByteArray := prog_12_method_88_code
def yX10_recoveredAt : MethodName := ⟨RX10, "recoveredAt", "(II)I"⟩
abbrev cX10_recovered : ByteArray := prog_12_method_89_code
def yX10_recovered : MethodName := ⟨RX10, "recovered", "(IZ)I"⟩
abbrev cX10_isConfirmed : ByteArray := prog_12_method_90_code
def yX10_isConfirmed : MethodName := ⟨RX10, "isConfirmed", "(I)I"⟩
abbrev cX10_confirmed : ByteArray := prog_12_method_91_code
def yX10_confirmed : MethodName := ⟨RX10, "confirmed", "(I)I"⟩
abbrev cX10_count : ByteArray := prog_12_method_92_code
def yX10_count : MethodName := ⟨RX10, "count", "(I)I"⟩
abbrev cX10_mixes : ByteArray := prog_12_method_93_code
def yX10_mixes : MethodName := ⟨RX10, "mixes", "(I)V"⟩
abbrev cX10_mixesPoly : ByteArray := prog_12_method_94_code
def yX10_mixesPoly : MethodName := ⟨RX10, "mixesPoly", "(Z)V"⟩
abbrev cX10_digest : ByteArray := prog_12_method_95_code
def yX10_digest : MethodName := ⟨RX10, "digest", "()J"⟩
def RJ6 : String := "java/lang/Integer"
def TJ6 : u_T := fun k => match k with
  | _ => ("", "", "", false)
def tyJ6 : Nat → FieldType := fun k => match k with
  | _ => .int
theorem nmJ6 : ∀ a, a < 0 → ∀ b, b < 0 → a ≠ b → (TJ6 a).2.1 ≠ (TJ6 b).2.1 := by decide +kernel
theorem tyJ6_ok : ∀ k, k < 0 → parseFieldDescriptor (TJ6 k).2.2.1 = some (tyJ6 k) := by decide +kernel
abbrev cJ6_bitCount_0f7a4 : ByteArray := prog_13_method_49_code
def yJ6_bitCount_0f7a4 : MethodName := ⟨RJ6, "bitCount", "(I)I"⟩
def RJ9 : String := "java/lang/Math"
def TJ9 : u_T := fun k => match k with
  | _ => ("", "", "", false)
def tyJ9 : Nat → FieldType := fun k => match k with
  | _ => .int
theorem nmJ9 : ∀ a, a < 0 → ∀ b, b < 0 → a ≠ b → (TJ9 a).2.1 ≠ (TJ9 b).2.1 := by decide +kernel
theorem tyJ9_ok : ∀ k, k < 0 → parseFieldDescriptor (TJ9 k).2.2.1 = some (tyJ9 k) := by decide +kernel
abbrev cJ9_max_7cf53 : ByteArray := prog_14_method_65_code
def yJ9_max_7cf53 : MethodName := ⟨RJ9, "max", "(II)I"⟩
abbrev cJ9_min_7cf53 : ByteArray := prog_14_method_69_code
def yJ9_min_7cf53 : MethodName := ⟨RJ9, "min", "(II)I"⟩
def RJ10 : String := "java/lang/System"
def TJ10 : u_T := fun k => match k with
  | _ => ("", "", "", false)
def tyJ10 : Nat → FieldType := fun k => match k with
  | _ => .int
theorem nmJ10 : ∀ a, a < 0 → ∀ b, b < 0 → a ≠ b → (TJ10 a).2.1 ≠ (TJ10 b).2.1 := by decide +kernel
theorem tyJ10_ok : ∀ k, k < 0 → parseFieldDescriptor (TJ10 k).2.2.1 = some (tyJ10 k) := by decide +kernel
def RJ7 : String := "java/util/Arrays"
def TJ7 : u_T := fun k => match k with
  | _ => ("", "", "", false)
def tyJ7 : Nat → FieldType := fun k => match k with
  | _ => .int
theorem nmJ7 : ∀ a, a < 0 → ∀ b, b < 0 → a ≠ b → (TJ7 a).2.1 ≠ (TJ7 b).2.1 := by decide +kernel
theorem tyJ7_ok : ∀ k, k < 0 → parseFieldDescriptor (TJ7 k).2.2.1 = some (tyJ7 k) := by decide +kernel
abbrev cJ7_fill_53178 : ByteArray := prog_16_method_103_code
def yJ7_fill_53178 : MethodName := ⟨RJ7, "fill", "([II)V"⟩
def RL : String := "DixonEliminatorLaw"
abbrev cL_law : ByteArray := code
def yL_law : MethodName := ⟨RL, "law", "([I)Z"⟩
abbrev vwCl : List vw_C := [(RX0, TX0, 8), (RX1, TX1, 12), (RX2, TX2, 3), (RX4, TX4, 2), (RX5, TX5, 15), (RX6, TX6, 5), (RX7, TX7, 6), (RX8, TX8, 4), (RX9, TX9, 7), (RX10, TX10, 41)]
