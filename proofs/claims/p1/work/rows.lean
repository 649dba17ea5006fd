section
-- ===== PART A: goes FIRST, ahead of the names: the tables' words, and 'selects' of the private methods out of them =====
/-- a private method of a class that the tables say can be made, by its rows of tables_1 -/
def lw_okq (q : MethodName × Nat) : Prop := (q.1.cls ≠ "java/lang/invoke/MethodHandle" ∧ q.1.cls ≠ "java/lang/invoke/VarHandle") ∧ Cond.instantiable q.1.cls q.2 ∈ tables_1 ∧ Cond.privateMethod q.1 ∈ tables_1 ∧ Cond.instanceMethod q.1 ∈ tables_1
theorem lw_p0 : lw_okq (⟨"MatroidDesk", "readsWhole", "(I)Z"⟩, 14) := ⟨⟨by decide +kernel, by decide +kernel⟩, List.mem_of_getElem? (i := 35) (by decide +kernel), List.mem_of_getElem? (i := 339) (by decide +kernel), List.mem_of_getElem? (i := 340) (by decide +kernel)⟩
theorem lw_p1 : lw_okq (⟨"MatroidDesk$Tokens", "skipBlanks", "()V"⟩, 6) := ⟨⟨by decide +kernel, by decide +kernel⟩, List.mem_of_getElem? (i := 186) (by decide +kernel), List.mem_of_getElem? (i := 351) (by decide +kernel), List.mem_of_getElem? (i := 352) (by decide +kernel)⟩
theorem lw_p2 : lw_okq (⟨"MatroidDesk$Tokens", "takeWord", "()V"⟩, 6) := ⟨⟨by decide +kernel, by decide +kernel⟩, List.mem_of_getElem? (i := 186) (by decide +kernel), List.mem_of_getElem? (i := 358) (by decide +kernel), List.mem_of_getElem? (i := 359) (by decide +kernel)⟩
theorem lw_p3 : lw_okq (⟨"MatroidDesk$Tokens", "takeNumber", "(I)V"⟩, 6) := ⟨⟨by decide +kernel, by decide +kernel⟩, List.mem_of_getElem? (i := 186) (by decide +kernel), List.mem_of_getElem? (i := 365) (by decide +kernel), List.mem_of_getElem? (i := 366) (by decide +kernel)⟩
theorem lw_p4 : lw_okq (⟨"MatroidDesk$Statement", "readVerb", "()Z"⟩, 12) := ⟨⟨by decide +kernel, by decide +kernel⟩, List.mem_of_getElem? (i := 215) (by decide +kernel), List.mem_of_getElem? (i := 373) (by decide +kernel), List.mem_of_getElem? (i := 374) (by decide +kernel)⟩
theorem lw_p5 : lw_okq (⟨"MatroidDesk$Statement", "skip", "(I)Z"⟩, 12) := ⟨⟨by decide +kernel, by decide +kernel⟩, List.mem_of_getElem? (i := 215) (by decide +kernel), List.mem_of_getElem? (i := 382) (by decide +kernel), List.mem_of_getElem? (i := 383) (by decide +kernel)⟩
theorem lw_p6 : lw_okq (⟨"MatroidDesk$Statement", "readField", "()Z"⟩, 12) := ⟨⟨by decide +kernel, by decide +kernel⟩, List.mem_of_getElem? (i := 215) (by decide +kernel), List.mem_of_getElem? (i := 440) (by decide +kernel), List.mem_of_getElem? (i := 441) (by decide +kernel)⟩
theorem lw_p7 : lw_okq (⟨"MatroidDesk$Statement", "readHeads", "()Z"⟩, 12) := ⟨⟨by decide +kernel, by decide +kernel⟩, List.mem_of_getElem? (i := 215) (by decide +kernel), List.mem_of_getElem? (i := 448) (by decide +kernel), List.mem_of_getElem? (i := 449) (by decide +kernel)⟩
theorem lw_p8 : lw_okq (⟨"MatroidDesk$Statement", "readNames", "()Z"⟩, 12) := ⟨⟨by decide +kernel, by decide +kernel⟩, List.mem_of_getElem? (i := 215) (by decide +kernel), List.mem_of_getElem? (i := 452) (by decide +kernel), List.mem_of_getElem? (i := 453) (by decide +kernel)⟩
theorem lw_p9 : lw_okq (⟨"MatroidDesk$Statement", "readTail", "()Z"⟩, 12) := ⟨⟨by decide +kernel, by decide +kernel⟩, List.mem_of_getElem? (i := 215) (by decide +kernel), List.mem_of_getElem? (i := 456) (by decide +kernel), List.mem_of_getElem? (i := 457) (by decide +kernel)⟩
theorem lw_p10 : lw_okq (⟨"MatroidDesk$Statement", "readEdges", "()Z"⟩, 12) := ⟨⟨by decide +kernel, by decide +kernel⟩, List.mem_of_getElem? (i := 215) (by decide +kernel), List.mem_of_getElem? (i := 460) (by decide +kernel), List.mem_of_getElem? (i := 461) (by decide +kernel)⟩
theorem lw_p11 : lw_okq (⟨"MatroidDesk$Statement", "keep", "()V"⟩, 12) := ⟨⟨by decide +kernel, by decide +kernel⟩, List.mem_of_getElem? (i := 215) (by decide +kernel), List.mem_of_getElem? (i := 464) (by decide +kernel), List.mem_of_getElem? (i := 465) (by decide +kernel)⟩
theorem lw_p12 : lw_okq (⟨"MatroidDesk$Statement", "readRows", "(Z)V"⟩, 12) := ⟨⟨by decide +kernel, by decide +kernel⟩, List.mem_of_getElem? (i := 215) (by decide +kernel), List.mem_of_getElem? (i := 468) (by decide +kernel), List.mem_of_getElem? (i := 469) (by decide +kernel)⟩
theorem lw_p13 : lw_okq (⟨"MatroidDesk", "obstacle", "()I"⟩, 14) := ⟨⟨by decide +kernel, by decide +kernel⟩, List.mem_of_getElem? (i := 35) (by decide +kernel), List.mem_of_getElem? (i := 476) (by decide +kernel), List.mem_of_getElem? (i := 477) (by decide +kernel)⟩
theorem lw_p14 : lw_okq (⟨"MatroidDesk", "matroidAt", "(I)LMatroidDesk$Matroid;"⟩, 14) := ⟨⟨by decide +kernel, by decide +kernel⟩, List.mem_of_getElem? (i := 35) (by decide +kernel), List.mem_of_getElem? (i := 480) (by decide +kernel), List.mem_of_getElem? (i := 481) (by decide +kernel)⟩
theorem lw_p15 : lw_okq (⟨"MatroidDesk$Statement", "within", "(I)Z"⟩, 12) := ⟨⟨by decide +kernel, by decide +kernel⟩, List.mem_of_getElem? (i := 215) (by decide +kernel), List.mem_of_getElem? (i := 496) (by decide +kernel), List.mem_of_getElem? (i := 497) (by decide +kernel)⟩
def lw_privs_1 : List (MethodName × Nat) := [(⟨"MatroidDesk", "readsWhole", "(I)Z"⟩, 14), (⟨"MatroidDesk$Tokens", "skipBlanks", "()V"⟩, 6), (⟨"MatroidDesk$Tokens", "takeWord", "()V"⟩, 6), (⟨"MatroidDesk$Tokens", "takeNumber", "(I)V"⟩, 6), (⟨"MatroidDesk$Statement", "readVerb", "()Z"⟩, 12), (⟨"MatroidDesk$Statement", "skip", "(I)Z"⟩, 12), (⟨"MatroidDesk$Statement", "readField", "()Z"⟩, 12), (⟨"MatroidDesk$Statement", "readHeads", "()Z"⟩, 12), (⟨"MatroidDesk$Statement", "readNames", "()Z"⟩, 12), (⟨"MatroidDesk$Statement", "readTail", "()Z"⟩, 12), (⟨"MatroidDesk$Statement", "readEdges", "()Z"⟩, 12), (⟨"MatroidDesk$Statement", "keep", "()V"⟩, 12), (⟨"MatroidDesk$Statement", "readRows", "(Z)V"⟩, 12), (⟨"MatroidDesk", "obstacle", "()I"⟩, 14), (⟨"MatroidDesk", "matroidAt", "(I)LMatroidDesk$Matroid;"⟩, 14), (⟨"MatroidDesk$Statement", "within", "(I)Z"⟩, 12)]
theorem lw_r1 : ∀ q ∈ lw_privs_1, lw_okq q := List.forall_mem_cons.mpr ⟨lw_p0, List.forall_mem_cons.mpr ⟨lw_p1, List.forall_mem_cons.mpr ⟨lw_p2, List.forall_mem_cons.mpr ⟨lw_p3, List.forall_mem_cons.mpr ⟨lw_p4, List.forall_mem_cons.mpr ⟨lw_p5, List.forall_mem_cons.mpr ⟨lw_p6, List.forall_mem_cons.mpr ⟨lw_p7, List.forall_mem_cons.mpr ⟨lw_p8, List.forall_mem_cons.mpr ⟨lw_p9, List.forall_mem_cons.mpr ⟨lw_p10, List.forall_mem_cons.mpr ⟨lw_p11, List.forall_mem_cons.mpr ⟨lw_p12, List.forall_mem_cons.mpr ⟨lw_p13, List.forall_mem_cons.mpr ⟨lw_p14, List.forall_mem_cons.mpr ⟨lw_p15, fun _ h => absurd h List.not_mem_nil⟩⟩⟩⟩⟩⟩⟩⟩⟩⟩⟩⟩⟩⟩⟩⟩
theorem lw_p16 : lw_okq (⟨"MatroidDesk$Statement", "rises", "()Z"⟩, 12) := ⟨⟨by decide +kernel, by decide +kernel⟩, List.mem_of_getElem? (i := 215) (by decide +kernel), List.mem_of_getElem? (i := 500) (by decide +kernel), List.mem_of_getElem? (i := 501) (by decide +kernel)⟩
theorem lw_p17 : lw_okq (⟨"MatroidDesk", "make", "()V"⟩, 14) := ⟨⟨by decide +kernel, by decide +kernel⟩, List.mem_of_getElem? (i := 35) (by decide +kernel), List.mem_of_getElem? (i := 515) (by decide +kernel), List.mem_of_getElem? (i := 516) (by decide +kernel)⟩
theorem lw_p18 : lw_okq (⟨"MatroidDesk", "makeOfNumbers", "(LMatroidDesk$Matroid;)V"⟩, 14) := ⟨⟨by decide +kernel, by decide +kernel⟩, List.mem_of_getElem? (i := 35) (by decide +kernel), List.mem_of_getElem? (i := 587) (by decide +kernel), List.mem_of_getElem? (i := 588) (by decide +kernel)⟩
theorem lw_p19 : lw_okq (⟨"MatroidDesk$Minors", "clear", "(II)V"⟩, 12) := ⟨⟨by decide +kernel, by decide +kernel⟩, List.mem_of_getElem? (i := 63) (by decide +kernel), List.mem_of_getElem? (i := 597) (by decide +kernel), List.mem_of_getElem? (i := 598) (by decide +kernel)⟩
theorem lw_p20 : lw_okq (⟨"MatroidDesk$Orders", "build", "(I)V"⟩, 3) := ⟨⟨by decide +kernel, by decide +kernel⟩, List.mem_of_getElem? (i := 45) (by decide +kernel), List.mem_of_getElem? (i := 621) (by decide +kernel), List.mem_of_getElem? (i := 622) (by decide +kernel)⟩
theorem lw_p21 : lw_okq (⟨"java/lang/Throwable", "fillInStackTrace", "(I)Ljava/lang/Throwable;"⟩, 6) := ⟨⟨by decide +kernel, by decide +kernel⟩, List.mem_of_getElem? (i := 671) (by decide +kernel), List.mem_of_getElem? (i := 669) (by decide +kernel), List.mem_of_getElem? (i := 670) (by decide +kernel)⟩
theorem lw_p22 : lw_okq (⟨"MatroidDesk$Minors", "addsRow", "([II)Z"⟩, 12) := ⟨⟨by decide +kernel, by decide +kernel⟩, List.mem_of_getElem? (i := 63) (by decide +kernel), List.mem_of_getElem? (i := 907) (by decide +kernel), List.mem_of_getElem? (i := 908) (by decide +kernel)⟩
theorem lw_p23 : lw_okq (⟨"MatroidDesk$Minors", "expand", "(I[II)V"⟩, 12) := ⟨⟨by decide +kernel, by decide +kernel⟩, List.mem_of_getElem? (i := 63) (by decide +kernel), List.mem_of_getElem? (i := 919) (by decide +kernel), List.mem_of_getElem? (i := 920) (by decide +kernel)⟩
theorem lw_p24 : lw_okq (⟨"MatroidDesk$Matroid", "begin", "(III)V"⟩, 15) := ⟨⟨by decide +kernel, by decide +kernel⟩, List.mem_of_getElem? (i := 518) (by decide +kernel), List.mem_of_getElem? (i := 962) (by decide +kernel), List.mem_of_getElem? (i := 963) (by decide +kernel)⟩
theorem lw_p25 : lw_okq (⟨"MatroidDesk$Matroid", "turnFirstUp", "()V"⟩, 15) := ⟨⟨by decide +kernel, by decide +kernel⟩, List.mem_of_getElem? (i := 518) (by decide +kernel), List.mem_of_getElem? (i := 1001) (by decide +kernel), List.mem_of_getElem? (i := 1002) (by decide +kernel)⟩
theorem lw_p26 : lw_okq (⟨"MatroidDesk", "layGraph", "(II)V"⟩, 14) := ⟨⟨by decide +kernel, by decide +kernel⟩, List.mem_of_getElem? (i := 35) (by decide +kernel), List.mem_of_getElem? (i := 1010) (by decide +kernel), List.mem_of_getElem? (i := 1011) (by decide +kernel)⟩
theorem lw_p27 : lw_okq (⟨"MatroidDesk", "layUniform", "(II)V"⟩, 14) := ⟨⟨by decide +kernel, by decide +kernel⟩, List.mem_of_getElem? (i := 35) (by decide +kernel), List.mem_of_getElem? (i := 1017) (by decide +kernel), List.mem_of_getElem? (i := 1018) (by decide +kernel)⟩
theorem lw_p28 : lw_okq (⟨"MatroidDesk", "makeOfMatroid", "(LMatroidDesk$Matroid;LMatroidDesk$Matroid;)V"⟩, 14) := ⟨⟨by decide +kernel, by decide +kernel⟩, List.mem_of_getElem? (i := 35) (by decide +kernel), List.mem_of_getElem? (i := 1021) (by decide +kernel), List.mem_of_getElem? (i := 1022) (by decide +kernel)⟩
theorem lw_p29 : lw_okq (⟨"MatroidDesk$Matroid", "takeParts", "(LMatroidDesk$Matroid;IIIZ)V"⟩, 15) := ⟨⟨by decide +kernel, by decide +kernel⟩, List.mem_of_getElem? (i := 518) (by decide +kernel), List.mem_of_getElem? (i := 1033) (by decide +kernel), List.mem_of_getElem? (i := 1034) (by decide +kernel)⟩
theorem lw_p30 : lw_okq (⟨"MatroidDesk$Matroid", "heldOf", "(LMatroidDesk$Part;II)I"⟩, 15) := ⟨⟨by decide +kernel, by decide +kernel⟩, List.mem_of_getElem? (i := 518) (by decide +kernel), List.mem_of_getElem? (i := 1037) (by decide +kernel), List.mem_of_getElem? (i := 1038) (by decide +kernel)⟩
theorem lw_p31 : lw_okq (⟨"MatroidDesk$Matroid", "workOutRanks", "()V"⟩, 15) := ⟨⟨by decide +kernel, by decide +kernel⟩, List.mem_of_getElem? (i := 518) (by decide +kernel), List.mem_of_getElem? (i := 1050) (by decide +kernel), List.mem_of_getElem? (i := 1051) (by decide +kernel)⟩
def lw_privs_2 : List (MethodName × Nat) := [(⟨"MatroidDesk$Statement", "rises", "()Z"⟩, 12), (⟨"MatroidDesk", "make", "()V"⟩, 14), (⟨"MatroidDesk", "makeOfNumbers", "(LMatroidDesk$Matroid;)V"⟩, 14), (⟨"MatroidDesk$Minors", "clear", "(II)V"⟩, 12), (⟨"MatroidDesk$Orders", "build", "(I)V"⟩, 3), (⟨"java/lang/Throwable", "fillInStackTrace", "(I)Ljava/lang/Throwable;"⟩, 6), (⟨"MatroidDesk$Minors", "addsRow", "([II)Z"⟩, 12), (⟨"MatroidDesk$Minors", "expand", "(I[II)V"⟩, 12), (⟨"MatroidDesk$Matroid", "begin", "(III)V"⟩, 15), (⟨"MatroidDesk$Matroid", "turnFirstUp", "()V"⟩, 15), (⟨"MatroidDesk", "layGraph", "(II)V"⟩, 14), (⟨"MatroidDesk", "layUniform", "(II)V"⟩, 14), (⟨"MatroidDesk", "makeOfMatroid", "(LMatroidDesk$Matroid;LMatroidDesk$Matroid;)V"⟩, 14), (⟨"MatroidDesk$Matroid", "takeParts", "(LMatroidDesk$Matroid;IIIZ)V"⟩, 15), (⟨"MatroidDesk$Matroid", "heldOf", "(LMatroidDesk$Part;II)I"⟩, 15), (⟨"MatroidDesk$Matroid", "workOutRanks", "()V"⟩, 15)]
theorem lw_r2 : ∀ q ∈ lw_privs_2, lw_okq q := List.forall_mem_cons.mpr ⟨lw_p16, List.forall_mem_cons.mpr ⟨lw_p17, List.forall_mem_cons.mpr ⟨lw_p18, List.forall_mem_cons.mpr ⟨lw_p19, List.forall_mem_cons.mpr ⟨lw_p20, List.forall_mem_cons.mpr ⟨lw_p21, List.forall_mem_cons.mpr ⟨lw_p22, List.forall_mem_cons.mpr ⟨lw_p23, List.forall_mem_cons.mpr ⟨lw_p24, List.forall_mem_cons.mpr ⟨lw_p25, List.forall_mem_cons.mpr ⟨lw_p26, List.forall_mem_cons.mpr ⟨lw_p27, List.forall_mem_cons.mpr ⟨lw_p28, List.forall_mem_cons.mpr ⟨lw_p29, List.forall_mem_cons.mpr ⟨lw_p30, List.forall_mem_cons.mpr ⟨lw_p31, fun _ h => absurd h List.not_mem_nil⟩⟩⟩⟩⟩⟩⟩⟩⟩⟩⟩⟩⟩⟩⟩⟩
theorem lw_p32 : lw_okq (⟨"MatroidDesk$Matroid", "interleavesOdd", "(II)Z"⟩, 15) := ⟨⟨by decide +kernel, by decide +kernel⟩, List.mem_of_getElem? (i := 518) (by decide +kernel), List.mem_of_getElem? (i := 1059) (by decide +kernel), List.mem_of_getElem? (i := 1060) (by decide +kernel)⟩
theorem lw_p33 : lw_okq (⟨"MatroidDesk", "tell", "(LMatroidDesk$Matroid;)V"⟩, 14) := ⟨⟨by decide +kernel, by decide +kernel⟩, List.mem_of_getElem? (i := 35) (by decide +kernel), List.mem_of_getElem? (i := 1072) (by decide +kernel), List.mem_of_getElem? (i := 1073) (by decide +kernel)⟩
theorem lw_p34 : lw_okq (⟨"MatroidDesk", "tellList", "(LMatroidDesk$Matroid;I)V"⟩, 14) := ⟨⟨by decide +kernel, by decide +kernel⟩, List.mem_of_getElem? (i := 35) (by decide +kernel), List.mem_of_getElem? (i := 1090) (by decide +kernel), List.mem_of_getElem? (i := 1091) (by decide +kernel)⟩
theorem lw_p35 : lw_okq (⟨"MatroidDesk$Matroid", "workOutList", "(I)V"⟩, 15) := ⟨⟨by decide +kernel, by decide +kernel⟩, List.mem_of_getElem? (i := 518) (by decide +kernel), List.mem_of_getElem? (i := 1098) (by decide +kernel), List.mem_of_getElem? (i := 1099) (by decide +kernel)⟩
theorem lw_p36 : lw_okq (⟨"MatroidDesk$Matroid", "belongs", "(II)Z"⟩, 15) := ⟨⟨by decide +kernel, by decide +kernel⟩, List.mem_of_getElem? (i := 518) (by decide +kernel), List.mem_of_getElem? (i := 1102) (by decide +kernel), List.mem_of_getElem? (i := 1103) (by decide +kernel)⟩
theorem lw_p37 : lw_okq (⟨"MatroidDesk$Matroid", "isCircuit", "(I)Z"⟩, 15) := ⟨⟨by decide +kernel, by decide +kernel⟩, List.mem_of_getElem? (i := 518) (by decide +kernel), List.mem_of_getElem? (i := 1106) (by decide +kernel), List.mem_of_getElem? (i := 1107) (by decide +kernel)⟩
theorem lw_p38 : lw_okq (⟨"MatroidDesk$Matroid", "isFlat", "(I)Z"⟩, 15) := ⟨⟨by decide +kernel, by decide +kernel⟩, List.mem_of_getElem? (i := 518) (by decide +kernel), List.mem_of_getElem? (i := 1110) (by decide +kernel), List.mem_of_getElem? (i := 1111) (by decide +kernel)⟩
theorem lw_p39 : lw_okq (⟨"MatroidDesk", "tellTutte", "(LMatroidDesk$Matroid;)V"⟩, 14) := ⟨⟨by decide +kernel, by decide +kernel⟩, List.mem_of_getElem? (i := 35) (by decide +kernel), List.mem_of_getElem? (i := 1129) (by decide +kernel), List.mem_of_getElem? (i := 1130) (by decide +kernel)⟩
theorem lw_p40 : lw_okq (⟨"MatroidDesk$Matroid", "workOutPolynomial", "()V"⟩, 15) := ⟨⟨by decide +kernel, by decide +kernel⟩, List.mem_of_getElem? (i := 518) (by decide +kernel), List.mem_of_getElem? (i := 1137) (by decide +kernel), List.mem_of_getElem? (i := 1138) (by decide +kernel)⟩
theorem lw_p41 : lw_okq (⟨"MatroidDesk$Matroid", "lowerVariable", "(III)V"⟩, 15) := ⟨⟨by decide +kernel, by decide +kernel⟩, List.mem_of_getElem? (i := 518) (by decide +kernel), List.mem_of_getElem? (i := 1144) (by decide +kernel), List.mem_of_getElem? (i := 1145) (by decide +kernel)⟩
theorem lw_p42 : lw_okq (⟨"MatroidDesk$Product", "power", "(CI)V"⟩, 4) := ⟨⟨by decide +kernel, by decide +kernel⟩, List.mem_of_getElem? (i := 270) (by decide +kernel), List.mem_of_getElem? (i := 1155) (by decide +kernel), List.mem_of_getElem? (i := 1156) (by decide +kernel)⟩
theorem lw_p43 : lw_okq (⟨"MatroidDesk", "tellCommon", "(LMatroidDesk$Matroid;LMatroidDesk$Matroid;)V"⟩, 14) := ⟨⟨by decide +kernel, by decide +kernel⟩, List.mem_of_getElem? (i := 35) (by decide +kernel), List.mem_of_getElem? (i := 1164) (by decide +kernel), List.mem_of_getElem? (i := 1165) (by decide +kernel)⟩
theorem lw_p44 : lw_okq (⟨"MatroidDesk", "tellChirotope", "(LMatroidDesk$Matroid;)V"⟩, 14) := ⟨⟨by decide +kernel, by decide +kernel⟩, List.mem_of_getElem? (i := 35) (by decide +kernel), List.mem_of_getElem? (i := 1178) (by decide +kernel), List.mem_of_getElem? (i := 1179) (by decide +kernel)⟩
theorem lw_p45 : lw_okq (⟨"MatroidDesk", "tellSigns", "(LMatroidDesk$Matroid;)V"⟩, 14) := ⟨⟨by decide +kernel, by decide +kernel⟩, List.mem_of_getElem? (i := 35) (by decide +kernel), List.mem_of_getElem? (i := 1188) (by decide +kernel), List.mem_of_getElem? (i := 1189) (by decide +kernel)⟩
theorem lw_p46 : lw_okq (⟨"MatroidDesk", "tellMinor", "(LMatroidDesk$Matroid;LMatroidDesk$Matroid;)V"⟩, 14) := ⟨⟨by decide +kernel, by decide +kernel⟩, List.mem_of_getElem? (i := 35) (by decide +kernel), List.mem_of_getElem? (i := 1200) (by decide +kernel), List.mem_of_getElem? (i := 1201) (by decide +kernel)⟩
theorem lw_p47 : lw_okq (⟨"MatroidDesk$Witness", "makeRoom", "()V"⟩, 18) := ⟨⟨by decide +kernel, by decide +kernel⟩, List.mem_of_getElem? (i := 123) (by decide +kernel), List.mem_of_getElem? (i := 1208) (by decide +kernel), List.mem_of_getElem? (i := 1209) (by decide +kernel)⟩
def lw_privs_3 : List (MethodName × Nat) := [(⟨"MatroidDesk$Matroid", "interleavesOdd", "(II)Z"⟩, 15), (⟨"MatroidDesk", "tell", "(LMatroidDesk$Matroid;)V"⟩, 14), (⟨"MatroidDesk", "tellList", "(LMatroidDesk$Matroid;I)V"⟩, 14), (⟨"MatroidDesk$Matroid", "workOutList", "(I)V"⟩, 15), (⟨"MatroidDesk$Matroid", "belongs", "(II)Z"⟩, 15), (⟨"MatroidDesk$Matroid", "isCircuit", "(I)Z"⟩, 15), (⟨"MatroidDesk$Matroid", "isFlat", "(I)Z"⟩, 15), (⟨"MatroidDesk", "tellTutte", "(LMatroidDesk$Matroid;)V"⟩, 14), (⟨"MatroidDesk$Matroid", "workOutPolynomial", "()V"⟩, 15), (⟨"MatroidDesk$Matroid", "lowerVariable", "(III)V"⟩, 15), (⟨"MatroidDesk$Product", "power", "(CI)V"⟩, 4), (⟨"MatroidDesk", "tellCommon", "(LMatroidDesk$Matroid;LMatroidDesk$Matroid;)V"⟩, 14), (⟨"MatroidDesk", "tellChirotope", "(LMatroidDesk$Matroid;)V"⟩, 14), (⟨"MatroidDesk", "tellSigns", "(LMatroidDesk$Matroid;)V"⟩, 14), (⟨"MatroidDesk", "tellMinor", "(LMatroidDesk$Matroid;LMatroidDesk$Matroid;)V"⟩, 14), (⟨"MatroidDesk$Witness", "makeRoom", "()V"⟩, 18)]
theorem lw_r3 : ∀ q ∈ lw_privs_3, lw_okq q := List.forall_mem_cons.mpr ⟨lw_p32, List.forall_mem_cons.mpr ⟨lw_p33, List.forall_mem_cons.mpr ⟨lw_p34, List.forall_mem_cons.mpr ⟨lw_p35, List.forall_mem_cons.mpr ⟨lw_p36, List.forall_mem_cons.mpr ⟨lw_p37, List.forall_mem_cons.mpr ⟨lw_p38, List.forall_mem_cons.mpr ⟨lw_p39, List.forall_mem_cons.mpr ⟨lw_p40, List.forall_mem_cons.mpr ⟨lw_p41, List.forall_mem_cons.mpr ⟨lw_p42, List.forall_mem_cons.mpr ⟨lw_p43, List.forall_mem_cons.mpr ⟨lw_p44, List.forall_mem_cons.mpr ⟨lw_p45, List.forall_mem_cons.mpr ⟨lw_p46, List.forall_mem_cons.mpr ⟨lw_p47, fun _ h => absurd h List.not_mem_nil⟩⟩⟩⟩⟩⟩⟩⟩⟩⟩⟩⟩⟩⟩⟩⟩
theorem lw_p48 : lw_okq (⟨"MatroidDesk$Witness", "countGuestBases", "()V"⟩, 18) := ⟨⟨by decide +kernel, by decide +kernel⟩, List.mem_of_getElem? (i := 123) (by decide +kernel), List.mem_of_getElem? (i := 1213) (by decide +kernel), List.mem_of_getElem? (i := 1214) (by decide +kernel)⟩
theorem lw_p49 : lw_okq (⟨"MatroidDesk$Witness", "countPairs", "([II)V"⟩, 18) := ⟨⟨by decide +kernel, by decide +kernel⟩, List.mem_of_getElem? (i := 123) (by decide +kernel), List.mem_of_getElem? (i := 1219) (by decide +kernel), List.mem_of_getElem? (i := 1220) (by decide +kernel)⟩
theorem lw_p50 : lw_okq (⟨"MatroidDesk$Witness", "findsOn", "(I)Z"⟩, 18) := ⟨⟨by decide +kernel, by decide +kernel⟩, List.mem_of_getElem? (i := 123) (by decide +kernel), List.mem_of_getElem? (i := 1225) (by decide +kernel), List.mem_of_getElem? (i := 1226) (by decide +kernel)⟩
theorem lw_p51 : lw_okq (⟨"MatroidDesk$Witness", "spread", "([II)V"⟩, 18) := ⟨⟨by decide +kernel, by decide +kernel⟩, List.mem_of_getElem? (i := 123) (by decide +kernel), List.mem_of_getElem? (i := 1229) (by decide +kernel), List.mem_of_getElem? (i := 1230) (by decide +kernel)⟩
theorem lw_p52 : lw_okq (⟨"MatroidDesk$Witness", "sameBases", "()Z"⟩, 18) := ⟨⟨by decide +kernel, by decide +kernel⟩, List.mem_of_getElem? (i := 123) (by decide +kernel), List.mem_of_getElem? (i := 1236) (by decide +kernel), List.mem_of_getElem? (i := 1237) (by decide +kernel)⟩
theorem lw_p53 : lw_okq (⟨"MatroidDesk$Witness", "isHostBasis", "(I)Z"⟩, 18) := ⟨⟨by decide +kernel, by decide +kernel⟩, List.mem_of_getElem? (i := 123) (by decide +kernel), List.mem_of_getElem? (i := 1240) (by decide +kernel), List.mem_of_getElem? (i := 1241) (by decide +kernel)⟩
theorem lw_p54 : lw_okq (⟨"MatroidDesk$Witness", "sameDegrees", "()Z"⟩, 18) := ⟨⟨by decide +kernel, by decide +kernel⟩, List.mem_of_getElem? (i := 123) (by decide +kernel), List.mem_of_getElem? (i := 1244) (by decide +kernel), List.mem_of_getElem? (i := 1245) (by decide +kernel)⟩
theorem lw_p55 : lw_okq (⟨"MatroidDesk$Witness", "assigns", "(I)Z"⟩, 18) := ⟨⟨by decide +kernel, by decide +kernel⟩, List.mem_of_getElem? (i := 123) (by decide +kernel), List.mem_of_getElem? (i := 1248) (by decide +kernel), List.mem_of_getElem? (i := 1249) (by decide +kernel)⟩
theorem lw_p56 : lw_okq (⟨"MatroidDesk$Witness", "samePairs", "(II)Z"⟩, 18) := ⟨⟨by decide +kernel, by decide +kernel⟩, List.mem_of_getElem? (i := 123) (by decide +kernel), List.mem_of_getElem? (i := 1252) (by decide +kernel), List.mem_of_getElem? (i := 1253) (by decide +kernel)⟩
theorem lw_p57 : lw_okq (⟨"MatroidDesk$Witness", "sameRanks", "(II)Z"⟩, 18) := ⟨⟨by decide +kernel, by decide +kernel⟩, List.mem_of_getElem? (i := 123) (by decide +kernel), List.mem_of_getElem? (i := 1256) (by decide +kernel), List.mem_of_getElem? (i := 1257) (by decide +kernel)⟩
theorem lw_p58 : lw_okq (⟨"MatroidDesk$Witness", "numberImages", "()V"⟩, 18) := ⟨⟨by decide +kernel, by decide +kernel⟩, List.mem_of_getElem? (i := 123) (by decide +kernel), List.mem_of_getElem? (i := 1260) (by decide +kernel), List.mem_of_getElem? (i := 1261) (by decide +kernel)⟩
theorem lw_p59 : lw_okq (⟨"MatroidDesk", "tellRows", "(LMatroidDesk$Matroid;)V"⟩, 14) := ⟨⟨by decide +kernel, by decide +kernel⟩, List.mem_of_getElem? (i := 35) (by decide +kernel), List.mem_of_getElem? (i := 1270) (by decide +kernel), List.mem_of_getElem? (i := 1271) (by decide +kernel)⟩
theorem lw_p60 : lw_okq (⟨"MatroidDesk", "tellRow", "(LMatroidDesk$Matroid;II)V"⟩, 14) := ⟨⟨by decide +kernel, by decide +kernel⟩, List.mem_of_getElem? (i := 35) (by decide +kernel), List.mem_of_getElem? (i := 1278) (by decide +kernel), List.mem_of_getElem? (i := 1279) (by decide +kernel)⟩
theorem lw_p61 : lw_okq (⟨"MatroidDesk$Minors", "inverse", "(J)J"⟩, 12) := ⟨⟨by decide +kernel, by decide +kernel⟩, List.mem_of_getElem? (i := 63) (by decide +kernel), List.mem_of_getElem? (i := 1295) (by decide +kernel), List.mem_of_getElem? (i := 1296) (by decide +kernel)⟩
theorem lw_p62 : lw_okq (⟨"MatroidDesk$Wide", "takeShortCommon", "(JJ)V"⟩, 3) := ⟨⟨by decide +kernel, by decide +kernel⟩, List.mem_of_getElem? (i := 69) (by decide +kernel), List.mem_of_getElem? (i := 1322) (by decide +kernel), List.mem_of_getElem? (i := 1323) (by decide +kernel)⟩
theorem lw_p63 : lw_okq (⟨"MatroidDesk$Wide", "copy", "(LMatroidDesk$Wide;)V"⟩, 3) := ⟨⟨by decide +kernel, by decide +kernel⟩, List.mem_of_getElem? (i := 69) (by decide +kernel), List.mem_of_getElem? (i := 1327) (by decide +kernel), List.mem_of_getElem? (i := 1328) (by decide +kernel)⟩
def lw_privs_4 : List (MethodName × Nat) := [(⟨"MatroidDesk$Witness", "countGuestBases", "()V"⟩, 18), (⟨"MatroidDesk$Witness", "countPairs", "([II)V"⟩, 18), (⟨"MatroidDesk$Witness", "findsOn", "(I)Z"⟩, 18), (⟨"MatroidDesk$Witness", "spread", "([II)V"⟩, 18), (⟨"MatroidDesk$Witness", "sameBases", "()Z"⟩, 18), (⟨"MatroidDesk$Witness", "isHostBasis", "(I)Z"⟩, 18), (⟨"MatroidDesk$Witness", "sameDegrees", "()Z"⟩, 18), (⟨"MatroidDesk$Witness", "assigns", "(I)Z"⟩, 18), (⟨"MatroidDesk$Witness", "samePairs", "(II)Z"⟩, 18), (⟨"MatroidDesk$Witness", "sameRanks", "(II)Z"⟩, 18), (⟨"MatroidDesk$Witness", "numberImages", "()V"⟩, 18), (⟨"MatroidDesk", "tellRows", "(LMatroidDesk$Matroid;)V"⟩, 14), (⟨"MatroidDesk", "tellRow", "(LMatroidDesk$Matroid;II)V"⟩, 14), (⟨"MatroidDesk$Minors", "inverse", "(J)J"⟩, 12), (⟨"MatroidDesk$Wide", "takeShortCommon", "(JJ)V"⟩, 3), (⟨"MatroidDesk$Wide", "copy", "(LMatroidDesk$Wide;)V"⟩, 3)]
theorem lw_r4 : ∀ q ∈ lw_privs_4, lw_okq q := List.forall_mem_cons.mpr ⟨lw_p48, List.forall_mem_cons.mpr ⟨lw_p49, List.forall_mem_cons.mpr ⟨lw_p50, List.forall_mem_cons.mpr ⟨lw_p51, List.forall_mem_cons.mpr ⟨lw_p52, List.forall_mem_cons.mpr ⟨lw_p53, List.forall_mem_cons.mpr ⟨lw_p54, List.forall_mem_cons.mpr ⟨lw_p55, List.forall_mem_cons.mpr ⟨lw_p56, List.forall_mem_cons.mpr ⟨lw_p57, List.forall_mem_cons.mpr ⟨lw_p58, List.forall_mem_cons.mpr ⟨lw_p59, List.forall_mem_cons.mpr ⟨lw_p60, List.forall_mem_cons.mpr ⟨lw_p61, List.forall_mem_cons.mpr ⟨lw_p62, List.forall_mem_cons.mpr ⟨lw_p63, fun _ h => absurd h List.not_mem_nil⟩⟩⟩⟩⟩⟩⟩⟩⟩⟩⟩⟩⟩⟩⟩⟩
theorem lw_p64 : lw_okq (⟨"MatroidDesk$Wide", "halve", "()V"⟩, 3) := ⟨⟨by decide +kernel, by decide +kernel⟩, List.mem_of_getElem? (i := 69) (by decide +kernel), List.mem_of_getElem? (i := 1332) (by decide +kernel), List.mem_of_getElem? (i := 1333) (by decide +kernel)⟩
theorem lw_p65 : lw_okq (⟨"MatroidDesk$Wide", "compareWith", "(LMatroidDesk$Wide;)I"⟩, 3) := ⟨⟨by decide +kernel, by decide +kernel⟩, List.mem_of_getElem? (i := 69) (by decide +kernel), List.mem_of_getElem? (i := 1336) (by decide +kernel), List.mem_of_getElem? (i := 1337) (by decide +kernel)⟩
theorem lw_p66 : lw_okq (⟨"MatroidDesk$Wide", "swap", "(LMatroidDesk$Wide;)V"⟩, 3) := ⟨⟨by decide +kernel, by decide +kernel⟩, List.mem_of_getElem? (i := 69) (by decide +kernel), List.mem_of_getElem? (i := 1343) (by decide +kernel), List.mem_of_getElem? (i := 1344) (by decide +kernel)⟩
theorem lw_p67 : lw_okq (⟨"MatroidDesk$Wide", "subtract", "(LMatroidDesk$Wide;)V"⟩, 3) := ⟨⟨by decide +kernel, by decide +kernel⟩, List.mem_of_getElem? (i := 69) (by decide +kernel), List.mem_of_getElem? (i := 1347) (by decide +kernel), List.mem_of_getElem? (i := 1348) (by decide +kernel)⟩
theorem lw_p68 : lw_okq (⟨"MatroidDesk$Wide", "twice", "(I)V"⟩, 3) := ⟨⟨by decide +kernel, by decide +kernel⟩, List.mem_of_getElem? (i := 69) (by decide +kernel), List.mem_of_getElem? (i := 1351) (by decide +kernel), List.mem_of_getElem? (i := 1352) (by decide +kernel)⟩
theorem lw_p69 : lw_okq (⟨"MatroidDesk", "isMinor", "(II)Z"⟩, 14) := ⟨⟨by decide +kernel, by decide +kernel⟩, List.mem_of_getElem? (i := 35) (by decide +kernel), List.mem_of_getElem? (i := 1449) (by decide +kernel), List.mem_of_getElem? (i := 1450) (by decide +kernel)⟩
theorem lw_p70 : lw_okq (⟨"MatroidDesk", "takeInt", "(I)V"⟩, 14) := ⟨⟨by decide +kernel, by decide +kernel⟩, List.mem_of_getElem? (i := 35) (by decide +kernel), List.mem_of_getElem? (i := 1486) (by decide +kernel), List.mem_of_getElem? (i := 1487) (by decide +kernel)⟩
theorem lw_p71 : lw_okq (⟨"MatroidDeskModel", "list", "(IIII)I"⟩, 53) := ⟨⟨by decide +kernel, by decide +kernel⟩, List.mem_of_getElem? (i := 1501) (by decide +kernel), List.mem_of_getElem? (i := 1530) (by decide +kernel), List.mem_of_getElem? (i := 1531) (by decide +kernel)⟩
theorem lw_p72 : lw_okq (⟨"MatroidDeskModel", "take", "(I)V"⟩, 53) := ⟨⟨by decide +kernel, by decide +kernel⟩, List.mem_of_getElem? (i := 1501) (by decide +kernel), List.mem_of_getElem? (i := 1703) (by decide +kernel), List.mem_of_getElem? (i := 1704) (by decide +kernel)⟩
theorem lw_p73 : lw_okq (⟨"MatroidDeskModel", "isScript", "()Z"⟩, 53) := ⟨⟨by decide +kernel, by decide +kernel⟩, List.mem_of_getElem? (i := 1501) (by decide +kernel), List.mem_of_getElem? (i := 1715) (by decide +kernel), List.mem_of_getElem? (i := 1716) (by decide +kernel)⟩
theorem lw_p74 : lw_okq (⟨"MatroidDeskModel", "next", "()V"⟩, 53) := ⟨⟨by decide +kernel, by decide +kernel⟩, List.mem_of_getElem? (i := 1501) (by decide +kernel), List.mem_of_getElem? (i := 1719) (by decide +kernel), List.mem_of_getElem? (i := 1720) (by decide +kernel)⟩
theorem lw_p75 : lw_okq (⟨"MatroidDeskModel", "look", "(I)I"⟩, 53) := ⟨⟨by decide +kernel, by decide +kernel⟩, List.mem_of_getElem? (i := 1501) (by decide +kernel), List.mem_of_getElem? (i := 1723) (by decide +kernel), List.mem_of_getElem? (i := 1724) (by decide +kernel)⟩
theorem lw_p76 : lw_okq (⟨"MatroidDeskModel", "want", "(Z)V"⟩, 53) := ⟨⟨by decide +kernel, by decide +kernel⟩, List.mem_of_getElem? (i := 1501) (by decide +kernel), List.mem_of_getElem? (i := 1733) (by decide +kernel), List.mem_of_getElem? (i := 1734) (by decide +kernel)⟩
theorem lw_p77 : lw_okq (⟨"MatroidDeskModel", "isName", "()Z"⟩, 53) := ⟨⟨by decide +kernel, by decide +kernel⟩, List.mem_of_getElem? (i := 1501) (by decide +kernel), List.mem_of_getElem? (i := 1737) (by decide +kernel), List.mem_of_getElem? (i := 1738) (by decide +kernel)⟩
theorem lw_p78 : lw_okq (⟨"MatroidDeskModel", "maker", "()V"⟩, 53) := ⟨⟨by decide +kernel, by decide +kernel⟩, List.mem_of_getElem? (i := 1501) (by decide +kernel), List.mem_of_getElem? (i := 1741) (by decide +kernel), List.mem_of_getElem? (i := 1742) (by decide +kernel)⟩
theorem lw_p79 : lw_okq (⟨"MatroidDeskModel", "wordOf", "(Ljava/lang/String;)I"⟩, 53) := ⟨⟨by decide +kernel, by decide +kernel⟩, List.mem_of_getElem? (i := 1501) (by decide +kernel), List.mem_of_getElem? (i := 1746) (by decide +kernel), List.mem_of_getElem? (i := 1747) (by decide +kernel)⟩
def lw_privs_5 : List (MethodName × Nat) := [(⟨"MatroidDesk$Wide", "halve", "()V"⟩, 3), (⟨"MatroidDesk$Wide", "compareWith", "(LMatroidDesk$Wide;)I"⟩, 3), (⟨"MatroidDesk$Wide", "swap", "(LMatroidDesk$Wide;)V"⟩, 3), (⟨"MatroidDesk$Wide", "subtract", "(LMatroidDesk$Wide;)V"⟩, 3), (⟨"MatroidDesk$Wide", "twice", "(I)V"⟩, 3), (⟨"MatroidDesk", "isMinor", "(II)Z"⟩, 14), (⟨"MatroidDesk", "takeInt", "(I)V"⟩, 14), (⟨"MatroidDeskModel", "list", "(IIII)I"⟩, 53), (⟨"MatroidDeskModel", "take", "(I)V"⟩, 53), (⟨"MatroidDeskModel", "isScript", "()Z"⟩, 53), (⟨"MatroidDeskModel", "next", "()V"⟩, 53), (⟨"MatroidDeskModel", "look", "(I)I"⟩, 53), (⟨"MatroidDeskModel", "want", "(Z)V"⟩, 53), (⟨"MatroidDeskModel", "isName", "()Z"⟩, 53), (⟨"MatroidDeskModel", "maker", "()V"⟩, 53), (⟨"MatroidDeskModel", "wordOf", "(Ljava/lang/String;)I"⟩, 53)]
theorem lw_r5 : ∀ q ∈ lw_privs_5, lw_okq q := List.forall_mem_cons.mpr ⟨lw_p64, List.forall_mem_cons.mpr ⟨lw_p65, List.forall_mem_cons.mpr ⟨lw_p66, List.forall_mem_cons.mpr ⟨lw_p67, List.forall_mem_cons.mpr ⟨lw_p68, List.forall_mem_cons.mpr ⟨lw_p69, List.forall_mem_cons.mpr ⟨lw_p70, List.forall_mem_cons.mpr ⟨lw_p71, List.forall_mem_cons.mpr ⟨lw_p72, List.forall_mem_cons.mpr ⟨lw_p73, List.forall_mem_cons.mpr ⟨lw_p74, List.forall_mem_cons.mpr ⟨lw_p75, List.forall_mem_cons.mpr ⟨lw_p76, List.forall_mem_cons.mpr ⟨lw_p77, List.forall_mem_cons.mpr ⟨lw_p78, List.forall_mem_cons.mpr ⟨lw_p79, fun _ h => absurd h List.not_mem_nil⟩⟩⟩⟩⟩⟩⟩⟩⟩⟩⟩⟩⟩⟩⟩⟩
theorem lw_p80 : lw_okq (⟨"MatroidDeskModel", "number", "()V"⟩, 53) := ⟨⟨by decide +kernel, by decide +kernel⟩, List.mem_of_getElem? (i := 1501) (by decide +kernel), List.mem_of_getElem? (i := 1752) (by decide +kernel), List.mem_of_getElem? (i := 1753) (by decide +kernel)⟩
theorem lw_p81 : lw_okq (⟨"MatroidDeskModel", "numbers", "(Z)V"⟩, 53) := ⟨⟨by decide +kernel, by decide +kernel⟩, List.mem_of_getElem? (i := 1501) (by decide +kernel), List.mem_of_getElem? (i := 1756) (by decide +kernel), List.mem_of_getElem? (i := 1757) (by decide +kernel)⟩
theorem lw_p82 : lw_okq (⟨"MatroidDeskModel", "edges", "()V"⟩, 53) := ⟨⟨by decide +kernel, by decide +kernel⟩, List.mem_of_getElem? (i := 1501) (by decide +kernel), List.mem_of_getElem? (i := 1760) (by decide +kernel), List.mem_of_getElem? (i := 1761) (by decide +kernel)⟩
theorem lw_p83 : lw_okq (⟨"MatroidDeskModel", "name", "()V"⟩, 53) := ⟨⟨by decide +kernel, by decide +kernel⟩, List.mem_of_getElem? (i := 1501) (by decide +kernel), List.mem_of_getElem? (i := 1764) (by decide +kernel), List.mem_of_getElem? (i := 1765) (by decide +kernel)⟩
theorem lw_p84 : lw_okq (⟨"MatroidDeskModel", "perform", "()V"⟩, 53) := ⟨⟨by decide +kernel, by decide +kernel⟩, List.mem_of_getElem? (i := 1501) (by decide +kernel), List.mem_of_getElem? (i := 1769) (by decide +kernel), List.mem_of_getElem? (i := 1770) (by decide +kernel)⟩
theorem lw_p85 : lw_okq (⟨"MatroidDeskModel", "letter", "()I"⟩, 53) := ⟨⟨by decide +kernel, by decide +kernel⟩, List.mem_of_getElem? (i := 1501) (by decide +kernel), List.mem_of_getElem? (i := 1773) (by decide +kernel), List.mem_of_getElem? (i := 1774) (by decide +kernel)⟩
theorem lw_p86 : lw_okq (⟨"MatroidDeskModel", "make", "(I)V"⟩, 53) := ⟨⟨by decide +kernel, by decide +kernel⟩, List.mem_of_getElem? (i := 1501) (by decide +kernel), List.mem_of_getElem? (i := 1777) (by decide +kernel), List.mem_of_getElem? (i := 1778) (by decide +kernel)⟩
theorem lw_p87 : lw_okq (⟨"MatroidDeskModel", "makeMatrix", "(I)V"⟩, 53) := ⟨⟨by decide +kernel, by decide +kernel⟩, List.mem_of_getElem? (i := 1501) (by decide +kernel), List.mem_of_getElem? (i := 1781) (by decide +kernel), List.mem_of_getElem? (i := 1782) (by decide +kernel)⟩
theorem lw_p88 : lw_okq (⟨"MatroidDeskModel", "value", "()I"⟩, 53) := ⟨⟨by decide +kernel, by decide +kernel⟩, List.mem_of_getElem? (i := 1501) (by decide +kernel), List.mem_of_getElem? (i := 1785) (by decide +kernel), List.mem_of_getElem? (i := 1786) (by decide +kernel)⟩
theorem lw_p89 : lw_okq (⟨"MatroidDeskModel", "told", "()I"⟩, 53) := ⟨⟨by decide +kernel, by decide +kernel⟩, List.mem_of_getElem? (i := 1501) (by decide +kernel), List.mem_of_getElem? (i := 1789) (by decide +kernel), List.mem_of_getElem? (i := 1790) (by decide +kernel)⟩
theorem lw_p90 : lw_okq (⟨"MatroidDeskModel", "begin", "(II)V"⟩, 53) := ⟨⟨by decide +kernel, by decide +kernel⟩, List.mem_of_getElem? (i := 1501) (by decide +kernel), List.mem_of_getElem? (i := 1796) (by decide +kernel), List.mem_of_getElem? (i := 1797) (by decide +kernel)⟩
theorem lw_p91 : lw_okq (⟨"MatroidDeskModel", "put", "(IIJ)V"⟩, 53) := ⟨⟨by decide +kernel, by decide +kernel⟩, List.mem_of_getElem? (i := 1501) (by decide +kernel), List.mem_of_getElem? (i := 1800) (by decide +kernel), List.mem_of_getElem? (i := 1801) (by decide +kernel)⟩
theorem lw_p92 : lw_okq (⟨"MatroidDeskModel", "at", "(II)LMatroidDeskModel$Num;"⟩, 53) := ⟨⟨by decide +kernel, by decide +kernel⟩, List.mem_of_getElem? (i := 1501) (by decide +kernel), List.mem_of_getElem? (i := 1804) (by decide +kernel), List.mem_of_getElem? (i := 1805) (by decide +kernel)⟩
theorem lw_p93 : lw_okq (⟨"MatroidDeskModel", "may", "(ZI)Z"⟩, 53) := ⟨⟨by decide +kernel, by decide +kernel⟩, List.mem_of_getElem? (i := 1501) (by decide +kernel), List.mem_of_getElem? (i := 1817) (by decide +kernel), List.mem_of_getElem? (i := 1818) (by decide +kernel)⟩
theorem lw_p94 : lw_okq (⟨"MatroidDeskModel", "become", "(I)V"⟩, 53) := ⟨⟨by decide +kernel, by decide +kernel⟩, List.mem_of_getElem? (i := 1501) (by decide +kernel), List.mem_of_getElem? (i := 1821) (by decide +kernel), List.mem_of_getElem? (i := 1822) (by decide +kernel)⟩
theorem lw_p95 : lw_okq (⟨"MatroidDeskModel", "reduce", "()V"⟩, 53) := ⟨⟨by decide +kernel, by decide +kernel⟩, List.mem_of_getElem? (i := 1501) (by decide +kernel), List.mem_of_getElem? (i := 1825) (by decide +kernel), List.mem_of_getElem? (i := 1826) (by decide +kernel)⟩
def lw_privs_6 : List (MethodName × Nat) := [(⟨"MatroidDeskModel", "number", "()V"⟩, 53), (⟨"MatroidDeskModel", "numbers", "(Z)V"⟩, 53), (⟨"MatroidDeskModel", "edges", "()V"⟩, 53), (⟨"MatroidDeskModel", "name", "()V"⟩, 53), (⟨"MatroidDeskModel", "perform", "()V"⟩, 53), (⟨"MatroidDeskModel", "letter", "()I"⟩, 53), (⟨"MatroidDeskModel", "make", "(I)V"⟩, 53), (⟨"MatroidDeskModel", "makeMatrix", "(I)V"⟩, 53), (⟨"MatroidDeskModel", "value", "()I"⟩, 53), (⟨"MatroidDeskModel", "told", "()I"⟩, 53), (⟨"MatroidDeskModel", "begin", "(II)V"⟩, 53), (⟨"MatroidDeskModel", "put", "(IIJ)V"⟩, 53), (⟨"MatroidDeskModel", "at", "(II)LMatroidDeskModel$Num;"⟩, 53), (⟨"MatroidDeskModel", "may", "(ZI)Z"⟩, 53), (⟨"MatroidDeskModel", "become", "(I)V"⟩, 53), (⟨"MatroidDeskModel", "reduce", "()V"⟩, 53)]
theorem lw_r6 : ∀ q ∈ lw_privs_6, lw_okq q := List.forall_mem_cons.mpr ⟨lw_p80, List.forall_mem_cons.mpr ⟨lw_p81, List.forall_mem_cons.mpr ⟨lw_p82, List.forall_mem_cons.mpr ⟨lw_p83, List.forall_mem_cons.mpr ⟨lw_p84, List.forall_mem_cons.mpr ⟨lw_p85, List.forall_mem_cons.mpr ⟨lw_p86, List.forall_mem_cons.mpr ⟨lw_p87, List.forall_mem_cons.mpr ⟨lw_p88, List.forall_mem_cons.mpr ⟨lw_p89, List.forall_mem_cons.mpr ⟨lw_p90, List.forall_mem_cons.mpr ⟨lw_p91, List.forall_mem_cons.mpr ⟨lw_p92, List.forall_mem_cons.mpr ⟨lw_p93, List.forall_mem_cons.mpr ⟨lw_p94, List.forall_mem_cons.mpr ⟨lw_p95, fun _ h => absurd h List.not_mem_nil⟩⟩⟩⟩⟩⟩⟩⟩⟩⟩⟩⟩⟩⟩⟩⟩
theorem lw_p96 : lw_okq (⟨"MatroidDeskModel", "isZero", "(II)Z"⟩, 53) := ⟨⟨by decide +kernel, by decide +kernel⟩, List.mem_of_getElem? (i := 1501) (by decide +kernel), List.mem_of_getElem? (i := 1829) (by decide +kernel), List.mem_of_getElem? (i := 1830) (by decide +kernel)⟩
theorem lw_p97 : lw_okq (⟨"MatroidDeskModel", "swap", "(II)V"⟩, 53) := ⟨⟨by decide +kernel, by decide +kernel⟩, List.mem_of_getElem? (i := 1501) (by decide +kernel), List.mem_of_getElem? (i := 1833) (by decide +kernel), List.mem_of_getElem? (i := 1834) (by decide +kernel)⟩
theorem lw_p98 : lw_okq (⟨"MatroidDeskModel", "take", "(III)V"⟩, 53) := ⟨⟨by decide +kernel, by decide +kernel⟩, List.mem_of_getElem? (i := 1501) (by decide +kernel), List.mem_of_getElem? (i := 1841) (by decide +kernel), List.mem_of_getElem? (i := 1842) (by decide +kernel)⟩
theorem lw_p99 : lw_okq (⟨"MatroidDeskModel", "inverse", "(I)I"⟩, 53) := ⟨⟨by decide +kernel, by decide +kernel⟩, List.mem_of_getElem? (i := 1501) (by decide +kernel), List.mem_of_getElem? (i := 1845) (by decide +kernel), List.mem_of_getElem? (i := 1846) (by decide +kernel)⟩
theorem lw_p100 : lw_okq (⟨"MatroidDeskModel", "shorten", "(I)V"⟩, 53) := ⟨⟨by decide +kernel, by decide +kernel⟩, List.mem_of_getElem? (i := 1501) (by decide +kernel), List.mem_of_getElem? (i := 1866) (by decide +kernel), List.mem_of_getElem? (i := 1867) (by decide +kernel)⟩
theorem lw_p101 : lw_okq (⟨"MatroidDeskModel", "divisor", "(LMatroidDeskModel$Num;LMatroidDeskModel$Num;)V"⟩, 53) := ⟨⟨by decide +kernel, by decide +kernel⟩, List.mem_of_getElem? (i := 1501) (by decide +kernel), List.mem_of_getElem? (i := 1871) (by decide +kernel), List.mem_of_getElem? (i := 1872) (by decide +kernel)⟩
theorem lw_p102 : lw_okq (⟨"MatroidDeskModel", "settle", "(I)V"⟩, 53) := ⟨⟨by decide +kernel, by decide +kernel⟩, List.mem_of_getElem? (i := 1501) (by decide +kernel), List.mem_of_getElem? (i := 1891) (by decide +kernel), List.mem_of_getElem? (i := 1892) (by decide +kernel)⟩
theorem lw_p103 : lw_okq (⟨"MatroidDeskModel", "store", "(LMatroidDeskModel$Num;I)V"⟩, 53) := ⟨⟨by decide +kernel, by decide +kernel⟩, List.mem_of_getElem? (i := 1501) (by decide +kernel), List.mem_of_getElem? (i := 1899) (by decide +kernel), List.mem_of_getElem? (i := 1900) (by decide +kernel)⟩
theorem lw_p104 : lw_okq (⟨"MatroidDeskModel", "measure", "(I)V"⟩, 53) := ⟨⟨by decide +kernel, by decide +kernel⟩, List.mem_of_getElem? (i := 1501) (by decide +kernel), List.mem_of_getElem? (i := 1903) (by decide +kernel), List.mem_of_getElem? (i := 1904) (by decide +kernel)⟩
theorem lw_p105 : lw_okq (⟨"MatroidDeskModel", "minorOf", "(I)I"⟩, 53) := ⟨⟨by decide +kernel, by decide +kernel⟩, List.mem_of_getElem? (i := 1501) (by decide +kernel), List.mem_of_getElem? (i := 1907) (by decide +kernel), List.mem_of_getElem? (i := 1908) (by decide +kernel)⟩
theorem lw_p106 : lw_okq (⟨"MatroidDeskModel", "smallDeterminant", "(I)I"⟩, 53) := ⟨⟨by decide +kernel, by decide +kernel⟩, List.mem_of_getElem? (i := 1501) (by decide +kernel), List.mem_of_getElem? (i := 1917) (by decide +kernel), List.mem_of_getElem? (i := 1918) (by decide +kernel)⟩
theorem lw_p107 : lw_okq (⟨"MatroidDeskModel", "determinant", "(I)I"⟩, 53) := ⟨⟨by decide +kernel, by decide +kernel⟩, List.mem_of_getElem? (i := 1501) (by decide +kernel), List.mem_of_getElem? (i := 1921) (by decide +kernel), List.mem_of_getElem? (i := 1922) (by decide +kernel)⟩
theorem lw_p108 : lw_okq (⟨"MatroidDeskModel", "makeGraph", "(I)V"⟩, 53) := ⟨⟨by decide +kernel, by decide +kernel⟩, List.mem_of_getElem? (i := 1501) (by decide +kernel), List.mem_of_getElem? (i := 1929) (by decide +kernel), List.mem_of_getElem? (i := 1930) (by decide +kernel)⟩
theorem lw_p109 : lw_okq (⟨"MatroidDeskModel", "makeUniform", "(I)V"⟩, 53) := ⟨⟨by decide +kernel, by decide +kernel⟩, List.mem_of_getElem? (i := 1501) (by decide +kernel), List.mem_of_getElem? (i := 1934) (by decide +kernel), List.mem_of_getElem? (i := 1935) (by decide +kernel)⟩
theorem lw_p110 : lw_okq (⟨"MatroidDeskModel", "load", "(II)V"⟩, 53) := ⟨⟨by decide +kernel, by decide +kernel⟩, List.mem_of_getElem? (i := 1501) (by decide +kernel), List.mem_of_getElem? (i := 1938) (by decide +kernel), List.mem_of_getElem? (i := 1939) (by decide +kernel)⟩
theorem lw_p111 : lw_okq (⟨"MatroidDeskModel", "cell", "(IIIII)V"⟩, 53) := ⟨⟨by decide +kernel, by decide +kernel⟩, List.mem_of_getElem? (i := 1501) (by decide +kernel), List.mem_of_getElem? (i := 1942) (by decide +kernel), List.mem_of_getElem? (i := 1943) (by decide +kernel)⟩
def lw_privs_7 : List (MethodName × Nat) := [(⟨"MatroidDeskModel", "isZero", "(II)Z"⟩, 53), (⟨"MatroidDeskModel", "swap", "(II)V"⟩, 53), (⟨"MatroidDeskModel", "take", "(III)V"⟩, 53), (⟨"MatroidDeskModel", "inverse", "(I)I"⟩, 53), (⟨"MatroidDeskModel", "shorten", "(I)V"⟩, 53), (⟨"MatroidDeskModel", "divisor", "(LMatroidDeskModel$Num;LMatroidDeskModel$Num;)V"⟩, 53), (⟨"MatroidDeskModel", "settle", "(I)V"⟩, 53), (⟨"MatroidDeskModel", "store", "(LMatroidDeskModel$Num;I)V"⟩, 53), (⟨"MatroidDeskModel", "measure", "(I)V"⟩, 53), (⟨"MatroidDeskModel", "minorOf", "(I)I"⟩, 53), (⟨"MatroidDeskModel", "smallDeterminant", "(I)I"⟩, 53), (⟨"MatroidDeskModel", "determinant", "(I)I"⟩, 53), (⟨"MatroidDeskModel", "makeGraph", "(I)V"⟩, 53), (⟨"MatroidDeskModel", "makeUniform", "(I)V"⟩, 53), (⟨"MatroidDeskModel", "load", "(II)V"⟩, 53), (⟨"MatroidDeskModel", "cell", "(IIIII)V"⟩, 53)]
theorem lw_r7 : ∀ q ∈ lw_privs_7, lw_okq q := List.forall_mem_cons.mpr ⟨lw_p96, List.forall_mem_cons.mpr ⟨lw_p97, List.forall_mem_cons.mpr ⟨lw_p98, List.forall_mem_cons.mpr ⟨lw_p99, List.forall_mem_cons.mpr ⟨lw_p100, List.forall_mem_cons.mpr ⟨lw_p101, List.forall_mem_cons.mpr ⟨lw_p102, List.forall_mem_cons.mpr ⟨lw_p103, List.forall_mem_cons.mpr ⟨lw_p104, List.forall_mem_cons.mpr ⟨lw_p105, List.forall_mem_cons.mpr ⟨lw_p106, List.forall_mem_cons.mpr ⟨lw_p107, List.forall_mem_cons.mpr ⟨lw_p108, List.forall_mem_cons.mpr ⟨lw_p109, List.forall_mem_cons.mpr ⟨lw_p110, List.forall_mem_cons.mpr ⟨lw_p111, fun _ h => absurd h List.not_mem_nil⟩⟩⟩⟩⟩⟩⟩⟩⟩⟩⟩⟩⟩⟩⟩⟩
theorem lw_p112 : lw_okq (⟨"MatroidDeskModel", "fetch", "(LMatroidDeskModel$Num;I)V"⟩, 53) := ⟨⟨by decide +kernel, by decide +kernel⟩, List.mem_of_getElem? (i := 1501) (by decide +kernel), List.mem_of_getElem? (i := 1946) (by decide +kernel), List.mem_of_getElem? (i := 1947) (by decide +kernel)⟩
theorem lw_p113 : lw_okq (⟨"MatroidDeskModel", "makeDual", "(II)V"⟩, 53) := ⟨⟨by decide +kernel, by decide +kernel⟩, List.mem_of_getElem? (i := 1501) (by decide +kernel), List.mem_of_getElem? (i := 1950) (by decide +kernel), List.mem_of_getElem? (i := 1951) (by decide +kernel)⟩
theorem lw_p114 : lw_okq (⟨"MatroidDeskModel", "pivotOf", "(II)I"⟩, 53) := ⟨⟨by decide +kernel, by decide +kernel⟩, List.mem_of_getElem? (i := 1501) (by decide +kernel), List.mem_of_getElem? (i := 1954) (by decide +kernel), List.mem_of_getElem? (i := 1955) (by decide +kernel)⟩
theorem lw_p115 : lw_okq (⟨"MatroidDeskModel", "against", "(III)V"⟩, 53) := ⟨⟨by decide +kernel, by decide +kernel⟩, List.mem_of_getElem? (i := 1501) (by decide +kernel), List.mem_of_getElem? (i := 1958) (by decide +kernel), List.mem_of_getElem? (i := 1959) (by decide +kernel)⟩
theorem lw_p116 : lw_okq (⟨"MatroidDeskModel", "set", "(I)I"⟩, 53) := ⟨⟨by decide +kernel, by decide +kernel⟩, List.mem_of_getElem? (i := 1501) (by decide +kernel), List.mem_of_getElem? (i := 1962) (by decide +kernel), List.mem_of_getElem? (i := 1963) (by decide +kernel)⟩
theorem lw_p117 : lw_okq (⟨"MatroidDeskModel", "arrange", "(IIZ)V"⟩, 53) := ⟨⟨by decide +kernel, by decide +kernel⟩, List.mem_of_getElem? (i := 1501) (by decide +kernel), List.mem_of_getElem? (i := 1966) (by decide +kernel), List.mem_of_getElem? (i := 1967) (by decide +kernel)⟩
theorem lw_p118 : lw_okq (⟨"MatroidDeskModel", "makeContracted", "(III)V"⟩, 53) := ⟨⟨by decide +kernel, by decide +kernel⟩, List.mem_of_getElem? (i := 1501) (by decide +kernel), List.mem_of_getElem? (i := 1970) (by decide +kernel), List.mem_of_getElem? (i := 1971) (by decide +kernel)⟩
theorem lw_p119 : lw_okq (⟨"MatroidDeskModel", "weigh", "(I)V"⟩, 53) := ⟨⟨by decide +kernel, by decide +kernel⟩, List.mem_of_getElem? (i := 1501) (by decide +kernel), List.mem_of_getElem? (i := 1974) (by decide +kernel), List.mem_of_getElem? (i := 1975) (by decide +kernel)⟩
theorem lw_p120 : lw_okq (⟨"MatroidDeskModel", "print", "(III)V"⟩, 53) := ⟨⟨by decide +kernel, by decide +kernel⟩, List.mem_of_getElem? (i := 1501) (by decide +kernel), List.mem_of_getElem? (i := 1978) (by decide +kernel), List.mem_of_getElem? (i := 1979) (by decide +kernel)⟩
theorem lw_p121 : lw_okq (⟨"MatroidDeskModel", "putLong", "(J)V"⟩, 53) := ⟨⟨by decide +kernel, by decide +kernel⟩, List.mem_of_getElem? (i := 1501) (by decide +kernel), List.mem_of_getElem? (i := 1982) (by decide +kernel), List.mem_of_getElem? (i := 1983) (by decide +kernel)⟩
theorem lw_p122 : lw_okq (⟨"MatroidDeskModel", "put", "(I)V"⟩, 53) := ⟨⟨by decide +kernel, by decide +kernel⟩, List.mem_of_getElem? (i := 1501) (by decide +kernel), List.mem_of_getElem? (i := 1986) (by decide +kernel), List.mem_of_getElem? (i := 1987) (by decide +kernel)⟩
theorem lw_p123 : lw_okq (⟨"MatroidDeskModel", "putFamily", "(II)V"⟩, 53) := ⟨⟨by decide +kernel, by decide +kernel⟩, List.mem_of_getElem? (i := 1501) (by decide +kernel), List.mem_of_getElem? (i := 1993) (by decide +kernel), List.mem_of_getElem? (i := 1994) (by decide +kernel)⟩
theorem lw_p124 : lw_okq (⟨"MatroidDeskModel", "whole", "(I)I"⟩, 53) := ⟨⟨by decide +kernel, by decide +kernel⟩, List.mem_of_getElem? (i := 1501) (by decide +kernel), List.mem_of_getElem? (i := 1997) (by decide +kernel), List.mem_of_getElem? (i := 1998) (by decide +kernel)⟩
theorem lw_p125 : lw_okq (⟨"MatroidDeskModel", "isOf", "(III)Z"⟩, 53) := ⟨⟨by decide +kernel, by decide +kernel⟩, List.mem_of_getElem? (i := 1501) (by decide +kernel), List.mem_of_getElem? (i := 2001) (by decide +kernel), List.mem_of_getElem? (i := 2002) (by decide +kernel)⟩
theorem lw_p126 : lw_okq (⟨"MatroidDeskModel", "isFree", "(II)Z"⟩, 53) := ⟨⟨by decide +kernel, by decide +kernel⟩, List.mem_of_getElem? (i := 1501) (by decide +kernel), List.mem_of_getElem? (i := 2005) (by decide +kernel), List.mem_of_getElem? (i := 2006) (by decide +kernel)⟩
theorem lw_p127 : lw_okq (⟨"MatroidDeskModel", "\x72", "(II)I"⟩, 53) := ⟨⟨by decide +kernel, by decide +kernel⟩, List.mem_of_getElem? (i := 1501) (by decide +kernel), List.mem_of_getElem? (i := 2009) (by decide +kernel), List.mem_of_getElem? (i := 2010) (by decide +kernel)⟩
def lw_privs_8 : List (MethodName × Nat) := [(⟨"MatroidDeskModel", "fetch", "(LMatroidDeskModel$Num;I)V"⟩, 53), (⟨"MatroidDeskModel", "makeDual", "(II)V"⟩, 53), (⟨"MatroidDeskModel", "pivotOf", "(II)I"⟩, 53), (⟨"MatroidDeskModel", "against", "(III)V"⟩, 53), (⟨"MatroidDeskModel", "set", "(I)I"⟩, 53), (⟨"MatroidDeskModel", "arrange", "(IIZ)V"⟩, 53), (⟨"MatroidDeskModel", "makeContracted", "(III)V"⟩, 53), (⟨"MatroidDeskModel", "weigh", "(I)V"⟩, 53), (⟨"MatroidDeskModel", "print", "(III)V"⟩, 53), (⟨"MatroidDeskModel", "putLong", "(J)V"⟩, 53), (⟨"MatroidDeskModel", "put", "(I)V"⟩, 53), (⟨"MatroidDeskModel", "putFamily", "(II)V"⟩, 53), (⟨"MatroidDeskModel", "whole", "(I)I"⟩, 53), (⟨"MatroidDeskModel", "isOf", "(III)Z"⟩, 53), (⟨"MatroidDeskModel", "isFree", "(II)Z"⟩, 53), (⟨"MatroidDeskModel", "\x72", "(II)I"⟩, 53)]
theorem lw_r8 : ∀ q ∈ lw_privs_8, lw_okq q := List.forall_mem_cons.mpr ⟨lw_p112, List.forall_mem_cons.mpr ⟨lw_p113, List.forall_mem_cons.mpr ⟨lw_p114, List.forall_mem_cons.mpr ⟨lw_p115, List.forall_mem_cons.mpr ⟨lw_p116, List.forall_mem_cons.mpr ⟨lw_p117, List.forall_mem_cons.mpr ⟨lw_p118, List.forall_mem_cons.mpr ⟨lw_p119, List.forall_mem_cons.mpr ⟨lw_p120, List.forall_mem_cons.mpr ⟨lw_p121, List.forall_mem_cons.mpr ⟨lw_p122, List.forall_mem_cons.mpr ⟨lw_p123, List.forall_mem_cons.mpr ⟨lw_p124, List.forall_mem_cons.mpr ⟨lw_p125, List.forall_mem_cons.mpr ⟨lw_p126, List.forall_mem_cons.mpr ⟨lw_p127, fun _ h => absurd h List.not_mem_nil⟩⟩⟩⟩⟩⟩⟩⟩⟩⟩⟩⟩⟩⟩⟩⟩
theorem lw_p128 : lw_okq (⟨"MatroidDeskModel", "isFlat", "(II)Z"⟩, 53) := ⟨⟨by decide +kernel, by decide +kernel⟩, List.mem_of_getElem? (i := 1501) (by decide +kernel), List.mem_of_getElem? (i := 2013) (by decide +kernel), List.mem_of_getElem? (i := 2014) (by decide +kernel)⟩
theorem lw_p129 : lw_okq (⟨"MatroidDeskModel", "isCircuit", "(IIZ)Z"⟩, 53) := ⟨⟨by decide +kernel, by decide +kernel⟩, List.mem_of_getElem? (i := 1501) (by decide +kernel), List.mem_of_getElem? (i := 2017) (by decide +kernel), List.mem_of_getElem? (i := 2018) (by decide +kernel)⟩
theorem lw_p130 : lw_okq (⟨"MatroidDeskModel", "dualRank", "(II)I"⟩, 53) := ⟨⟨by decide +kernel, by decide +kernel⟩, List.mem_of_getElem? (i := 1501) (by decide +kernel), List.mem_of_getElem? (i := 2021) (by decide +kernel), List.mem_of_getElem? (i := 2022) (by decide +kernel)⟩
theorem lw_p131 : lw_okq (⟨"MatroidDeskModel", "putSet", "(I)V"⟩, 53) := ⟨⟨by decide +kernel, by decide +kernel⟩, List.mem_of_getElem? (i := 1501) (by decide +kernel), List.mem_of_getElem? (i := 2025) (by decide +kernel), List.mem_of_getElem? (i := 2026) (by decide +kernel)⟩
theorem lw_p132 : lw_okq (⟨"MatroidDeskModel", "putTutte", "(I)V"⟩, 53) := ⟨⟨by decide +kernel, by decide +kernel⟩, List.mem_of_getElem? (i := 1501) (by decide +kernel), List.mem_of_getElem? (i := 2029) (by decide +kernel), List.mem_of_getElem? (i := 2030) (by decide +kernel)⟩
theorem lw_p133 : lw_okq (⟨"MatroidDeskModel", "polynomial", "(I)V"⟩, 53) := ⟨⟨by decide +kernel, by decide +kernel⟩, List.mem_of_getElem? (i := 1501) (by decide +kernel), List.mem_of_getElem? (i := 2033) (by decide +kernel), List.mem_of_getElem? (i := 2034) (by decide +kernel)⟩
theorem lw_p134 : lw_okq (⟨"MatroidDeskModel", "power", "(II)V"⟩, 53) := ⟨⟨by decide +kernel, by decide +kernel⟩, List.mem_of_getElem? (i := 1501) (by decide +kernel), List.mem_of_getElem? (i := 2037) (by decide +kernel), List.mem_of_getElem? (i := 2038) (by decide +kernel)⟩
theorem lw_p135 : lw_okq (⟨"MatroidDeskModel", "bestOf", "(I)I"⟩, 53) := ⟨⟨by decide +kernel, by decide +kernel⟩, List.mem_of_getElem? (i := 1501) (by decide +kernel), List.mem_of_getElem? (i := 2041) (by decide +kernel), List.mem_of_getElem? (i := 2042) (by decide +kernel)⟩
theorem lw_p136 : lw_okq (⟨"MatroidDeskModel", "commonOf", "(II)I"⟩, 53) := ⟨⟨by decide +kernel, by decide +kernel⟩, List.mem_of_getElem? (i := 1501) (by decide +kernel), List.mem_of_getElem? (i := 2045) (by decide +kernel), List.mem_of_getElem? (i := 2046) (by decide +kernel)⟩
theorem lw_p137 : lw_okq (⟨"MatroidDeskModel", "coverOf", "(II)I"⟩, 53) := ⟨⟨by decide +kernel, by decide +kernel⟩, List.mem_of_getElem? (i := 1501) (by decide +kernel), List.mem_of_getElem? (i := 2049) (by decide +kernel), List.mem_of_getElem? (i := 2050) (by decide +kernel)⟩
theorem lw_p138 : lw_okq (⟨"MatroidDeskModel", "putChirotope", "(I)V"⟩, 53) := ⟨⟨by decide +kernel, by decide +kernel⟩, List.mem_of_getElem? (i := 1501) (by decide +kernel), List.mem_of_getElem? (i := 2053) (by decide +kernel), List.mem_of_getElem? (i := 2054) (by decide +kernel)⟩
theorem lw_p139 : lw_okq (⟨"MatroidDeskModel", "putSigns", "(I)V"⟩, 53) := ⟨⟨by decide +kernel, by decide +kernel⟩, List.mem_of_getElem? (i := 1501) (by decide +kernel), List.mem_of_getElem? (i := 2060) (by decide +kernel), List.mem_of_getElem? (i := 2061) (by decide +kernel)⟩
theorem lw_p140 : lw_okq (⟨"MatroidDeskModel", "belowOf", "(II)I"⟩, 53) := ⟨⟨by decide +kernel, by decide +kernel⟩, List.mem_of_getElem? (i := 1501) (by decide +kernel), List.mem_of_getElem? (i := 2064) (by decide +kernel), List.mem_of_getElem? (i := 2065) (by decide +kernel)⟩
theorem lw_p141 : lw_okq (⟨"MatroidDeskModel", "determinantOf", "(III)I"⟩, 53) := ⟨⟨by decide +kernel, by decide +kernel⟩, List.mem_of_getElem? (i := 1501) (by decide +kernel), List.mem_of_getElem? (i := 2068) (by decide +kernel), List.mem_of_getElem? (i := 2069) (by decide +kernel)⟩
theorem lw_p142 : lw_okq (⟨"MatroidDeskModel", "putMinor", "(II)V"⟩, 53) := ⟨⟨by decide +kernel, by decide +kernel⟩, List.mem_of_getElem? (i := 1501) (by decide +kernel), List.mem_of_getElem? (i := 2075) (by decide +kernel), List.mem_of_getElem? (i := 2076) (by decide +kernel)⟩
theorem lw_p143 : lw_okq (⟨"MatroidDeskModel", "isMinor", "(II)Z"⟩, 53) := ⟨⟨by decide +kernel, by decide +kernel⟩, List.mem_of_getElem? (i := 1501) (by decide +kernel), List.mem_of_getElem? (i := 2079) (by decide +kernel), List.mem_of_getElem? (i := 2080) (by decide +kernel)⟩
def lw_privs_9 : List (MethodName × Nat) := [(⟨"MatroidDeskModel", "isFlat", "(II)Z"⟩, 53), (⟨"MatroidDeskModel", "isCircuit", "(IIZ)Z"⟩, 53), (⟨"MatroidDeskModel", "dualRank", "(II)I"⟩, 53), (⟨"MatroidDeskModel", "putSet", "(I)V"⟩, 53), (⟨"MatroidDeskModel", "putTutte", "(I)V"⟩, 53), (⟨"MatroidDeskModel", "polynomial", "(I)V"⟩, 53), (⟨"MatroidDeskModel", "power", "(II)V"⟩, 53), (⟨"MatroidDeskModel", "bestOf", "(I)I"⟩, 53), (⟨"MatroidDeskModel", "commonOf", "(II)I"⟩, 53), (⟨"MatroidDeskModel", "coverOf", "(II)I"⟩, 53), (⟨"MatroidDeskModel", "putChirotope", "(I)V"⟩, 53), (⟨"MatroidDeskModel", "putSigns", "(I)V"⟩, 53), (⟨"MatroidDeskModel", "belowOf", "(II)I"⟩, 53), (⟨"MatroidDeskModel", "determinantOf", "(III)I"⟩, 53), (⟨"MatroidDeskModel", "putMinor", "(II)V"⟩, 53), (⟨"MatroidDeskModel", "isMinor", "(II)Z"⟩, 53)]
theorem lw_r9 : ∀ q ∈ lw_privs_9, lw_okq q := List.forall_mem_cons.mpr ⟨lw_p128, List.forall_mem_cons.mpr ⟨lw_p129, List.forall_mem_cons.mpr ⟨lw_p130, List.forall_mem_cons.mpr ⟨lw_p131, List.forall_mem_cons.mpr ⟨lw_p132, List.forall_mem_cons.mpr ⟨lw_p133, List.forall_mem_cons.mpr ⟨lw_p134, List.forall_mem_cons.mpr ⟨lw_p135, List.forall_mem_cons.mpr ⟨lw_p136, List.forall_mem_cons.mpr ⟨lw_p137, List.forall_mem_cons.mpr ⟨lw_p138, List.forall_mem_cons.mpr ⟨lw_p139, List.forall_mem_cons.mpr ⟨lw_p140, List.forall_mem_cons.mpr ⟨lw_p141, List.forall_mem_cons.mpr ⟨lw_p142, List.forall_mem_cons.mpr ⟨lw_p143, fun _ h => absurd h List.not_mem_nil⟩⟩⟩⟩⟩⟩⟩⟩⟩⟩⟩⟩⟩⟩⟩⟩
theorem lw_p144 : lw_okq (⟨"MatroidDeskModel", "isLike", "(IIII)Z"⟩, 53) := ⟨⟨by decide +kernel, by decide +kernel⟩, List.mem_of_getElem? (i := 1501) (by decide +kernel), List.mem_of_getElem? (i := 2083) (by decide +kernel), List.mem_of_getElem? (i := 2084) (by decide +kernel)⟩
theorem lw_p145 : lw_okq (⟨"MatroidDeskModel", "maps", "(IIIII)Z"⟩, 53) := ⟨⟨by decide +kernel, by decide +kernel⟩, List.mem_of_getElem? (i := 1501) (by decide +kernel), List.mem_of_getElem? (i := 2087) (by decide +kernel), List.mem_of_getElem? (i := 2088) (by decide +kernel)⟩
theorem lw_p146 : lw_okq (⟨"MatroidDeskModel", "fits", "(IIII)Z"⟩, 53) := ⟨⟨by decide +kernel, by decide +kernel⟩, List.mem_of_getElem? (i := 1501) (by decide +kernel), List.mem_of_getElem? (i := 2091) (by decide +kernel), List.mem_of_getElem? (i := 2092) (by decide +kernel)⟩
theorem lw_p147 : lw_okq (⟨"MatroidDeskModel", "show", "(I)V"⟩, 53) := ⟨⟨by decide +kernel, by decide +kernel⟩, List.mem_of_getElem? (i := 1501) (by decide +kernel), List.mem_of_getElem? (i := 2095) (by decide +kernel), List.mem_of_getElem? (i := 2096) (by decide +kernel)⟩
theorem lw_p148 : lw_okq (⟨"MatroidDeskModel", "putNum", "(LMatroidDeskModel$Num;)V"⟩, 53) := ⟨⟨by decide +kernel, by decide +kernel⟩, List.mem_of_getElem? (i := 1501) (by decide +kernel), List.mem_of_getElem? (i := 2099) (by decide +kernel), List.mem_of_getElem? (i := 2100) (by decide +kernel)⟩
theorem lw_p149 : lw_okq (⟨"MatroidDeskModel", "is", "(I)Z"⟩, 53) := ⟨⟨by decide +kernel, by decide +kernel⟩, List.mem_of_getElem? (i := 1501) (by decide +kernel), List.mem_of_getElem? (i := 2124) (by decide +kernel), List.mem_of_getElem? (i := 2125) (by decide +kernel)⟩
theorem lw_p150 : lw_okq (⟨"MatroidDeskModel", "howMany", "(II)I"⟩, 53) := ⟨⟨by decide +kernel, by decide +kernel⟩, List.mem_of_getElem? (i := 1501) (by decide +kernel), List.mem_of_getElem? (i := 2140) (by decide +kernel), List.mem_of_getElem? (i := 2141) (by decide +kernel)⟩
theorem lw_p151 : lw_okq (⟨"MatroidDeskModel", "theOne", "(III)I"⟩, 53) := ⟨⟨by decide +kernel, by decide +kernel⟩, List.mem_of_getElem? (i := 1501) (by decide +kernel), List.mem_of_getElem? (i := 2148) (by decide +kernel), List.mem_of_getElem? (i := 2149) (by decide +kernel)⟩
def lw_privs_10 : List (MethodName × Nat) := [(⟨"MatroidDeskModel", "isLike", "(IIII)Z"⟩, 53), (⟨"MatroidDeskModel", "maps", "(IIIII)Z"⟩, 53), (⟨"MatroidDeskModel", "fits", "(IIII)Z"⟩, 53), (⟨"MatroidDeskModel", "show", "(I)V"⟩, 53), (⟨"MatroidDeskModel", "putNum", "(LMatroidDeskModel$Num;)V"⟩, 53), (⟨"MatroidDeskModel", "is", "(I)Z"⟩, 53), (⟨"MatroidDeskModel", "howMany", "(II)I"⟩, 53), (⟨"MatroidDeskModel", "theOne", "(III)I"⟩, 53)]
theorem lw_r10 : ∀ q ∈ lw_privs_10, lw_okq q := List.forall_mem_cons.mpr ⟨lw_p144, List.forall_mem_cons.mpr ⟨lw_p145, List.forall_mem_cons.mpr ⟨lw_p146, List.forall_mem_cons.mpr ⟨lw_p147, List.forall_mem_cons.mpr ⟨lw_p148, List.forall_mem_cons.mpr ⟨lw_p149, List.forall_mem_cons.mpr ⟨lw_p150, List.forall_mem_cons.mpr ⟨lw_p151, fun _ h => absurd h List.not_mem_nil⟩⟩⟩⟩⟩⟩⟩⟩
def lw_privs : List (MethodName × Nat) := lw_privs_1 ++ (lw_privs_2 ++ (lw_privs_3 ++ (lw_privs_4 ++ (lw_privs_5 ++ (lw_privs_6 ++ (lw_privs_7 ++ (lw_privs_8 ++ (lw_privs_9 ++ (lw_privs_10)))))))))
def lw_tbl : List Cond := k2_sels lw_privs ++ tables_1
theorem lw_privs_ok : ∀ q ∈ lw_privs, lw_okq q := by
  show ∀ q ∈ lw_privs_1 ++ (lw_privs_2 ++ (lw_privs_3 ++ (lw_privs_4 ++ (lw_privs_5 ++ (lw_privs_6 ++ (lw_privs_7 ++ (lw_privs_8 ++ (lw_privs_9 ++ (lw_privs_10))))))))), lw_okq q
  exact List.forall_mem_append.mpr ⟨lw_r1, List.forall_mem_append.mpr ⟨lw_r2, List.forall_mem_append.mpr ⟨lw_r3, List.forall_mem_append.mpr ⟨lw_r4, List.forall_mem_append.mpr ⟨lw_r5, List.forall_mem_append.mpr ⟨lw_r6, List.forall_mem_append.mpr ⟨lw_r7, List.forall_mem_append.mpr ⟨lw_r8, List.forall_mem_append.mpr ⟨lw_r9, lw_r10⟩⟩⟩⟩⟩⟩⟩⟩⟩
end
section
/-! NAMES, by a text program of mine out of the tables of the Statement and javap: methods px_y (name), px_s (its words), px_d (decode rows); classes px_T; px_all: the words that the contracts share -/
def px_T0 : u_T := fun k => match k with
  | 0 => ("MatroidDesk", "bytes", "[B", false)
  | 1 => ("MatroidDesk", "fed", "I", false)
  | 2 => ("MatroidDesk", "refusedAt", "I", false)
  | 3 => ("MatroidDesk", "reason", "I", false)
  | 4 => ("MatroidDesk", "stamps", "I", false)
  | 5 => ("MatroidDesk", "spare", "LMatroidDesk$Matroid;", false)
  | 6 => ("MatroidDesk", "matroids", "[LMatroidDesk$Matroid;", true)
  | 7 => ("MatroidDesk", "entries", "[I", true)
  | 8 => ("MatroidDesk", "orders", "LMatroidDesk$Orders;", true)
  | 9 => ("MatroidDesk", "minors", "LMatroidDesk$Minors;", true)
  | 10 => ("MatroidDesk", "witness", "LMatroidDesk$Witness;", true)
  | 11 => ("MatroidDesk", "tokens", "LMatroidDesk$Tokens;", true)
  | 12 => ("MatroidDesk", "statement", "LMatroidDesk$Statement;", true)
  | _ => ("MatroidDesk", "product", "LMatroidDesk$Product;", true)
def px_ty0 : Nat → FieldType := fun k => match k with
  | 0 => (.array .byte)
  | 1 => .int
  | 2 => .int
  | 3 => .int
  | 4 => .int
  | 5 => (.object "MatroidDesk$Matroid")
  | 6 => (.array (.object "MatroidDesk$Matroid"))
  | 7 => (.array .int)
  | 8 => (.object "MatroidDesk$Orders")
  | 9 => (.object "MatroidDesk$Minors")
  | 10 => (.object "MatroidDesk$Witness")
  | 11 => (.object "MatroidDesk$Tokens")
  | 12 => (.object "MatroidDesk$Statement")
  | _ => (.object "MatroidDesk$Product")
theorem px_nm0 : ∀ a, a < 14 → ∀ b, b < 14 → a ≠ b → (px_T0 a).2.1 ≠ (px_T0 b).2.1 := by decide +kernel
theorem px_tyok0 : ∀ k, k < 14 → parseFieldDescriptor (px_T0 k).2.2.1 = some (px_ty0 k) := by decide +kernel
theorem px_df0 : ∀ j, j < 14 → defaultValue (px_ty0 j) = vp_V [.null, .int 0, .int 0, .int 0, .int 0, .null, .null, .null, .null, .null, .null, .null, .null, .null] j := by decide +kernel
def px_T1 : u_T := fun k => match k with
  | 0 => ("MatroidDesk$Orders", "sets", "[I", false)
  | 1 => ("MatroidDesk$Orders", "starts", "[I", true)
  | _ => ("MatroidDesk$Orders", "reached", "I", false)
def px_ty1 : Nat → FieldType := fun k => match k with
  | 0 => (.array .int)
  | 1 => (.array .int)
  | _ => .int
theorem px_nm1 : ∀ a, a < 3 → ∀ b, b < 3 → a ≠ b → (px_T1 a).2.1 ≠ (px_T1 b).2.1 := by decide +kernel
theorem px_tyok1 : ∀ k, k < 3 → parseFieldDescriptor (px_T1 k).2.2.1 = some (px_ty1 k) := by decide +kernel
theorem px_df1 : ∀ j, j < 3 → defaultValue (px_ty1 j) = vp_V [.null, .null, .int 0] j := by decide +kernel
def px_T2 : u_T := fun k => match k with
  | 0 => ("MatroidDesk$Minors", "orders", "LMatroidDesk$Orders;", true)
  | 1 => ("MatroidDesk$Minors", "top", "LMatroidDesk$Wide;", true)
  | 2 => ("MatroidDesk$Minors", "bottom", "LMatroidDesk$Wide;", true)
  | 3 => ("MatroidDesk$Minors", "divisor", "LMatroidDesk$Wide;", true)
  | 4 => ("MatroidDesk$Minors", "rest", "LMatroidDesk$Wide;", true)
  | 5 => ("MatroidDesk$Minors", "low", "[J", false)
  | 6 => ("MatroidDesk$Minors", "middle", "[J", false)
  | 7 => ("MatroidDesk$Minors", "high", "[J", false)
  | 8 => ("MatroidDesk$Minors", "field", "I", false)
  | 9 => ("MatroidDesk$Minors", "size", "I", false)
  | 10 => ("MatroidDesk$Minors", "height", "I", false)
  | _ => ("MatroidDesk$Minors", "loaded", "LMatroidDesk$Source;", false)
def px_ty2 : Nat → FieldType := fun k => match k with
  | 0 => (.object "MatroidDesk$Orders")
  | 1 => (.object "MatroidDesk$Wide")
  | 2 => (.object "MatroidDesk$Wide")
  | 3 => (.object "MatroidDesk$Wide")
  | 4 => (.object "MatroidDesk$Wide")
  | 5 => (.array .long)
  | 6 => (.array .long)
  | 7 => (.array .long)
  | 8 => .int
  | 9 => .int
  | 10 => .int
  | _ => (.object "MatroidDesk$Source")
theorem px_nm2 : ∀ a, a < 12 → ∀ b, b < 12 → a ≠ b → (px_T2 a).2.1 ≠ (px_T2 b).2.1 := by decide +kernel
theorem px_tyok2 : ∀ k, k < 12 → parseFieldDescriptor (px_T2 k).2.2.1 = some (px_ty2 k) := by decide +kernel
theorem px_df2 : ∀ j, j < 12 → defaultValue (px_ty2 j) = vp_V [.null, .null, .null, .null, .null, .null, .null, .null, .int 0, .int 0, .int 0, .null] j := by decide +kernel
def px_T3 : u_T := fun k => match k with
  | 0 => ("MatroidDesk$Wide", "low", "J", false)
  | 1 => ("MatroidDesk$Wide", "middle", "J", false)
  | _ => ("MatroidDesk$Wide", "high", "J", false)
def px_ty3 : Nat → FieldType := fun k => match k with
  | 0 => .long
  | 1 => .long
  | _ => .long
theorem px_nm3 : ∀ a, a < 3 → ∀ b, b < 3 → a ≠ b → (px_T3 a).2.1 ≠ (px_T3 b).2.1 := by decide +kernel
theorem px_tyok3 : ∀ k, k < 3 → parseFieldDescriptor (px_T3 k).2.2.1 = some (px_ty3 k) := by decide +kernel
theorem px_df3 : ∀ j, j < 3 → defaultValue (px_ty3 j) = vp_V [.long 0, .long 0, .long 0] j := by decide +kernel
def px_T4 : u_T := fun k => match k with
  | 0 => ("MatroidDesk$Witness", "orders", "LMatroidDesk$Orders;", true)
  | 1 => ("MatroidDesk$Witness", "images", "[I", true)
  | 2 => ("MatroidDesk$Witness", "guestPairs", "[I", true)
  | 3 => ("MatroidDesk$Witness", "hostPairs", "[I", true)
  | 4 => ("MatroidDesk$Witness", "keptSets", "[I", false)
  | 5 => ("MatroidDesk$Witness", "restSets", "[I", false)
  | 6 => ("MatroidDesk$Witness", "imageSets", "[I", false)
  | 7 => ("MatroidDesk$Witness", "host", "LMatroidDesk$Matroid;", false)
  | 8 => ("MatroidDesk$Witness", "guest", "LMatroidDesk$Matroid;", false)
  | 9 => ("MatroidDesk$Witness", "hostStamp", "I", false)
  | 10 => ("MatroidDesk$Witness", "guestStamp", "I", false)
  | 11 => ("MatroidDesk$Witness", "guestBases", "I", false)
  | 12 => ("MatroidDesk$Witness", "found", "Z", false)
  | 13 => ("MatroidDesk$Witness", "keptSet", "I", false)
  | 14 => ("MatroidDesk$Witness", "lost", "I", false)
  | 15 => ("MatroidDesk$Witness", "contractedSet", "I", false)
  | 16 => ("MatroidDesk$Witness", "deletedSet", "I", false)
  | _ => ("MatroidDesk$Witness", "taken", "I", false)
def px_ty4 : Nat → FieldType := fun k => match k with
  | 0 => (.object "MatroidDesk$Orders")
  | 1 => (.array .int)
  | 2 => (.array .int)
  | 3 => (.array .int)
  | 4 => (.array .int)
  | 5 => (.array .int)
  | 6 => (.array .int)
  | 7 => (.object "MatroidDesk$Matroid")
  | 8 => (.object "MatroidDesk$Matroid")
  | 9 => .int
  | 10 => .int
  | 11 => .int
  | 12 => .boolean
  | 13 => .int
  | 14 => .int
  | 15 => .int
  | 16 => .int
  | _ => .int
theorem px_nm4 : ∀ a, a < 18 → ∀ b, b < 18 → a ≠ b → (px_T4 a).2.1 ≠ (px_T4 b).2.1 := by decide +kernel
theorem px_tyok4 : ∀ k, k < 18 → parseFieldDescriptor (px_T4 k).2.2.1 = some (px_ty4 k) := by decide +kernel
theorem px_df4 : ∀ j, j < 18 → defaultValue (px_ty4 j) = vp_V [.null, .null, .null, .null, .null, .null, .null, .null, .null, .int 0, .int 0, .int 0, .int 0, .int 0, .int 0, .int 0, .int 0, .int 0] j := by decide +kernel
def px_T5 : u_T := fun k => match k with
  | 0 => ("MatroidDesk$Tokens", "script", "[B", false)
  | 1 => ("MatroidDesk$Tokens", "length", "I", false)
  | 2 => ("MatroidDesk$Tokens", "behind", "I", false)
  | 3 => ("MatroidDesk$Tokens", "start", "I", false)
  | 4 => ("MatroidDesk$Tokens", "kind", "I", false)
  | _ => ("MatroidDesk$Tokens", "value", "I", false)
def px_ty5 : Nat → FieldType := fun k => match k with
  | 0 => (.array .byte)
  | 1 => .int
  | 2 => .int
  | 3 => .int
  | 4 => .int
  | _ => .int
theorem px_nm5 : ∀ a, a < 6 → ∀ b, b < 6 → a ≠ b → (px_T5 a).2.1 ≠ (px_T5 b).2.1 := by decide +kernel
theorem px_tyok5 : ∀ k, k < 6 → parseFieldDescriptor (px_T5 k).2.2.1 = some (px_ty5 k) := by decide +kernel
theorem px_df5 : ∀ j, j < 6 → defaultValue (px_ty5 j) = vp_V [.null, .int 0, .int 0, .int 0, .int 0, .int 0] j := by decide +kernel
def px_T6 : u_T := fun k => match k with
  | 0 => ("MatroidDesk$Statement", "tokens", "LMatroidDesk$Tokens;", true)
  | 1 => ("MatroidDesk$Statement", "numbers", "[I", true)
  | 2 => ("MatroidDesk$Statement", "verb", "LMatroidDesk$Verb;", false)
  | 3 => ("MatroidDesk$Statement", "target", "I", false)
  | 4 => ("MatroidDesk$Statement", "first", "I", false)
  | 5 => ("MatroidDesk$Statement", "second", "I", false)
  | 6 => ("MatroidDesk$Statement", "field", "I", false)
  | 7 => ("MatroidDesk$Statement", "head", "I", false)
  | 8 => ("MatroidDesk$Statement", "next", "I", false)
  | 9 => ("MatroidDesk$Statement", "many", "I", false)
  | 10 => ("MatroidDesk$Statement", "rows", "I", false)
  | _ => ("MatroidDesk$Statement", "even", "Z", false)
def px_ty6 : Nat → FieldType := fun k => match k with
  | 0 => (.object "MatroidDesk$Tokens")
  | 1 => (.array .int)
  | 2 => (.object "MatroidDesk$Verb")
  | 3 => .int
  | 4 => .int
  | 5 => .int
  | 6 => .int
  | 7 => .int
  | 8 => .int
  | 9 => .int
  | 10 => .int
  | _ => .boolean
theorem px_nm6 : ∀ a, a < 12 → ∀ b, b < 12 → a ≠ b → (px_T6 a).2.1 ≠ (px_T6 b).2.1 := by decide +kernel
theorem px_tyok6 : ∀ k, k < 12 → parseFieldDescriptor (px_T6 k).2.2.1 = some (px_ty6 k) := by decide +kernel
theorem px_df6 : ∀ j, j < 12 → defaultValue (px_ty6 j) = vp_V [.null, .null, .null, .int 0, .int 0, .int 0, .int 0, .int 0, .int 0, .int 0, .int 0, .int 0] j := by decide +kernel
def px_T7 : u_T := fun k => match k with
  | 0 => ("MatroidDesk$Product", "bytes", "[B", false)
  | 1 => ("MatroidDesk$Product", "digits", "[B", true)
  | 2 => ("MatroidDesk$Product", "length", "I", false)
  | _ => ("MatroidDesk$Product", "full", "Z", false)
def px_ty7 : Nat → FieldType := fun k => match k with
  | 0 => (.array .byte)
  | 1 => (.array .byte)
  | 2 => .int
  | _ => .boolean
theorem px_nm7 : ∀ a, a < 4 → ∀ b, b < 4 → a ≠ b → (px_T7 a).2.1 ≠ (px_T7 b).2.1 := by decide +kernel
theorem px_tyok7 : ∀ k, k < 4 → parseFieldDescriptor (px_T7 k).2.2.1 = some (px_ty7 k) := by decide +kernel
theorem px_df7 : ∀ j, j < 4 → defaultValue (px_ty7 j) = vp_V [.null, .null, .int 0, .int 0] j := by decide +kernel
def px_T8 : u_T := fun k => match k with
  | 0 => ("MatroidDeskModel", "one", "LMatroidDeskModel$Num;", true)
  | 1 => ("MatroidDeskModel", "two", "LMatroidDeskModel$Num;", true)
  | 2 => ("MatroidDeskModel", "three", "LMatroidDeskModel$Num;", true)
  | 3 => ("MatroidDeskModel", "four", "LMatroidDeskModel$Num;", true)
  | 4 => ("MatroidDeskModel", "five", "LMatroidDeskModel$Num;", true)
  | 5 => ("MatroidDeskModel", "six", "LMatroidDeskModel$Num;", true)
  | 6 => ("MatroidDeskModel", "seven", "LMatroidDeskModel$Num;", true)
  | 7 => ("MatroidDeskModel", "eight", "LMatroidDeskModel$Num;", true)
  | 8 => ("MatroidDeskModel", "work", "[LMatroidDeskModel$Num;", true)
  | 9 => ("MatroidDeskModel", "small", "[I", true)
  | 10 => ("MatroidDeskModel", "rows", "I", false)
  | 11 => ("MatroidDeskModel", "columns", "I", false)
  | 12 => ("MatroidDeskModel", "prime", "I", false)
  | 13 => ("MatroidDeskModel", "pivots", "[I", true)
  | 14 => ("MatroidDeskModel", "freeRows", "[I", true)
  | 15 => ("MatroidDeskModel", "freeColumns", "[I", true)
  | 16 => ("MatroidDeskModel", "minor", "[LMatroidDeskModel$Num;", true)
  | 17 => ("MatroidDeskModel", "smallMinor", "[I", true)
  | 18 => ("MatroidDeskModel", "there", "[Z", true)
  | 19 => ("MatroidDeskModel", "elements", "[I", true)
  | 20 => ("MatroidDeskModel", "fields", "[I", true)
  | 21 => ("MatroidDeskModel", "ranks", "[I", true)
  | 22 => ("MatroidDeskModel", "kept", "[I", true)
  | 23 => ("MatroidDeskModel", "keptSmall", "[I", true)
  | 24 => ("MatroidDeskModel", "weights", "[I", true)
  | 25 => ("MatroidDeskModel", "rankOf", "[B", true)
  | 26 => ("MatroidDeskModel", "signOf", "[B", true)
  | 27 => ("MatroidDeskModel", "order", "[I", true)
  | 28 => ("MatroidDeskModel", "sizes", "[I", true)
  | 29 => ("MatroidDeskModel", "coefficients", "[J", true)
  | 30 => ("MatroidDeskModel", "choices", "[J", true)
  | 31 => ("MatroidDeskModel", "sorted", "[I", true)
  | 32 => ("MatroidDeskModel", "witnessC", "I", false)
  | 33 => ("MatroidDeskModel", "witnessK", "I", false)
  | 34 => ("MatroidDeskModel", "images", "[I", true)
  | 35 => ("MatroidDeskModel", "others", "[I", true)
  | 36 => ("MatroidDeskModel", "text", "[B", true)
  | 37 => ("MatroidDeskModel", "length", "I", false)
  | 38 => ("MatroidDeskModel", "token", "I", false)
  | 39 => ("MatroidDeskModel", "from", "I", false)
  | 40 => ("MatroidDeskModel", "to", "I", false)
  | 41 => ("MatroidDeskModel", "refused", "Z", false)
  | 42 => ("MatroidDeskModel", "placeTold", "I", false)
  | 43 => ("MatroidDeskModel", "reason", "I", false)
  | 44 => ("MatroidDeskModel", "list", "[I", true)
  | 45 => ("MatroidDeskModel", "saved", "[I", true)
  | 46 => ("MatroidDeskModel", "sheet", "[B", true)
  | 47 => ("MatroidDeskModel", "sheetSize", "I", false)
  | 48 => ("MatroidDeskModel", "decimals", "[B", true)
  | 49 => ("MatroidDeskModel", "fault", "I", false)
  | 50 => ("MatroidDeskModel", "came", "[B", true)
  | 51 => ("MatroidDeskModel", "size", "I", false)
  | _ => ("MatroidDeskModel", "whyTold", "I", false)
def px_ty8 : Nat → FieldType := fun k => match k with
  | 0 => (.object "MatroidDeskModel$Num")
  | 1 => (.object "MatroidDeskModel$Num")
  | 2 => (.object "MatroidDeskModel$Num")
  | 3 => (.object "MatroidDeskModel$Num")
  | 4 => (.object "MatroidDeskModel$Num")
  | 5 => (.object "MatroidDeskModel$Num")
  | 6 => (.object "MatroidDeskModel$Num")
  | 7 => (.object "MatroidDeskModel$Num")
  | 8 => (.array (.object "MatroidDeskModel$Num"))
  | 9 => (.array .int)
  | 10 => .int
  | 11 => .int
  | 12 => .int
  | 13 => (.array .int)
  | 14 => (.array .int)
  | 15 => (.array .int)
  | 16 => (.array (.object "MatroidDeskModel$Num"))
  | 17 => (.array .int)
  | 18 => (.array .boolean)
  | 19 => (.array .int)
  | 20 => (.array .int)
  | 21 => (.array .int)
  | 22 => (.array .int)
  | 23 => (.array .int)
  | 24 => (.array .int)
  | 25 => (.array .byte)
  | 26 => (.array .byte)
  | 27 => (.array .int)
  | 28 => (.array .int)
  | 29 => (.array .long)
  | 30 => (.array .long)
  | 31 => (.array .int)
  | 32 => .int
  | 33 => .int
  | 34 => (.array .int)
  | 35 => (.array .int)
  | 36 => (.array .byte)
  | 37 => .int
  | 38 => .int
  | 39 => .int
  | 40 => .int
  | 41 => .boolean
  | 42 => .int
  | 43 => .int
  | 44 => (.array .int)
  | 45 => (.array .int)
  | 46 => (.array .byte)
  | 47 => .int
  | 48 => (.array .byte)
  | 49 => .int
  | 50 => (.array .byte)
  | 51 => .int
  | _ => .int
theorem px_nm8 : ∀ a, a < 53 → ∀ b, b < 53 → a ≠ b → (px_T8 a).2.1 ≠ (px_T8 b).2.1 := by decide +kernel
theorem px_tyok8 : ∀ k, k < 53 → parseFieldDescriptor (px_T8 k).2.2.1 = some (px_ty8 k) := by decide +kernel
theorem px_df8 : ∀ j, j < 53 → defaultValue (px_ty8 j) = vp_V [.null, .null, .null, .null, .null, .null, .null, .null, .null, .null, .int 0, .int 0, .int 0, .null, .null, .null, .null, .null, .null, .null, .null, .null, .null, .null, .null, .null, .null, .null, .null, .null, .null, .null, .int 0, .int 0, .null, .null, .null, .int 0, .int 0, .int 0, .int 0, .int 0, .int 0, .int 0, .null, .null, .null, .int 0, .null, .int 0, .null, .int 0, .int 0] j := by decide +kernel
def px_T9 : u_T := fun k => match k with
  | 0 => ("MatroidDeskModel$Num", "d", "[I", true)
  | 1 => ("MatroidDeskModel$Num", "n", "I", false)
  | _ => ("MatroidDeskModel$Num", "minus", "Z", false)
def px_ty9 : Nat → FieldType := fun k => match k with
  | 0 => (.array .int)
  | 1 => .int
  | _ => .boolean
theorem px_nm9 : ∀ a, a < 3 → ∀ b, b < 3 → a ≠ b → (px_T9 a).2.1 ≠ (px_T9 b).2.1 := by decide +kernel
theorem px_tyok9 : ∀ k, k < 3 → parseFieldDescriptor (px_T9 k).2.2.1 = some (px_ty9 k) := by decide +kernel
theorem px_df9 : ∀ j, j < 3 → defaultValue (px_ty9 j) = vp_V [.null, .int 0, .int 0] j := by decide +kernel
abbrev vwCl : List vw_C := [("MatroidDesk", px_T0, 14), ("MatroidDesk$Orders", px_T1, 3), ("MatroidDesk$Minors", px_T2, 12), ("MatroidDesk$Wide", px_T3, 3), ("MatroidDesk$Witness", px_T4, 18), ("MatroidDesk$Tokens", px_T5, 6), ("MatroidDesk$Statement", px_T6, 12), ("MatroidDesk$Product", px_T7, 4), ("MatroidDeskModel", px_T8, 53), ("MatroidDeskModel$Num", px_T9, 3)]
abbrev px_y0 : MethodName := ⟨"MatroidDesk$Tokens", "<init>", "()V"⟩
abbrev px_y1 : MethodName := ⟨"MatroidDesk$Orders", "<init>", "()V"⟩
abbrev px_y2 : MethodName := ⟨"MatroidDesk$Wide", "<init>", "()V"⟩
abbrev px_y3 : MethodName := ⟨"MatroidDesk$Minors", "<init>", "(LMatroidDesk$Orders;)V"⟩
abbrev px_y4 : MethodName := ⟨"MatroidDesk$Witness", "<init>", "(LMatroidDesk$Orders;)V"⟩
abbrev px_y5 : MethodName := ⟨"MatroidDesk$Statement", "<init>", "(LMatroidDesk$Tokens;)V"⟩
abbrev px_y6 : MethodName := ⟨"MatroidDesk$Product", "<init>", "()V"⟩
abbrev px_y7 : MethodName := ⟨"MatroidDesk", "<init>", "()V"⟩
abbrev px_y8 : MethodName := ⟨"MatroidDeskModel$Num", "<init>", "()V"⟩
abbrev px_y9 : MethodName := ⟨"MatroidDeskModel", "list", "(IIII)I"⟩
abbrev px_y10 : MethodName := ⟨"MatroidDeskModel", "<init>", "()V"⟩
abbrev px_y11 : MethodName := ⟨"MatroidDesk", "takeInt", "(I)V"⟩
abbrev px_y12 : MethodName := ⟨"MatroidDesk", "feed", "(IIIII)V"⟩
abbrev px_y13 : MethodName := ⟨"MatroidDesk", "end", "(I)I"⟩
abbrev px_y14 : MethodName := ⟨"MatroidDesk$Tokens", "skipBlanks", "()V"⟩
abbrev px_y15 : MethodName := ⟨"MatroidDesk$Tokens", "step", "()V"⟩
abbrev px_y16 : MethodName := ⟨"MatroidDesk$Tokens", "open", "([BI)V"⟩
abbrev px_y17 : MethodName := ⟨"MatroidDesk$Product", "cutTo", "(I)V"⟩
abbrev px_y18 : MethodName := ⟨"MatroidDesk", "readsWhole", "(I)Z"⟩
abbrev px_y19 : MethodName := ⟨"MatroidDesk", "run", "()I"⟩
abbrev px_y20 : MethodName := ⟨"MatroidDesk", "place", "()I"⟩
abbrev px_y21 : MethodName := ⟨"MatroidDesk", "why", "()I"⟩
abbrev px_y22 : MethodName := ⟨"MatroidDesk", "printed", "()I"⟩
abbrev px_y23 : MethodName := ⟨"MatroidDesk", "out", "(I)I"⟩
abbrev px_y24 : MethodName := ⟨"MatroidDesk", "matroidAt", "(I)LMatroidDesk$Matroid;"⟩
abbrev px_y25 : MethodName := ⟨"MatroidDesk", "elements", "(I)I"⟩
abbrev px_y26 : MethodName := ⟨"MatroidDesk", "field", "(I)I"⟩
abbrev px_y27 : MethodName := ⟨"MatroidDesk", "rank", "(II)I"⟩
abbrev px_y28 : MethodName := ⟨"MatroidDesk", "count", "(II)I"⟩
abbrev px_y29 : MethodName := ⟨"MatroidDesk", "member", "(III)I"⟩
abbrev px_y30 : MethodName := ⟨"MatroidDesk", "tutte", "(III)J"⟩
abbrev px_y31 : MethodName := ⟨"MatroidDesk", "weight", "(II)I"⟩
abbrev px_y32 : MethodName := ⟨"MatroidDesk", "best", "(I)I"⟩
abbrev px_y33 : MethodName := ⟨"MatroidDesk", "common", "(II)I"⟩
abbrev px_y34 : MethodName := ⟨"MatroidDesk", "cover", "(II)I"⟩
abbrev px_y35 : MethodName := ⟨"MatroidDesk", "sign", "(II)I"⟩
abbrev px_y36 : MethodName := ⟨"MatroidDesk", "below", "(II)I"⟩
abbrev px_y37 : MethodName := ⟨"MatroidDesk", "isMinor", "(II)Z"⟩
abbrev px_y38 : MethodName := ⟨"MatroidDesk", "contracted", "(II)I"⟩
abbrev px_y39 : MethodName := ⟨"MatroidDesk", "deleted", "(II)I"⟩
abbrev px_y40 : MethodName := ⟨"MatroidDesk", "image", "(III)I"⟩
abbrev px_y41 : MethodName := ⟨"MatroidDeskModel", "take", "(I)V"⟩
abbrev px_y42 : MethodName := ⟨"MatroidDeskModel", "feed", "(IIIII)V"⟩
abbrev px_y43 : MethodName := ⟨"MatroidDeskModel", "end", "(I)I"⟩
abbrev px_y44 : MethodName := ⟨"MatroidDeskModel", "thrown", "()I"⟩
abbrev px_y45 : MethodName := ⟨"MatroidDeskModel", "look", "(I)I"⟩
abbrev px_y46 : MethodName := ⟨"MatroidDeskModel", "next", "()V"⟩
abbrev px_y47 : MethodName := ⟨"MatroidDeskModel", "isScript", "()Z"⟩
abbrev px_y48 : MethodName := ⟨"MatroidDeskModel", "run", "()I"⟩
abbrev px_y49 : MethodName := ⟨"MatroidDeskModel", "place", "()I"⟩
abbrev px_y50 : MethodName := ⟨"MatroidDeskModel", "why", "()I"⟩
abbrev px_y51 : MethodName := ⟨"MatroidDeskModel", "printed", "()I"⟩
abbrev px_y52 : MethodName := ⟨"MatroidDeskModel", "out", "(I)I"⟩
abbrev px_y53 : MethodName := ⟨"MatroidDeskModel", "is", "(I)Z"⟩
abbrev px_y54 : MethodName := ⟨"MatroidDeskModel", "elements", "(I)I"⟩
abbrev px_y55 : MethodName := ⟨"MatroidDeskModel", "field", "(I)I"⟩
abbrev px_y56 : MethodName := ⟨"MatroidDeskModel", "rank", "(II)I"⟩
abbrev px_y57 : MethodName := ⟨"MatroidDeskModel", "count", "(II)I"⟩
abbrev px_y58 : MethodName := ⟨"MatroidDeskModel", "member", "(III)I"⟩
abbrev px_y59 : MethodName := ⟨"MatroidDeskModel", "tutte", "(III)J"⟩
abbrev px_y60 : MethodName := ⟨"MatroidDeskModel", "weight", "(II)I"⟩
abbrev px_y61 : MethodName := ⟨"MatroidDeskModel", "best", "(I)I"⟩
abbrev px_y62 : MethodName := ⟨"MatroidDeskModel", "common", "(II)I"⟩
abbrev px_y63 : MethodName := ⟨"MatroidDeskModel", "cover", "(II)I"⟩
abbrev px_y64 : MethodName := ⟨"MatroidDeskModel", "sign", "(II)I"⟩
abbrev px_y65 : MethodName := ⟨"MatroidDeskModel", "below", "(II)I"⟩
abbrev px_y66 : MethodName := ⟨"MatroidDeskModel", "contracted", "(II)I"⟩
abbrev px_y67 : MethodName := ⟨"MatroidDeskModel", "deleted", "(II)I"⟩
abbrev px_y68 : MethodName := ⟨"MatroidDeskModel", "image", "(III)I"⟩
abbrev px_y69 : MethodName := ⟨"MatroidDeskLaw", "feed", "(LMatroidDesk;IIIII)I"⟩
abbrev px_y70 : MethodName := ⟨"MatroidDeskLaw", "end", "(LMatroidDesk;I[J)I"⟩
def px_all_0 : List Cond := [(Jvm.Cond.code ({ cls := "java/lang/Object", name := "<init>", desc := "()V" } : Jvm.MethodName) object_method_1_code (1 : Nat) (Option.none : Option Jvm.ClassFile.FieldType)), (Jvm.Cond.instanceMethod ({ cls := "java/lang/Object", name := "<init>", desc := "()V" } : Jvm.MethodName)), (Jvm.Cond.arrayClass Jvm.ClassFile.FieldType.int), (Jvm.Cond.arrayClass Jvm.ClassFile.FieldType.byte), (Jvm.Cond.arrayClass Jvm.ClassFile.FieldType.long), (Jvm.Cond.arrayClass Jvm.ClassFile.FieldType.boolean), (Jvm.Cond.initialized "MatroidDesk"), (Jvm.Cond.instantiable "MatroidDesk" (14 : Nat)), (Jvm.Cond.lays "MatroidDesk" "MatroidDesk" "bytes" "[B"), (Jvm.Cond.lays "MatroidDesk" "MatroidDesk" "fed" "I"), (Jvm.Cond.lays "MatroidDesk" "MatroidDesk" "refusedAt" "I"), (Jvm.Cond.lays "MatroidDesk" "MatroidDesk" "reason" "I"), (Jvm.Cond.lays "MatroidDesk" "MatroidDesk" "stamps" "I"), (Jvm.Cond.lays "MatroidDesk" "MatroidDesk" "spare" "LMatroidDesk$Matroid;"), (Jvm.Cond.laysFinal "MatroidDesk" "MatroidDesk" "matroids" "[LMatroidDesk$Matroid;"), (Jvm.Cond.laysFinal "MatroidDesk" "MatroidDesk" "entries" "[I"), (Jvm.Cond.laysFinal "MatroidDesk" "MatroidDesk" "orders" "LMatroidDesk$Orders;"), (Jvm.Cond.laysFinal "MatroidDesk" "MatroidDesk" "minors" "LMatroidDesk$Minors;"), (Jvm.Cond.laysFinal "MatroidDesk" "MatroidDesk" "witness" "LMatroidDesk$Witness;"), (Jvm.Cond.laysFinal "MatroidDesk" "MatroidDesk" "tokens" "LMatroidDesk$Tokens;")]
def px_all_1 : List Cond := [(Jvm.Cond.laysFinal "MatroidDesk" "MatroidDesk" "statement" "LMatroidDesk$Statement;"), (Jvm.Cond.laysFinal "MatroidDesk" "MatroidDesk" "product" "LMatroidDesk$Product;"), (Jvm.Cond.initialized "MatroidDesk$Orders"), (Jvm.Cond.instantiable "MatroidDesk$Orders" (3 : Nat)), (Jvm.Cond.lays "MatroidDesk$Orders" "MatroidDesk$Orders" "sets" "[I"), (Jvm.Cond.laysFinal "MatroidDesk$Orders" "MatroidDesk$Orders" "starts" "[I"), (Jvm.Cond.lays "MatroidDesk$Orders" "MatroidDesk$Orders" "reached" "I"), (Jvm.Cond.initialized "MatroidDesk$Minors"), (Jvm.Cond.instantiable "MatroidDesk$Minors" (12 : Nat)), (Jvm.Cond.laysFinal "MatroidDesk$Minors" "MatroidDesk$Minors" "orders" "LMatroidDesk$Orders;"), (Jvm.Cond.laysFinal "MatroidDesk$Minors" "MatroidDesk$Minors" "top" "LMatroidDesk$Wide;"), (Jvm.Cond.laysFinal "MatroidDesk$Minors" "MatroidDesk$Minors" "bottom" "LMatroidDesk$Wide;"), (Jvm.Cond.laysFinal "MatroidDesk$Minors" "MatroidDesk$Minors" "divisor" "LMatroidDesk$Wide;"), (Jvm.Cond.laysFinal "MatroidDesk$Minors" "MatroidDesk$Minors" "rest" "LMatroidDesk$Wide;"), (Jvm.Cond.lays "MatroidDesk$Minors" "MatroidDesk$Minors" "low" "[J"), (Jvm.Cond.lays "MatroidDesk$Minors" "MatroidDesk$Minors" "middle" "[J"), (Jvm.Cond.lays "MatroidDesk$Minors" "MatroidDesk$Minors" "high" "[J"), (Jvm.Cond.lays "MatroidDesk$Minors" "MatroidDesk$Minors" "field" "I"), (Jvm.Cond.lays "MatroidDesk$Minors" "MatroidDesk$Minors" "size" "I"), (Jvm.Cond.lays "MatroidDesk$Minors" "MatroidDesk$Minors" "height" "I")]
def px_all_2 : List Cond := [(Jvm.Cond.lays "MatroidDesk$Minors" "MatroidDesk$Minors" "loaded" "LMatroidDesk$Source;"), (Jvm.Cond.initialized "MatroidDesk$Wide"), (Jvm.Cond.instantiable "MatroidDesk$Wide" (3 : Nat)), (Jvm.Cond.lays "MatroidDesk$Wide" "MatroidDesk$Wide" "low" "J"), (Jvm.Cond.lays "MatroidDesk$Wide" "MatroidDesk$Wide" "middle" "J"), (Jvm.Cond.lays "MatroidDesk$Wide" "MatroidDesk$Wide" "high" "J"), (Jvm.Cond.initialized "MatroidDesk$Witness"), (Jvm.Cond.instantiable "MatroidDesk$Witness" (18 : Nat)), (Jvm.Cond.laysFinal "MatroidDesk$Witness" "MatroidDesk$Witness" "orders" "LMatroidDesk$Orders;"), (Jvm.Cond.laysFinal "MatroidDesk$Witness" "MatroidDesk$Witness" "images" "[I"), (Jvm.Cond.laysFinal "MatroidDesk$Witness" "MatroidDesk$Witness" "guestPairs" "[I"), (Jvm.Cond.laysFinal "MatroidDesk$Witness" "MatroidDesk$Witness" "hostPairs" "[I"), (Jvm.Cond.lays "MatroidDesk$Witness" "MatroidDesk$Witness" "keptSets" "[I"), (Jvm.Cond.lays "MatroidDesk$Witness" "MatroidDesk$Witness" "restSets" "[I"), (Jvm.Cond.lays "MatroidDesk$Witness" "MatroidDesk$Witness" "imageSets" "[I"), (Jvm.Cond.lays "MatroidDesk$Witness" "MatroidDesk$Witness" "host" "LMatroidDesk$Matroid;"), (Jvm.Cond.lays "MatroidDesk$Witness" "MatroidDesk$Witness" "guest" "LMatroidDesk$Matroid;"), (Jvm.Cond.lays "MatroidDesk$Witness" "MatroidDesk$Witness" "hostStamp" "I"), (Jvm.Cond.lays "MatroidDesk$Witness" "MatroidDesk$Witness" "guestStamp" "I"), (Jvm.Cond.lays "MatroidDesk$Witness" "MatroidDesk$Witness" "guestBases" "I")]
def px_all_3 : List Cond := [(Jvm.Cond.lays "MatroidDesk$Witness" "MatroidDesk$Witness" "found" "Z"), (Jvm.Cond.lays "MatroidDesk$Witness" "MatroidDesk$Witness" "keptSet" "I"), (Jvm.Cond.lays "MatroidDesk$Witness" "MatroidDesk$Witness" "lost" "I"), (Jvm.Cond.lays "MatroidDesk$Witness" "MatroidDesk$Witness" "contractedSet" "I"), (Jvm.Cond.lays "MatroidDesk$Witness" "MatroidDesk$Witness" "deletedSet" "I"), (Jvm.Cond.lays "MatroidDesk$Witness" "MatroidDesk$Witness" "taken" "I"), (Jvm.Cond.initialized "MatroidDesk$Tokens"), (Jvm.Cond.instantiable "MatroidDesk$Tokens" (6 : Nat)), (Jvm.Cond.lays "MatroidDesk$Tokens" "MatroidDesk$Tokens" "script" "[B"), (Jvm.Cond.lays "MatroidDesk$Tokens" "MatroidDesk$Tokens" "length" "I"), (Jvm.Cond.lays "MatroidDesk$Tokens" "MatroidDesk$Tokens" "behind" "I"), (Jvm.Cond.lays "MatroidDesk$Tokens" "MatroidDesk$Tokens" "start" "I"), (Jvm.Cond.lays "MatroidDesk$Tokens" "MatroidDesk$Tokens" "kind" "I"), (Jvm.Cond.lays "MatroidDesk$Tokens" "MatroidDesk$Tokens" "value" "I"), (Jvm.Cond.initialized "MatroidDesk$Statement"), (Jvm.Cond.instantiable "MatroidDesk$Statement" (12 : Nat)), (Jvm.Cond.laysFinal "MatroidDesk$Statement" "MatroidDesk$Statement" "tokens" "LMatroidDesk$Tokens;"), (Jvm.Cond.laysFinal "MatroidDesk$Statement" "MatroidDesk$Statement" "numbers" "[I"), (Jvm.Cond.lays "MatroidDesk$Statement" "MatroidDesk$Statement" "verb" "LMatroidDesk$Verb;"), (Jvm.Cond.lays "MatroidDesk$Statement" "MatroidDesk$Statement" "target" "I")]
def px_all_4 : List Cond := [(Jvm.Cond.lays "MatroidDesk$Statement" "MatroidDesk$Statement" "first" "I"), (Jvm.Cond.lays "MatroidDesk$Statement" "MatroidDesk$Statement" "second" "I"), (Jvm.Cond.lays "MatroidDesk$Statement" "MatroidDesk$Statement" "field" "I"), (Jvm.Cond.lays "MatroidDesk$Statement" "MatroidDesk$Statement" "head" "I"), (Jvm.Cond.lays "MatroidDesk$Statement" "MatroidDesk$Statement" "next" "I"), (Jvm.Cond.lays "MatroidDesk$Statement" "MatroidDesk$Statement" "many" "I"), (Jvm.Cond.lays "MatroidDesk$Statement" "MatroidDesk$Statement" "rows" "I"), (Jvm.Cond.lays "MatroidDesk$Statement" "MatroidDesk$Statement" "even" "Z"), (Jvm.Cond.initialized "MatroidDesk$Product"), (Jvm.Cond.instantiable "MatroidDesk$Product" (4 : Nat)), (Jvm.Cond.lays "MatroidDesk$Product" "MatroidDesk$Product" "bytes" "[B"), (Jvm.Cond.laysFinal "MatroidDesk$Product" "MatroidDesk$Product" "digits" "[B"), (Jvm.Cond.lays "MatroidDesk$Product" "MatroidDesk$Product" "length" "I"), (Jvm.Cond.lays "MatroidDesk$Product" "MatroidDesk$Product" "full" "Z"), (Jvm.Cond.initialized "MatroidDeskModel"), (Jvm.Cond.instantiable "MatroidDeskModel" (53 : Nat)), (Jvm.Cond.laysFinal "MatroidDeskModel" "MatroidDeskModel" "one" "LMatroidDeskModel$Num;"), (Jvm.Cond.laysFinal "MatroidDeskModel" "MatroidDeskModel" "two" "LMatroidDeskModel$Num;"), (Jvm.Cond.laysFinal "MatroidDeskModel" "MatroidDeskModel" "three" "LMatroidDeskModel$Num;"), (Jvm.Cond.laysFinal "MatroidDeskModel" "MatroidDeskModel" "four" "LMatroidDeskModel$Num;")]
def px_all_5 : List Cond := [(Jvm.Cond.laysFinal "MatroidDeskModel" "MatroidDeskModel" "five" "LMatroidDeskModel$Num;"), (Jvm.Cond.laysFinal "MatroidDeskModel" "MatroidDeskModel" "six" "LMatroidDeskModel$Num;"), (Jvm.Cond.laysFinal "MatroidDeskModel" "MatroidDeskModel" "seven" "LMatroidDeskModel$Num;"), (Jvm.Cond.laysFinal "MatroidDeskModel" "MatroidDeskModel" "eight" "LMatroidDeskModel$Num;"), (Jvm.Cond.laysFinal "MatroidDeskModel" "MatroidDeskModel" "work" "[LMatroidDeskModel$Num;"), (Jvm.Cond.laysFinal "MatroidDeskModel" "MatroidDeskModel" "small" "[I"), (Jvm.Cond.lays "MatroidDeskModel" "MatroidDeskModel" "rows" "I"), (Jvm.Cond.lays "MatroidDeskModel" "MatroidDeskModel" "columns" "I"), (Jvm.Cond.lays "MatroidDeskModel" "MatroidDeskModel" "prime" "I"), (Jvm.Cond.laysFinal "MatroidDeskModel" "MatroidDeskModel" "pivots" "[I"), (Jvm.Cond.laysFinal "MatroidDeskModel" "MatroidDeskModel" "freeRows" "[I"), (Jvm.Cond.laysFinal "MatroidDeskModel" "MatroidDeskModel" "freeColumns" "[I"), (Jvm.Cond.laysFinal "MatroidDeskModel" "MatroidDeskModel" "minor" "[LMatroidDeskModel$Num;"), (Jvm.Cond.laysFinal "MatroidDeskModel" "MatroidDeskModel" "smallMinor" "[I"), (Jvm.Cond.laysFinal "MatroidDeskModel" "MatroidDeskModel" "there" "[Z"), (Jvm.Cond.laysFinal "MatroidDeskModel" "MatroidDeskModel" "elements" "[I"), (Jvm.Cond.laysFinal "MatroidDeskModel" "MatroidDeskModel" "fields" "[I"), (Jvm.Cond.laysFinal "MatroidDeskModel" "MatroidDeskModel" "ranks" "[I"), (Jvm.Cond.laysFinal "MatroidDeskModel" "MatroidDeskModel" "kept" "[I"), (Jvm.Cond.laysFinal "MatroidDeskModel" "MatroidDeskModel" "keptSmall" "[I")]
def px_all_6 : List Cond := [(Jvm.Cond.laysFinal "MatroidDeskModel" "MatroidDeskModel" "weights" "[I"), (Jvm.Cond.laysFinal "MatroidDeskModel" "MatroidDeskModel" "rankOf" "[B"), (Jvm.Cond.laysFinal "MatroidDeskModel" "MatroidDeskModel" "signOf" "[B"), (Jvm.Cond.laysFinal "MatroidDeskModel" "MatroidDeskModel" "order" "[I"), (Jvm.Cond.laysFinal "MatroidDeskModel" "MatroidDeskModel" "sizes" "[I"), (Jvm.Cond.laysFinal "MatroidDeskModel" "MatroidDeskModel" "coefficients" "[J"), (Jvm.Cond.laysFinal "MatroidDeskModel" "MatroidDeskModel" "choices" "[J"), (Jvm.Cond.laysFinal "MatroidDeskModel" "MatroidDeskModel" "sorted" "[I"), (Jvm.Cond.lays "MatroidDeskModel" "MatroidDeskModel" "witnessC" "I"), (Jvm.Cond.lays "MatroidDeskModel" "MatroidDeskModel" "witnessK" "I"), (Jvm.Cond.laysFinal "MatroidDeskModel" "MatroidDeskModel" "images" "[I"), (Jvm.Cond.laysFinal "MatroidDeskModel" "MatroidDeskModel" "others" "[I"), (Jvm.Cond.laysFinal "MatroidDeskModel" "MatroidDeskModel" "text" "[B"), (Jvm.Cond.lays "MatroidDeskModel" "MatroidDeskModel" "length" "I"), (Jvm.Cond.lays "MatroidDeskModel" "MatroidDeskModel" "token" "I"), (Jvm.Cond.lays "MatroidDeskModel" "MatroidDeskModel" "from" "I"), (Jvm.Cond.lays "MatroidDeskModel" "MatroidDeskModel" "to" "I"), (Jvm.Cond.lays "MatroidDeskModel" "MatroidDeskModel" "refused" "Z"), (Jvm.Cond.lays "MatroidDeskModel" "MatroidDeskModel" "placeTold" "I"), (Jvm.Cond.lays "MatroidDeskModel" "MatroidDeskModel" "reason" "I")]
def px_all_7 : List Cond := [(Jvm.Cond.laysFinal "MatroidDeskModel" "MatroidDeskModel" "list" "[I"), (Jvm.Cond.laysFinal "MatroidDeskModel" "MatroidDeskModel" "saved" "[I"), (Jvm.Cond.laysFinal "MatroidDeskModel" "MatroidDeskModel" "sheet" "[B"), (Jvm.Cond.lays "MatroidDeskModel" "MatroidDeskModel" "sheetSize" "I"), (Jvm.Cond.laysFinal "MatroidDeskModel" "MatroidDeskModel" "decimals" "[B"), (Jvm.Cond.lays "MatroidDeskModel" "MatroidDeskModel" "fault" "I"), (Jvm.Cond.laysFinal "MatroidDeskModel" "MatroidDeskModel" "came" "[B"), (Jvm.Cond.lays "MatroidDeskModel" "MatroidDeskModel" "size" "I"), (Jvm.Cond.lays "MatroidDeskModel" "MatroidDeskModel" "whyTold" "I"), (Jvm.Cond.initialized "MatroidDeskModel$Num"), (Jvm.Cond.instantiable "MatroidDeskModel$Num" (3 : Nat)), (Jvm.Cond.laysFinal "MatroidDeskModel$Num" "MatroidDeskModel$Num" "d" "[I"), (Jvm.Cond.lays "MatroidDeskModel$Num" "MatroidDeskModel$Num" "n" "I"), (Jvm.Cond.lays "MatroidDeskModel$Num" "MatroidDeskModel$Num" "minus" "Z"), (Jvm.Cond.initialized "MatroidDeskLaw"), (Jvm.Cond.code ({ cls := "MatroidDesk$Tokens", name := "<init>", desc := "()V" } : Jvm.MethodName) prog_10_method_1_code (1 : Nat) (Option.none : Option Jvm.ClassFile.FieldType)), (Jvm.Cond.instanceMethod ({ cls := "MatroidDesk$Tokens", name := "<init>", desc := "()V" } : Jvm.MethodName)), (Jvm.Cond.methodLink "MatroidDesk$Tokens" (3 : Nat) ({ cls := "java/lang/Object", name := "<init>", desc := "()V" } : Jvm.MethodName)), (Jvm.Cond.fieldLink "MatroidDesk$Tokens" (9 : Nat) "MatroidDesk$Tokens" "script" "[B"), (Jvm.Cond.code ({ cls := "MatroidDesk$Orders", name := "<init>", desc := "()V" } : Jvm.MethodName) prog_5_method_1_code (1 : Nat) (Option.none : Option Jvm.ClassFile.FieldType))]
def px_all_8 : List Cond := [(Jvm.Cond.instanceMethod ({ cls := "MatroidDesk$Orders", name := "<init>", desc := "()V" } : Jvm.MethodName)), (Jvm.Cond.methodLink "MatroidDesk$Orders" (3 : Nat) ({ cls := "java/lang/Object", name := "<init>", desc := "()V" } : Jvm.MethodName)), (Jvm.Cond.fieldLink "MatroidDesk$Orders" (9 : Nat) "MatroidDesk$Orders" "sets" "[I"), (Jvm.Cond.fieldLink "MatroidDesk$Orders" (15 : Nat) "MatroidDesk$Orders" "starts" "[I"), (Jvm.Cond.fieldLink "MatroidDesk$Orders" (18 : Nat) "MatroidDesk$Orders" "reached" "I"), (Jvm.Cond.code ({ cls := "MatroidDesk$Wide", name := "<init>", desc := "()V" } : Jvm.MethodName) prog_12_method_1_code (1 : Nat) (Option.none : Option Jvm.ClassFile.FieldType)), (Jvm.Cond.instanceMethod ({ cls := "MatroidDesk$Wide", name := "<init>", desc := "()V" } : Jvm.MethodName)), (Jvm.Cond.methodLink "MatroidDesk$Wide" (3 : Nat) ({ cls := "java/lang/Object", name := "<init>", desc := "()V" } : Jvm.MethodName)), (Jvm.Cond.code ({ cls := "MatroidDesk$Minors", name := "<init>", desc := "(LMatroidDesk$Orders;)V" } : Jvm.MethodName) prog_4_method_1_code (2 : Nat) (Option.none : Option Jvm.ClassFile.FieldType)), (Jvm.Cond.instanceMethod ({ cls := "MatroidDesk$Minors", name := "<init>", desc := "(LMatroidDesk$Orders;)V" } : Jvm.MethodName)), (Jvm.Cond.methodLink "MatroidDesk$Minors" (1 : Nat) ({ cls := "java/lang/Object", name := "<init>", desc := "()V" } : Jvm.MethodName)), (Jvm.Cond.fieldLink "MatroidDesk$Minors" (7 : Nat) "MatroidDesk$Minors" "orders" "LMatroidDesk$Orders;"), (Jvm.Cond.classLink "MatroidDesk$Minors" (13 : Nat) "MatroidDesk$Wide"), (Jvm.Cond.fieldLink "MatroidDesk$Minors" (16 : Nat) "MatroidDesk$Minors" "top" "LMatroidDesk$Wide;"), (Jvm.Cond.fieldLink "MatroidDesk$Minors" (20 : Nat) "MatroidDesk$Minors" "bottom" "LMatroidDesk$Wide;"), (Jvm.Cond.fieldLink "MatroidDesk$Minors" (23 : Nat) "MatroidDesk$Minors" "divisor" "LMatroidDesk$Wide;"), (Jvm.Cond.fieldLink "MatroidDesk$Minors" (26 : Nat) "MatroidDesk$Minors" "rest" "LMatroidDesk$Wide;"), (Jvm.Cond.fieldLink "MatroidDesk$Minors" (29 : Nat) "MatroidDesk$Minors" "low" "[J"), (Jvm.Cond.fieldLink "MatroidDesk$Minors" (33 : Nat) "MatroidDesk$Minors" "middle" "[J"), (Jvm.Cond.fieldLink "MatroidDesk$Minors" (36 : Nat) "MatroidDesk$Minors" "high" "[J")]
def px_all_9 : List Cond := [(Jvm.Cond.code ({ cls := "MatroidDesk$Witness", name := "<init>", desc := "(LMatroidDesk$Orders;)V" } : Jvm.MethodName) prog_13_method_1_code (2 : Nat) (Option.none : Option Jvm.ClassFile.FieldType)), (Jvm.Cond.instanceMethod ({ cls := "MatroidDesk$Witness", name := "<init>", desc := "(LMatroidDesk$Orders;)V" } : Jvm.MethodName)), (Jvm.Cond.methodLink "MatroidDesk$Witness" (3 : Nat) ({ cls := "java/lang/Object", name := "<init>", desc := "()V" } : Jvm.MethodName)), (Jvm.Cond.fieldLink "MatroidDesk$Witness" (9 : Nat) "MatroidDesk$Witness" "orders" "LMatroidDesk$Orders;"), (Jvm.Cond.fieldLink "MatroidDesk$Witness" (15 : Nat) "MatroidDesk$Witness" "images" "[I"), (Jvm.Cond.fieldLink "MatroidDesk$Witness" (19 : Nat) "MatroidDesk$Witness" "guestPairs" "[I"), (Jvm.Cond.fieldLink "MatroidDesk$Witness" (22 : Nat) "MatroidDesk$Witness" "hostPairs" "[I"), (Jvm.Cond.fieldLink "MatroidDesk$Witness" (25 : Nat) "MatroidDesk$Witness" "keptSets" "[I"), (Jvm.Cond.fieldLink "MatroidDesk$Witness" (28 : Nat) "MatroidDesk$Witness" "restSets" "[I"), (Jvm.Cond.fieldLink "MatroidDesk$Witness" (31 : Nat) "MatroidDesk$Witness" "imageSets" "[I"), (Jvm.Cond.fieldLink "MatroidDesk$Witness" (34 : Nat) "MatroidDesk$Witness" "host" "LMatroidDesk$Matroid;"), (Jvm.Cond.fieldLink "MatroidDesk$Witness" (38 : Nat) "MatroidDesk$Witness" "guest" "LMatroidDesk$Matroid;"), (Jvm.Cond.fieldLink "MatroidDesk$Witness" (41 : Nat) "MatroidDesk$Witness" "hostStamp" "I"), (Jvm.Cond.fieldLink "MatroidDesk$Witness" (45 : Nat) "MatroidDesk$Witness" "guestStamp" "I"), (Jvm.Cond.code ({ cls := "MatroidDesk$Statement", name := "<init>", desc := "(LMatroidDesk$Tokens;)V" } : Jvm.MethodName) prog_9_method_1_code (2 : Nat) (Option.none : Option Jvm.ClassFile.FieldType)), (Jvm.Cond.instanceMethod ({ cls := "MatroidDesk$Statement", name := "<init>", desc := "(LMatroidDesk$Tokens;)V" } : Jvm.MethodName)), (Jvm.Cond.methodLink "MatroidDesk$Statement" (3 : Nat) ({ cls := "java/lang/Object", name := "<init>", desc := "()V" } : Jvm.MethodName)), (Jvm.Cond.fieldLink "MatroidDesk$Statement" (9 : Nat) "MatroidDesk$Statement" "tokens" "LMatroidDesk$Tokens;"), (Jvm.Cond.fieldLink "MatroidDesk$Statement" (15 : Nat) "MatroidDesk$Statement" "numbers" "[I"), (Jvm.Cond.fieldLink "MatroidDesk$Statement" (19 : Nat) "MatroidDesk$Verb" "SHOW" "LMatroidDesk$Verb;")]
def px_all_10 : List Cond := [(Jvm.Cond.fieldLink "MatroidDesk$Statement" (25 : Nat) "MatroidDesk$Statement" "verb" "LMatroidDesk$Verb;"), (Jvm.Cond.code ({ cls := "MatroidDesk$Product", name := "<init>", desc := "()V" } : Jvm.MethodName) prog_7_method_1_code (1 : Nat) (Option.none : Option Jvm.ClassFile.FieldType)), (Jvm.Cond.instanceMethod ({ cls := "MatroidDesk$Product", name := "<init>", desc := "()V" } : Jvm.MethodName)), (Jvm.Cond.methodLink "MatroidDesk$Product" (3 : Nat) ({ cls := "java/lang/Object", name := "<init>", desc := "()V" } : Jvm.MethodName)), (Jvm.Cond.fieldLink "MatroidDesk$Product" (9 : Nat) "MatroidDesk$Product" "bytes" "[B"), (Jvm.Cond.fieldLink "MatroidDesk$Product" (15 : Nat) "MatroidDesk$Product" "digits" "[B"), (Jvm.Cond.code ({ cls := "MatroidDesk", name := "<init>", desc := "()V" } : Jvm.MethodName) prog_1_method_1_code (1 : Nat) (Option.none : Option Jvm.ClassFile.FieldType)), (Jvm.Cond.instanceMethod ({ cls := "MatroidDesk", name := "<init>", desc := "()V" } : Jvm.MethodName)), (Jvm.Cond.methodLink "MatroidDesk" (1 : Nat) ({ cls := "java/lang/Object", name := "<init>", desc := "()V" } : Jvm.MethodName)), (Jvm.Cond.fieldLink "MatroidDesk" (7 : Nat) "MatroidDesk" "bytes" "[B"), (Jvm.Cond.fieldLink "MatroidDesk" (13 : Nat) "MatroidDesk" "fed" "I"), (Jvm.Cond.fieldLink "MatroidDesk" (17 : Nat) "MatroidDesk" "refusedAt" "I"), (Jvm.Cond.fieldLink "MatroidDesk" (20 : Nat) "MatroidDesk" "reason" "I"), (Jvm.Cond.fieldLink "MatroidDesk" (23 : Nat) "MatroidDesk" "stamps" "I"), (Jvm.Cond.fieldLink "MatroidDesk" (26 : Nat) "MatroidDesk" "spare" "LMatroidDesk$Matroid;"), (Jvm.Cond.classLink "MatroidDesk" (30 : Nat) "MatroidDesk$Matroid"), (Jvm.Cond.fieldLink "MatroidDesk" (32 : Nat) "MatroidDesk" "matroids" "[LMatroidDesk$Matroid;"), (Jvm.Cond.fieldLink "MatroidDesk" (36 : Nat) "MatroidDesk" "entries" "[I"), (Jvm.Cond.classLink "MatroidDesk" (40 : Nat) "MatroidDesk$Orders"), (Jvm.Cond.methodLink "MatroidDesk" (42 : Nat) ({ cls := "MatroidDesk$Orders", name := "<init>", desc := "()V" } : Jvm.MethodName))]
def px_all_11 : List Cond := [(Jvm.Cond.fieldLink "MatroidDesk" (43 : Nat) "MatroidDesk" "orders" "LMatroidDesk$Orders;"), (Jvm.Cond.classLink "MatroidDesk" (47 : Nat) "MatroidDesk$Minors"), (Jvm.Cond.methodLink "MatroidDesk" (49 : Nat) ({ cls := "MatroidDesk$Minors", name := "<init>", desc := "(LMatroidDesk$Orders;)V" } : Jvm.MethodName)), (Jvm.Cond.fieldLink "MatroidDesk" (52 : Nat) "MatroidDesk" "minors" "LMatroidDesk$Minors;"), (Jvm.Cond.classLink "MatroidDesk" (56 : Nat) "MatroidDesk$Witness"), (Jvm.Cond.methodLink "MatroidDesk" (58 : Nat) ({ cls := "MatroidDesk$Witness", name := "<init>", desc := "(LMatroidDesk$Orders;)V" } : Jvm.MethodName)), (Jvm.Cond.fieldLink "MatroidDesk" (59 : Nat) "MatroidDesk" "witness" "LMatroidDesk$Witness;"), (Jvm.Cond.classLink "MatroidDesk" (63 : Nat) "MatroidDesk$Tokens"), (Jvm.Cond.methodLink "MatroidDesk" (65 : Nat) ({ cls := "MatroidDesk$Tokens", name := "<init>", desc := "()V" } : Jvm.MethodName)), (Jvm.Cond.fieldLink "MatroidDesk" (66 : Nat) "MatroidDesk" "tokens" "LMatroidDesk$Tokens;"), (Jvm.Cond.classLink "MatroidDesk" (70 : Nat) "MatroidDesk$Statement"), (Jvm.Cond.methodLink "MatroidDesk" (72 : Nat) ({ cls := "MatroidDesk$Statement", name := "<init>", desc := "(LMatroidDesk$Tokens;)V" } : Jvm.MethodName)), (Jvm.Cond.fieldLink "MatroidDesk" (75 : Nat) "MatroidDesk" "statement" "LMatroidDesk$Statement;"), (Jvm.Cond.classLink "MatroidDesk" (79 : Nat) "MatroidDesk$Product"), (Jvm.Cond.methodLink "MatroidDesk" (81 : Nat) ({ cls := "MatroidDesk$Product", name := "<init>", desc := "()V" } : Jvm.MethodName)), (Jvm.Cond.fieldLink "MatroidDesk" (82 : Nat) "MatroidDesk" "product" "LMatroidDesk$Product;"), (Jvm.Cond.code ({ cls := "MatroidDeskModel$Num", name := "<init>", desc := "()V" } : Jvm.MethodName) prog_16_method_1_code (1 : Nat) (Option.none : Option Jvm.ClassFile.FieldType)), (Jvm.Cond.instanceMethod ({ cls := "MatroidDeskModel$Num", name := "<init>", desc := "()V" } : Jvm.MethodName)), (Jvm.Cond.methodLink "MatroidDeskModel$Num" (1 : Nat) ({ cls := "java/lang/Object", name := "<init>", desc := "()V" } : Jvm.MethodName)), (Jvm.Cond.fieldLink "MatroidDeskModel$Num" (7 : Nat) "MatroidDeskModel$Num" "d" "[I")]
def px_all_12 : List Cond := [(Jvm.Cond.code ({ cls := "MatroidDeskModel", name := "list", desc := "(IIII)I" } : Jvm.MethodName) prog_15_method_18_code (7 : Nat) (Option.some Jvm.ClassFile.FieldType.int)), (Jvm.Cond.instanceMethod ({ cls := "MatroidDeskModel", name := "list", desc := "(IIII)I" } : Jvm.MethodName)), (Jvm.Cond.selects "MatroidDeskModel" ({ cls := "MatroidDeskModel", name := "list", desc := "(IIII)I" } : Jvm.MethodName) ({ cls := "MatroidDeskModel", name := "list", desc := "(IIII)I" } : Jvm.MethodName)), (Jvm.Cond.fieldLink "MatroidDeskModel" (184 : Nat) "MatroidDeskModel" "order" "[I"), (Jvm.Cond.methodLink "MatroidDeskModel" (228 : Nat) ({ cls := "MatroidDeskModel", name := "list", desc := "(IIII)I" } : Jvm.MethodName)), (Jvm.Cond.fieldLink "MatroidDeskModel" (187 : Nat) "MatroidDeskModel" "sizes" "[I"), (Jvm.Cond.code ({ cls := "MatroidDeskModel", name := "<init>", desc := "()V" } : Jvm.MethodName) prog_15_method_17_code (3 : Nat) (Option.none : Option Jvm.ClassFile.FieldType)), (Jvm.Cond.instanceMethod ({ cls := "MatroidDeskModel", name := "<init>", desc := "()V" } : Jvm.MethodName)), (Jvm.Cond.methodLink "MatroidDeskModel" (147 : Nat) ({ cls := "java/lang/Object", name := "<init>", desc := "()V" } : Jvm.MethodName)), (Jvm.Cond.classLink "MatroidDeskModel" (8 : Nat) "MatroidDeskModel$Num"), (Jvm.Cond.fieldLink "MatroidDeskModel" (58 : Nat) "MatroidDeskModel" "one" "LMatroidDeskModel$Num;"), (Jvm.Cond.fieldLink "MatroidDeskModel" (27 : Nat) "MatroidDeskModel" "two" "LMatroidDeskModel$Num;"), (Jvm.Cond.fieldLink "MatroidDeskModel" (24 : Nat) "MatroidDeskModel" "three" "LMatroidDeskModel$Num;"), (Jvm.Cond.fieldLink "MatroidDeskModel" (17 : Nat) "MatroidDeskModel" "four" "LMatroidDeskModel$Num;"), (Jvm.Cond.fieldLink "MatroidDeskModel" (1 : Nat) "MatroidDeskModel" "five" "LMatroidDeskModel$Num;"), (Jvm.Cond.fieldLink "MatroidDeskModel" (65 : Nat) "MatroidDeskModel" "six" "LMatroidDeskModel$Num;"), (Jvm.Cond.fieldLink "MatroidDeskModel" (68 : Nat) "MatroidDeskModel" "seven" "LMatroidDeskModel$Num;"), (Jvm.Cond.fieldLink "MatroidDeskModel" (82 : Nat) "MatroidDeskModel" "eight" "LMatroidDeskModel$Num;"), (Jvm.Cond.fieldLink "MatroidDeskModel" (34 : Nat) "MatroidDeskModel" "work" "[LMatroidDeskModel$Num;"), (Jvm.Cond.fieldLink "MatroidDeskModel" (55 : Nat) "MatroidDeskModel" "small" "[I")]
def px_all_13 : List Cond := [(Jvm.Cond.fieldLink "MatroidDeskModel" (108 : Nat) "MatroidDeskModel" "pivots" "[I"), (Jvm.Cond.fieldLink "MatroidDeskModel" (120 : Nat) "MatroidDeskModel" "freeRows" "[I"), (Jvm.Cond.fieldLink "MatroidDeskModel" (117 : Nat) "MatroidDeskModel" "freeColumns" "[I"), (Jvm.Cond.fieldLink "MatroidDeskModel" (140 : Nat) "MatroidDeskModel" "minor" "[LMatroidDeskModel$Num;"), (Jvm.Cond.fieldLink "MatroidDeskModel" (137 : Nat) "MatroidDeskModel" "smallMinor" "[I"), (Jvm.Cond.fieldLink "MatroidDeskModel" (153 : Nat) "MatroidDeskModel" "there" "[Z"), (Jvm.Cond.fieldLink "MatroidDeskModel" (157 : Nat) "MatroidDeskModel" "elements" "[I"), (Jvm.Cond.fieldLink "MatroidDeskModel" (160 : Nat) "MatroidDeskModel" "fields" "[I"), (Jvm.Cond.fieldLink "MatroidDeskModel" (163 : Nat) "MatroidDeskModel" "ranks" "[I"), (Jvm.Cond.constant "MatroidDeskModel" (166 : Nat) (89856 : Int32)), (Jvm.Cond.fieldLink "MatroidDeskModel" (167 : Nat) "MatroidDeskModel" "kept" "[I"), (Jvm.Cond.fieldLink "MatroidDeskModel" (170 : Nat) "MatroidDeskModel" "keptSmall" "[I"), (Jvm.Cond.fieldLink "MatroidDeskModel" (173 : Nat) "MatroidDeskModel" "weights" "[I"), (Jvm.Cond.constant "MatroidDeskModel" (176 : Nat) (106496 : Int32)), (Jvm.Cond.fieldLink "MatroidDeskModel" (177 : Nat) "MatroidDeskModel" "rankOf" "[B"), (Jvm.Cond.fieldLink "MatroidDeskModel" (181 : Nat) "MatroidDeskModel" "signOf" "[B"), (Jvm.Cond.fieldLink "MatroidDeskModel" (190 : Nat) "MatroidDeskModel" "coefficients" "[J"), (Jvm.Cond.fieldLink "MatroidDeskModel" (194 : Nat) "MatroidDeskModel" "choices" "[J"), (Jvm.Cond.fieldLink "MatroidDeskModel" (197 : Nat) "MatroidDeskModel" "sorted" "[I"), (Jvm.Cond.fieldLink "MatroidDeskModel" (200 : Nat) "MatroidDeskModel" "images" "[I")]
def px_all_14 : List Cond := [(Jvm.Cond.fieldLink "MatroidDeskModel" (203 : Nat) "MatroidDeskModel" "others" "[I"), (Jvm.Cond.fieldLink "MatroidDeskModel" (206 : Nat) "MatroidDeskModel" "text" "[B"), (Jvm.Cond.fieldLink "MatroidDeskModel" (209 : Nat) "MatroidDeskModel" "placeTold" "I"), (Jvm.Cond.fieldLink "MatroidDeskModel" (212 : Nat) "MatroidDeskModel" "list" "[I"), (Jvm.Cond.fieldLink "MatroidDeskModel" (215 : Nat) "MatroidDeskModel" "saved" "[I"), (Jvm.Cond.constant "MatroidDeskModel" (218 : Nat) (65536 : Int32)), (Jvm.Cond.fieldLink "MatroidDeskModel" (219 : Nat) "MatroidDeskModel" "sheet" "[B"), (Jvm.Cond.fieldLink "MatroidDeskModel" (222 : Nat) "MatroidDeskModel" "decimals" "[B"), (Jvm.Cond.fieldLink "MatroidDeskModel" (225 : Nat) "MatroidDeskModel" "came" "[B"), (Jvm.Cond.code ({ cls := "MatroidDesk", name := "takeInt", desc := "(I)V" } : Jvm.MethodName) prog_1_method_26_code (3 : Nat) (Option.none : Option Jvm.ClassFile.FieldType)), (Jvm.Cond.instanceMethod ({ cls := "MatroidDesk", name := "takeInt", desc := "(I)V" } : Jvm.MethodName)), (Jvm.Cond.selects "MatroidDesk" ({ cls := "MatroidDesk", name := "takeInt", desc := "(I)V" } : Jvm.MethodName) ({ cls := "MatroidDesk", name := "takeInt", desc := "(I)V" } : Jvm.MethodName)), (Jvm.Cond.code ({ cls := "MatroidDesk", name := "feed", desc := "(IIIII)V" } : Jvm.MethodName) prog_1_method_2_code (6 : Nat) (Option.none : Option Jvm.ClassFile.FieldType)), (Jvm.Cond.instanceMethod ({ cls := "MatroidDesk", name := "feed", desc := "(IIIII)V" } : Jvm.MethodName)), (Jvm.Cond.selects "MatroidDesk" ({ cls := "MatroidDesk", name := "feed", desc := "(IIIII)V" } : Jvm.MethodName) ({ cls := "MatroidDesk", name := "feed", desc := "(IIIII)V" } : Jvm.MethodName)), (Jvm.Cond.classLink "MatroidDesk" (86 : Nat) "java/lang/IllegalStateException"), (Jvm.Cond.methodLink "MatroidDesk" (99 : Nat) ({ cls := "MatroidDesk", name := "takeInt", desc := "(I)V" } : Jvm.MethodName)), (Jvm.Cond.code ({ cls := "MatroidDesk", name := "end", desc := "(I)I" } : Jvm.MethodName) prog_1_method_3_code (3 : Nat) (Option.some Jvm.ClassFile.FieldType.int)), (Jvm.Cond.instanceMethod ({ cls := "MatroidDesk", name := "end", desc := "(I)I" } : Jvm.MethodName)), (Jvm.Cond.selects "MatroidDesk" ({ cls := "MatroidDesk", name := "end", desc := "(I)I" } : Jvm.MethodName) ({ cls := "MatroidDesk", name := "end", desc := "(I)I" } : Jvm.MethodName))]
def px_all_15 : List Cond := [(Jvm.Cond.classLink "MatroidDesk" (103 : Nat) "java/lang/IllegalArgumentException"), (Jvm.Cond.code ({ cls := "MatroidDesk$Tokens", name := "skipBlanks", desc := "()V" } : Jvm.MethodName) prog_10_method_6_code (3 : Nat) (Option.none : Option Jvm.ClassFile.FieldType)), (Jvm.Cond.instanceMethod ({ cls := "MatroidDesk$Tokens", name := "skipBlanks", desc := "()V" } : Jvm.MethodName)), (Jvm.Cond.selects "MatroidDesk$Tokens" ({ cls := "MatroidDesk$Tokens", name := "skipBlanks", desc := "()V" } : Jvm.MethodName) ({ cls := "MatroidDesk$Tokens", name := "skipBlanks", desc := "()V" } : Jvm.MethodName)), (Jvm.Cond.fieldLink "MatroidDesk$Tokens" (19 : Nat) "MatroidDesk$Tokens" "behind" "I"), (Jvm.Cond.fieldLink "MatroidDesk$Tokens" (15 : Nat) "MatroidDesk$Tokens" "length" "I"), (Jvm.Cond.code ({ cls := "MatroidDesk$Tokens", name := "step", desc := "()V" } : Jvm.MethodName) prog_10_method_3_code (3 : Nat) (Option.none : Option Jvm.ClassFile.FieldType)), (Jvm.Cond.instanceMethod ({ cls := "MatroidDesk$Tokens", name := "step", desc := "()V" } : Jvm.MethodName)), (Jvm.Cond.selects "MatroidDesk$Tokens" ({ cls := "MatroidDesk$Tokens", name := "step", desc := "()V" } : Jvm.MethodName) ({ cls := "MatroidDesk$Tokens", name := "step", desc := "()V" } : Jvm.MethodName)), (Jvm.Cond.methodLink "MatroidDesk$Tokens" (25 : Nat) ({ cls := "MatroidDesk$Tokens", name := "skipBlanks", desc := "()V" } : Jvm.MethodName)), (Jvm.Cond.fieldLink "MatroidDesk$Tokens" (28 : Nat) "MatroidDesk$Tokens" "start" "I"), (Jvm.Cond.fieldLink "MatroidDesk$Tokens" (31 : Nat) "MatroidDesk$Tokens" "kind" "I"), (Jvm.Cond.code ({ cls := "MatroidDesk$Tokens", name := "open", desc := "([BI)V" } : Jvm.MethodName) prog_10_method_2_code (3 : Nat) (Option.none : Option Jvm.ClassFile.FieldType)), (Jvm.Cond.instanceMethod ({ cls := "MatroidDesk$Tokens", name := "open", desc := "([BI)V" } : Jvm.MethodName)), (Jvm.Cond.selects "MatroidDesk$Tokens" ({ cls := "MatroidDesk$Tokens", name := "open", desc := "([BI)V" } : Jvm.MethodName) ({ cls := "MatroidDesk$Tokens", name := "open", desc := "([BI)V" } : Jvm.MethodName)), (Jvm.Cond.methodLink "MatroidDesk$Tokens" (22 : Nat) ({ cls := "MatroidDesk$Tokens", name := "step", desc := "()V" } : Jvm.MethodName)), (Jvm.Cond.code ({ cls := "MatroidDesk$Product", name := "cutTo", desc := "(I)V" } : Jvm.MethodName) prog_7_method_2_code (2 : Nat) (Option.none : Option Jvm.ClassFile.FieldType)), (Jvm.Cond.instanceMethod ({ cls := "MatroidDesk$Product", name := "cutTo", desc := "(I)V" } : Jvm.MethodName)), (Jvm.Cond.selects "MatroidDesk$Product" ({ cls := "MatroidDesk$Product", name := "cutTo", desc := "(I)V" } : Jvm.MethodName) ({ cls := "MatroidDesk$Product", name := "cutTo", desc := "(I)V" } : Jvm.MethodName)), (Jvm.Cond.fieldLink "MatroidDesk$Product" (18 : Nat) "MatroidDesk$Product" "length" "I")]
def px_all_16 : List Cond := [(Jvm.Cond.fieldLink "MatroidDesk$Product" (22 : Nat) "MatroidDesk$Product" "full" "Z"), (Jvm.Cond.code ({ cls := "MatroidDesk", name := "readsWhole", desc := "(I)Z" } : Jvm.MethodName) prog_1_method_27_code (3 : Nat) (Option.some Jvm.ClassFile.FieldType.boolean)), (Jvm.Cond.instanceMethod ({ cls := "MatroidDesk", name := "readsWhole", desc := "(I)Z" } : Jvm.MethodName)), (Jvm.Cond.selects "MatroidDesk" ({ cls := "MatroidDesk", name := "readsWhole", desc := "(I)Z" } : Jvm.MethodName) ({ cls := "MatroidDesk", name := "readsWhole", desc := "(I)Z" } : Jvm.MethodName)), (Jvm.Cond.methodLink "MatroidDesk" (118 : Nat) ({ cls := "MatroidDesk$Tokens", name := "open", desc := "([BI)V" } : Jvm.MethodName)), (Jvm.Cond.code ({ cls := "MatroidDesk", name := "run", desc := "()I" } : Jvm.MethodName) prog_1_method_4_code (5 : Nat) (Option.some Jvm.ClassFile.FieldType.int)), (Jvm.Cond.instanceMethod ({ cls := "MatroidDesk", name := "run", desc := "()I" } : Jvm.MethodName)), (Jvm.Cond.selects "MatroidDesk" ({ cls := "MatroidDesk", name := "run", desc := "()I" } : Jvm.MethodName) ({ cls := "MatroidDesk", name := "run", desc := "()I" } : Jvm.MethodName)), (Jvm.Cond.methodLink "MatroidDesk" (108 : Nat) ({ cls := "MatroidDesk", name := "readsWhole", desc := "(I)Z" } : Jvm.MethodName)), (Jvm.Cond.methodLink "MatroidDesk" (115 : Nat) ({ cls := "MatroidDesk$Product", name := "cutTo", desc := "(I)V" } : Jvm.MethodName)), (Jvm.Cond.methodLink "MatroidDesk" (152 : Nat) ({ cls := "MatroidDesk", name := "matroidAt", desc := "(I)LMatroidDesk$Matroid;" } : Jvm.MethodName)), (Jvm.Cond.code ({ cls := "MatroidDesk", name := "place", desc := "()I" } : Jvm.MethodName) prog_1_method_5_code (1 : Nat) (Option.some Jvm.ClassFile.FieldType.int)), (Jvm.Cond.instanceMethod ({ cls := "MatroidDesk", name := "place", desc := "()I" } : Jvm.MethodName)), (Jvm.Cond.selects "MatroidDesk" ({ cls := "MatroidDesk", name := "place", desc := "()I" } : Jvm.MethodName) ({ cls := "MatroidDesk", name := "place", desc := "()I" } : Jvm.MethodName)), (Jvm.Cond.code ({ cls := "MatroidDesk", name := "why", desc := "()I" } : Jvm.MethodName) prog_1_method_6_code (1 : Nat) (Option.some Jvm.ClassFile.FieldType.int)), (Jvm.Cond.instanceMethod ({ cls := "MatroidDesk", name := "why", desc := "()I" } : Jvm.MethodName)), (Jvm.Cond.selects "MatroidDesk" ({ cls := "MatroidDesk", name := "why", desc := "()I" } : Jvm.MethodName) ({ cls := "MatroidDesk", name := "why", desc := "()I" } : Jvm.MethodName)), (Jvm.Cond.code ({ cls := "MatroidDesk", name := "printed", desc := "()I" } : Jvm.MethodName) prog_1_method_7_code (1 : Nat) (Option.some Jvm.ClassFile.FieldType.int)), (Jvm.Cond.instanceMethod ({ cls := "MatroidDesk", name := "printed", desc := "()I" } : Jvm.MethodName)), (Jvm.Cond.selects "MatroidDesk" ({ cls := "MatroidDesk", name := "printed", desc := "()I" } : Jvm.MethodName) ({ cls := "MatroidDesk", name := "printed", desc := "()I" } : Jvm.MethodName))]
def px_all_17 : List Cond := [(Jvm.Cond.code ({ cls := "MatroidDesk", name := "out", desc := "(I)I" } : Jvm.MethodName) prog_1_method_8_code (2 : Nat) (Option.some Jvm.ClassFile.FieldType.int)), (Jvm.Cond.instanceMethod ({ cls := "MatroidDesk", name := "out", desc := "(I)I" } : Jvm.MethodName)), (Jvm.Cond.selects "MatroidDesk" ({ cls := "MatroidDesk", name := "out", desc := "(I)I" } : Jvm.MethodName) ({ cls := "MatroidDesk", name := "out", desc := "(I)I" } : Jvm.MethodName)), (Jvm.Cond.code ({ cls := "MatroidDesk", name := "matroidAt", desc := "(I)LMatroidDesk$Matroid;" } : Jvm.MethodName) prog_1_method_25_code (2 : Nat) (Option.some (Jvm.ClassFile.FieldType.object "MatroidDesk$Matroid"))), (Jvm.Cond.instanceMethod ({ cls := "MatroidDesk", name := "matroidAt", desc := "(I)LMatroidDesk$Matroid;" } : Jvm.MethodName)), (Jvm.Cond.selects "MatroidDesk" ({ cls := "MatroidDesk", name := "matroidAt", desc := "(I)LMatroidDesk$Matroid;" } : Jvm.MethodName) ({ cls := "MatroidDesk", name := "matroidAt", desc := "(I)LMatroidDesk$Matroid;" } : Jvm.MethodName)), (Jvm.Cond.code ({ cls := "MatroidDesk", name := "elements", desc := "(I)I" } : Jvm.MethodName) prog_1_method_9_code (3 : Nat) (Option.some Jvm.ClassFile.FieldType.int)), (Jvm.Cond.instanceMethod ({ cls := "MatroidDesk", name := "elements", desc := "(I)I" } : Jvm.MethodName)), (Jvm.Cond.selects "MatroidDesk" ({ cls := "MatroidDesk", name := "elements", desc := "(I)I" } : Jvm.MethodName) ({ cls := "MatroidDesk", name := "elements", desc := "(I)I" } : Jvm.MethodName)), (Jvm.Cond.code ({ cls := "MatroidDesk", name := "field", desc := "(I)I" } : Jvm.MethodName) prog_1_method_10_code (3 : Nat) (Option.some Jvm.ClassFile.FieldType.int)), (Jvm.Cond.instanceMethod ({ cls := "MatroidDesk", name := "field", desc := "(I)I" } : Jvm.MethodName)), (Jvm.Cond.selects "MatroidDesk" ({ cls := "MatroidDesk", name := "field", desc := "(I)I" } : Jvm.MethodName) ({ cls := "MatroidDesk", name := "field", desc := "(I)I" } : Jvm.MethodName)), (Jvm.Cond.code ({ cls := "MatroidDesk", name := "rank", desc := "(II)I" } : Jvm.MethodName) prog_1_method_11_code (4 : Nat) (Option.some Jvm.ClassFile.FieldType.int)), (Jvm.Cond.instanceMethod ({ cls := "MatroidDesk", name := "rank", desc := "(II)I" } : Jvm.MethodName)), (Jvm.Cond.selects "MatroidDesk" ({ cls := "MatroidDesk", name := "rank", desc := "(II)I" } : Jvm.MethodName) ({ cls := "MatroidDesk", name := "rank", desc := "(II)I" } : Jvm.MethodName)), (Jvm.Cond.code ({ cls := "MatroidDesk", name := "count", desc := "(II)I" } : Jvm.MethodName) prog_1_method_12_code (4 : Nat) (Option.some Jvm.ClassFile.FieldType.int)), (Jvm.Cond.instanceMethod ({ cls := "MatroidDesk", name := "count", desc := "(II)I" } : Jvm.MethodName)), (Jvm.Cond.selects "MatroidDesk" ({ cls := "MatroidDesk", name := "count", desc := "(II)I" } : Jvm.MethodName) ({ cls := "MatroidDesk", name := "count", desc := "(II)I" } : Jvm.MethodName)), (Jvm.Cond.code ({ cls := "MatroidDesk", name := "member", desc := "(III)I" } : Jvm.MethodName) prog_1_method_13_code (5 : Nat) (Option.some Jvm.ClassFile.FieldType.int)), (Jvm.Cond.instanceMethod ({ cls := "MatroidDesk", name := "member", desc := "(III)I" } : Jvm.MethodName))]
def px_all_18 : List Cond := [(Jvm.Cond.selects "MatroidDesk" ({ cls := "MatroidDesk", name := "member", desc := "(III)I" } : Jvm.MethodName) ({ cls := "MatroidDesk", name := "member", desc := "(III)I" } : Jvm.MethodName)), (Jvm.Cond.code ({ cls := "MatroidDesk", name := "tutte", desc := "(III)J" } : Jvm.MethodName) prog_1_method_14_code (5 : Nat) (Option.some Jvm.ClassFile.FieldType.long)), (Jvm.Cond.instanceMethod ({ cls := "MatroidDesk", name := "tutte", desc := "(III)J" } : Jvm.MethodName)), (Jvm.Cond.selects "MatroidDesk" ({ cls := "MatroidDesk", name := "tutte", desc := "(III)J" } : Jvm.MethodName) ({ cls := "MatroidDesk", name := "tutte", desc := "(III)J" } : Jvm.MethodName)), (Jvm.Cond.code ({ cls := "MatroidDesk", name := "weight", desc := "(II)I" } : Jvm.MethodName) prog_1_method_15_code (4 : Nat) (Option.some Jvm.ClassFile.FieldType.int)), (Jvm.Cond.instanceMethod ({ cls := "MatroidDesk", name := "weight", desc := "(II)I" } : Jvm.MethodName)), (Jvm.Cond.selects "MatroidDesk" ({ cls := "MatroidDesk", name := "weight", desc := "(II)I" } : Jvm.MethodName) ({ cls := "MatroidDesk", name := "weight", desc := "(II)I" } : Jvm.MethodName)), (Jvm.Cond.code ({ cls := "MatroidDesk", name := "best", desc := "(I)I" } : Jvm.MethodName) prog_1_method_16_code (3 : Nat) (Option.some Jvm.ClassFile.FieldType.int)), (Jvm.Cond.instanceMethod ({ cls := "MatroidDesk", name := "best", desc := "(I)I" } : Jvm.MethodName)), (Jvm.Cond.selects "MatroidDesk" ({ cls := "MatroidDesk", name := "best", desc := "(I)I" } : Jvm.MethodName) ({ cls := "MatroidDesk", name := "best", desc := "(I)I" } : Jvm.MethodName)), (Jvm.Cond.code ({ cls := "MatroidDesk", name := "common", desc := "(II)I" } : Jvm.MethodName) prog_1_method_17_code (6 : Nat) (Option.some Jvm.ClassFile.FieldType.int)), (Jvm.Cond.instanceMethod ({ cls := "MatroidDesk", name := "common", desc := "(II)I" } : Jvm.MethodName)), (Jvm.Cond.selects "MatroidDesk" ({ cls := "MatroidDesk", name := "common", desc := "(II)I" } : Jvm.MethodName) ({ cls := "MatroidDesk", name := "common", desc := "(II)I" } : Jvm.MethodName)), (Jvm.Cond.code ({ cls := "MatroidDesk", name := "cover", desc := "(II)I" } : Jvm.MethodName) prog_1_method_18_code (6 : Nat) (Option.some Jvm.ClassFile.FieldType.int)), (Jvm.Cond.instanceMethod ({ cls := "MatroidDesk", name := "cover", desc := "(II)I" } : Jvm.MethodName)), (Jvm.Cond.selects "MatroidDesk" ({ cls := "MatroidDesk", name := "cover", desc := "(II)I" } : Jvm.MethodName) ({ cls := "MatroidDesk", name := "cover", desc := "(II)I" } : Jvm.MethodName)), (Jvm.Cond.code ({ cls := "MatroidDesk", name := "sign", desc := "(II)I" } : Jvm.MethodName) prog_1_method_19_code (4 : Nat) (Option.some Jvm.ClassFile.FieldType.int)), (Jvm.Cond.instanceMethod ({ cls := "MatroidDesk", name := "sign", desc := "(II)I" } : Jvm.MethodName)), (Jvm.Cond.selects "MatroidDesk" ({ cls := "MatroidDesk", name := "sign", desc := "(II)I" } : Jvm.MethodName) ({ cls := "MatroidDesk", name := "sign", desc := "(II)I" } : Jvm.MethodName)), (Jvm.Cond.code ({ cls := "MatroidDesk", name := "below", desc := "(II)I" } : Jvm.MethodName) prog_1_method_20_code (4 : Nat) (Option.some Jvm.ClassFile.FieldType.int))]
def px_all_19 : List Cond := [(Jvm.Cond.instanceMethod ({ cls := "MatroidDesk", name := "below", desc := "(II)I" } : Jvm.MethodName)), (Jvm.Cond.selects "MatroidDesk" ({ cls := "MatroidDesk", name := "below", desc := "(II)I" } : Jvm.MethodName) ({ cls := "MatroidDesk", name := "below", desc := "(II)I" } : Jvm.MethodName)), (Jvm.Cond.code ({ cls := "MatroidDesk", name := "isMinor", desc := "(II)Z" } : Jvm.MethodName) prog_1_method_24_code (5 : Nat) (Option.some Jvm.ClassFile.FieldType.boolean)), (Jvm.Cond.instanceMethod ({ cls := "MatroidDesk", name := "isMinor", desc := "(II)Z" } : Jvm.MethodName)), (Jvm.Cond.selects "MatroidDesk" ({ cls := "MatroidDesk", name := "isMinor", desc := "(II)Z" } : Jvm.MethodName) ({ cls := "MatroidDesk", name := "isMinor", desc := "(II)Z" } : Jvm.MethodName)), (Jvm.Cond.code ({ cls := "MatroidDesk", name := "contracted", desc := "(II)I" } : Jvm.MethodName) prog_1_method_21_code (3 : Nat) (Option.some Jvm.ClassFile.FieldType.int)), (Jvm.Cond.instanceMethod ({ cls := "MatroidDesk", name := "contracted", desc := "(II)I" } : Jvm.MethodName)), (Jvm.Cond.selects "MatroidDesk" ({ cls := "MatroidDesk", name := "contracted", desc := "(II)I" } : Jvm.MethodName) ({ cls := "MatroidDesk", name := "contracted", desc := "(II)I" } : Jvm.MethodName)), (Jvm.Cond.methodLink "MatroidDesk" (215 : Nat) ({ cls := "MatroidDesk", name := "isMinor", desc := "(II)Z" } : Jvm.MethodName)), (Jvm.Cond.code ({ cls := "MatroidDesk", name := "deleted", desc := "(II)I" } : Jvm.MethodName) prog_1_method_22_code (3 : Nat) (Option.some Jvm.ClassFile.FieldType.int)), (Jvm.Cond.instanceMethod ({ cls := "MatroidDesk", name := "deleted", desc := "(II)I" } : Jvm.MethodName)), (Jvm.Cond.selects "MatroidDesk" ({ cls := "MatroidDesk", name := "deleted", desc := "(II)I" } : Jvm.MethodName) ({ cls := "MatroidDesk", name := "deleted", desc := "(II)I" } : Jvm.MethodName)), (Jvm.Cond.code ({ cls := "MatroidDesk", name := "image", desc := "(III)I" } : Jvm.MethodName) prog_1_method_23_code (6 : Nat) (Option.some Jvm.ClassFile.FieldType.int)), (Jvm.Cond.instanceMethod ({ cls := "MatroidDesk", name := "image", desc := "(III)I" } : Jvm.MethodName)), (Jvm.Cond.selects "MatroidDesk" ({ cls := "MatroidDesk", name := "image", desc := "(III)I" } : Jvm.MethodName) ({ cls := "MatroidDesk", name := "image", desc := "(III)I" } : Jvm.MethodName)), (Jvm.Cond.code ({ cls := "MatroidDeskModel", name := "take", desc := "(I)V" } : Jvm.MethodName) prog_15_method_89_code (3 : Nat) (Option.none : Option Jvm.ClassFile.FieldType)), (Jvm.Cond.instanceMethod ({ cls := "MatroidDeskModel", name := "take", desc := "(I)V" } : Jvm.MethodName)), (Jvm.Cond.selects "MatroidDeskModel" ({ cls := "MatroidDeskModel", name := "take", desc := "(I)V" } : Jvm.MethodName) ({ cls := "MatroidDeskModel", name := "take", desc := "(I)V" } : Jvm.MethodName)), (Jvm.Cond.fieldLink "MatroidDeskModel" (508 : Nat) "MatroidDeskModel" "size" "I"), (Jvm.Cond.code ({ cls := "MatroidDeskModel", name := "feed", desc := "(IIIII)V" } : Jvm.MethodName) prog_15_method_90_code (6 : Nat) (Option.none : Option Jvm.ClassFile.FieldType))]
def px_all_20 : List Cond := [(Jvm.Cond.instanceMethod ({ cls := "MatroidDeskModel", name := "feed", desc := "(IIIII)V" } : Jvm.MethodName)), (Jvm.Cond.selects "MatroidDeskModel" ({ cls := "MatroidDeskModel", name := "feed", desc := "(IIIII)V" } : Jvm.MethodName) ({ cls := "MatroidDeskModel", name := "feed", desc := "(IIIII)V" } : Jvm.MethodName)), (Jvm.Cond.fieldLink "MatroidDeskModel" (505 : Nat) "MatroidDeskModel" "fault" "I"), (Jvm.Cond.methodLink "MatroidDeskModel" (511 : Nat) ({ cls := "MatroidDeskModel", name := "take", desc := "(I)V" } : Jvm.MethodName)), (Jvm.Cond.code ({ cls := "MatroidDeskModel", name := "end", desc := "(I)I" } : Jvm.MethodName) prog_15_method_91_code (3 : Nat) (Option.some Jvm.ClassFile.FieldType.int)), (Jvm.Cond.instanceMethod ({ cls := "MatroidDeskModel", name := "end", desc := "(I)I" } : Jvm.MethodName)), (Jvm.Cond.selects "MatroidDeskModel" ({ cls := "MatroidDeskModel", name := "end", desc := "(I)I" } : Jvm.MethodName) ({ cls := "MatroidDeskModel", name := "end", desc := "(I)I" } : Jvm.MethodName)), (Jvm.Cond.code ({ cls := "MatroidDeskModel", name := "thrown", desc := "()I" } : Jvm.MethodName) prog_15_method_88_code (1 : Nat) (Option.some Jvm.ClassFile.FieldType.int)), (Jvm.Cond.instanceMethod ({ cls := "MatroidDeskModel", name := "thrown", desc := "()I" } : Jvm.MethodName)), (Jvm.Cond.selects "MatroidDeskModel" ({ cls := "MatroidDeskModel", name := "thrown", desc := "()I" } : Jvm.MethodName) ({ cls := "MatroidDeskModel", name := "thrown", desc := "()I" } : Jvm.MethodName)), (Jvm.Cond.code ({ cls := "MatroidDeskModel", name := "look", desc := "(I)I" } : Jvm.MethodName) prog_15_method_50_code (2 : Nat) (Option.some Jvm.ClassFile.FieldType.int)), (Jvm.Cond.instanceMethod ({ cls := "MatroidDeskModel", name := "look", desc := "(I)I" } : Jvm.MethodName)), (Jvm.Cond.selects "MatroidDeskModel" ({ cls := "MatroidDeskModel", name := "look", desc := "(I)I" } : Jvm.MethodName) ({ cls := "MatroidDeskModel", name := "look", desc := "(I)I" } : Jvm.MethodName)), (Jvm.Cond.fieldLink "MatroidDeskModel" (326 : Nat) "MatroidDeskModel" "length" "I"), (Jvm.Cond.code ({ cls := "MatroidDeskModel", name := "next", desc := "()V" } : Jvm.MethodName) prog_15_method_53_code (5 : Nat) (Option.none : Option Jvm.ClassFile.FieldType)), (Jvm.Cond.instanceMethod ({ cls := "MatroidDeskModel", name := "next", desc := "()V" } : Jvm.MethodName)), (Jvm.Cond.selects "MatroidDeskModel" ({ cls := "MatroidDeskModel", name := "next", desc := "()V" } : Jvm.MethodName) ({ cls := "MatroidDeskModel", name := "next", desc := "()V" } : Jvm.MethodName)), (Jvm.Cond.fieldLink "MatroidDeskModel" (329 : Nat) "MatroidDeskModel" "to" "I"), (Jvm.Cond.methodLink "MatroidDeskModel" (332 : Nat) ({ cls := "MatroidDeskModel", name := "look", desc := "(I)I" } : Jvm.MethodName)), (Jvm.Cond.fieldLink "MatroidDeskModel" (335 : Nat) "MatroidDeskModel" "from" "I")]
def px_all_21 : List Cond := [(Jvm.Cond.fieldLink "MatroidDeskModel" (338 : Nat) "MatroidDeskModel" "token" "I"), (Jvm.Cond.code ({ cls := "MatroidDeskModel", name := "isScript", desc := "()Z" } : Jvm.MethodName) prog_15_method_63_code (3 : Nat) (Option.some Jvm.ClassFile.FieldType.boolean)), (Jvm.Cond.instanceMethod ({ cls := "MatroidDeskModel", name := "isScript", desc := "()Z" } : Jvm.MethodName)), (Jvm.Cond.selects "MatroidDeskModel" ({ cls := "MatroidDeskModel", name := "isScript", desc := "()Z" } : Jvm.MethodName) ({ cls := "MatroidDeskModel", name := "isScript", desc := "()Z" } : Jvm.MethodName)), (Jvm.Cond.fieldLink "MatroidDeskModel" (356 : Nat) "MatroidDeskModel" "refused" "Z"), (Jvm.Cond.methodLink "MatroidDeskModel" (359 : Nat) ({ cls := "MatroidDeskModel", name := "next", desc := "()V" } : Jvm.MethodName)), (Jvm.Cond.code ({ cls := "MatroidDeskModel", name := "run", desc := "()I" } : Jvm.MethodName) prog_15_method_92_code (2 : Nat) (Option.some Jvm.ClassFile.FieldType.int)), (Jvm.Cond.instanceMethod ({ cls := "MatroidDeskModel", name := "run", desc := "()I" } : Jvm.MethodName)), (Jvm.Cond.selects "MatroidDeskModel" ({ cls := "MatroidDeskModel", name := "run", desc := "()I" } : Jvm.MethodName) ({ cls := "MatroidDeskModel", name := "run", desc := "()I" } : Jvm.MethodName)), (Jvm.Cond.methodLink "MatroidDeskModel" (513 : Nat) ({ cls := "MatroidDeskModel", name := "isScript", desc := "()Z" } : Jvm.MethodName)), (Jvm.Cond.fieldLink "MatroidDeskModel" (443 : Nat) "MatroidDeskModel" "sheetSize" "I"), (Jvm.Cond.fieldLink "MatroidDeskModel" (395 : Nat) "MatroidDeskModel" "reason" "I"), (Jvm.Cond.fieldLink "MatroidDeskModel" (519 : Nat) "MatroidDeskModel" "whyTold" "I"), (Jvm.Cond.code ({ cls := "MatroidDeskModel", name := "place", desc := "()I" } : Jvm.MethodName) prog_15_method_93_code (1 : Nat) (Option.some Jvm.ClassFile.FieldType.int)), (Jvm.Cond.instanceMethod ({ cls := "MatroidDeskModel", name := "place", desc := "()I" } : Jvm.MethodName)), (Jvm.Cond.selects "MatroidDeskModel" ({ cls := "MatroidDeskModel", name := "place", desc := "()I" } : Jvm.MethodName) ({ cls := "MatroidDeskModel", name := "place", desc := "()I" } : Jvm.MethodName)), (Jvm.Cond.code ({ cls := "MatroidDeskModel", name := "why", desc := "()I" } : Jvm.MethodName) prog_15_method_94_code (1 : Nat) (Option.some Jvm.ClassFile.FieldType.int)), (Jvm.Cond.instanceMethod ({ cls := "MatroidDeskModel", name := "why", desc := "()I" } : Jvm.MethodName)), (Jvm.Cond.selects "MatroidDeskModel" ({ cls := "MatroidDeskModel", name := "why", desc := "()I" } : Jvm.MethodName) ({ cls := "MatroidDeskModel", name := "why", desc := "()I" } : Jvm.MethodName)), (Jvm.Cond.code ({ cls := "MatroidDeskModel", name := "printed", desc := "()I" } : Jvm.MethodName) prog_15_method_95_code (1 : Nat) (Option.some Jvm.ClassFile.FieldType.int))]
def px_all_22 : List Cond := [(Jvm.Cond.instanceMethod ({ cls := "MatroidDeskModel", name := "printed", desc := "()I" } : Jvm.MethodName)), (Jvm.Cond.selects "MatroidDeskModel" ({ cls := "MatroidDeskModel", name := "printed", desc := "()I" } : Jvm.MethodName) ({ cls := "MatroidDeskModel", name := "printed", desc := "()I" } : Jvm.MethodName)), (Jvm.Cond.code ({ cls := "MatroidDeskModel", name := "out", desc := "(I)I" } : Jvm.MethodName) prog_15_method_96_code (2 : Nat) (Option.some Jvm.ClassFile.FieldType.int)), (Jvm.Cond.instanceMethod ({ cls := "MatroidDeskModel", name := "out", desc := "(I)I" } : Jvm.MethodName)), (Jvm.Cond.selects "MatroidDeskModel" ({ cls := "MatroidDeskModel", name := "out", desc := "(I)I" } : Jvm.MethodName) ({ cls := "MatroidDeskModel", name := "out", desc := "(I)I" } : Jvm.MethodName)), (Jvm.Cond.code ({ cls := "MatroidDeskModel", name := "is", desc := "(I)Z" } : Jvm.MethodName) prog_15_method_97_code (2 : Nat) (Option.some Jvm.ClassFile.FieldType.boolean)), (Jvm.Cond.instanceMethod ({ cls := "MatroidDeskModel", name := "is", desc := "(I)Z" } : Jvm.MethodName)), (Jvm.Cond.selects "MatroidDeskModel" ({ cls := "MatroidDeskModel", name := "is", desc := "(I)Z" } : Jvm.MethodName) ({ cls := "MatroidDeskModel", name := "is", desc := "(I)Z" } : Jvm.MethodName)), (Jvm.Cond.code ({ cls := "MatroidDeskModel", name := "elements", desc := "(I)I" } : Jvm.MethodName) prog_15_method_98_code (2 : Nat) (Option.some Jvm.ClassFile.FieldType.int)), (Jvm.Cond.instanceMethod ({ cls := "MatroidDeskModel", name := "elements", desc := "(I)I" } : Jvm.MethodName)), (Jvm.Cond.selects "MatroidDeskModel" ({ cls := "MatroidDeskModel", name := "elements", desc := "(I)I" } : Jvm.MethodName) ({ cls := "MatroidDeskModel", name := "elements", desc := "(I)I" } : Jvm.MethodName)), (Jvm.Cond.methodLink "MatroidDeskModel" (522 : Nat) ({ cls := "MatroidDeskModel", name := "is", desc := "(I)Z" } : Jvm.MethodName)), (Jvm.Cond.code ({ cls := "MatroidDeskModel", name := "field", desc := "(I)I" } : Jvm.MethodName) prog_15_method_99_code (2 : Nat) (Option.some Jvm.ClassFile.FieldType.int)), (Jvm.Cond.instanceMethod ({ cls := "MatroidDeskModel", name := "field", desc := "(I)I" } : Jvm.MethodName)), (Jvm.Cond.selects "MatroidDeskModel" ({ cls := "MatroidDeskModel", name := "field", desc := "(I)I" } : Jvm.MethodName) ({ cls := "MatroidDeskModel", name := "field", desc := "(I)I" } : Jvm.MethodName)), (Jvm.Cond.code ({ cls := "MatroidDeskModel", name := "rank", desc := "(II)I" } : Jvm.MethodName) prog_15_method_100_code (3 : Nat) (Option.some Jvm.ClassFile.FieldType.int)), (Jvm.Cond.instanceMethod ({ cls := "MatroidDeskModel", name := "rank", desc := "(II)I" } : Jvm.MethodName)), (Jvm.Cond.selects "MatroidDeskModel" ({ cls := "MatroidDeskModel", name := "rank", desc := "(II)I" } : Jvm.MethodName) ({ cls := "MatroidDeskModel", name := "rank", desc := "(II)I" } : Jvm.MethodName)), (Jvm.Cond.code ({ cls := "MatroidDeskModel", name := "count", desc := "(II)I" } : Jvm.MethodName) prog_15_method_101_code (3 : Nat) (Option.some Jvm.ClassFile.FieldType.int)), (Jvm.Cond.instanceMethod ({ cls := "MatroidDeskModel", name := "count", desc := "(II)I" } : Jvm.MethodName))]
def px_all_23 : List Cond := [(Jvm.Cond.selects "MatroidDeskModel" ({ cls := "MatroidDeskModel", name := "count", desc := "(II)I" } : Jvm.MethodName) ({ cls := "MatroidDeskModel", name := "count", desc := "(II)I" } : Jvm.MethodName)), (Jvm.Cond.code ({ cls := "MatroidDeskModel", name := "member", desc := "(III)I" } : Jvm.MethodName) prog_15_method_102_code (4 : Nat) (Option.some Jvm.ClassFile.FieldType.int)), (Jvm.Cond.instanceMethod ({ cls := "MatroidDeskModel", name := "member", desc := "(III)I" } : Jvm.MethodName)), (Jvm.Cond.selects "MatroidDeskModel" ({ cls := "MatroidDeskModel", name := "member", desc := "(III)I" } : Jvm.MethodName) ({ cls := "MatroidDeskModel", name := "member", desc := "(III)I" } : Jvm.MethodName)), (Jvm.Cond.code ({ cls := "MatroidDeskModel", name := "tutte", desc := "(III)J" } : Jvm.MethodName) prog_15_method_103_code (4 : Nat) (Option.some Jvm.ClassFile.FieldType.long)), (Jvm.Cond.instanceMethod ({ cls := "MatroidDeskModel", name := "tutte", desc := "(III)J" } : Jvm.MethodName)), (Jvm.Cond.selects "MatroidDeskModel" ({ cls := "MatroidDeskModel", name := "tutte", desc := "(III)J" } : Jvm.MethodName) ({ cls := "MatroidDeskModel", name := "tutte", desc := "(III)J" } : Jvm.MethodName)), (Jvm.Cond.code ({ cls := "MatroidDeskModel", name := "weight", desc := "(II)I" } : Jvm.MethodName) prog_15_method_104_code (3 : Nat) (Option.some Jvm.ClassFile.FieldType.int)), (Jvm.Cond.instanceMethod ({ cls := "MatroidDeskModel", name := "weight", desc := "(II)I" } : Jvm.MethodName)), (Jvm.Cond.selects "MatroidDeskModel" ({ cls := "MatroidDeskModel", name := "weight", desc := "(II)I" } : Jvm.MethodName) ({ cls := "MatroidDeskModel", name := "weight", desc := "(II)I" } : Jvm.MethodName)), (Jvm.Cond.code ({ cls := "MatroidDeskModel", name := "best", desc := "(I)I" } : Jvm.MethodName) prog_15_method_105_code (2 : Nat) (Option.some Jvm.ClassFile.FieldType.int)), (Jvm.Cond.instanceMethod ({ cls := "MatroidDeskModel", name := "best", desc := "(I)I" } : Jvm.MethodName)), (Jvm.Cond.selects "MatroidDeskModel" ({ cls := "MatroidDeskModel", name := "best", desc := "(I)I" } : Jvm.MethodName) ({ cls := "MatroidDeskModel", name := "best", desc := "(I)I" } : Jvm.MethodName)), (Jvm.Cond.code ({ cls := "MatroidDeskModel", name := "common", desc := "(II)I" } : Jvm.MethodName) prog_15_method_106_code (3 : Nat) (Option.some Jvm.ClassFile.FieldType.int)), (Jvm.Cond.instanceMethod ({ cls := "MatroidDeskModel", name := "common", desc := "(II)I" } : Jvm.MethodName)), (Jvm.Cond.selects "MatroidDeskModel" ({ cls := "MatroidDeskModel", name := "common", desc := "(II)I" } : Jvm.MethodName) ({ cls := "MatroidDeskModel", name := "common", desc := "(II)I" } : Jvm.MethodName)), (Jvm.Cond.code ({ cls := "MatroidDeskModel", name := "cover", desc := "(II)I" } : Jvm.MethodName) prog_15_method_107_code (3 : Nat) (Option.some Jvm.ClassFile.FieldType.int)), (Jvm.Cond.instanceMethod ({ cls := "MatroidDeskModel", name := "cover", desc := "(II)I" } : Jvm.MethodName)), (Jvm.Cond.selects "MatroidDeskModel" ({ cls := "MatroidDeskModel", name := "cover", desc := "(II)I" } : Jvm.MethodName) ({ cls := "MatroidDeskModel", name := "cover", desc := "(II)I" } : Jvm.MethodName)), (Jvm.Cond.code ({ cls := "MatroidDeskModel", name := "sign", desc := "(II)I" } : Jvm.MethodName) prog_15_method_108_code (4 : Nat) (Option.some Jvm.ClassFile.FieldType.int))]
def px_all_24 : List Cond := [(Jvm.Cond.instanceMethod ({ cls := "MatroidDeskModel", name := "sign", desc := "(II)I" } : Jvm.MethodName)), (Jvm.Cond.selects "MatroidDeskModel" ({ cls := "MatroidDeskModel", name := "sign", desc := "(II)I" } : Jvm.MethodName) ({ cls := "MatroidDeskModel", name := "sign", desc := "(II)I" } : Jvm.MethodName)), (Jvm.Cond.code ({ cls := "MatroidDeskModel", name := "below", desc := "(II)I" } : Jvm.MethodName) prog_15_method_109_code (4 : Nat) (Option.some Jvm.ClassFile.FieldType.int)), (Jvm.Cond.instanceMethod ({ cls := "MatroidDeskModel", name := "below", desc := "(II)I" } : Jvm.MethodName)), (Jvm.Cond.selects "MatroidDeskModel" ({ cls := "MatroidDeskModel", name := "below", desc := "(II)I" } : Jvm.MethodName) ({ cls := "MatroidDeskModel", name := "below", desc := "(II)I" } : Jvm.MethodName)), (Jvm.Cond.code ({ cls := "MatroidDeskModel", name := "contracted", desc := "(II)I" } : Jvm.MethodName) prog_15_method_110_code (3 : Nat) (Option.some Jvm.ClassFile.FieldType.int)), (Jvm.Cond.instanceMethod ({ cls := "MatroidDeskModel", name := "contracted", desc := "(II)I" } : Jvm.MethodName)), (Jvm.Cond.selects "MatroidDeskModel" ({ cls := "MatroidDeskModel", name := "contracted", desc := "(II)I" } : Jvm.MethodName) ({ cls := "MatroidDeskModel", name := "contracted", desc := "(II)I" } : Jvm.MethodName)), (Jvm.Cond.fieldLink "MatroidDeskModel" (304 : Nat) "MatroidDeskModel" "witnessC" "I"), (Jvm.Cond.code ({ cls := "MatroidDeskModel", name := "deleted", desc := "(II)I" } : Jvm.MethodName) prog_15_method_111_code (3 : Nat) (Option.some Jvm.ClassFile.FieldType.int)), (Jvm.Cond.instanceMethod ({ cls := "MatroidDeskModel", name := "deleted", desc := "(II)I" } : Jvm.MethodName)), (Jvm.Cond.selects "MatroidDeskModel" ({ cls := "MatroidDeskModel", name := "deleted", desc := "(II)I" } : Jvm.MethodName) ({ cls := "MatroidDeskModel", name := "deleted", desc := "(II)I" } : Jvm.MethodName)), (Jvm.Cond.fieldLink "MatroidDeskModel" (301 : Nat) "MatroidDeskModel" "witnessK" "I"), (Jvm.Cond.code ({ cls := "MatroidDeskModel", name := "image", desc := "(III)I" } : Jvm.MethodName) prog_15_method_112_code (4 : Nat) (Option.some Jvm.ClassFile.FieldType.int)), (Jvm.Cond.instanceMethod ({ cls := "MatroidDeskModel", name := "image", desc := "(III)I" } : Jvm.MethodName)), (Jvm.Cond.selects "MatroidDeskModel" ({ cls := "MatroidDeskModel", name := "image", desc := "(III)I" } : Jvm.MethodName) ({ cls := "MatroidDeskModel", name := "image", desc := "(III)I" } : Jvm.MethodName)), (Jvm.Cond.static ({ cls := "MatroidDeskLaw", name := "feed", desc := "(LMatroidDesk;IIIII)I" } : Jvm.MethodName)), (Jvm.Cond.methodLink "MatroidDeskLaw" (7 : Nat) ({ cls := "MatroidDesk", name := "feed", desc := "(IIIII)V" } : Jvm.MethodName)), (Jvm.Cond.static ({ cls := "MatroidDeskLaw", name := "end", desc := "(LMatroidDesk;I[J)I" } : Jvm.MethodName)), (Jvm.Cond.methodLink "MatroidDeskLaw" (15 : Nat) ({ cls := "MatroidDesk", name := "end", desc := "(I)I" } : Jvm.MethodName))]
def px_all : List Cond := px_all_0 ++ (px_all_1 ++ (px_all_2 ++ (px_all_3 ++ (px_all_4 ++ (px_all_5 ++ (px_all_6 ++ (px_all_7 ++ (px_all_8 ++ (px_all_9 ++ (px_all_10 ++ (px_all_11 ++ (px_all_12 ++ (px_all_13 ++ (px_all_14 ++ (px_all_15 ++ (px_all_16 ++ (px_all_17 ++ (px_all_18 ++ (px_all_19 ++ (px_all_20 ++ (px_all_21 ++ (px_all_22 ++ (px_all_23 ++ (px_all_24))))))))))))))))))))))))
theorem px_w0 : (Jvm.Cond.code ({ cls := "java/lang/Object", name := "<init>", desc := "()V" } : Jvm.MethodName) object_method_1_code (1 : Nat) (Option.none : Option Jvm.ClassFile.FieldType)) ∈ px_all := List.mem_append_left _ (List.mem_of_getElem? (l := px_all_0) (i := 0) rfl)
theorem px_w1 : (Jvm.Cond.instanceMethod ({ cls := "java/lang/Object", name := "<init>", desc := "()V" } : Jvm.MethodName)) ∈ px_all := List.mem_append_left _ (List.mem_of_getElem? (l := px_all_0) (i := 1) rfl)
theorem px_w2 : (Jvm.Cond.arrayClass Jvm.ClassFile.FieldType.int) ∈ px_all := List.mem_append_left _ (List.mem_of_getElem? (l := px_all_0) (i := 2) rfl)
theorem px_w3 : (Jvm.Cond.arrayClass Jvm.ClassFile.FieldType.byte) ∈ px_all := List.mem_append_left _ (List.mem_of_getElem? (l := px_all_0) (i := 3) rfl)
theorem px_w4 : (Jvm.Cond.arrayClass Jvm.ClassFile.FieldType.long) ∈ px_all := List.mem_append_left _ (List.mem_of_getElem? (l := px_all_0) (i := 4) rfl)
theorem px_w5 : (Jvm.Cond.arrayClass Jvm.ClassFile.FieldType.boolean) ∈ px_all := List.mem_append_left _ (List.mem_of_getElem? (l := px_all_0) (i := 5) rfl)
theorem px_w6 : (Jvm.Cond.initialized "MatroidDesk") ∈ px_all := List.mem_append_left _ (List.mem_of_getElem? (l := px_all_0) (i := 6) rfl)
theorem px_w7 : (Jvm.Cond.instantiable "MatroidDesk" (14 : Nat)) ∈ px_all := List.mem_append_left _ (List.mem_of_getElem? (l := px_all_0) (i := 7) rfl)
theorem px_w8 : (Jvm.Cond.lays "MatroidDesk" "MatroidDesk" "bytes" "[B") ∈ px_all := List.mem_append_left _ (List.mem_of_getElem? (l := px_all_0) (i := 8) rfl)
theorem px_w9 : (Jvm.Cond.lays "MatroidDesk" "MatroidDesk" "fed" "I") ∈ px_all := List.mem_append_left _ (List.mem_of_getElem? (l := px_all_0) (i := 9) rfl)
theorem px_w10 : (Jvm.Cond.lays "MatroidDesk" "MatroidDesk" "refusedAt" "I") ∈ px_all := List.mem_append_left _ (List.mem_of_getElem? (l := px_all_0) (i := 10) rfl)
theorem px_w11 : (Jvm.Cond.lays "MatroidDesk" "MatroidDesk" "reason" "I") ∈ px_all := List.mem_append_left _ (List.mem_of_getElem? (l := px_all_0) (i := 11) rfl)
theorem px_w12 : (Jvm.Cond.lays "MatroidDesk" "MatroidDesk" "stamps" "I") ∈ px_all := List.mem_append_left _ (List.mem_of_getElem? (l := px_all_0) (i := 12) rfl)
theorem px_w13 : (Jvm.Cond.lays "MatroidDesk" "MatroidDesk" "spare" "LMatroidDesk$Matroid;") ∈ px_all := List.mem_append_left _ (List.mem_of_getElem? (l := px_all_0) (i := 13) rfl)
theorem px_w14 : (Jvm.Cond.laysFinal "MatroidDesk" "MatroidDesk" "matroids" "[LMatroidDesk$Matroid;") ∈ px_all := List.mem_append_left _ (List.mem_of_getElem? (l := px_all_0) (i := 14) rfl)
theorem px_w15 : (Jvm.Cond.laysFinal "MatroidDesk" "MatroidDesk" "entries" "[I") ∈ px_all := List.mem_append_left _ (List.mem_of_getElem? (l := px_all_0) (i := 15) rfl)
theorem px_w16 : (Jvm.Cond.laysFinal "MatroidDesk" "MatroidDesk" "orders" "LMatroidDesk$Orders;") ∈ px_all := List.mem_append_left _ (List.mem_of_getElem? (l := px_all_0) (i := 16) rfl)
theorem px_w17 : (Jvm.Cond.laysFinal "MatroidDesk" "MatroidDesk" "minors" "LMatroidDesk$Minors;") ∈ px_all := List.mem_append_left _ (List.mem_of_getElem? (l := px_all_0) (i := 17) rfl)
theorem px_w18 : (Jvm.Cond.laysFinal "MatroidDesk" "MatroidDesk" "witness" "LMatroidDesk$Witness;") ∈ px_all := List.mem_append_left _ (List.mem_of_getElem? (l := px_all_0) (i := 18) rfl)
theorem px_w19 : (Jvm.Cond.laysFinal "MatroidDesk" "MatroidDesk" "tokens" "LMatroidDesk$Tokens;") ∈ px_all := List.mem_append_left _ (List.mem_of_getElem? (l := px_all_0) (i := 19) rfl)
theorem px_w20 : (Jvm.Cond.laysFinal "MatroidDesk" "MatroidDesk" "statement" "LMatroidDesk$Statement;") ∈ px_all := List.mem_append_right _ (List.mem_append_left _ (List.mem_of_getElem? (l := px_all_1) (i := 0) rfl))
theorem px_w21 : (Jvm.Cond.laysFinal "MatroidDesk" "MatroidDesk" "product" "LMatroidDesk$Product;") ∈ px_all := List.mem_append_right _ (List.mem_append_left _ (List.mem_of_getElem? (l := px_all_1) (i := 1) rfl))
theorem px_w22 : (Jvm.Cond.initialized "MatroidDesk$Orders") ∈ px_all := List.mem_append_right _ (List.mem_append_left _ (List.mem_of_getElem? (l := px_all_1) (i := 2) rfl))
theorem px_w23 : (Jvm.Cond.instantiable "MatroidDesk$Orders" (3 : Nat)) ∈ px_all := List.mem_append_right _ (List.mem_append_left _ (List.mem_of_getElem? (l := px_all_1) (i := 3) rfl))
theorem px_w24 : (Jvm.Cond.lays "MatroidDesk$Orders" "MatroidDesk$Orders" "sets" "[I") ∈ px_all := List.mem_append_right _ (List.mem_append_left _ (List.mem_of_getElem? (l := px_all_1) (i := 4) rfl))
theorem px_w25 : (Jvm.Cond.laysFinal "MatroidDesk$Orders" "MatroidDesk$Orders" "starts" "[I") ∈ px_all := List.mem_append_right _ (List.mem_append_left _ (List.mem_of_getElem? (l := px_all_1) (i := 5) rfl))
theorem px_w26 : (Jvm.Cond.lays "MatroidDesk$Orders" "MatroidDesk$Orders" "reached" "I") ∈ px_all := List.mem_append_right _ (List.mem_append_left _ (List.mem_of_getElem? (l := px_all_1) (i := 6) rfl))
theorem px_w27 : (Jvm.Cond.initialized "MatroidDesk$Minors") ∈ px_all := List.mem_append_right _ (List.mem_append_left _ (List.mem_of_getElem? (l := px_all_1) (i := 7) rfl))
theorem px_w28 : (Jvm.Cond.instantiable "MatroidDesk$Minors" (12 : Nat)) ∈ px_all := List.mem_append_right _ (List.mem_append_left _ (List.mem_of_getElem? (l := px_all_1) (i := 8) rfl))
theorem px_w29 : (Jvm.Cond.laysFinal "MatroidDesk$Minors" "MatroidDesk$Minors" "orders" "LMatroidDesk$Orders;") ∈ px_all := List.mem_append_right _ (List.mem_append_left _ (List.mem_of_getElem? (l := px_all_1) (i := 9) rfl))
theorem px_w30 : (Jvm.Cond.laysFinal "MatroidDesk$Minors" "MatroidDesk$Minors" "top" "LMatroidDesk$Wide;") ∈ px_all := List.mem_append_right _ (List.mem_append_left _ (List.mem_of_getElem? (l := px_all_1) (i := 10) rfl))
theorem px_w31 : (Jvm.Cond.laysFinal "MatroidDesk$Minors" "MatroidDesk$Minors" "bottom" "LMatroidDesk$Wide;") ∈ px_all := List.mem_append_right _ (List.mem_append_left _ (List.mem_of_getElem? (l := px_all_1) (i := 11) rfl))
theorem px_w32 : (Jvm.Cond.laysFinal "MatroidDesk$Minors" "MatroidDesk$Minors" "divisor" "LMatroidDesk$Wide;") ∈ px_all := List.mem_append_right _ (List.mem_append_left _ (List.mem_of_getElem? (l := px_all_1) (i := 12) rfl))
theorem px_w33 : (Jvm.Cond.laysFinal "MatroidDesk$Minors" "MatroidDesk$Minors" "rest" "LMatroidDesk$Wide;") ∈ px_all := List.mem_append_right _ (List.mem_append_left _ (List.mem_of_getElem? (l := px_all_1) (i := 13) rfl))
theorem px_w34 : (Jvm.Cond.lays "MatroidDesk$Minors" "MatroidDesk$Minors" "low" "[J") ∈ px_all := List.mem_append_right _ (List.mem_append_left _ (List.mem_of_getElem? (l := px_all_1) (i := 14) rfl))
theorem px_w35 : (Jvm.Cond.lays "MatroidDesk$Minors" "MatroidDesk$Minors" "middle" "[J") ∈ px_all := List.mem_append_right _ (List.mem_append_left _ (List.mem_of_getElem? (l := px_all_1) (i := 15) rfl))
theorem px_w36 : (Jvm.Cond.lays "MatroidDesk$Minors" "MatroidDesk$Minors" "high" "[J") ∈ px_all := List.mem_append_right _ (List.mem_append_left _ (List.mem_of_getElem? (l := px_all_1) (i := 16) rfl))
theorem px_w37 : (Jvm.Cond.lays "MatroidDesk$Minors" "MatroidDesk$Minors" "field" "I") ∈ px_all := List.mem_append_right _ (List.mem_append_left _ (List.mem_of_getElem? (l := px_all_1) (i := 17) rfl))
theorem px_w38 : (Jvm.Cond.lays "MatroidDesk$Minors" "MatroidDesk$Minors" "size" "I") ∈ px_all := List.mem_append_right _ (List.mem_append_left _ (List.mem_of_getElem? (l := px_all_1) (i := 18) rfl))
theorem px_w39 : (Jvm.Cond.lays "MatroidDesk$Minors" "MatroidDesk$Minors" "height" "I") ∈ px_all := List.mem_append_right _ (List.mem_append_left _ (List.mem_of_getElem? (l := px_all_1) (i := 19) rfl))
theorem px_w40 : (Jvm.Cond.lays "MatroidDesk$Minors" "MatroidDesk$Minors" "loaded" "LMatroidDesk$Source;") ∈ px_all := List.mem_append_right _ (List.mem_append_right _ (List.mem_append_left _ (List.mem_of_getElem? (l := px_all_2) (i := 0) rfl)))
theorem px_w41 : (Jvm.Cond.initialized "MatroidDesk$Wide") ∈ px_all := List.mem_append_right _ (List.mem_append_right _ (List.mem_append_left _ (List.mem_of_getElem? (l := px_all_2) (i := 1) rfl)))
theorem px_w42 : (Jvm.Cond.instantiable "MatroidDesk$Wide" (3 : Nat)) ∈ px_all := List.mem_append_right _ (List.mem_append_right _ (List.mem_append_left _ (List.mem_of_getElem? (l := px_all_2) (i := 2) rfl)))
theorem px_w43 : (Jvm.Cond.lays "MatroidDesk$Wide" "MatroidDesk$Wide" "low" "J") ∈ px_all := List.mem_append_right _ (List.mem_append_right _ (List.mem_append_left _ (List.mem_of_getElem? (l := px_all_2) (i := 3) rfl)))
theorem px_w44 : (Jvm.Cond.lays "MatroidDesk$Wide" "MatroidDesk$Wide" "middle" "J") ∈ px_all := List.mem_append_right _ (List.mem_append_right _ (List.mem_append_left _ (List.mem_of_getElem? (l := px_all_2) (i := 4) rfl)))
theorem px_w45 : (Jvm.Cond.lays "MatroidDesk$Wide" "MatroidDesk$Wide" "high" "J") ∈ px_all := List.mem_append_right _ (List.mem_append_right _ (List.mem_append_left _ (List.mem_of_getElem? (l := px_all_2) (i := 5) rfl)))
theorem px_w46 : (Jvm.Cond.initialized "MatroidDesk$Witness") ∈ px_all := List.mem_append_right _ (List.mem_append_right _ (List.mem_append_left _ (List.mem_of_getElem? (l := px_all_2) (i := 6) rfl)))
theorem px_w47 : (Jvm.Cond.instantiable "MatroidDesk$Witness" (18 : Nat)) ∈ px_all := List.mem_append_right _ (List.mem_append_right _ (List.mem_append_left _ (List.mem_of_getElem? (l := px_all_2) (i := 7) rfl)))
theorem px_w48 : (Jvm.Cond.laysFinal "MatroidDesk$Witness" "MatroidDesk$Witness" "orders" "LMatroidDesk$Orders;") ∈ px_all := List.mem_append_right _ (List.mem_append_right _ (List.mem_append_left _ (List.mem_of_getElem? (l := px_all_2) (i := 8) rfl)))
theorem px_w49 : (Jvm.Cond.laysFinal "MatroidDesk$Witness" "MatroidDesk$Witness" "images" "[I") ∈ px_all := List.mem_append_right _ (List.mem_append_right _ (List.mem_append_left _ (List.mem_of_getElem? (l := px_all_2) (i := 9) rfl)))
theorem px_w50 : (Jvm.Cond.laysFinal "MatroidDesk$Witness" "MatroidDesk$Witness" "guestPairs" "[I") ∈ px_all := List.mem_append_right _ (List.mem_append_right _ (List.mem_append_left _ (List.mem_of_getElem? (l := px_all_2) (i := 10) rfl)))
theorem px_w51 : (Jvm.Cond.laysFinal "MatroidDesk$Witness" "MatroidDesk$Witness" "hostPairs" "[I") ∈ px_all := List.mem_append_right _ (List.mem_append_right _ (List.mem_append_left _ (List.mem_of_getElem? (l := px_all_2) (i := 11) rfl)))
theorem px_w52 : (Jvm.Cond.lays "MatroidDesk$Witness" "MatroidDesk$Witness" "keptSets" "[I") ∈ px_all := List.mem_append_right _ (List.mem_append_right _ (List.mem_append_left _ (List.mem_of_getElem? (l := px_all_2) (i := 12) rfl)))
theorem px_w53 : (Jvm.Cond.lays "MatroidDesk$Witness" "MatroidDesk$Witness" "restSets" "[I") ∈ px_all := List.mem_append_right _ (List.mem_append_right _ (List.mem_append_left _ (List.mem_of_getElem? (l := px_all_2) (i := 13) rfl)))
theorem px_w54 : (Jvm.Cond.lays "MatroidDesk$Witness" "MatroidDesk$Witness" "imageSets" "[I") ∈ px_all := List.mem_append_right _ (List.mem_append_right _ (List.mem_append_left _ (List.mem_of_getElem? (l := px_all_2) (i := 14) rfl)))
theorem px_w55 : (Jvm.Cond.lays "MatroidDesk$Witness" "MatroidDesk$Witness" "host" "LMatroidDesk$Matroid;") ∈ px_all := List.mem_append_right _ (List.mem_append_right _ (List.mem_append_left _ (List.mem_of_getElem? (l := px_all_2) (i := 15) rfl)))
theorem px_w56 : (Jvm.Cond.lays "MatroidDesk$Witness" "MatroidDesk$Witness" "guest" "LMatroidDesk$Matroid;") ∈ px_all := List.mem_append_right _ (List.mem_append_right _ (List.mem_append_left _ (List.mem_of_getElem? (l := px_all_2) (i := 16) rfl)))
theorem px_w57 : (Jvm.Cond.lays "MatroidDesk$Witness" "MatroidDesk$Witness" "hostStamp" "I") ∈ px_all := List.mem_append_right _ (List.mem_append_right _ (List.mem_append_left _ (List.mem_of_getElem? (l := px_all_2) (i := 17) rfl)))
theorem px_w58 : (Jvm.Cond.lays "MatroidDesk$Witness" "MatroidDesk$Witness" "guestStamp" "I") ∈ px_all := List.mem_append_right _ (List.mem_append_right _ (List.mem_append_left _ (List.mem_of_getElem? (l := px_all_2) (i := 18) rfl)))
theorem px_w59 : (Jvm.Cond.lays "MatroidDesk$Witness" "MatroidDesk$Witness" "guestBases" "I") ∈ px_all := List.mem_append_right _ (List.mem_append_right _ (List.mem_append_left _ (List.mem_of_getElem? (l := px_all_2) (i := 19) rfl)))
theorem px_w60 : (Jvm.Cond.lays "MatroidDesk$Witness" "MatroidDesk$Witness" "found" "Z") ∈ px_all := List.mem_append_right _ (List.mem_append_right _ (List.mem_append_right _ (List.mem_append_left _ (List.mem_of_getElem? (l := px_all_3) (i := 0) rfl))))
theorem px_w61 : (Jvm.Cond.lays "MatroidDesk$Witness" "MatroidDesk$Witness" "keptSet" "I") ∈ px_all := List.mem_append_right _ (List.mem_append_right _ (List.mem_append_right _ (List.mem_append_left _ (List.mem_of_getElem? (l := px_all_3) (i := 1) rfl))))
theorem px_w62 : (Jvm.Cond.lays "MatroidDesk$Witness" "MatroidDesk$Witness" "lost" "I") ∈ px_all := List.mem_append_right _ (List.mem_append_right _ (List.mem_append_right _ (List.mem_append_left _ (List.mem_of_getElem? (l := px_all_3) (i := 2) rfl))))
theorem px_w63 : (Jvm.Cond.lays "MatroidDesk$Witness" "MatroidDesk$Witness" "contractedSet" "I") ∈ px_all := List.mem_append_right _ (List.mem_append_right _ (List.mem_append_right _ (List.mem_append_left _ (List.mem_of_getElem? (l := px_all_3) (i := 3) rfl))))
theorem px_w64 : (Jvm.Cond.lays "MatroidDesk$Witness" "MatroidDesk$Witness" "deletedSet" "I") ∈ px_all := List.mem_append_right _ (List.mem_append_right _ (List.mem_append_right _ (List.mem_append_left _ (List.mem_of_getElem? (l := px_all_3) (i := 4) rfl))))
theorem px_w65 : (Jvm.Cond.lays "MatroidDesk$Witness" "MatroidDesk$Witness" "taken" "I") ∈ px_all := List.mem_append_right _ (List.mem_append_right _ (List.mem_append_right _ (List.mem_append_left _ (List.mem_of_getElem? (l := px_all_3) (i := 5) rfl))))
theorem px_w66 : (Jvm.Cond.initialized "MatroidDesk$Tokens") ∈ px_all := List.mem_append_right _ (List.mem_append_right _ (List.mem_append_right _ (List.mem_append_left _ (List.mem_of_getElem? (l := px_all_3) (i := 6) rfl))))
theorem px_w67 : (Jvm.Cond.instantiable "MatroidDesk$Tokens" (6 : Nat)) ∈ px_all := List.mem_append_right _ (List.mem_append_right _ (List.mem_append_right _ (List.mem_append_left _ (List.mem_of_getElem? (l := px_all_3) (i := 7) rfl))))
theorem px_w68 : (Jvm.Cond.lays "MatroidDesk$Tokens" "MatroidDesk$Tokens" "script" "[B") ∈ px_all := List.mem_append_right _ (List.mem_append_right _ (List.mem_append_right _ (List.mem_append_left _ (List.mem_of_getElem? (l := px_all_3) (i := 8) rfl))))
theorem px_w69 : (Jvm.Cond.lays "MatroidDesk$Tokens" "MatroidDesk$Tokens" "length" "I") ∈ px_all := List.mem_append_right _ (List.mem_append_right _ (List.mem_append_right _ (List.mem_append_left _ (List.mem_of_getElem? (l := px_all_3) (i := 9) rfl))))
theorem px_w70 : (Jvm.Cond.lays "MatroidDesk$Tokens" "MatroidDesk$Tokens" "behind" "I") ∈ px_all := List.mem_append_right _ (List.mem_append_right _ (List.mem_append_right _ (List.mem_append_left _ (List.mem_of_getElem? (l := px_all_3) (i := 10) rfl))))
theorem px_w71 : (Jvm.Cond.lays "MatroidDesk$Tokens" "MatroidDesk$Tokens" "start" "I") ∈ px_all := List.mem_append_right _ (List.mem_append_right _ (List.mem_append_right _ (List.mem_append_left _ (List.mem_of_getElem? (l := px_all_3) (i := 11) rfl))))
theorem px_w72 : (Jvm.Cond.lays "MatroidDesk$Tokens" "MatroidDesk$Tokens" "kind" "I") ∈ px_all := List.mem_append_right _ (List.mem_append_right _ (List.mem_append_right _ (List.mem_append_left _ (List.mem_of_getElem? (l := px_all_3) (i := 12) rfl))))
theorem px_w73 : (Jvm.Cond.lays "MatroidDesk$Tokens" "MatroidDesk$Tokens" "value" "I") ∈ px_all := List.mem_append_right _ (List.mem_append_right _ (List.mem_append_right _ (List.mem_append_left _ (List.mem_of_getElem? (l := px_all_3) (i := 13) rfl))))
theorem px_w74 : (Jvm.Cond.initialized "MatroidDesk$Statement") ∈ px_all := List.mem_append_right _ (List.mem_append_right _ (List.mem_append_right _ (List.mem_append_left _ (List.mem_of_getElem? (l := px_all_3) (i := 14) rfl))))
theorem px_w75 : (Jvm.Cond.instantiable "MatroidDesk$Statement" (12 : Nat)) ∈ px_all := List.mem_append_right _ (List.mem_append_right _ (List.mem_append_right _ (List.mem_append_left _ (List.mem_of_getElem? (l := px_all_3) (i := 15) rfl))))
theorem px_w76 : (Jvm.Cond.laysFinal "MatroidDesk$Statement" "MatroidDesk$Statement" "tokens" "LMatroidDesk$Tokens;") ∈ px_all := List.mem_append_right _ (List.mem_append_right _ (List.mem_append_right _ (List.mem_append_left _ (List.mem_of_getElem? (l := px_all_3) (i := 16) rfl))))
theorem px_w77 : (Jvm.Cond.laysFinal "MatroidDesk$Statement" "MatroidDesk$Statement" "numbers" "[I") ∈ px_all := List.mem_append_right _ (List.mem_append_right _ (List.mem_append_right _ (List.mem_append_left _ (List.mem_of_getElem? (l := px_all_3) (i := 17) rfl))))
theorem px_w78 : (Jvm.Cond.lays "MatroidDesk$Statement" "MatroidDesk$Statement" "verb" "LMatroidDesk$Verb;") ∈ px_all := List.mem_append_right _ (List.mem_append_right _ (List.mem_append_right _ (List.mem_append_left _ (List.mem_of_getElem? (l := px_all_3) (i := 18) rfl))))
theorem px_w79 : (Jvm.Cond.lays "MatroidDesk$Statement" "MatroidDesk$Statement" "target" "I") ∈ px_all := List.mem_append_right _ (List.mem_append_right _ (List.mem_append_right _ (List.mem_append_left _ (List.mem_of_getElem? (l := px_all_3) (i := 19) rfl))))
theorem px_w80 : (Jvm.Cond.lays "MatroidDesk$Statement" "MatroidDesk$Statement" "first" "I") ∈ px_all := List.mem_append_right _ (List.mem_append_right _ (List.mem_append_right _ (List.mem_append_right _ (List.mem_append_left _ (List.mem_of_getElem? (l := px_all_4) (i := 0) rfl)))))
theorem px_w81 : (Jvm.Cond.lays "MatroidDesk$Statement" "MatroidDesk$Statement" "second" "I") ∈ px_all := List.mem_append_right _ (List.mem_append_right _ (List.mem_append_right _ (List.mem_append_right _ (List.mem_append_left _ (List.mem_of_getElem? (l := px_all_4) (i := 1) rfl)))))
theorem px_w82 : (Jvm.Cond.lays "MatroidDesk$Statement" "MatroidDesk$Statement" "field" "I") ∈ px_all := List.mem_append_right _ (List.mem_append_right _ (List.mem_append_right _ (List.mem_append_right _ (List.mem_append_left _ (List.mem_of_getElem? (l := px_all_4) (i := 2) rfl)))))
theorem px_w83 : (Jvm.Cond.lays "MatroidDesk$Statement" "MatroidDesk$Statement" "head" "I") ∈ px_all := List.mem_append_right _ (List.mem_append_right _ (List.mem_append_right _ (List.mem_append_right _ (List.mem_append_left _ (List.mem_of_getElem? (l := px_all_4) (i := 3) rfl)))))
theorem px_w84 : (Jvm.Cond.lays "MatroidDesk$Statement" "MatroidDesk$Statement" "next" "I") ∈ px_all := List.mem_append_right _ (List.mem_append_right _ (List.mem_append_right _ (List.mem_append_right _ (List.mem_append_left _ (List.mem_of_getElem? (l := px_all_4) (i := 4) rfl)))))
theorem px_w85 : (Jvm.Cond.lays "MatroidDesk$Statement" "MatroidDesk$Statement" "many" "I") ∈ px_all := List.mem_append_right _ (List.mem_append_right _ (List.mem_append_right _ (List.mem_append_right _ (List.mem_append_left _ (List.mem_of_getElem? (l := px_all_4) (i := 5) rfl)))))
theorem px_w86 : (Jvm.Cond.lays "MatroidDesk$Statement" "MatroidDesk$Statement" "rows" "I") ∈ px_all := List.mem_append_right _ (List.mem_append_right _ (List.mem_append_right _ (List.mem_append_right _ (List.mem_append_left _ (List.mem_of_getElem? (l := px_all_4) (i := 6) rfl)))))
theorem px_w87 : (Jvm.Cond.lays "MatroidDesk$Statement" "MatroidDesk$Statement" "even" "Z") ∈ px_all := List.mem_append_right _ (List.mem_append_right _ (List.mem_append_right _ (List.mem_append_right _ (List.mem_append_left _ (List.mem_of_getElem? (l := px_all_4) (i := 7) rfl)))))
theorem px_w88 : (Jvm.Cond.initialized "MatroidDesk$Product") ∈ px_all := List.mem_append_right _ (List.mem_append_right _ (List.mem_append_right _ (List.mem_append_right _ (List.mem_append_left _ (List.mem_of_getElem? (l := px_all_4) (i := 8) rfl)))))
theorem px_w89 : (Jvm.Cond.instantiable "MatroidDesk$Product" (4 : Nat)) ∈ px_all := List.mem_append_right _ (List.mem_append_right _ (List.mem_append_right _ (List.mem_append_right _ (List.mem_append_left _ (List.mem_of_getElem? (l := px_all_4) (i := 9) rfl)))))
theorem px_w90 : (Jvm.Cond.lays "MatroidDesk$Product" "MatroidDesk$Product" "bytes" "[B") ∈ px_all := List.mem_append_right _ (List.mem_append_right _ (List.mem_append_right _ (List.mem_append_right _ (List.mem_append_left _ (List.mem_of_getElem? (l := px_all_4) (i := 10) rfl)))))
theorem px_w91 : (Jvm.Cond.laysFinal "MatroidDesk$Product" "MatroidDesk$Product" "digits" "[B") ∈ px_all := List.mem_append_right _ (List.mem_append_right _ (List.mem_append_right _ (List.mem_append_right _ (List.mem_append_left _ (List.mem_of_getElem? (l := px_all_4) (i := 11) rfl)))))
theorem px_w92 : (Jvm.Cond.lays "MatroidDesk$Product" "MatroidDesk$Product" "length" "I") ∈ px_all := List.mem_append_right _ (List.mem_append_right _ (List.mem_append_right _ (List.mem_append_right _ (List.mem_append_left _ (List.mem_of_getElem? (l := px_all_4) (i := 12) rfl)))))
theorem px_w93 : (Jvm.Cond.lays "MatroidDesk$Product" "MatroidDesk$Product" "full" "Z") ∈ px_all := List.mem_append_right _ (List.mem_append_right _ (List.mem_append_right _ (List.mem_append_right _ (List.mem_append_left _ (List.mem_of_getElem? (l := px_all_4) (i := 13) rfl)))))
theorem px_w94 : (Jvm.Cond.initialized "MatroidDeskModel") ∈ px_all := List.mem_append_right _ (List.mem_append_right _ (List.mem_append_right _ (List.mem_append_right _ (List.mem_append_left _ (List.mem_of_getElem? (l := px_all_4) (i := 14) rfl)))))
theorem px_w95 : (Jvm.Cond.instantiable "MatroidDeskModel" (53 : Nat)) ∈ px_all := List.mem_append_right _ (List.mem_append_right _ (List.mem_append_right _ (List.mem_append_right _ (List.mem_append_left _ (List.mem_of_getElem? (l := px_all_4) (i := 15) rfl)))))
theorem px_w96 : (Jvm.Cond.laysFinal "MatroidDeskModel" "MatroidDeskModel" "one" "LMatroidDeskModel$Num;") ∈ px_all := List.mem_append_right _ (List.mem_append_right _ (List.mem_append_right _ (List.mem_append_right _ (List.mem_append_left _ (List.mem_of_getElem? (l := px_all_4) (i := 16) rfl)))))
theorem px_w97 : (Jvm.Cond.laysFinal "MatroidDeskModel" "MatroidDeskModel" "two" "LMatroidDeskModel$Num;") ∈ px_all := List.mem_append_right _ (List.mem_append_right _ (List.mem_append_right _ (List.mem_append_right _ (List.mem_append_left _ (List.mem_of_getElem? (l := px_all_4) (i := 17) rfl)))))
theorem px_w98 : (Jvm.Cond.laysFinal "MatroidDeskModel" "MatroidDeskModel" "three" "LMatroidDeskModel$Num;") ∈ px_all := List.mem_append_right _ (List.mem_append_right _ (List.mem_append_right _ (List.mem_append_right _ (List.mem_append_left _ (List.mem_of_getElem? (l := px_all_4) (i := 18) rfl)))))
theorem px_w99 : (Jvm.Cond.laysFinal "MatroidDeskModel" "MatroidDeskModel" "four" "LMatroidDeskModel$Num;") ∈ px_all := List.mem_append_right _ (List.mem_append_right _ (List.mem_append_right _ (List.mem_append_right _ (List.mem_append_left _ (List.mem_of_getElem? (l := px_all_4) (i := 19) rfl)))))
theorem px_w100 : (Jvm.Cond.laysFinal "MatroidDeskModel" "MatroidDeskModel" "five" "LMatroidDeskModel$Num;") ∈ px_all := List.mem_append_right _ (List.mem_append_right _ (List.mem_append_right _ (List.mem_append_right _ (List.mem_append_right _ (List.mem_append_left _ (List.mem_of_getElem? (l := px_all_5) (i := 0) rfl))))))
theorem px_w101 : (Jvm.Cond.laysFinal "MatroidDeskModel" "MatroidDeskModel" "six" "LMatroidDeskModel$Num;") ∈ px_all := List.mem_append_right _ (List.mem_append_right _ (List.mem_append_right _ (List.mem_append_right _ (List.mem_append_right _ (List.mem_append_left _ (List.mem_of_getElem? (l := px_all_5) (i := 1) rfl))))))
theorem px_w102 : (Jvm.Cond.laysFinal "MatroidDeskModel" "MatroidDeskModel" "seven" "LMatroidDeskModel$Num;") ∈ px_all := List.mem_append_right _ (List.mem_append_right _ (List.mem_append_right _ (List.mem_append_right _ (List.mem_append_right _ (List.mem_append_left _ (List.mem_of_getElem? (l := px_all_5) (i := 2) rfl))))))
theorem px_w103 : (Jvm.Cond.laysFinal "MatroidDeskModel" "MatroidDeskModel" "eight" "LMatroidDeskModel$Num;") ∈ px_all := List.mem_append_right _ (List.mem_append_right _ (List.mem_append_right _ (List.mem_append_right _ (List.mem_append_right _ (List.mem_append_left _ (List.mem_of_getElem? (l := px_all_5) (i := 3) rfl))))))
theorem px_w104 : (Jvm.Cond.laysFinal "MatroidDeskModel" "MatroidDeskModel" "work" "[LMatroidDeskModel$Num;") ∈ px_all := List.mem_append_right _ (List.mem_append_right _ (List.mem_append_right _ (List.mem_append_right _ (List.mem_append_right _ (List.mem_append_left _ (List.mem_of_getElem? (l := px_all_5) (i := 4) rfl))))))
theorem px_w105 : (Jvm.Cond.laysFinal "MatroidDeskModel" "MatroidDeskModel" "small" "[I") ∈ px_all := List.mem_append_right _ (List.mem_append_right _ (List.mem_append_right _ (List.mem_append_right _ (List.mem_append_right _ (List.mem_append_left _ (List.mem_of_getElem? (l := px_all_5) (i := 5) rfl))))))
theorem px_w106 : (Jvm.Cond.lays "MatroidDeskModel" "MatroidDeskModel" "rows" "I") ∈ px_all := List.mem_append_right _ (List.mem_append_right _ (List.mem_append_right _ (List.mem_append_right _ (List.mem_append_right _ (List.mem_append_left _ (List.mem_of_getElem? (l := px_all_5) (i := 6) rfl))))))
theorem px_w107 : (Jvm.Cond.lays "MatroidDeskModel" "MatroidDeskModel" "columns" "I") ∈ px_all := List.mem_append_right _ (List.mem_append_right _ (List.mem_append_right _ (List.mem_append_right _ (List.mem_append_right _ (List.mem_append_left _ (List.mem_of_getElem? (l := px_all_5) (i := 7) rfl))))))
theorem px_w108 : (Jvm.Cond.lays "MatroidDeskModel" "MatroidDeskModel" "prime" "I") ∈ px_all := List.mem_append_right _ (List.mem_append_right _ (List.mem_append_right _ (List.mem_append_right _ (List.mem_append_right _ (List.mem_append_left _ (List.mem_of_getElem? (l := px_all_5) (i := 8) rfl))))))
theorem px_w109 : (Jvm.Cond.laysFinal "MatroidDeskModel" "MatroidDeskModel" "pivots" "[I") ∈ px_all := List.mem_append_right _ (List.mem_append_right _ (List.mem_append_right _ (List.mem_append_right _ (List.mem_append_right _ (List.mem_append_left _ (List.mem_of_getElem? (l := px_all_5) (i := 9) rfl))))))
theorem px_w110 : (Jvm.Cond.laysFinal "MatroidDeskModel" "MatroidDeskModel" "freeRows" "[I") ∈ px_all := List.mem_append_right _ (List.mem_append_right _ (List.mem_append_right _ (List.mem_append_right _ (List.mem_append_right _ (List.mem_append_left _ (List.mem_of_getElem? (l := px_all_5) (i := 10) rfl))))))
theorem px_w111 : (Jvm.Cond.laysFinal "MatroidDeskModel" "MatroidDeskModel" "freeColumns" "[I") ∈ px_all := List.mem_append_right _ (List.mem_append_right _ (List.mem_append_right _ (List.mem_append_right _ (List.mem_append_right _ (List.mem_append_left _ (List.mem_of_getElem? (l := px_all_5) (i := 11) rfl))))))
theorem px_w112 : (Jvm.Cond.laysFinal "MatroidDeskModel" "MatroidDeskModel" "minor" "[LMatroidDeskModel$Num;") ∈ px_all := List.mem_append_right _ (List.mem_append_right _ (List.mem_append_right _ (List.mem_append_right _ (List.mem_append_right _ (List.mem_append_left _ (List.mem_of_getElem? (l := px_all_5) (i := 12) rfl))))))
theorem px_w113 : (Jvm.Cond.laysFinal "MatroidDeskModel" "MatroidDeskModel" "smallMinor" "[I") ∈ px_all := List.mem_append_right _ (List.mem_append_right _ (List.mem_append_right _ (List.mem_append_right _ (List.mem_append_right _ (List.mem_append_left _ (List.mem_of_getElem? (l := px_all_5) (i := 13) rfl))))))
theorem px_w114 : (Jvm.Cond.laysFinal "MatroidDeskModel" "MatroidDeskModel" "there" "[Z") ∈ px_all := List.mem_append_right _ (List.mem_append_right _ (List.mem_append_right _ (List.mem_append_right _ (List.mem_append_right _ (List.mem_append_left _ (List.mem_of_getElem? (l := px_all_5) (i := 14) rfl))))))
theorem px_w115 : (Jvm.Cond.laysFinal "MatroidDeskModel" "MatroidDeskModel" "elements" "[I") ∈ px_all := List.mem_append_right _ (List.mem_append_right _ (List.mem_append_right _ (List.mem_append_right _ (List.mem_append_right _ (List.mem_append_left _ (List.mem_of_getElem? (l := px_all_5) (i := 15) rfl))))))
theorem px_w116 : (Jvm.Cond.laysFinal "MatroidDeskModel" "MatroidDeskModel" "fields" "[I") ∈ px_all := List.mem_append_right _ (List.mem_append_right _ (List.mem_append_right _ (List.mem_append_right _ (List.mem_append_right _ (List.mem_append_left _ (List.mem_of_getElem? (l := px_all_5) (i := 16) rfl))))))
theorem px_w117 : (Jvm.Cond.laysFinal "MatroidDeskModel" "MatroidDeskModel" "ranks" "[I") ∈ px_all := List.mem_append_right _ (List.mem_append_right _ (List.mem_append_right _ (List.mem_append_right _ (List.mem_append_right _ (List.mem_append_left _ (List.mem_of_getElem? (l := px_all_5) (i := 17) rfl))))))
theorem px_w118 : (Jvm.Cond.laysFinal "MatroidDeskModel" "MatroidDeskModel" "kept" "[I") ∈ px_all := List.mem_append_right _ (List.mem_append_right _ (List.mem_append_right _ (List.mem_append_right _ (List.mem_append_right _ (List.mem_append_left _ (List.mem_of_getElem? (l := px_all_5) (i := 18) rfl))))))
theorem px_w119 : (Jvm.Cond.laysFinal "MatroidDeskModel" "MatroidDeskModel" "keptSmall" "[I") ∈ px_all := List.mem_append_right _ (List.mem_append_right _ (List.mem_append_right _ (List.mem_append_right _ (List.mem_append_right _ (List.mem_append_left _ (List.mem_of_getElem? (l := px_all_5) (i := 19) rfl))))))
theorem px_w120 : (Jvm.Cond.laysFinal "MatroidDeskModel" "MatroidDeskModel" "weights" "[I") ∈ px_all := List.mem_append_right _ (List.mem_append_right _ (List.mem_append_right _ (List.mem_append_right _ (List.mem_append_right _ (List.mem_append_right _ (List.mem_append_left _ (List.mem_of_getElem? (l := px_all_6) (i := 0) rfl)))))))
theorem px_w121 : (Jvm.Cond.laysFinal "MatroidDeskModel" "MatroidDeskModel" "rankOf" "[B") ∈ px_all := List.mem_append_right _ (List.mem_append_right _ (List.mem_append_right _ (List.mem_append_right _ (List.mem_append_right _ (List.mem_append_right _ (List.mem_append_left _ (List.mem_of_getElem? (l := px_all_6) (i := 1) rfl)))))))
theorem px_w122 : (Jvm.Cond.laysFinal "MatroidDeskModel" "MatroidDeskModel" "signOf" "[B") ∈ px_all := List.mem_append_right _ (List.mem_append_right _ (List.mem_append_right _ (List.mem_append_right _ (List.mem_append_right _ (List.mem_append_right _ (List.mem_append_left _ (List.mem_of_getElem? (l := px_all_6) (i := 2) rfl)))))))
theorem px_w123 : (Jvm.Cond.laysFinal "MatroidDeskModel" "MatroidDeskModel" "order" "[I") ∈ px_all := List.mem_append_right _ (List.mem_append_right _ (List.mem_append_right _ (List.mem_append_right _ (List.mem_append_right _ (List.mem_append_right _ (List.mem_append_left _ (List.mem_of_getElem? (l := px_all_6) (i := 3) rfl)))))))
theorem px_w124 : (Jvm.Cond.laysFinal "MatroidDeskModel" "MatroidDeskModel" "sizes" "[I") ∈ px_all := List.mem_append_right _ (List.mem_append_right _ (List.mem_append_right _ (List.mem_append_right _ (List.mem_append_right _ (List.mem_append_right _ (List.mem_append_left _ (List.mem_of_getElem? (l := px_all_6) (i := 4) rfl)))))))
theorem px_w125 : (Jvm.Cond.laysFinal "MatroidDeskModel" "MatroidDeskModel" "coefficients" "[J") ∈ px_all := List.mem_append_right _ (List.mem_append_right _ (List.mem_append_right _ (List.mem_append_right _ (List.mem_append_right _ (List.mem_append_right _ (List.mem_append_left _ (List.mem_of_getElem? (l := px_all_6) (i := 5) rfl)))))))
theorem px_w126 : (Jvm.Cond.laysFinal "MatroidDeskModel" "MatroidDeskModel" "choices" "[J") ∈ px_all := List.mem_append_right _ (List.mem_append_right _ (List.mem_append_right _ (List.mem_append_right _ (List.mem_append_right _ (List.mem_append_right _ (List.mem_append_left _ (List.mem_of_getElem? (l := px_all_6) (i := 6) rfl)))))))
theorem px_w127 : (Jvm.Cond.laysFinal "MatroidDeskModel" "MatroidDeskModel" "sorted" "[I") ∈ px_all := List.mem_append_right _ (List.mem_append_right _ (List.mem_append_right _ (List.mem_append_right _ (List.mem_append_right _ (List.mem_append_right _ (List.mem_append_left _ (List.mem_of_getElem? (l := px_all_6) (i := 7) rfl)))))))
theorem px_w128 : (Jvm.Cond.lays "MatroidDeskModel" "MatroidDeskModel" "witnessC" "I") ∈ px_all := List.mem_append_right _ (List.mem_append_right _ (List.mem_append_right _ (List.mem_append_right _ (List.mem_append_right _ (List.mem_append_right _ (List.mem_append_left _ (List.mem_of_getElem? (l := px_all_6) (i := 8) rfl)))))))
theorem px_w129 : (Jvm.Cond.lays "MatroidDeskModel" "MatroidDeskModel" "witnessK" "I") ∈ px_all := List.mem_append_right _ (List.mem_append_right _ (List.mem_append_right _ (List.mem_append_right _ (List.mem_append_right _ (List.mem_append_right _ (List.mem_append_left _ (List.mem_of_getElem? (l := px_all_6) (i := 9) rfl)))))))
theorem px_w130 : (Jvm.Cond.laysFinal "MatroidDeskModel" "MatroidDeskModel" "images" "[I") ∈ px_all := List.mem_append_right _ (List.mem_append_right _ (List.mem_append_right _ (List.mem_append_right _ (List.mem_append_right _ (List.mem_append_right _ (List.mem_append_left _ (List.mem_of_getElem? (l := px_all_6) (i := 10) rfl)))))))
theorem px_w131 : (Jvm.Cond.laysFinal "MatroidDeskModel" "MatroidDeskModel" "others" "[I") ∈ px_all := List.mem_append_right _ (List.mem_append_right _ (List.mem_append_right _ (List.mem_append_right _ (List.mem_append_right _ (List.mem_append_right _ (List.mem_append_left _ (List.mem_of_getElem? (l := px_all_6) (i := 11) rfl)))))))
theorem px_w132 : (Jvm.Cond.laysFinal "MatroidDeskModel" "MatroidDeskModel" "text" "[B") ∈ px_all := List.mem_append_right _ (List.mem_append_right _ (List.mem_append_right _ (List.mem_append_right _ (List.mem_append_right _ (List.mem_append_right _ (List.mem_append_left _ (List.mem_of_getElem? (l := px_all_6) (i := 12) rfl)))))))
theorem px_w133 : (Jvm.Cond.lays "MatroidDeskModel" "MatroidDeskModel" "length" "I") ∈ px_all := List.mem_append_right _ (List.mem_append_right _ (List.mem_append_right _ (List.mem_append_right _ (List.mem_append_right _ (List.mem_append_right _ (List.mem_append_left _ (List.mem_of_getElem? (l := px_all_6) (i := 13) rfl)))))))
theorem px_w134 : (Jvm.Cond.lays "MatroidDeskModel" "MatroidDeskModel" "token" "I") ∈ px_all := List.mem_append_right _ (List.mem_append_right _ (List.mem_append_right _ (List.mem_append_right _ (List.mem_append_right _ (List.mem_append_right _ (List.mem_append_left _ (List.mem_of_getElem? (l := px_all_6) (i := 14) rfl)))))))
theorem px_w135 : (Jvm.Cond.lays "MatroidDeskModel" "MatroidDeskModel" "from" "I") ∈ px_all := List.mem_append_right _ (List.mem_append_right _ (List.mem_append_right _ (List.mem_append_right _ (List.mem_append_right _ (List.mem_append_right _ (List.mem_append_left _ (List.mem_of_getElem? (l := px_all_6) (i := 15) rfl)))))))
theorem px_w136 : (Jvm.Cond.lays "MatroidDeskModel" "MatroidDeskModel" "to" "I") ∈ px_all := List.mem_append_right _ (List.mem_append_right _ (List.mem_append_right _ (List.mem_append_right _ (List.mem_append_right _ (List.mem_append_right _ (List.mem_append_left _ (List.mem_of_getElem? (l := px_all_6) (i := 16) rfl)))))))
theorem px_w137 : (Jvm.Cond.lays "MatroidDeskModel" "MatroidDeskModel" "refused" "Z") ∈ px_all := List.mem_append_right _ (List.mem_append_right _ (List.mem_append_right _ (List.mem_append_right _ (List.mem_append_right _ (List.mem_append_right _ (List.mem_append_left _ (List.mem_of_getElem? (l := px_all_6) (i := 17) rfl)))))))
theorem px_w138 : (Jvm.Cond.lays "MatroidDeskModel" "MatroidDeskModel" "placeTold" "I") ∈ px_all := List.mem_append_right _ (List.mem_append_right _ (List.mem_append_right _ (List.mem_append_right _ (List.mem_append_right _ (List.mem_append_right _ (List.mem_append_left _ (List.mem_of_getElem? (l := px_all_6) (i := 18) rfl)))))))
theorem px_w139 : (Jvm.Cond.lays "MatroidDeskModel" "MatroidDeskModel" "reason" "I") ∈ px_all := List.mem_append_right _ (List.mem_append_right _ (List.mem_append_right _ (List.mem_append_right _ (List.mem_append_right _ (List.mem_append_right _ (List.mem_append_left _ (List.mem_of_getElem? (l := px_all_6) (i := 19) rfl)))))))
theorem px_w140 : (Jvm.Cond.laysFinal "MatroidDeskModel" "MatroidDeskModel" "list" "[I") ∈ px_all := List.mem_append_right _ (List.mem_append_right _ (List.mem_append_right _ (List.mem_append_right _ (List.mem_append_right _ (List.mem_append_right _ (List.mem_append_right _ (List.mem_append_left _ (List.mem_of_getElem? (l := px_all_7) (i := 0) rfl))))))))
theorem px_w141 : (Jvm.Cond.laysFinal "MatroidDeskModel" "MatroidDeskModel" "saved" "[I") ∈ px_all := List.mem_append_right _ (List.mem_append_right _ (List.mem_append_right _ (List.mem_append_right _ (List.mem_append_right _ (List.mem_append_right _ (List.mem_append_right _ (List.mem_append_left _ (List.mem_of_getElem? (l := px_all_7) (i := 1) rfl))))))))
theorem px_w142 : (Jvm.Cond.laysFinal "MatroidDeskModel" "MatroidDeskModel" "sheet" "[B") ∈ px_all := List.mem_append_right _ (List.mem_append_right _ (List.mem_append_right _ (List.mem_append_right _ (List.mem_append_right _ (List.mem_append_right _ (List.mem_append_right _ (List.mem_append_left _ (List.mem_of_getElem? (l := px_all_7) (i := 2) rfl))))))))
theorem px_w143 : (Jvm.Cond.lays "MatroidDeskModel" "MatroidDeskModel" "sheetSize" "I") ∈ px_all := List.mem_append_right _ (List.mem_append_right _ (List.mem_append_right _ (List.mem_append_right _ (List.mem_append_right _ (List.mem_append_right _ (List.mem_append_right _ (List.mem_append_left _ (List.mem_of_getElem? (l := px_all_7) (i := 3) rfl))))))))
theorem px_w144 : (Jvm.Cond.laysFinal "MatroidDeskModel" "MatroidDeskModel" "decimals" "[B") ∈ px_all := List.mem_append_right _ (List.mem_append_right _ (List.mem_append_right _ (List.mem_append_right _ (List.mem_append_right _ (List.mem_append_right _ (List.mem_append_right _ (List.mem_append_left _ (List.mem_of_getElem? (l := px_all_7) (i := 4) rfl))))))))
theorem px_w145 : (Jvm.Cond.lays "MatroidDeskModel" "MatroidDeskModel" "fault" "I") ∈ px_all := List.mem_append_right _ (List.mem_append_right _ (List.mem_append_right _ (List.mem_append_right _ (List.mem_append_right _ (List.mem_append_right _ (List.mem_append_right _ (List.mem_append_left _ (List.mem_of_getElem? (l := px_all_7) (i := 5) rfl))))))))
theorem px_w146 : (Jvm.Cond.laysFinal "MatroidDeskModel" "MatroidDeskModel" "came" "[B") ∈ px_all := List.mem_append_right _ (List.mem_append_right _ (List.mem_append_right _ (List.mem_append_right _ (List.mem_append_right _ (List.mem_append_right _ (List.mem_append_right _ (List.mem_append_left _ (List.mem_of_getElem? (l := px_all_7) (i := 6) rfl))))))))
theorem px_w147 : (Jvm.Cond.lays "MatroidDeskModel" "MatroidDeskModel" "size" "I") ∈ px_all := List.mem_append_right _ (List.mem_append_right _ (List.mem_append_right _ (List.mem_append_right _ (List.mem_append_right _ (List.mem_append_right _ (List.mem_append_right _ (List.mem_append_left _ (List.mem_of_getElem? (l := px_all_7) (i := 7) rfl))))))))
theorem px_w148 : (Jvm.Cond.lays "MatroidDeskModel" "MatroidDeskModel" "whyTold" "I") ∈ px_all := List.mem_append_right _ (List.mem_append_right _ (List.mem_append_right _ (List.mem_append_right _ (List.mem_append_right _ (List.mem_append_right _ (List.mem_append_right _ (List.mem_append_left _ (List.mem_of_getElem? (l := px_all_7) (i := 8) rfl))))))))
theorem px_w149 : (Jvm.Cond.initialized "MatroidDeskModel$Num") ∈ px_all := List.mem_append_right _ (List.mem_append_right _ (List.mem_append_right _ (List.mem_append_right _ (List.mem_append_right _ (List.mem_append_right _ (List.mem_append_right _ (List.mem_append_left _ (List.mem_of_getElem? (l := px_all_7) (i := 9) rfl))))))))
theorem px_w150 : (Jvm.Cond.instantiable "MatroidDeskModel$Num" (3 : Nat)) ∈ px_all := List.mem_append_right _ (List.mem_append_right _ (List.mem_append_right _ (List.mem_append_right _ (List.mem_append_right _ (List.mem_append_right _ (List.mem_append_right _ (List.mem_append_left _ (List.mem_of_getElem? (l := px_all_7) (i := 10) rfl))))))))
theorem px_w151 : (Jvm.Cond.laysFinal "MatroidDeskModel$Num" "MatroidDeskModel$Num" "d" "[I") ∈ px_all := List.mem_append_right _ (List.mem_append_right _ (List.mem_append_right _ (List.mem_append_right _ (List.mem_append_right _ (List.mem_append_right _ (List.mem_append_right _ (List.mem_append_left _ (List.mem_of_getElem? (l := px_all_7) (i := 11) rfl))))))))
theorem px_w152 : (Jvm.Cond.lays "MatroidDeskModel$Num" "MatroidDeskModel$Num" "n" "I") ∈ px_all := List.mem_append_right _ (List.mem_append_right _ (List.mem_append_right _ (List.mem_append_right _ (List.mem_append_right _ (List.mem_append_right _ (List.mem_append_right _ (List.mem_append_left _ (List.mem_of_getElem? (l := px_all_7) (i := 12) rfl))))))))
theorem px_w153 : (Jvm.Cond.lays "MatroidDeskModel$Num" "MatroidDeskModel$Num" "minus" "Z") ∈ px_all := List.mem_append_right _ (List.mem_append_right _ (List.mem_append_right _ (List.mem_append_right _ (List.mem_append_right _ (List.mem_append_right _ (List.mem_append_right _ (List.mem_append_left _ (List.mem_of_getElem? (l := px_all_7) (i := 13) rfl))))))))
theorem px_w154 : (Jvm.Cond.initialized "MatroidDeskLaw") ∈ px_all := List.mem_append_right _ (List.mem_append_right _ (List.mem_append_right _ (List.mem_append_right _ (List.mem_append_right _ (List.mem_append_right _ (List.mem_append_right _ (List.mem_append_left _ (List.mem_of_getElem? (l := px_all_7) (i := 14) rfl))))))))
theorem px_w155 : (Jvm.Cond.code ({ cls := "MatroidDesk$Tokens", name := "<init>", desc := "()V" } : Jvm.MethodName) prog_10_method_1_code (1 : Nat) (Option.none : Option Jvm.ClassFile.FieldType)) ∈ px_all := List.mem_append_right _ (List.mem_append_right _ (List.mem_append_right _ (List.mem_append_right _ (List.mem_append_right _ (List.mem_append_right _ (List.mem_append_right _ (List.mem_append_left _ (List.mem_of_getElem? (l := px_all_7) (i := 15) rfl))))))))
theorem px_w156 : (Jvm.Cond.instanceMethod ({ cls := "MatroidDesk$Tokens", name := "<init>", desc := "()V" } : Jvm.MethodName)) ∈ px_all := List.mem_append_right _ (List.mem_append_right _ (List.mem_append_right _ (List.mem_append_right _ (List.mem_append_right _ (List.mem_append_right _ (List.mem_append_right _ (List.mem_append_left _ (List.mem_of_getElem? (l := px_all_7) (i := 16) rfl))))))))
theorem px_w157 : (Jvm.Cond.methodLink "MatroidDesk$Tokens" (3 : Nat) ({ cls := "java/lang/Object", name := "<init>", desc := "()V" } : Jvm.MethodName)) ∈ px_all := List.mem_append_right _ (List.mem_append_right _ (List.mem_append_right _ (List.mem_append_right _ (List.mem_append_right _ (List.mem_append_right _ (List.mem_append_right _ (List.mem_append_left _ (List.mem_of_getElem? (l := px_all_7) (i := 17) rfl))))))))
theorem px_w158 : (Jvm.Cond.fieldLink "MatroidDesk$Tokens" (9 : Nat) "MatroidDesk$Tokens" "script" "[B") ∈ px_all := List.mem_append_right _ (List.mem_append_right _ (List.mem_append_right _ (List.mem_append_right _ (List.mem_append_right _ (List.mem_append_right _ (List.mem_append_right _ (List.mem_append_left _ (List.mem_of_getElem? (l := px_all_7) (i := 18) rfl))))))))
theorem px_w159 : (Jvm.Cond.code ({ cls := "MatroidDesk$Orders", name := "<init>", desc := "()V" } : Jvm.MethodName) prog_5_method_1_code (1 : Nat) (Option.none : Option Jvm.ClassFile.FieldType)) ∈ px_all := List.mem_append_right _ (List.mem_append_right _ (List.mem_append_right _ (List.mem_append_right _ (List.mem_append_right _ (List.mem_append_right _ (List.mem_append_right _ (List.mem_append_left _ (List.mem_of_getElem? (l := px_all_7) (i := 19) rfl))))))))
theorem px_w160 : (Jvm.Cond.instanceMethod ({ cls := "MatroidDesk$Orders", name := "<init>", desc := "()V" } : Jvm.MethodName)) ∈ px_all := List.mem_append_right _ (List.mem_append_right _ (List.mem_append_right _ (List.mem_append_right _ (List.mem_append_right _ (List.mem_append_right _ (List.mem_append_right _ (List.mem_append_right _ (List.mem_append_left _ (List.mem_of_getElem? (l := px_all_8) (i := 0) rfl)))))))))
theorem px_w161 : (Jvm.Cond.methodLink "MatroidDesk$Orders" (3 : Nat) ({ cls := "java/lang/Object", name := "<init>", desc := "()V" } : Jvm.MethodName)) ∈ px_all := List.mem_append_right _ (List.mem_append_right _ (List.mem_append_right _ (List.mem_append_right _ (List.mem_append_right _ (List.mem_append_right _ (List.mem_append_right _ (List.mem_append_right _ (List.mem_append_left _ (List.mem_of_getElem? (l := px_all_8) (i := 1) rfl)))))))))
theorem px_w162 : (Jvm.Cond.fieldLink "MatroidDesk$Orders" (9 : Nat) "MatroidDesk$Orders" "sets" "[I") ∈ px_all := List.mem_append_right _ (List.mem_append_right _ (List.mem_append_right _ (List.mem_append_right _ (List.mem_append_right _ (List.mem_append_right _ (List.mem_append_right _ (List.mem_append_right _ (List.mem_append_left _ (List.mem_of_getElem? (l := px_all_8) (i := 2) rfl)))))))))
theorem px_w163 : (Jvm.Cond.fieldLink "MatroidDesk$Orders" (15 : Nat) "MatroidDesk$Orders" "starts" "[I") ∈ px_all := List.mem_append_right _ (List.mem_append_right _ (List.mem_append_right _ (List.mem_append_right _ (List.mem_append_right _ (List.mem_append_right _ (List.mem_append_right _ (List.mem_append_right _ (List.mem_append_left _ (List.mem_of_getElem? (l := px_all_8) (i := 3) rfl)))))))))
theorem px_w164 : (Jvm.Cond.fieldLink "MatroidDesk$Orders" (18 : Nat) "MatroidDesk$Orders" "reached" "I") ∈ px_all := List.mem_append_right _ (List.mem_append_right _ (List.mem_append_right _ (List.mem_append_right _ (List.mem_append_right _ (List.mem_append_right _ (List.mem_append_right _ (List.mem_append_right _ (List.mem_append_left _ (List.mem_of_getElem? (l := px_all_8) (i := 4) rfl)))))))))
theorem px_w165 : (Jvm.Cond.code ({ cls := "MatroidDesk$Wide", name := "<init>", desc := "()V" } : Jvm.MethodName) prog_12_method_1_code (1 : Nat) (Option.none : Option Jvm.ClassFile.FieldType)) ∈ px_all := List.mem_append_right _ (List.mem_append_right _ (List.mem_append_right _ (List.mem_append_right _ (List.mem_append_right _ (List.mem_append_right _ (List.mem_append_right _ (List.mem_append_right _ (List.mem_append_left _ (List.mem_of_getElem? (l := px_all_8) (i := 5) rfl)))))))))
theorem px_w166 : (Jvm.Cond.instanceMethod ({ cls := "MatroidDesk$Wide", name := "<init>", desc := "()V" } : Jvm.MethodName)) ∈ px_all := List.mem_append_right _ (List.mem_append_right _ (List.mem_append_right _ (List.mem_append_right _ (List.mem_append_right _ (List.mem_append_right _ (List.mem_append_right _ (List.mem_append_right _ (List.mem_append_left _ (List.mem_of_getElem? (l := px_all_8) (i := 6) rfl)))))))))
theorem px_w167 : (Jvm.Cond.methodLink "MatroidDesk$Wide" (3 : Nat) ({ cls := "java/lang/Object", name := "<init>", desc := "()V" } : Jvm.MethodName)) ∈ px_all := List.mem_append_right _ (List.mem_append_right _ (List.mem_append_right _ (List.mem_append_right _ (List.mem_append_right _ (List.mem_append_right _ (List.mem_append_right _ (List.mem_append_right _ (List.mem_append_left _ (List.mem_of_getElem? (l := px_all_8) (i := 7) rfl)))))))))
theorem px_w168 : (Jvm.Cond.code ({ cls := "MatroidDesk$Minors", name := "<init>", desc := "(LMatroidDesk$Orders;)V" } : Jvm.MethodName) prog_4_method_1_code (2 : Nat) (Option.none : Option Jvm.ClassFile.FieldType)) ∈ px_all := List.mem_append_right _ (List.mem_append_right _ (List.mem_append_right _ (List.mem_append_right _ (List.mem_append_right _ (List.mem_append_right _ (List.mem_append_right _ (List.mem_append_right _ (List.mem_append_left _ (List.mem_of_getElem? (l := px_all_8) (i := 8) rfl)))))))))
theorem px_w169 : (Jvm.Cond.instanceMethod ({ cls := "MatroidDesk$Minors", name := "<init>", desc := "(LMatroidDesk$Orders;)V" } : Jvm.MethodName)) ∈ px_all := List.mem_append_right _ (List.mem_append_right _ (List.mem_append_right _ (List.mem_append_right _ (List.mem_append_right _ (List.mem_append_right _ (List.mem_append_right _ (List.mem_append_right _ (List.mem_append_left _ (List.mem_of_getElem? (l := px_all_8) (i := 9) rfl)))))))))
theorem px_w170 : (Jvm.Cond.methodLink "MatroidDesk$Minors" (1 : Nat) ({ cls := "java/lang/Object", name := "<init>", desc := "()V" } : Jvm.MethodName)) ∈ px_all := List.mem_append_right _ (List.mem_append_right _ (List.mem_append_right _ (List.mem_append_right _ (List.mem_append_right _ (List.mem_append_right _ (List.mem_append_right _ (List.mem_append_right _ (List.mem_append_left _ (List.mem_of_getElem? (l := px_all_8) (i := 10) rfl)))))))))
theorem px_w171 : (Jvm.Cond.fieldLink "MatroidDesk$Minors" (7 : Nat) "MatroidDesk$Minors" "orders" "LMatroidDesk$Orders;") ∈ px_all := List.mem_append_right _ (List.mem_append_right _ (List.mem_append_right _ (List.mem_append_right _ (List.mem_append_right _ (List.mem_append_right _ (List.mem_append_right _ (List.mem_append_right _ (List.mem_append_left _ (List.mem_of_getElem? (l := px_all_8) (i := 11) rfl)))))))))
theorem px_w172 : (Jvm.Cond.classLink "MatroidDesk$Minors" (13 : Nat) "MatroidDesk$Wide") ∈ px_all := List.mem_append_right _ (List.mem_append_right _ (List.mem_append_right _ (List.mem_append_right _ (List.mem_append_right _ (List.mem_append_right _ (List.mem_append_right _ (List.mem_append_right _ (List.mem_append_left _ (List.mem_of_getElem? (l := px_all_8) (i := 12) rfl)))))))))
theorem px_w173 : (Jvm.Cond.fieldLink "MatroidDesk$Minors" (16 : Nat) "MatroidDesk$Minors" "top" "LMatroidDesk$Wide;") ∈ px_all := List.mem_append_right _ (List.mem_append_right _ (List.mem_append_right _ (List.mem_append_right _ (List.mem_append_right _ (List.mem_append_right _ (List.mem_append_right _ (List.mem_append_right _ (List.mem_append_left _ (List.mem_of_getElem? (l := px_all_8) (i := 13) rfl)))))))))
theorem px_w174 : (Jvm.Cond.fieldLink "MatroidDesk$Minors" (20 : Nat) "MatroidDesk$Minors" "bottom" "LMatroidDesk$Wide;") ∈ px_all := List.mem_append_right _ (List.mem_append_right _ (List.mem_append_right _ (List.mem_append_right _ (List.mem_append_right _ (List.mem_append_right _ (List.mem_append_right _ (List.mem_append_right _ (List.mem_append_left _ (List.mem_of_getElem? (l := px_all_8) (i := 14) rfl)))))))))
theorem px_w175 : (Jvm.Cond.fieldLink "MatroidDesk$Minors" (23 : Nat) "MatroidDesk$Minors" "divisor" "LMatroidDesk$Wide;") ∈ px_all := List.mem_append_right _ (List.mem_append_right _ (List.mem_append_right _ (List.mem_append_right _ (List.mem_append_right _ (List.mem_append_right _ (List.mem_append_right _ (List.mem_append_right _ (List.mem_append_left _ (List.mem_of_getElem? (l := px_all_8) (i := 15) rfl)))))))))
theorem px_w176 : (Jvm.Cond.fieldLink "MatroidDesk$Minors" (26 : Nat) "MatroidDesk$Minors" "rest" "LMatroidDesk$Wide;") ∈ px_all := List.mem_append_right _ (List.mem_append_right _ (List.mem_append_right _ (List.mem_append_right _ (List.mem_append_right _ (List.mem_append_right _ (List.mem_append_right _ (List.mem_append_right _ (List.mem_append_left _ (List.mem_of_getElem? (l := px_all_8) (i := 16) rfl)))))))))
theorem px_w177 : (Jvm.Cond.fieldLink "MatroidDesk$Minors" (29 : Nat) "MatroidDesk$Minors" "low" "[J") ∈ px_all := List.mem_append_right _ (List.mem_append_right _ (List.mem_append_right _ (List.mem_append_right _ (List.mem_append_right _ (List.mem_append_right _ (List.mem_append_right _ (List.mem_append_right _ (List.mem_append_left _ (List.mem_of_getElem? (l := px_all_8) (i := 17) rfl)))))))))
theorem px_w178 : (Jvm.Cond.fieldLink "MatroidDesk$Minors" (33 : Nat) "MatroidDesk$Minors" "middle" "[J") ∈ px_all := List.mem_append_right _ (List.mem_append_right _ (List.mem_append_right _ (List.mem_append_right _ (List.mem_append_right _ (List.mem_append_right _ (List.mem_append_right _ (List.mem_append_right _ (List.mem_append_left _ (List.mem_of_getElem? (l := px_all_8) (i := 18) rfl)))))))))
theorem px_w179 : (Jvm.Cond.fieldLink "MatroidDesk$Minors" (36 : Nat) "MatroidDesk$Minors" "high" "[J") ∈ px_all := List.mem_append_right _ (List.mem_append_right _ (List.mem_append_right _ (List.mem_append_right _ (List.mem_append_right _ (List.mem_append_right _ (List.mem_append_right _ (List.mem_append_right _ (List.mem_append_left _ (List.mem_of_getElem? (l := px_all_8) (i := 19) rfl)))))))))
theorem px_w180 : (Jvm.Cond.code ({ cls := "MatroidDesk$Witness", name := "<init>", desc := "(LMatroidDesk$Orders;)V" } : Jvm.MethodName) prog_13_method_1_code (2 : Nat) (Option.none : Option Jvm.ClassFile.FieldType)) ∈ px_all := List.mem_append_right _ (List.mem_append_right _ (List.mem_append_right _ (List.mem_append_right _ (List.mem_append_right _ (List.mem_append_right _ (List.mem_append_right _ (List.mem_append_right _ (List.mem_append_right _ (List.mem_append_left _ (List.mem_of_getElem? (l := px_all_9) (i := 0) rfl))))))))))
theorem px_w181 : (Jvm.Cond.instanceMethod ({ cls := "MatroidDesk$Witness", name := "<init>", desc := "(LMatroidDesk$Orders;)V" } : Jvm.MethodName)) ∈ px_all := List.mem_append_right _ (List.mem_append_right _ (List.mem_append_right _ (List.mem_append_right _ (List.mem_append_right _ (List.mem_append_right _ (List.mem_append_right _ (List.mem_append_right _ (List.mem_append_right _ (List.mem_append_left _ (List.mem_of_getElem? (l := px_all_9) (i := 1) rfl))))))))))
theorem px_w182 : (Jvm.Cond.methodLink "MatroidDesk$Witness" (3 : Nat) ({ cls := "java/lang/Object", name := "<init>", desc := "()V" } : Jvm.MethodName)) ∈ px_all := List.mem_append_right _ (List.mem_append_right _ (List.mem_append_right _ (List.mem_append_right _ (List.mem_append_right _ (List.mem_append_right _ (List.mem_append_right _ (List.mem_append_right _ (List.mem_append_right _ (List.mem_append_left _ (List.mem_of_getElem? (l := px_all_9) (i := 2) rfl))))))))))
theorem px_w183 : (Jvm.Cond.fieldLink "MatroidDesk$Witness" (9 : Nat) "MatroidDesk$Witness" "orders" "LMatroidDesk$Orders;") ∈ px_all := List.mem_append_right _ (List.mem_append_right _ (List.mem_append_right _ (List.mem_append_right _ (List.mem_append_right _ (List.mem_append_right _ (List.mem_append_right _ (List.mem_append_right _ (List.mem_append_right _ (List.mem_append_left _ (List.mem_of_getElem? (l := px_all_9) (i := 3) rfl))))))))))
theorem px_w184 : (Jvm.Cond.fieldLink "MatroidDesk$Witness" (15 : Nat) "MatroidDesk$Witness" "images" "[I") ∈ px_all := List.mem_append_right _ (List.mem_append_right _ (List.mem_append_right _ (List.mem_append_right _ (List.mem_append_right _ (List.mem_append_right _ (List.mem_append_right _ (List.mem_append_right _ (List.mem_append_right _ (List.mem_append_left _ (List.mem_of_getElem? (l := px_all_9) (i := 4) rfl))))))))))
theorem px_w185 : (Jvm.Cond.fieldLink "MatroidDesk$Witness" (19 : Nat) "MatroidDesk$Witness" "guestPairs" "[I") ∈ px_all := List.mem_append_right _ (List.mem_append_right _ (List.mem_append_right _ (List.mem_append_right _ (List.mem_append_right _ (List.mem_append_right _ (List.mem_append_right _ (List.mem_append_right _ (List.mem_append_right _ (List.mem_append_left _ (List.mem_of_getElem? (l := px_all_9) (i := 5) rfl))))))))))
theorem px_w186 : (Jvm.Cond.fieldLink "MatroidDesk$Witness" (22 : Nat) "MatroidDesk$Witness" "hostPairs" "[I") ∈ px_all := List.mem_append_right _ (List.mem_append_right _ (List.mem_append_right _ (List.mem_append_right _ (List.mem_append_right _ (List.mem_append_right _ (List.mem_append_right _ (List.mem_append_right _ (List.mem_append_right _ (List.mem_append_left _ (List.mem_of_getElem? (l := px_all_9) (i := 6) rfl))))))))))
theorem px_w187 : (Jvm.Cond.fieldLink "MatroidDesk$Witness" (25 : Nat) "MatroidDesk$Witness" "keptSets" "[I") ∈ px_all := List.mem_append_right _ (List.mem_append_right _ (List.mem_append_right _ (List.mem_append_right _ (List.mem_append_right _ (List.mem_append_right _ (List.mem_append_right _ (List.mem_append_right _ (List.mem_append_right _ (List.mem_append_left _ (List.mem_of_getElem? (l := px_all_9) (i := 7) rfl))))))))))
theorem px_w188 : (Jvm.Cond.fieldLink "MatroidDesk$Witness" (28 : Nat) "MatroidDesk$Witness" "restSets" "[I") ∈ px_all := List.mem_append_right _ (List.mem_append_right _ (List.mem_append_right _ (List.mem_append_right _ (List.mem_append_right _ (List.mem_append_right _ (List.mem_append_right _ (List.mem_append_right _ (List.mem_append_right _ (List.mem_append_left _ (List.mem_of_getElem? (l := px_all_9) (i := 8) rfl))))))))))
theorem px_w189 : (Jvm.Cond.fieldLink "MatroidDesk$Witness" (31 : Nat) "MatroidDesk$Witness" "imageSets" "[I") ∈ px_all := List.mem_append_right _ (List.mem_append_right _ (List.mem_append_right _ (List.mem_append_right _ (List.mem_append_right _ (List.mem_append_right _ (List.mem_append_right _ (List.mem_append_right _ (List.mem_append_right _ (List.mem_append_left _ (List.mem_of_getElem? (l := px_all_9) (i := 9) rfl))))))))))
theorem px_w190 : (Jvm.Cond.fieldLink "MatroidDesk$Witness" (34 : Nat) "MatroidDesk$Witness" "host" "LMatroidDesk$Matroid;") ∈ px_all := List.mem_append_right _ (List.mem_append_right _ (List.mem_append_right _ (List.mem_append_right _ (List.mem_append_right _ (List.mem_append_right _ (List.mem_append_right _ (List.mem_append_right _ (List.mem_append_right _ (List.mem_append_left _ (List.mem_of_getElem? (l := px_all_9) (i := 10) rfl))))))))))
theorem px_w191 : (Jvm.Cond.fieldLink "MatroidDesk$Witness" (38 : Nat) "MatroidDesk$Witness" "guest" "LMatroidDesk$Matroid;") ∈ px_all := List.mem_append_right _ (List.mem_append_right _ (List.mem_append_right _ (List.mem_append_right _ (List.mem_append_right _ (List.mem_append_right _ (List.mem_append_right _ (List.mem_append_right _ (List.mem_append_right _ (List.mem_append_left _ (List.mem_of_getElem? (l := px_all_9) (i := 11) rfl))))))))))
theorem px_w192 : (Jvm.Cond.fieldLink "MatroidDesk$Witness" (41 : Nat) "MatroidDesk$Witness" "hostStamp" "I") ∈ px_all := List.mem_append_right _ (List.mem_append_right _ (List.mem_append_right _ (List.mem_append_right _ (List.mem_append_right _ (List.mem_append_right _ (List.mem_append_right _ (List.mem_append_right _ (List.mem_append_right _ (List.mem_append_left _ (List.mem_of_getElem? (l := px_all_9) (i := 12) rfl))))))))))
theorem px_w193 : (Jvm.Cond.fieldLink "MatroidDesk$Witness" (45 : Nat) "MatroidDesk$Witness" "guestStamp" "I") ∈ px_all := List.mem_append_right _ (List.mem_append_right _ (List.mem_append_right _ (List.mem_append_right _ (List.mem_append_right _ (List.mem_append_right _ (List.mem_append_right _ (List.mem_append_right _ (List.mem_append_right _ (List.mem_append_left _ (List.mem_of_getElem? (l := px_all_9) (i := 13) rfl))))))))))
theorem px_w194 : (Jvm.Cond.code ({ cls := "MatroidDesk$Statement", name := "<init>", desc := "(LMatroidDesk$Tokens;)V" } : Jvm.MethodName) prog_9_method_1_code (2 : Nat) (Option.none : Option Jvm.ClassFile.FieldType)) ∈ px_all := List.mem_append_right _ (List.mem_append_right _ (List.mem_append_right _ (List.mem_append_right _ (List.mem_append_right _ (List.mem_append_right _ (List.mem_append_right _ (List.mem_append_right _ (List.mem_append_right _ (List.mem_append_left _ (List.mem_of_getElem? (l := px_all_9) (i := 14) rfl))))))))))
theorem px_w195 : (Jvm.Cond.instanceMethod ({ cls := "MatroidDesk$Statement", name := "<init>", desc := "(LMatroidDesk$Tokens;)V" } : Jvm.MethodName)) ∈ px_all := List.mem_append_right _ (List.mem_append_right _ (List.mem_append_right _ (List.mem_append_right _ (List.mem_append_right _ (List.mem_append_right _ (List.mem_append_right _ (List.mem_append_right _ (List.mem_append_right _ (List.mem_append_left _ (List.mem_of_getElem? (l := px_all_9) (i := 15) rfl))))))))))
theorem px_w196 : (Jvm.Cond.methodLink "MatroidDesk$Statement" (3 : Nat) ({ cls := "java/lang/Object", name := "<init>", desc := "()V" } : Jvm.MethodName)) ∈ px_all := List.mem_append_right _ (List.mem_append_right _ (List.mem_append_right _ (List.mem_append_right _ (List.mem_append_right _ (List.mem_append_right _ (List.mem_append_right _ (List.mem_append_right _ (List.mem_append_right _ (List.mem_append_left _ (List.mem_of_getElem? (l := px_all_9) (i := 16) rfl))))))))))
theorem px_w197 : (Jvm.Cond.fieldLink "MatroidDesk$Statement" (9 : Nat) "MatroidDesk$Statement" "tokens" "LMatroidDesk$Tokens;") ∈ px_all := List.mem_append_right _ (List.mem_append_right _ (List.mem_append_right _ (List.mem_append_right _ (List.mem_append_right _ (List.mem_append_right _ (List.mem_append_right _ (List.mem_append_right _ (List.mem_append_right _ (List.mem_append_left _ (List.mem_of_getElem? (l := px_all_9) (i := 17) rfl))))))))))
theorem px_w198 : (Jvm.Cond.fieldLink "MatroidDesk$Statement" (15 : Nat) "MatroidDesk$Statement" "numbers" "[I") ∈ px_all := List.mem_append_right _ (List.mem_append_right _ (List.mem_append_right _ (List.mem_append_right _ (List.mem_append_right _ (List.mem_append_right _ (List.mem_append_right _ (List.mem_append_right _ (List.mem_append_right _ (List.mem_append_left _ (List.mem_of_getElem? (l := px_all_9) (i := 18) rfl))))))))))
theorem px_w199 : (Jvm.Cond.fieldLink "MatroidDesk$Statement" (19 : Nat) "MatroidDesk$Verb" "SHOW" "LMatroidDesk$Verb;") ∈ px_all := List.mem_append_right _ (List.mem_append_right _ (List.mem_append_right _ (List.mem_append_right _ (List.mem_append_right _ (List.mem_append_right _ (List.mem_append_right _ (List.mem_append_right _ (List.mem_append_right _ (List.mem_append_left _ (List.mem_of_getElem? (l := px_all_9) (i := 19) rfl))))))))))
theorem px_w200 : (Jvm.Cond.fieldLink "MatroidDesk$Statement" (25 : Nat) "MatroidDesk$Statement" "verb" "LMatroidDesk$Verb;") ∈ px_all := List.mem_append_right _ (List.mem_append_right _ (List.mem_append_right _ (List.mem_append_right _ (List.mem_append_right _ (List.mem_append_right _ (List.mem_append_right _ (List.mem_append_right _ (List.mem_append_right _ (List.mem_append_right _ (List.mem_append_left _ (List.mem_of_getElem? (l := px_all_10) (i := 0) rfl)))))))))))
theorem px_w201 : (Jvm.Cond.code ({ cls := "MatroidDesk$Product", name := "<init>", desc := "()V" } : Jvm.MethodName) prog_7_method_1_code (1 : Nat) (Option.none : Option Jvm.ClassFile.FieldType)) ∈ px_all := List.mem_append_right _ (List.mem_append_right _ (List.mem_append_right _ (List.mem_append_right _ (List.mem_append_right _ (List.mem_append_right _ (List.mem_append_right _ (List.mem_append_right _ (List.mem_append_right _ (List.mem_append_right _ (List.mem_append_left _ (List.mem_of_getElem? (l := px_all_10) (i := 1) rfl)))))))))))
theorem px_w202 : (Jvm.Cond.instanceMethod ({ cls := "MatroidDesk$Product", name := "<init>", desc := "()V" } : Jvm.MethodName)) ∈ px_all := List.mem_append_right _ (List.mem_append_right _ (List.mem_append_right _ (List.mem_append_right _ (List.mem_append_right _ (List.mem_append_right _ (List.mem_append_right _ (List.mem_append_right _ (List.mem_append_right _ (List.mem_append_right _ (List.mem_append_left _ (List.mem_of_getElem? (l := px_all_10) (i := 2) rfl)))))))))))
theorem px_w203 : (Jvm.Cond.methodLink "MatroidDesk$Product" (3 : Nat) ({ cls := "java/lang/Object", name := "<init>", desc := "()V" } : Jvm.MethodName)) ∈ px_all := List.mem_append_right _ (List.mem_append_right _ (List.mem_append_right _ (List.mem_append_right _ (List.mem_append_right _ (List.mem_append_right _ (List.mem_append_right _ (List.mem_append_right _ (List.mem_append_right _ (List.mem_append_right _ (List.mem_append_left _ (List.mem_of_getElem? (l := px_all_10) (i := 3) rfl)))))))))))
theorem px_w204 : (Jvm.Cond.fieldLink "MatroidDesk$Product" (9 : Nat) "MatroidDesk$Product" "bytes" "[B") ∈ px_all := List.mem_append_right _ (List.mem_append_right _ (List.mem_append_right _ (List.mem_append_right _ (List.mem_append_right _ (List.mem_append_right _ (List.mem_append_right _ (List.mem_append_right _ (List.mem_append_right _ (List.mem_append_right _ (List.mem_append_left _ (List.mem_of_getElem? (l := px_all_10) (i := 4) rfl)))))))))))
theorem px_w205 : (Jvm.Cond.fieldLink "MatroidDesk$Product" (15 : Nat) "MatroidDesk$Product" "digits" "[B") ∈ px_all := List.mem_append_right _ (List.mem_append_right _ (List.mem_append_right _ (List.mem_append_right _ (List.mem_append_right _ (List.mem_append_right _ (List.mem_append_right _ (List.mem_append_right _ (List.mem_append_right _ (List.mem_append_right _ (List.mem_append_left _ (List.mem_of_getElem? (l := px_all_10) (i := 5) rfl)))))))))))
theorem px_w206 : (Jvm.Cond.code ({ cls := "MatroidDesk", name := "<init>", desc := "()V" } : Jvm.MethodName) prog_1_method_1_code (1 : Nat) (Option.none : Option Jvm.ClassFile.FieldType)) ∈ px_all := List.mem_append_right _ (List.mem_append_right _ (List.mem_append_right _ (List.mem_append_right _ (List.mem_append_right _ (List.mem_append_right _ (List.mem_append_right _ (List.mem_append_right _ (List.mem_append_right _ (List.mem_append_right _ (List.mem_append_left _ (List.mem_of_getElem? (l := px_all_10) (i := 6) rfl)))))))))))
theorem px_w207 : (Jvm.Cond.instanceMethod ({ cls := "MatroidDesk", name := "<init>", desc := "()V" } : Jvm.MethodName)) ∈ px_all := List.mem_append_right _ (List.mem_append_right _ (List.mem_append_right _ (List.mem_append_right _ (List.mem_append_right _ (List.mem_append_right _ (List.mem_append_right _ (List.mem_append_right _ (List.mem_append_right _ (List.mem_append_right _ (List.mem_append_left _ (List.mem_of_getElem? (l := px_all_10) (i := 7) rfl)))))))))))
theorem px_w208 : (Jvm.Cond.methodLink "MatroidDesk" (1 : Nat) ({ cls := "java/lang/Object", name := "<init>", desc := "()V" } : Jvm.MethodName)) ∈ px_all := List.mem_append_right _ (List.mem_append_right _ (List.mem_append_right _ (List.mem_append_right _ (List.mem_append_right _ (List.mem_append_right _ (List.mem_append_right _ (List.mem_append_right _ (List.mem_append_right _ (List.mem_append_right _ (List.mem_append_left _ (List.mem_of_getElem? (l := px_all_10) (i := 8) rfl)))))))))))
theorem px_w209 : (Jvm.Cond.fieldLink "MatroidDesk" (7 : Nat) "MatroidDesk" "bytes" "[B") ∈ px_all := List.mem_append_right _ (List.mem_append_right _ (List.mem_append_right _ (List.mem_append_right _ (List.mem_append_right _ (List.mem_append_right _ (List.mem_append_right _ (List.mem_append_right _ (List.mem_append_right _ (List.mem_append_right _ (List.mem_append_left _ (List.mem_of_getElem? (l := px_all_10) (i := 9) rfl)))))))))))
theorem px_w210 : (Jvm.Cond.fieldLink "MatroidDesk" (13 : Nat) "MatroidDesk" "fed" "I") ∈ px_all := List.mem_append_right _ (List.mem_append_right _ (List.mem_append_right _ (List.mem_append_right _ (List.mem_append_right _ (List.mem_append_right _ (List.mem_append_right _ (List.mem_append_right _ (List.mem_append_right _ (List.mem_append_right _ (List.mem_append_left _ (List.mem_of_getElem? (l := px_all_10) (i := 10) rfl)))))))))))
theorem px_w211 : (Jvm.Cond.fieldLink "MatroidDesk" (17 : Nat) "MatroidDesk" "refusedAt" "I") ∈ px_all := List.mem_append_right _ (List.mem_append_right _ (List.mem_append_right _ (List.mem_append_right _ (List.mem_append_right _ (List.mem_append_right _ (List.mem_append_right _ (List.mem_append_right _ (List.mem_append_right _ (List.mem_append_right _ (List.mem_append_left _ (List.mem_of_getElem? (l := px_all_10) (i := 11) rfl)))))))))))
theorem px_w212 : (Jvm.Cond.fieldLink "MatroidDesk" (20 : Nat) "MatroidDesk" "reason" "I") ∈ px_all := List.mem_append_right _ (List.mem_append_right _ (List.mem_append_right _ (List.mem_append_right _ (List.mem_append_right _ (List.mem_append_right _ (List.mem_append_right _ (List.mem_append_right _ (List.mem_append_right _ (List.mem_append_right _ (List.mem_append_left _ (List.mem_of_getElem? (l := px_all_10) (i := 12) rfl)))))))))))
theorem px_w213 : (Jvm.Cond.fieldLink "MatroidDesk" (23 : Nat) "MatroidDesk" "stamps" "I") ∈ px_all := List.mem_append_right _ (List.mem_append_right _ (List.mem_append_right _ (List.mem_append_right _ (List.mem_append_right _ (List.mem_append_right _ (List.mem_append_right _ (List.mem_append_right _ (List.mem_append_right _ (List.mem_append_right _ (List.mem_append_left _ (List.mem_of_getElem? (l := px_all_10) (i := 13) rfl)))))))))))
theorem px_w214 : (Jvm.Cond.fieldLink "MatroidDesk" (26 : Nat) "MatroidDesk" "spare" "LMatroidDesk$Matroid;") ∈ px_all := List.mem_append_right _ (List.mem_append_right _ (List.mem_append_right _ (List.mem_append_right _ (List.mem_append_right _ (List.mem_append_right _ (List.mem_append_right _ (List.mem_append_right _ (List.mem_append_right _ (List.mem_append_right _ (List.mem_append_left _ (List.mem_of_getElem? (l := px_all_10) (i := 14) rfl)))))))))))
theorem px_w215 : (Jvm.Cond.classLink "MatroidDesk" (30 : Nat) "MatroidDesk$Matroid") ∈ px_all := List.mem_append_right _ (List.mem_append_right _ (List.mem_append_right _ (List.mem_append_right _ (List.mem_append_right _ (List.mem_append_right _ (List.mem_append_right _ (List.mem_append_right _ (List.mem_append_right _ (List.mem_append_right _ (List.mem_append_left _ (List.mem_of_getElem? (l := px_all_10) (i := 15) rfl)))))))))))
theorem px_w216 : (Jvm.Cond.fieldLink "MatroidDesk" (32 : Nat) "MatroidDesk" "matroids" "[LMatroidDesk$Matroid;") ∈ px_all := List.mem_append_right _ (List.mem_append_right _ (List.mem_append_right _ (List.mem_append_right _ (List.mem_append_right _ (List.mem_append_right _ (List.mem_append_right _ (List.mem_append_right _ (List.mem_append_right _ (List.mem_append_right _ (List.mem_append_left _ (List.mem_of_getElem? (l := px_all_10) (i := 16) rfl)))))))))))
theorem px_w217 : (Jvm.Cond.fieldLink "MatroidDesk" (36 : Nat) "MatroidDesk" "entries" "[I") ∈ px_all := List.mem_append_right _ (List.mem_append_right _ (List.mem_append_right _ (List.mem_append_right _ (List.mem_append_right _ (List.mem_append_right _ (List.mem_append_right _ (List.mem_append_right _ (List.mem_append_right _ (List.mem_append_right _ (List.mem_append_left _ (List.mem_of_getElem? (l := px_all_10) (i := 17) rfl)))))))))))
theorem px_w218 : (Jvm.Cond.classLink "MatroidDesk" (40 : Nat) "MatroidDesk$Orders") ∈ px_all := List.mem_append_right _ (List.mem_append_right _ (List.mem_append_right _ (List.mem_append_right _ (List.mem_append_right _ (List.mem_append_right _ (List.mem_append_right _ (List.mem_append_right _ (List.mem_append_right _ (List.mem_append_right _ (List.mem_append_left _ (List.mem_of_getElem? (l := px_all_10) (i := 18) rfl)))))))))))
theorem px_w219 : (Jvm.Cond.methodLink "MatroidDesk" (42 : Nat) ({ cls := "MatroidDesk$Orders", name := "<init>", desc := "()V" } : Jvm.MethodName)) ∈ px_all := List.mem_append_right _ (List.mem_append_right _ (List.mem_append_right _ (List.mem_append_right _ (List.mem_append_right _ (List.mem_append_right _ (List.mem_append_right _ (List.mem_append_right _ (List.mem_append_right _ (List.mem_append_right _ (List.mem_append_left _ (List.mem_of_getElem? (l := px_all_10) (i := 19) rfl)))))))))))
theorem px_w220 : (Jvm.Cond.fieldLink "MatroidDesk" (43 : Nat) "MatroidDesk" "orders" "LMatroidDesk$Orders;") ∈ px_all := List.mem_append_right _ (List.mem_append_right _ (List.mem_append_right _ (List.mem_append_right _ (List.mem_append_right _ (List.mem_append_right _ (List.mem_append_right _ (List.mem_append_right _ (List.mem_append_right _ (List.mem_append_right _ (List.mem_append_right _ (List.mem_append_left _ (List.mem_of_getElem? (l := px_all_11) (i := 0) rfl))))))))))))
theorem px_w221 : (Jvm.Cond.classLink "MatroidDesk" (47 : Nat) "MatroidDesk$Minors") ∈ px_all := List.mem_append_right _ (List.mem_append_right _ (List.mem_append_right _ (List.mem_append_right _ (List.mem_append_right _ (List.mem_append_right _ (List.mem_append_right _ (List.mem_append_right _ (List.mem_append_right _ (List.mem_append_right _ (List.mem_append_right _ (List.mem_append_left _ (List.mem_of_getElem? (l := px_all_11) (i := 1) rfl))))))))))))
theorem px_w222 : (Jvm.Cond.methodLink "MatroidDesk" (49 : Nat) ({ cls := "MatroidDesk$Minors", name := "<init>", desc := "(LMatroidDesk$Orders;)V" } : Jvm.MethodName)) ∈ px_all := List.mem_append_right _ (List.mem_append_right _ (List.mem_append_right _ (List.mem_append_right _ (List.mem_append_right _ (List.mem_append_right _ (List.mem_append_right _ (List.mem_append_right _ (List.mem_append_right _ (List.mem_append_right _ (List.mem_append_right _ (List.mem_append_left _ (List.mem_of_getElem? (l := px_all_11) (i := 2) rfl))))))))))))
theorem px_w223 : (Jvm.Cond.fieldLink "MatroidDesk" (52 : Nat) "MatroidDesk" "minors" "LMatroidDesk$Minors;") ∈ px_all := List.mem_append_right _ (List.mem_append_right _ (List.mem_append_right _ (List.mem_append_right _ (List.mem_append_right _ (List.mem_append_right _ (List.mem_append_right _ (List.mem_append_right _ (List.mem_append_right _ (List.mem_append_right _ (List.mem_append_right _ (List.mem_append_left _ (List.mem_of_getElem? (l := px_all_11) (i := 3) rfl))))))))))))
theorem px_w224 : (Jvm.Cond.classLink "MatroidDesk" (56 : Nat) "MatroidDesk$Witness") ∈ px_all := List.mem_append_right _ (List.mem_append_right _ (List.mem_append_right _ (List.mem_append_right _ (List.mem_append_right _ (List.mem_append_right _ (List.mem_append_right _ (List.mem_append_right _ (List.mem_append_right _ (List.mem_append_right _ (List.mem_append_right _ (List.mem_append_left _ (List.mem_of_getElem? (l := px_all_11) (i := 4) rfl))))))))))))
theorem px_w225 : (Jvm.Cond.methodLink "MatroidDesk" (58 : Nat) ({ cls := "MatroidDesk$Witness", name := "<init>", desc := "(LMatroidDesk$Orders;)V" } : Jvm.MethodName)) ∈ px_all := List.mem_append_right _ (List.mem_append_right _ (List.mem_append_right _ (List.mem_append_right _ (List.mem_append_right _ (List.mem_append_right _ (List.mem_append_right _ (List.mem_append_right _ (List.mem_append_right _ (List.mem_append_right _ (List.mem_append_right _ (List.mem_append_left _ (List.mem_of_getElem? (l := px_all_11) (i := 5) rfl))))))))))))
theorem px_w226 : (Jvm.Cond.fieldLink "MatroidDesk" (59 : Nat) "MatroidDesk" "witness" "LMatroidDesk$Witness;") ∈ px_all := List.mem_append_right _ (List.mem_append_right _ (List.mem_append_right _ (List.mem_append_right _ (List.mem_append_right _ (List.mem_append_right _ (List.mem_append_right _ (List.mem_append_right _ (List.mem_append_right _ (List.mem_append_right _ (List.mem_append_right _ (List.mem_append_left _ (List.mem_of_getElem? (l := px_all_11) (i := 6) rfl))))))))))))
theorem px_w227 : (Jvm.Cond.classLink "MatroidDesk" (63 : Nat) "MatroidDesk$Tokens") ∈ px_all := List.mem_append_right _ (List.mem_append_right _ (List.mem_append_right _ (List.mem_append_right _ (List.mem_append_right _ (List.mem_append_right _ (List.mem_append_right _ (List.mem_append_right _ (List.mem_append_right _ (List.mem_append_right _ (List.mem_append_right _ (List.mem_append_left _ (List.mem_of_getElem? (l := px_all_11) (i := 7) rfl))))))))))))
theorem px_w228 : (Jvm.Cond.methodLink "MatroidDesk" (65 : Nat) ({ cls := "MatroidDesk$Tokens", name := "<init>", desc := "()V" } : Jvm.MethodName)) ∈ px_all := List.mem_append_right _ (List.mem_append_right _ (List.mem_append_right _ (List.mem_append_right _ (List.mem_append_right _ (List.mem_append_right _ (List.mem_append_right _ (List.mem_append_right _ (List.mem_append_right _ (List.mem_append_right _ (List.mem_append_right _ (List.mem_append_left _ (List.mem_of_getElem? (l := px_all_11) (i := 8) rfl))))))))))))
theorem px_w229 : (Jvm.Cond.fieldLink "MatroidDesk" (66 : Nat) "MatroidDesk" "tokens" "LMatroidDesk$Tokens;") ∈ px_all := List.mem_append_right _ (List.mem_append_right _ (List.mem_append_right _ (List.mem_append_right _ (List.mem_append_right _ (List.mem_append_right _ (List.mem_append_right _ (List.mem_append_right _ (List.mem_append_right _ (List.mem_append_right _ (List.mem_append_right _ (List.mem_append_left _ (List.mem_of_getElem? (l := px_all_11) (i := 9) rfl))))))))))))
theorem px_w230 : (Jvm.Cond.classLink "MatroidDesk" (70 : Nat) "MatroidDesk$Statement") ∈ px_all := List.mem_append_right _ (List.mem_append_right _ (List.mem_append_right _ (List.mem_append_right _ (List.mem_append_right _ (List.mem_append_right _ (List.mem_append_right _ (List.mem_append_right _ (List.mem_append_right _ (List.mem_append_right _ (List.mem_append_right _ (List.mem_append_left _ (List.mem_of_getElem? (l := px_all_11) (i := 10) rfl))))))))))))
theorem px_w231 : (Jvm.Cond.methodLink "MatroidDesk" (72 : Nat) ({ cls := "MatroidDesk$Statement", name := "<init>", desc := "(LMatroidDesk$Tokens;)V" } : Jvm.MethodName)) ∈ px_all := List.mem_append_right _ (List.mem_append_right _ (List.mem_append_right _ (List.mem_append_right _ (List.mem_append_right _ (List.mem_append_right _ (List.mem_append_right _ (List.mem_append_right _ (List.mem_append_right _ (List.mem_append_right _ (List.mem_append_right _ (List.mem_append_left _ (List.mem_of_getElem? (l := px_all_11) (i := 11) rfl))))))))))))
theorem px_w232 : (Jvm.Cond.fieldLink "MatroidDesk" (75 : Nat) "MatroidDesk" "statement" "LMatroidDesk$Statement;") ∈ px_all := List.mem_append_right _ (List.mem_append_right _ (List.mem_append_right _ (List.mem_append_right _ (List.mem_append_right _ (List.mem_append_right _ (List.mem_append_right _ (List.mem_append_right _ (List.mem_append_right _ (List.mem_append_right _ (List.mem_append_right _ (List.mem_append_left _ (List.mem_of_getElem? (l := px_all_11) (i := 12) rfl))))))))))))
theorem px_w233 : (Jvm.Cond.classLink "MatroidDesk" (79 : Nat) "MatroidDesk$Product") ∈ px_all := List.mem_append_right _ (List.mem_append_right _ (List.mem_append_right _ (List.mem_append_right _ (List.mem_append_right _ (List.mem_append_right _ (List.mem_append_right _ (List.mem_append_right _ (List.mem_append_right _ (List.mem_append_right _ (List.mem_append_right _ (List.mem_append_left _ (List.mem_of_getElem? (l := px_all_11) (i := 13) rfl))))))))))))
theorem px_w234 : (Jvm.Cond.methodLink "MatroidDesk" (81 : Nat) ({ cls := "MatroidDesk$Product", name := "<init>", desc := "()V" } : Jvm.MethodName)) ∈ px_all := List.mem_append_right _ (List.mem_append_right _ (List.mem_append_right _ (List.mem_append_right _ (List.mem_append_right _ (List.mem_append_right _ (List.mem_append_right _ (List.mem_append_right _ (List.mem_append_right _ (List.mem_append_right _ (List.mem_append_right _ (List.mem_append_left _ (List.mem_of_getElem? (l := px_all_11) (i := 14) rfl))))))))))))
theorem px_w235 : (Jvm.Cond.fieldLink "MatroidDesk" (82 : Nat) "MatroidDesk" "product" "LMatroidDesk$Product;") ∈ px_all := List.mem_append_right _ (List.mem_append_right _ (List.mem_append_right _ (List.mem_append_right _ (List.mem_append_right _ (List.mem_append_right _ (List.mem_append_right _ (List.mem_append_right _ (List.mem_append_right _ (List.mem_append_right _ (List.mem_append_right _ (List.mem_append_left _ (List.mem_of_getElem? (l := px_all_11) (i := 15) rfl))))))))))))
theorem px_w236 : (Jvm.Cond.code ({ cls := "MatroidDeskModel$Num", name := "<init>", desc := "()V" } : Jvm.MethodName) prog_16_method_1_code (1 : Nat) (Option.none : Option Jvm.ClassFile.FieldType)) ∈ px_all := List.mem_append_right _ (List.mem_append_right _ (List.mem_append_right _ (List.mem_append_right _ (List.mem_append_right _ (List.mem_append_right _ (List.mem_append_right _ (List.mem_append_right _ (List.mem_append_right _ (List.mem_append_right _ (List.mem_append_right _ (List.mem_append_left _ (List.mem_of_getElem? (l := px_all_11) (i := 16) rfl))))))))))))
theorem px_w237 : (Jvm.Cond.instanceMethod ({ cls := "MatroidDeskModel$Num", name := "<init>", desc := "()V" } : Jvm.MethodName)) ∈ px_all := List.mem_append_right _ (List.mem_append_right _ (List.mem_append_right _ (List.mem_append_right _ (List.mem_append_right _ (List.mem_append_right _ (List.mem_append_right _ (List.mem_append_right _ (List.mem_append_right _ (List.mem_append_right _ (List.mem_append_right _ (List.mem_append_left _ (List.mem_of_getElem? (l := px_all_11) (i := 17) rfl))))))))))))
theorem px_w238 : (Jvm.Cond.methodLink "MatroidDeskModel$Num" (1 : Nat) ({ cls := "java/lang/Object", name := "<init>", desc := "()V" } : Jvm.MethodName)) ∈ px_all := List.mem_append_right _ (List.mem_append_right _ (List.mem_append_right _ (List.mem_append_right _ (List.mem_append_right _ (List.mem_append_right _ (List.mem_append_right _ (List.mem_append_right _ (List.mem_append_right _ (List.mem_append_right _ (List.mem_append_right _ (List.mem_append_left _ (List.mem_of_getElem? (l := px_all_11) (i := 18) rfl))))))))))))
theorem px_w239 : (Jvm.Cond.fieldLink "MatroidDeskModel$Num" (7 : Nat) "MatroidDeskModel$Num" "d" "[I") ∈ px_all := List.mem_append_right _ (List.mem_append_right _ (List.mem_append_right _ (List.mem_append_right _ (List.mem_append_right _ (List.mem_append_right _ (List.mem_append_right _ (List.mem_append_right _ (List.mem_append_right _ (List.mem_append_right _ (List.mem_append_right _ (List.mem_append_left _ (List.mem_of_getElem? (l := px_all_11) (i := 19) rfl))))))))))))
theorem px_w240 : (Jvm.Cond.code ({ cls := "MatroidDeskModel", name := "list", desc := "(IIII)I" } : Jvm.MethodName) prog_15_method_18_code (7 : Nat) (Option.some Jvm.ClassFile.FieldType.int)) ∈ px_all := List.mem_append_right _ (List.mem_append_right _ (List.mem_append_right _ (List.mem_append_right _ (List.mem_append_right _ (List.mem_append_right _ (List.mem_append_right _ (List.mem_append_right _ (List.mem_append_right _ (List.mem_append_right _ (List.mem_append_right _ (List.mem_append_right _ (List.mem_append_left _ (List.mem_of_getElem? (l := px_all_12) (i := 0) rfl)))))))))))))
theorem px_w241 : (Jvm.Cond.instanceMethod ({ cls := "MatroidDeskModel", name := "list", desc := "(IIII)I" } : Jvm.MethodName)) ∈ px_all := List.mem_append_right _ (List.mem_append_right _ (List.mem_append_right _ (List.mem_append_right _ (List.mem_append_right _ (List.mem_append_right _ (List.mem_append_right _ (List.mem_append_right _ (List.mem_append_right _ (List.mem_append_right _ (List.mem_append_right _ (List.mem_append_right _ (List.mem_append_left _ (List.mem_of_getElem? (l := px_all_12) (i := 1) rfl)))))))))))))
theorem px_w242 : (Jvm.Cond.selects "MatroidDeskModel" ({ cls := "MatroidDeskModel", name := "list", desc := "(IIII)I" } : Jvm.MethodName) ({ cls := "MatroidDeskModel", name := "list", desc := "(IIII)I" } : Jvm.MethodName)) ∈ px_all := List.mem_append_right _ (List.mem_append_right _ (List.mem_append_right _ (List.mem_append_right _ (List.mem_append_right _ (List.mem_append_right _ (List.mem_append_right _ (List.mem_append_right _ (List.mem_append_right _ (List.mem_append_right _ (List.mem_append_right _ (List.mem_append_right _ (List.mem_append_left _ (List.mem_of_getElem? (l := px_all_12) (i := 2) rfl)))))))))))))
theorem px_w243 : (Jvm.Cond.fieldLink "MatroidDeskModel" (184 : Nat) "MatroidDeskModel" "order" "[I") ∈ px_all := List.mem_append_right _ (List.mem_append_right _ (List.mem_append_right _ (List.mem_append_right _ (List.mem_append_right _ (List.mem_append_right _ (List.mem_append_right _ (List.mem_append_right _ (List.mem_append_right _ (List.mem_append_right _ (List.mem_append_right _ (List.mem_append_right _ (List.mem_append_left _ (List.mem_of_getElem? (l := px_all_12) (i := 3) rfl)))))))))))))
theorem px_w244 : (Jvm.Cond.methodLink "MatroidDeskModel" (228 : Nat) ({ cls := "MatroidDeskModel", name := "list", desc := "(IIII)I" } : Jvm.MethodName)) ∈ px_all := List.mem_append_right _ (List.mem_append_right _ (List.mem_append_right _ (List.mem_append_right _ (List.mem_append_right _ (List.mem_append_right _ (List.mem_append_right _ (List.mem_append_right _ (List.mem_append_right _ (List.mem_append_right _ (List.mem_append_right _ (List.mem_append_right _ (List.mem_append_left _ (List.mem_of_getElem? (l := px_all_12) (i := 4) rfl)))))))))))))
theorem px_w245 : (Jvm.Cond.fieldLink "MatroidDeskModel" (187 : Nat) "MatroidDeskModel" "sizes" "[I") ∈ px_all := List.mem_append_right _ (List.mem_append_right _ (List.mem_append_right _ (List.mem_append_right _ (List.mem_append_right _ (List.mem_append_right _ (List.mem_append_right _ (List.mem_append_right _ (List.mem_append_right _ (List.mem_append_right _ (List.mem_append_right _ (List.mem_append_right _ (List.mem_append_left _ (List.mem_of_getElem? (l := px_all_12) (i := 5) rfl)))))))))))))
theorem px_w246 : (Jvm.Cond.code ({ cls := "MatroidDeskModel", name := "<init>", desc := "()V" } : Jvm.MethodName) prog_15_method_17_code (3 : Nat) (Option.none : Option Jvm.ClassFile.FieldType)) ∈ px_all := List.mem_append_right _ (List.mem_append_right _ (List.mem_append_right _ (List.mem_append_right _ (List.mem_append_right _ (List.mem_append_right _ (List.mem_append_right _ (List.mem_append_right _ (List.mem_append_right _ (List.mem_append_right _ (List.mem_append_right _ (List.mem_append_right _ (List.mem_append_left _ (List.mem_of_getElem? (l := px_all_12) (i := 6) rfl)))))))))))))
theorem px_w247 : (Jvm.Cond.instanceMethod ({ cls := "MatroidDeskModel", name := "<init>", desc := "()V" } : Jvm.MethodName)) ∈ px_all := List.mem_append_right _ (List.mem_append_right _ (List.mem_append_right _ (List.mem_append_right _ (List.mem_append_right _ (List.mem_append_right _ (List.mem_append_right _ (List.mem_append_right _ (List.mem_append_right _ (List.mem_append_right _ (List.mem_append_right _ (List.mem_append_right _ (List.mem_append_left _ (List.mem_of_getElem? (l := px_all_12) (i := 7) rfl)))))))))))))
theorem px_w248 : (Jvm.Cond.methodLink "MatroidDeskModel" (147 : Nat) ({ cls := "java/lang/Object", name := "<init>", desc := "()V" } : Jvm.MethodName)) ∈ px_all := List.mem_append_right _ (List.mem_append_right _ (List.mem_append_right _ (List.mem_append_right _ (List.mem_append_right _ (List.mem_append_right _ (List.mem_append_right _ (List.mem_append_right _ (List.mem_append_right _ (List.mem_append_right _ (List.mem_append_right _ (List.mem_append_right _ (List.mem_append_left _ (List.mem_of_getElem? (l := px_all_12) (i := 8) rfl)))))))))))))
theorem px_w249 : (Jvm.Cond.classLink "MatroidDeskModel" (8 : Nat) "MatroidDeskModel$Num") ∈ px_all := List.mem_append_right _ (List.mem_append_right _ (List.mem_append_right _ (List.mem_append_right _ (List.mem_append_right _ (List.mem_append_right _ (List.mem_append_right _ (List.mem_append_right _ (List.mem_append_right _ (List.mem_append_right _ (List.mem_append_right _ (List.mem_append_right _ (List.mem_append_left _ (List.mem_of_getElem? (l := px_all_12) (i := 9) rfl)))))))))))))
theorem px_w250 : (Jvm.Cond.fieldLink "MatroidDeskModel" (58 : Nat) "MatroidDeskModel" "one" "LMatroidDeskModel$Num;") ∈ px_all := List.mem_append_right _ (List.mem_append_right _ (List.mem_append_right _ (List.mem_append_right _ (List.mem_append_right _ (List.mem_append_right _ (List.mem_append_right _ (List.mem_append_right _ (List.mem_append_right _ (List.mem_append_right _ (List.mem_append_right _ (List.mem_append_right _ (List.mem_append_left _ (List.mem_of_getElem? (l := px_all_12) (i := 10) rfl)))))))))))))
theorem px_w251 : (Jvm.Cond.fieldLink "MatroidDeskModel" (27 : Nat) "MatroidDeskModel" "two" "LMatroidDeskModel$Num;") ∈ px_all := List.mem_append_right _ (List.mem_append_right _ (List.mem_append_right _ (List.mem_append_right _ (List.mem_append_right _ (List.mem_append_right _ (List.mem_append_right _ (List.mem_append_right _ (List.mem_append_right _ (List.mem_append_right _ (List.mem_append_right _ (List.mem_append_right _ (List.mem_append_left _ (List.mem_of_getElem? (l := px_all_12) (i := 11) rfl)))))))))))))
theorem px_w252 : (Jvm.Cond.fieldLink "MatroidDeskModel" (24 : Nat) "MatroidDeskModel" "three" "LMatroidDeskModel$Num;") ∈ px_all := List.mem_append_right _ (List.mem_append_right _ (List.mem_append_right _ (List.mem_append_right _ (List.mem_append_right _ (List.mem_append_right _ (List.mem_append_right _ (List.mem_append_right _ (List.mem_append_right _ (List.mem_append_right _ (List.mem_append_right _ (List.mem_append_right _ (List.mem_append_left _ (List.mem_of_getElem? (l := px_all_12) (i := 12) rfl)))))))))))))
theorem px_w253 : (Jvm.Cond.fieldLink "MatroidDeskModel" (17 : Nat) "MatroidDeskModel" "four" "LMatroidDeskModel$Num;") ∈ px_all := List.mem_append_right _ (List.mem_append_right _ (List.mem_append_right _ (List.mem_append_right _ (List.mem_append_right _ (List.mem_append_right _ (List.mem_append_right _ (List.mem_append_right _ (List.mem_append_right _ (List.mem_append_right _ (List.mem_append_right _ (List.mem_append_right _ (List.mem_append_left _ (List.mem_of_getElem? (l := px_all_12) (i := 13) rfl)))))))))))))
theorem px_w254 : (Jvm.Cond.fieldLink "MatroidDeskModel" (1 : Nat) "MatroidDeskModel" "five" "LMatroidDeskModel$Num;") ∈ px_all := List.mem_append_right _ (List.mem_append_right _ (List.mem_append_right _ (List.mem_append_right _ (List.mem_append_right _ (List.mem_append_right _ (List.mem_append_right _ (List.mem_append_right _ (List.mem_append_right _ (List.mem_append_right _ (List.mem_append_right _ (List.mem_append_right _ (List.mem_append_left _ (List.mem_of_getElem? (l := px_all_12) (i := 14) rfl)))))))))))))
theorem px_w255 : (Jvm.Cond.fieldLink "MatroidDeskModel" (65 : Nat) "MatroidDeskModel" "six" "LMatroidDeskModel$Num;") ∈ px_all := List.mem_append_right _ (List.mem_append_right _ (List.mem_append_right _ (List.mem_append_right _ (List.mem_append_right _ (List.mem_append_right _ (List.mem_append_right _ (List.mem_append_right _ (List.mem_append_right _ (List.mem_append_right _ (List.mem_append_right _ (List.mem_append_right _ (List.mem_append_left _ (List.mem_of_getElem? (l := px_all_12) (i := 15) rfl)))))))))))))
theorem px_w256 : (Jvm.Cond.fieldLink "MatroidDeskModel" (68 : Nat) "MatroidDeskModel" "seven" "LMatroidDeskModel$Num;") ∈ px_all := List.mem_append_right _ (List.mem_append_right _ (List.mem_append_right _ (List.mem_append_right _ (List.mem_append_right _ (List.mem_append_right _ (List.mem_append_right _ (List.mem_append_right _ (List.mem_append_right _ (List.mem_append_right _ (List.mem_append_right _ (List.mem_append_right _ (List.mem_append_left _ (List.mem_of_getElem? (l := px_all_12) (i := 16) rfl)))))))))))))
theorem px_w257 : (Jvm.Cond.fieldLink "MatroidDeskModel" (82 : Nat) "MatroidDeskModel" "eight" "LMatroidDeskModel$Num;") ∈ px_all := List.mem_append_right _ (List.mem_append_right _ (List.mem_append_right _ (List.mem_append_right _ (List.mem_append_right _ (List.mem_append_right _ (List.mem_append_right _ (List.mem_append_right _ (List.mem_append_right _ (List.mem_append_right _ (List.mem_append_right _ (List.mem_append_right _ (List.mem_append_left _ (List.mem_of_getElem? (l := px_all_12) (i := 17) rfl)))))))))))))
theorem px_w258 : (Jvm.Cond.fieldLink "MatroidDeskModel" (34 : Nat) "MatroidDeskModel" "work" "[LMatroidDeskModel$Num;") ∈ px_all := List.mem_append_right _ (List.mem_append_right _ (List.mem_append_right _ (List.mem_append_right _ (List.mem_append_right _ (List.mem_append_right _ (List.mem_append_right _ (List.mem_append_right _ (List.mem_append_right _ (List.mem_append_right _ (List.mem_append_right _ (List.mem_append_right _ (List.mem_append_left _ (List.mem_of_getElem? (l := px_all_12) (i := 18) rfl)))))))))))))
theorem px_w259 : (Jvm.Cond.fieldLink "MatroidDeskModel" (55 : Nat) "MatroidDeskModel" "small" "[I") ∈ px_all := List.mem_append_right _ (List.mem_append_right _ (List.mem_append_right _ (List.mem_append_right _ (List.mem_append_right _ (List.mem_append_right _ (List.mem_append_right _ (List.mem_append_right _ (List.mem_append_right _ (List.mem_append_right _ (List.mem_append_right _ (List.mem_append_right _ (List.mem_append_left _ (List.mem_of_getElem? (l := px_all_12) (i := 19) rfl)))))))))))))
theorem px_w260 : (Jvm.Cond.fieldLink "MatroidDeskModel" (108 : Nat) "MatroidDeskModel" "pivots" "[I") ∈ px_all := List.mem_append_right _ (List.mem_append_right _ (List.mem_append_right _ (List.mem_append_right _ (List.mem_append_right _ (List.mem_append_right _ (List.mem_append_right _ (List.mem_append_right _ (List.mem_append_right _ (List.mem_append_right _ (List.mem_append_right _ (List.mem_append_right _ (List.mem_append_right _ (List.mem_append_left _ (List.mem_of_getElem? (l := px_all_13) (i := 0) rfl))))))))))))))
theorem px_w261 : (Jvm.Cond.fieldLink "MatroidDeskModel" (120 : Nat) "MatroidDeskModel" "freeRows" "[I") ∈ px_all := List.mem_append_right _ (List.mem_append_right _ (List.mem_append_right _ (List.mem_append_right _ (List.mem_append_right _ (List.mem_append_right _ (List.mem_append_right _ (List.mem_append_right _ (List.mem_append_right _ (List.mem_append_right _ (List.mem_append_right _ (List.mem_append_right _ (List.mem_append_right _ (List.mem_append_left _ (List.mem_of_getElem? (l := px_all_13) (i := 1) rfl))))))))))))))
theorem px_w262 : (Jvm.Cond.fieldLink "MatroidDeskModel" (117 : Nat) "MatroidDeskModel" "freeColumns" "[I") ∈ px_all := List.mem_append_right _ (List.mem_append_right _ (List.mem_append_right _ (List.mem_append_right _ (List.mem_append_right _ (List.mem_append_right _ (List.mem_append_right _ (List.mem_append_right _ (List.mem_append_right _ (List.mem_append_right _ (List.mem_append_right _ (List.mem_append_right _ (List.mem_append_right _ (List.mem_append_left _ (List.mem_of_getElem? (l := px_all_13) (i := 2) rfl))))))))))))))
theorem px_w263 : (Jvm.Cond.fieldLink "MatroidDeskModel" (140 : Nat) "MatroidDeskModel" "minor" "[LMatroidDeskModel$Num;") ∈ px_all := List.mem_append_right _ (List.mem_append_right _ (List.mem_append_right _ (List.mem_append_right _ (List.mem_append_right _ (List.mem_append_right _ (List.mem_append_right _ (List.mem_append_right _ (List.mem_append_right _ (List.mem_append_right _ (List.mem_append_right _ (List.mem_append_right _ (List.mem_append_right _ (List.mem_append_left _ (List.mem_of_getElem? (l := px_all_13) (i := 3) rfl))))))))))))))
theorem px_w264 : (Jvm.Cond.fieldLink "MatroidDeskModel" (137 : Nat) "MatroidDeskModel" "smallMinor" "[I") ∈ px_all := List.mem_append_right _ (List.mem_append_right _ (List.mem_append_right _ (List.mem_append_right _ (List.mem_append_right _ (List.mem_append_right _ (List.mem_append_right _ (List.mem_append_right _ (List.mem_append_right _ (List.mem_append_right _ (List.mem_append_right _ (List.mem_append_right _ (List.mem_append_right _ (List.mem_append_left _ (List.mem_of_getElem? (l := px_all_13) (i := 4) rfl))))))))))))))
theorem px_w265 : (Jvm.Cond.fieldLink "MatroidDeskModel" (153 : Nat) "MatroidDeskModel" "there" "[Z") ∈ px_all := List.mem_append_right _ (List.mem_append_right _ (List.mem_append_right _ (List.mem_append_right _ (List.mem_append_right _ (List.mem_append_right _ (List.mem_append_right _ (List.mem_append_right _ (List.mem_append_right _ (List.mem_append_right _ (List.mem_append_right _ (List.mem_append_right _ (List.mem_append_right _ (List.mem_append_left _ (List.mem_of_getElem? (l := px_all_13) (i := 5) rfl))))))))))))))
theorem px_w266 : (Jvm.Cond.fieldLink "MatroidDeskModel" (157 : Nat) "MatroidDeskModel" "elements" "[I") ∈ px_all := List.mem_append_right _ (List.mem_append_right _ (List.mem_append_right _ (List.mem_append_right _ (List.mem_append_right _ (List.mem_append_right _ (List.mem_append_right _ (List.mem_append_right _ (List.mem_append_right _ (List.mem_append_right _ (List.mem_append_right _ (List.mem_append_right _ (List.mem_append_right _ (List.mem_append_left _ (List.mem_of_getElem? (l := px_all_13) (i := 6) rfl))))))))))))))
theorem px_w267 : (Jvm.Cond.fieldLink "MatroidDeskModel" (160 : Nat) "MatroidDeskModel" "fields" "[I") ∈ px_all := List.mem_append_right _ (List.mem_append_right _ (List.mem_append_right _ (List.mem_append_right _ (List.mem_append_right _ (List.mem_append_right _ (List.mem_append_right _ (List.mem_append_right _ (List.mem_append_right _ (List.mem_append_right _ (List.mem_append_right _ (List.mem_append_right _ (List.mem_append_right _ (List.mem_append_left _ (List.mem_of_getElem? (l := px_all_13) (i := 7) rfl))))))))))))))
theorem px_w268 : (Jvm.Cond.fieldLink "MatroidDeskModel" (163 : Nat) "MatroidDeskModel" "ranks" "[I") ∈ px_all := List.mem_append_right _ (List.mem_append_right _ (List.mem_append_right _ (List.mem_append_right _ (List.mem_append_right _ (List.mem_append_right _ (List.mem_append_right _ (List.mem_append_right _ (List.mem_append_right _ (List.mem_append_right _ (List.mem_append_right _ (List.mem_append_right _ (List.mem_append_right _ (List.mem_append_left _ (List.mem_of_getElem? (l := px_all_13) (i := 8) rfl))))))))))))))
theorem px_w269 : (Jvm.Cond.constant "MatroidDeskModel" (166 : Nat) (89856 : Int32)) ∈ px_all := List.mem_append_right _ (List.mem_append_right _ (List.mem_append_right _ (List.mem_append_right _ (List.mem_append_right _ (List.mem_append_right _ (List.mem_append_right _ (List.mem_append_right _ (List.mem_append_right _ (List.mem_append_right _ (List.mem_append_right _ (List.mem_append_right _ (List.mem_append_right _ (List.mem_append_left _ (List.mem_of_getElem? (l := px_all_13) (i := 9) rfl))))))))))))))
theorem px_w270 : (Jvm.Cond.fieldLink "MatroidDeskModel" (167 : Nat) "MatroidDeskModel" "kept" "[I") ∈ px_all := List.mem_append_right _ (List.mem_append_right _ (List.mem_append_right _ (List.mem_append_right _ (List.mem_append_right _ (List.mem_append_right _ (List.mem_append_right _ (List.mem_append_right _ (List.mem_append_right _ (List.mem_append_right _ (List.mem_append_right _ (List.mem_append_right _ (List.mem_append_right _ (List.mem_append_left _ (List.mem_of_getElem? (l := px_all_13) (i := 10) rfl))))))))))))))
theorem px_w271 : (Jvm.Cond.fieldLink "MatroidDeskModel" (170 : Nat) "MatroidDeskModel" "keptSmall" "[I") ∈ px_all := List.mem_append_right _ (List.mem_append_right _ (List.mem_append_right _ (List.mem_append_right _ (List.mem_append_right _ (List.mem_append_right _ (List.mem_append_right _ (List.mem_append_right _ (List.mem_append_right _ (List.mem_append_right _ (List.mem_append_right _ (List.mem_append_right _ (List.mem_append_right _ (List.mem_append_left _ (List.mem_of_getElem? (l := px_all_13) (i := 11) rfl))))))))))))))
theorem px_w272 : (Jvm.Cond.fieldLink "MatroidDeskModel" (173 : Nat) "MatroidDeskModel" "weights" "[I") ∈ px_all := List.mem_append_right _ (List.mem_append_right _ (List.mem_append_right _ (List.mem_append_right _ (List.mem_append_right _ (List.mem_append_right _ (List.mem_append_right _ (List.mem_append_right _ (List.mem_append_right _ (List.mem_append_right _ (List.mem_append_right _ (List.mem_append_right _ (List.mem_append_right _ (List.mem_append_left _ (List.mem_of_getElem? (l := px_all_13) (i := 12) rfl))))))))))))))
theorem px_w273 : (Jvm.Cond.constant "MatroidDeskModel" (176 : Nat) (106496 : Int32)) ∈ px_all := List.mem_append_right _ (List.mem_append_right _ (List.mem_append_right _ (List.mem_append_right _ (List.mem_append_right _ (List.mem_append_right _ (List.mem_append_right _ (List.mem_append_right _ (List.mem_append_right _ (List.mem_append_right _ (List.mem_append_right _ (List.mem_append_right _ (List.mem_append_right _ (List.mem_append_left _ (List.mem_of_getElem? (l := px_all_13) (i := 13) rfl))))))))))))))
theorem px_w274 : (Jvm.Cond.fieldLink "MatroidDeskModel" (177 : Nat) "MatroidDeskModel" "rankOf" "[B") ∈ px_all := List.mem_append_right _ (List.mem_append_right _ (List.mem_append_right _ (List.mem_append_right _ (List.mem_append_right _ (List.mem_append_right _ (List.mem_append_right _ (List.mem_append_right _ (List.mem_append_right _ (List.mem_append_right _ (List.mem_append_right _ (List.mem_append_right _ (List.mem_append_right _ (List.mem_append_left _ (List.mem_of_getElem? (l := px_all_13) (i := 14) rfl))))))))))))))
theorem px_w275 : (Jvm.Cond.fieldLink "MatroidDeskModel" (181 : Nat) "MatroidDeskModel" "signOf" "[B") ∈ px_all := List.mem_append_right _ (List.mem_append_right _ (List.mem_append_right _ (List.mem_append_right _ (List.mem_append_right _ (List.mem_append_right _ (List.mem_append_right _ (List.mem_append_right _ (List.mem_append_right _ (List.mem_append_right _ (List.mem_append_right _ (List.mem_append_right _ (List.mem_append_right _ (List.mem_append_left _ (List.mem_of_getElem? (l := px_all_13) (i := 15) rfl))))))))))))))
theorem px_w276 : (Jvm.Cond.fieldLink "MatroidDeskModel" (190 : Nat) "MatroidDeskModel" "coefficients" "[J") ∈ px_all := List.mem_append_right _ (List.mem_append_right _ (List.mem_append_right _ (List.mem_append_right _ (List.mem_append_right _ (List.mem_append_right _ (List.mem_append_right _ (List.mem_append_right _ (List.mem_append_right _ (List.mem_append_right _ (List.mem_append_right _ (List.mem_append_right _ (List.mem_append_right _ (List.mem_append_left _ (List.mem_of_getElem? (l := px_all_13) (i := 16) rfl))))))))))))))
theorem px_w277 : (Jvm.Cond.fieldLink "MatroidDeskModel" (194 : Nat) "MatroidDeskModel" "choices" "[J") ∈ px_all := List.mem_append_right _ (List.mem_append_right _ (List.mem_append_right _ (List.mem_append_right _ (List.mem_append_right _ (List.mem_append_right _ (List.mem_append_right _ (List.mem_append_right _ (List.mem_append_right _ (List.mem_append_right _ (List.mem_append_right _ (List.mem_append_right _ (List.mem_append_right _ (List.mem_append_left _ (List.mem_of_getElem? (l := px_all_13) (i := 17) rfl))))))))))))))
theorem px_w278 : (Jvm.Cond.fieldLink "MatroidDeskModel" (197 : Nat) "MatroidDeskModel" "sorted" "[I") ∈ px_all := List.mem_append_right _ (List.mem_append_right _ (List.mem_append_right _ (List.mem_append_right _ (List.mem_append_right _ (List.mem_append_right _ (List.mem_append_right _ (List.mem_append_right _ (List.mem_append_right _ (List.mem_append_right _ (List.mem_append_right _ (List.mem_append_right _ (List.mem_append_right _ (List.mem_append_left _ (List.mem_of_getElem? (l := px_all_13) (i := 18) rfl))))))))))))))
theorem px_w279 : (Jvm.Cond.fieldLink "MatroidDeskModel" (200 : Nat) "MatroidDeskModel" "images" "[I") ∈ px_all := List.mem_append_right _ (List.mem_append_right _ (List.mem_append_right _ (List.mem_append_right _ (List.mem_append_right _ (List.mem_append_right _ (List.mem_append_right _ (List.mem_append_right _ (List.mem_append_right _ (List.mem_append_right _ (List.mem_append_right _ (List.mem_append_right _ (List.mem_append_right _ (List.mem_append_left _ (List.mem_of_getElem? (l := px_all_13) (i := 19) rfl))))))))))))))
theorem px_w280 : (Jvm.Cond.fieldLink "MatroidDeskModel" (203 : Nat) "MatroidDeskModel" "others" "[I") ∈ px_all := List.mem_append_right _ (List.mem_append_right _ (List.mem_append_right _ (List.mem_append_right _ (List.mem_append_right _ (List.mem_append_right _ (List.mem_append_right _ (List.mem_append_right _ (List.mem_append_right _ (List.mem_append_right _ (List.mem_append_right _ (List.mem_append_right _ (List.mem_append_right _ (List.mem_append_right _ (List.mem_append_left _ (List.mem_of_getElem? (l := px_all_14) (i := 0) rfl)))))))))))))))
theorem px_w281 : (Jvm.Cond.fieldLink "MatroidDeskModel" (206 : Nat) "MatroidDeskModel" "text" "[B") ∈ px_all := List.mem_append_right _ (List.mem_append_right _ (List.mem_append_right _ (List.mem_append_right _ (List.mem_append_right _ (List.mem_append_right _ (List.mem_append_right _ (List.mem_append_right _ (List.mem_append_right _ (List.mem_append_right _ (List.mem_append_right _ (List.mem_append_right _ (List.mem_append_right _ (List.mem_append_right _ (List.mem_append_left _ (List.mem_of_getElem? (l := px_all_14) (i := 1) rfl)))))))))))))))
theorem px_w282 : (Jvm.Cond.fieldLink "MatroidDeskModel" (209 : Nat) "MatroidDeskModel" "placeTold" "I") ∈ px_all := List.mem_append_right _ (List.mem_append_right _ (List.mem_append_right _ (List.mem_append_right _ (List.mem_append_right _ (List.mem_append_right _ (List.mem_append_right _ (List.mem_append_right _ (List.mem_append_right _ (List.mem_append_right _ (List.mem_append_right _ (List.mem_append_right _ (List.mem_append_right _ (List.mem_append_right _ (List.mem_append_left _ (List.mem_of_getElem? (l := px_all_14) (i := 2) rfl)))))))))))))))
theorem px_w283 : (Jvm.Cond.fieldLink "MatroidDeskModel" (212 : Nat) "MatroidDeskModel" "list" "[I") ∈ px_all := List.mem_append_right _ (List.mem_append_right _ (List.mem_append_right _ (List.mem_append_right _ (List.mem_append_right _ (List.mem_append_right _ (List.mem_append_right _ (List.mem_append_right _ (List.mem_append_right _ (List.mem_append_right _ (List.mem_append_right _ (List.mem_append_right _ (List.mem_append_right _ (List.mem_append_right _ (List.mem_append_left _ (List.mem_of_getElem? (l := px_all_14) (i := 3) rfl)))))))))))))))
theorem px_w284 : (Jvm.Cond.fieldLink "MatroidDeskModel" (215 : Nat) "MatroidDeskModel" "saved" "[I") ∈ px_all := List.mem_append_right _ (List.mem_append_right _ (List.mem_append_right _ (List.mem_append_right _ (List.mem_append_right _ (List.mem_append_right _ (List.mem_append_right _ (List.mem_append_right _ (List.mem_append_right _ (List.mem_append_right _ (List.mem_append_right _ (List.mem_append_right _ (List.mem_append_right _ (List.mem_append_right _ (List.mem_append_left _ (List.mem_of_getElem? (l := px_all_14) (i := 4) rfl)))))))))))))))
theorem px_w285 : (Jvm.Cond.constant "MatroidDeskModel" (218 : Nat) (65536 : Int32)) ∈ px_all := List.mem_append_right _ (List.mem_append_right _ (List.mem_append_right _ (List.mem_append_right _ (List.mem_append_right _ (List.mem_append_right _ (List.mem_append_right _ (List.mem_append_right _ (List.mem_append_right _ (List.mem_append_right _ (List.mem_append_right _ (List.mem_append_right _ (List.mem_append_right _ (List.mem_append_right _ (List.mem_append_left _ (List.mem_of_getElem? (l := px_all_14) (i := 5) rfl)))))))))))))))
theorem px_w286 : (Jvm.Cond.fieldLink "MatroidDeskModel" (219 : Nat) "MatroidDeskModel" "sheet" "[B") ∈ px_all := List.mem_append_right _ (List.mem_append_right _ (List.mem_append_right _ (List.mem_append_right _ (List.mem_append_right _ (List.mem_append_right _ (List.mem_append_right _ (List.mem_append_right _ (List.mem_append_right _ (List.mem_append_right _ (List.mem_append_right _ (List.mem_append_right _ (List.mem_append_right _ (List.mem_append_right _ (List.mem_append_left _ (List.mem_of_getElem? (l := px_all_14) (i := 6) rfl)))))))))))))))
theorem px_w287 : (Jvm.Cond.fieldLink "MatroidDeskModel" (222 : Nat) "MatroidDeskModel" "decimals" "[B") ∈ px_all := List.mem_append_right _ (List.mem_append_right _ (List.mem_append_right _ (List.mem_append_right _ (List.mem_append_right _ (List.mem_append_right _ (List.mem_append_right _ (List.mem_append_right _ (List.mem_append_right _ (List.mem_append_right _ (List.mem_append_right _ (List.mem_append_right _ (List.mem_append_right _ (List.mem_append_right _ (List.mem_append_left _ (List.mem_of_getElem? (l := px_all_14) (i := 7) rfl)))))))))))))))
theorem px_w288 : (Jvm.Cond.fieldLink "MatroidDeskModel" (225 : Nat) "MatroidDeskModel" "came" "[B") ∈ px_all := List.mem_append_right _ (List.mem_append_right _ (List.mem_append_right _ (List.mem_append_right _ (List.mem_append_right _ (List.mem_append_right _ (List.mem_append_right _ (List.mem_append_right _ (List.mem_append_right _ (List.mem_append_right _ (List.mem_append_right _ (List.mem_append_right _ (List.mem_append_right _ (List.mem_append_right _ (List.mem_append_left _ (List.mem_of_getElem? (l := px_all_14) (i := 8) rfl)))))))))))))))
theorem px_w289 : (Jvm.Cond.code ({ cls := "MatroidDesk", name := "takeInt", desc := "(I)V" } : Jvm.MethodName) prog_1_method_26_code (3 : Nat) (Option.none : Option Jvm.ClassFile.FieldType)) ∈ px_all := List.mem_append_right _ (List.mem_append_right _ (List.mem_append_right _ (List.mem_append_right _ (List.mem_append_right _ (List.mem_append_right _ (List.mem_append_right _ (List.mem_append_right _ (List.mem_append_right _ (List.mem_append_right _ (List.mem_append_right _ (List.mem_append_right _ (List.mem_append_right _ (List.mem_append_right _ (List.mem_append_left _ (List.mem_of_getElem? (l := px_all_14) (i := 9) rfl)))))))))))))))
theorem px_w290 : (Jvm.Cond.instanceMethod ({ cls := "MatroidDesk", name := "takeInt", desc := "(I)V" } : Jvm.MethodName)) ∈ px_all := List.mem_append_right _ (List.mem_append_right _ (List.mem_append_right _ (List.mem_append_right _ (List.mem_append_right _ (List.mem_append_right _ (List.mem_append_right _ (List.mem_append_right _ (List.mem_append_right _ (List.mem_append_right _ (List.mem_append_right _ (List.mem_append_right _ (List.mem_append_right _ (List.mem_append_right _ (List.mem_append_left _ (List.mem_of_getElem? (l := px_all_14) (i := 10) rfl)))))))))))))))
theorem px_w291 : (Jvm.Cond.selects "MatroidDesk" ({ cls := "MatroidDesk", name := "takeInt", desc := "(I)V" } : Jvm.MethodName) ({ cls := "MatroidDesk", name := "takeInt", desc := "(I)V" } : Jvm.MethodName)) ∈ px_all := List.mem_append_right _ (List.mem_append_right _ (List.mem_append_right _ (List.mem_append_right _ (List.mem_append_right _ (List.mem_append_right _ (List.mem_append_right _ (List.mem_append_right _ (List.mem_append_right _ (List.mem_append_right _ (List.mem_append_right _ (List.mem_append_right _ (List.mem_append_right _ (List.mem_append_right _ (List.mem_append_left _ (List.mem_of_getElem? (l := px_all_14) (i := 11) rfl)))))))))))))))
theorem px_w292 : (Jvm.Cond.code ({ cls := "MatroidDesk", name := "feed", desc := "(IIIII)V" } : Jvm.MethodName) prog_1_method_2_code (6 : Nat) (Option.none : Option Jvm.ClassFile.FieldType)) ∈ px_all := List.mem_append_right _ (List.mem_append_right _ (List.mem_append_right _ (List.mem_append_right _ (List.mem_append_right _ (List.mem_append_right _ (List.mem_append_right _ (List.mem_append_right _ (List.mem_append_right _ (List.mem_append_right _ (List.mem_append_right _ (List.mem_append_right _ (List.mem_append_right _ (List.mem_append_right _ (List.mem_append_left _ (List.mem_of_getElem? (l := px_all_14) (i := 12) rfl)))))))))))))))
theorem px_w293 : (Jvm.Cond.instanceMethod ({ cls := "MatroidDesk", name := "feed", desc := "(IIIII)V" } : Jvm.MethodName)) ∈ px_all := List.mem_append_right _ (List.mem_append_right _ (List.mem_append_right _ (List.mem_append_right _ (List.mem_append_right _ (List.mem_append_right _ (List.mem_append_right _ (List.mem_append_right _ (List.mem_append_right _ (List.mem_append_right _ (List.mem_append_right _ (List.mem_append_right _ (List.mem_append_right _ (List.mem_append_right _ (List.mem_append_left _ (List.mem_of_getElem? (l := px_all_14) (i := 13) rfl)))))))))))))))
theorem px_w294 : (Jvm.Cond.selects "MatroidDesk" ({ cls := "MatroidDesk", name := "feed", desc := "(IIIII)V" } : Jvm.MethodName) ({ cls := "MatroidDesk", name := "feed", desc := "(IIIII)V" } : Jvm.MethodName)) ∈ px_all := List.mem_append_right _ (List.mem_append_right _ (List.mem_append_right _ (List.mem_append_right _ (List.mem_append_right _ (List.mem_append_right _ (List.mem_append_right _ (List.mem_append_right _ (List.mem_append_right _ (List.mem_append_right _ (List.mem_append_right _ (List.mem_append_right _ (List.mem_append_right _ (List.mem_append_right _ (List.mem_append_left _ (List.mem_of_getElem? (l := px_all_14) (i := 14) rfl)))))))))))))))
theorem px_w295 : (Jvm.Cond.classLink "MatroidDesk" (86 : Nat) "java/lang/IllegalStateException") ∈ px_all := List.mem_append_right _ (List.mem_append_right _ (List.mem_append_right _ (List.mem_append_right _ (List.mem_append_right _ (List.mem_append_right _ (List.mem_append_right _ (List.mem_append_right _ (List.mem_append_right _ (List.mem_append_right _ (List.mem_append_right _ (List.mem_append_right _ (List.mem_append_right _ (List.mem_append_right _ (List.mem_append_left _ (List.mem_of_getElem? (l := px_all_14) (i := 15) rfl)))))))))))))))
theorem px_w296 : (Jvm.Cond.methodLink "MatroidDesk" (99 : Nat) ({ cls := "MatroidDesk", name := "takeInt", desc := "(I)V" } : Jvm.MethodName)) ∈ px_all := List.mem_append_right _ (List.mem_append_right _ (List.mem_append_right _ (List.mem_append_right _ (List.mem_append_right _ (List.mem_append_right _ (List.mem_append_right _ (List.mem_append_right _ (List.mem_append_right _ (List.mem_append_right _ (List.mem_append_right _ (List.mem_append_right _ (List.mem_append_right _ (List.mem_append_right _ (List.mem_append_left _ (List.mem_of_getElem? (l := px_all_14) (i := 16) rfl)))))))))))))))
theorem px_w297 : (Jvm.Cond.code ({ cls := "MatroidDesk", name := "end", desc := "(I)I" } : Jvm.MethodName) prog_1_method_3_code (3 : Nat) (Option.some Jvm.ClassFile.FieldType.int)) ∈ px_all := List.mem_append_right _ (List.mem_append_right _ (List.mem_append_right _ (List.mem_append_right _ (List.mem_append_right _ (List.mem_append_right _ (List.mem_append_right _ (List.mem_append_right _ (List.mem_append_right _ (List.mem_append_right _ (List.mem_append_right _ (List.mem_append_right _ (List.mem_append_right _ (List.mem_append_right _ (List.mem_append_left _ (List.mem_of_getElem? (l := px_all_14) (i := 17) rfl)))))))))))))))
theorem px_w298 : (Jvm.Cond.instanceMethod ({ cls := "MatroidDesk", name := "end", desc := "(I)I" } : Jvm.MethodName)) ∈ px_all := List.mem_append_right _ (List.mem_append_right _ (List.mem_append_right _ (List.mem_append_right _ (List.mem_append_right _ (List.mem_append_right _ (List.mem_append_right _ (List.mem_append_right _ (List.mem_append_right _ (List.mem_append_right _ (List.mem_append_right _ (List.mem_append_right _ (List.mem_append_right _ (List.mem_append_right _ (List.mem_append_left _ (List.mem_of_getElem? (l := px_all_14) (i := 18) rfl)))))))))))))))
theorem px_w299 : (Jvm.Cond.selects "MatroidDesk" ({ cls := "MatroidDesk", name := "end", desc := "(I)I" } : Jvm.MethodName) ({ cls := "MatroidDesk", name := "end", desc := "(I)I" } : Jvm.MethodName)) ∈ px_all := List.mem_append_right _ (List.mem_append_right _ (List.mem_append_right _ (List.mem_append_right _ (List.mem_append_right _ (List.mem_append_right _ (List.mem_append_right _ (List.mem_append_right _ (List.mem_append_right _ (List.mem_append_right _ (List.mem_append_right _ (List.mem_append_right _ (List.mem_append_right _ (List.mem_append_right _ (List.mem_append_left _ (List.mem_of_getElem? (l := px_all_14) (i := 19) rfl)))))))))))))))
theorem px_w300 : (Jvm.Cond.classLink "MatroidDesk" (103 : Nat) "java/lang/IllegalArgumentException") ∈ px_all := List.mem_append_right _ (List.mem_append_right _ (List.mem_append_right _ (List.mem_append_right _ (List.mem_append_right _ (List.mem_append_right _ (List.mem_append_right _ (List.mem_append_right _ (List.mem_append_right _ (List.mem_append_right _ (List.mem_append_right _ (List.mem_append_right _ (List.mem_append_right _ (List.mem_append_right _ (List.mem_append_right _ (List.mem_append_left _ (List.mem_of_getElem? (l := px_all_15) (i := 0) rfl))))))))))))))))
theorem px_w301 : (Jvm.Cond.code ({ cls := "MatroidDesk$Tokens", name := "skipBlanks", desc := "()V" } : Jvm.MethodName) prog_10_method_6_code (3 : Nat) (Option.none : Option Jvm.ClassFile.FieldType)) ∈ px_all := List.mem_append_right _ (List.mem_append_right _ (List.mem_append_right _ (List.mem_append_right _ (List.mem_append_right _ (List.mem_append_right _ (List.mem_append_right _ (List.mem_append_right _ (List.mem_append_right _ (List.mem_append_right _ (List.mem_append_right _ (List.mem_append_right _ (List.mem_append_right _ (List.mem_append_right _ (List.mem_append_right _ (List.mem_append_left _ (List.mem_of_getElem? (l := px_all_15) (i := 1) rfl))))))))))))))))
theorem px_w302 : (Jvm.Cond.instanceMethod ({ cls := "MatroidDesk$Tokens", name := "skipBlanks", desc := "()V" } : Jvm.MethodName)) ∈ px_all := List.mem_append_right _ (List.mem_append_right _ (List.mem_append_right _ (List.mem_append_right _ (List.mem_append_right _ (List.mem_append_right _ (List.mem_append_right _ (List.mem_append_right _ (List.mem_append_right _ (List.mem_append_right _ (List.mem_append_right _ (List.mem_append_right _ (List.mem_append_right _ (List.mem_append_right _ (List.mem_append_right _ (List.mem_append_left _ (List.mem_of_getElem? (l := px_all_15) (i := 2) rfl))))))))))))))))
theorem px_w303 : (Jvm.Cond.selects "MatroidDesk$Tokens" ({ cls := "MatroidDesk$Tokens", name := "skipBlanks", desc := "()V" } : Jvm.MethodName) ({ cls := "MatroidDesk$Tokens", name := "skipBlanks", desc := "()V" } : Jvm.MethodName)) ∈ px_all := List.mem_append_right _ (List.mem_append_right _ (List.mem_append_right _ (List.mem_append_right _ (List.mem_append_right _ (List.mem_append_right _ (List.mem_append_right _ (List.mem_append_right _ (List.mem_append_right _ (List.mem_append_right _ (List.mem_append_right _ (List.mem_append_right _ (List.mem_append_right _ (List.mem_append_right _ (List.mem_append_right _ (List.mem_append_left _ (List.mem_of_getElem? (l := px_all_15) (i := 3) rfl))))))))))))))))
theorem px_w304 : (Jvm.Cond.fieldLink "MatroidDesk$Tokens" (19 : Nat) "MatroidDesk$Tokens" "behind" "I") ∈ px_all := List.mem_append_right _ (List.mem_append_right _ (List.mem_append_right _ (List.mem_append_right _ (List.mem_append_right _ (List.mem_append_right _ (List.mem_append_right _ (List.mem_append_right _ (List.mem_append_right _ (List.mem_append_right _ (List.mem_append_right _ (List.mem_append_right _ (List.mem_append_right _ (List.mem_append_right _ (List.mem_append_right _ (List.mem_append_left _ (List.mem_of_getElem? (l := px_all_15) (i := 4) rfl))))))))))))))))
theorem px_w305 : (Jvm.Cond.fieldLink "MatroidDesk$Tokens" (15 : Nat) "MatroidDesk$Tokens" "length" "I") ∈ px_all := List.mem_append_right _ (List.mem_append_right _ (List.mem_append_right _ (List.mem_append_right _ (List.mem_append_right _ (List.mem_append_right _ (List.mem_append_right _ (List.mem_append_right _ (List.mem_append_right _ (List.mem_append_right _ (List.mem_append_right _ (List.mem_append_right _ (List.mem_append_right _ (List.mem_append_right _ (List.mem_append_right _ (List.mem_append_left _ (List.mem_of_getElem? (l := px_all_15) (i := 5) rfl))))))))))))))))
theorem px_w306 : (Jvm.Cond.code ({ cls := "MatroidDesk$Tokens", name := "step", desc := "()V" } : Jvm.MethodName) prog_10_method_3_code (3 : Nat) (Option.none : Option Jvm.ClassFile.FieldType)) ∈ px_all := List.mem_append_right _ (List.mem_append_right _ (List.mem_append_right _ (List.mem_append_right _ (List.mem_append_right _ (List.mem_append_right _ (List.mem_append_right _ (List.mem_append_right _ (List.mem_append_right _ (List.mem_append_right _ (List.mem_append_right _ (List.mem_append_right _ (List.mem_append_right _ (List.mem_append_right _ (List.mem_append_right _ (List.mem_append_left _ (List.mem_of_getElem? (l := px_all_15) (i := 6) rfl))))))))))))))))
theorem px_w307 : (Jvm.Cond.instanceMethod ({ cls := "MatroidDesk$Tokens", name := "step", desc := "()V" } : Jvm.MethodName)) ∈ px_all := List.mem_append_right _ (List.mem_append_right _ (List.mem_append_right _ (List.mem_append_right _ (List.mem_append_right _ (List.mem_append_right _ (List.mem_append_right _ (List.mem_append_right _ (List.mem_append_right _ (List.mem_append_right _ (List.mem_append_right _ (List.mem_append_right _ (List.mem_append_right _ (List.mem_append_right _ (List.mem_append_right _ (List.mem_append_left _ (List.mem_of_getElem? (l := px_all_15) (i := 7) rfl))))))))))))))))
theorem px_w308 : (Jvm.Cond.selects "MatroidDesk$Tokens" ({ cls := "MatroidDesk$Tokens", name := "step", desc := "()V" } : Jvm.MethodName) ({ cls := "MatroidDesk$Tokens", name := "step", desc := "()V" } : Jvm.MethodName)) ∈ px_all := List.mem_append_right _ (List.mem_append_right _ (List.mem_append_right _ (List.mem_append_right _ (List.mem_append_right _ (List.mem_append_right _ (List.mem_append_right _ (List.mem_append_right _ (List.mem_append_right _ (List.mem_append_right _ (List.mem_append_right _ (List.mem_append_right _ (List.mem_append_right _ (List.mem_append_right _ (List.mem_append_right _ (List.mem_append_left _ (List.mem_of_getElem? (l := px_all_15) (i := 8) rfl))))))))))))))))
theorem px_w309 : (Jvm.Cond.methodLink "MatroidDesk$Tokens" (25 : Nat) ({ cls := "MatroidDesk$Tokens", name := "skipBlanks", desc := "()V" } : Jvm.MethodName)) ∈ px_all := List.mem_append_right _ (List.mem_append_right _ (List.mem_append_right _ (List.mem_append_right _ (List.mem_append_right _ (List.mem_append_right _ (List.mem_append_right _ (List.mem_append_right _ (List.mem_append_right _ (List.mem_append_right _ (List.mem_append_right _ (List.mem_append_right _ (List.mem_append_right _ (List.mem_append_right _ (List.mem_append_right _ (List.mem_append_left _ (List.mem_of_getElem? (l := px_all_15) (i := 9) rfl))))))))))))))))
theorem px_w310 : (Jvm.Cond.fieldLink "MatroidDesk$Tokens" (28 : Nat) "MatroidDesk$Tokens" "start" "I") ∈ px_all := List.mem_append_right _ (List.mem_append_right _ (List.mem_append_right _ (List.mem_append_right _ (List.mem_append_right _ (List.mem_append_right _ (List.mem_append_right _ (List.mem_append_right _ (List.mem_append_right _ (List.mem_append_right _ (List.mem_append_right _ (List.mem_append_right _ (List.mem_append_right _ (List.mem_append_right _ (List.mem_append_right _ (List.mem_append_left _ (List.mem_of_getElem? (l := px_all_15) (i := 10) rfl))))))))))))))))
theorem px_w311 : (Jvm.Cond.fieldLink "MatroidDesk$Tokens" (31 : Nat) "MatroidDesk$Tokens" "kind" "I") ∈ px_all := List.mem_append_right _ (List.mem_append_right _ (List.mem_append_right _ (List.mem_append_right _ (List.mem_append_right _ (List.mem_append_right _ (List.mem_append_right _ (List.mem_append_right _ (List.mem_append_right _ (List.mem_append_right _ (List.mem_append_right _ (List.mem_append_right _ (List.mem_append_right _ (List.mem_append_right _ (List.mem_append_right _ (List.mem_append_left _ (List.mem_of_getElem? (l := px_all_15) (i := 11) rfl))))))))))))))))
theorem px_w312 : (Jvm.Cond.code ({ cls := "MatroidDesk$Tokens", name := "open", desc := "([BI)V" } : Jvm.MethodName) prog_10_method_2_code (3 : Nat) (Option.none : Option Jvm.ClassFile.FieldType)) ∈ px_all := List.mem_append_right _ (List.mem_append_right _ (List.mem_append_right _ (List.mem_append_right _ (List.mem_append_right _ (List.mem_append_right _ (List.mem_append_right _ (List.mem_append_right _ (List.mem_append_right _ (List.mem_append_right _ (List.mem_append_right _ (List.mem_append_right _ (List.mem_append_right _ (List.mem_append_right _ (List.mem_append_right _ (List.mem_append_left _ (List.mem_of_getElem? (l := px_all_15) (i := 12) rfl))))))))))))))))
theorem px_w313 : (Jvm.Cond.instanceMethod ({ cls := "MatroidDesk$Tokens", name := "open", desc := "([BI)V" } : Jvm.MethodName)) ∈ px_all := List.mem_append_right _ (List.mem_append_right _ (List.mem_append_right _ (List.mem_append_right _ (List.mem_append_right _ (List.mem_append_right _ (List.mem_append_right _ (List.mem_append_right _ (List.mem_append_right _ (List.mem_append_right _ (List.mem_append_right _ (List.mem_append_right _ (List.mem_append_right _ (List.mem_append_right _ (List.mem_append_right _ (List.mem_append_left _ (List.mem_of_getElem? (l := px_all_15) (i := 13) rfl))))))))))))))))
theorem px_w314 : (Jvm.Cond.selects "MatroidDesk$Tokens" ({ cls := "MatroidDesk$Tokens", name := "open", desc := "([BI)V" } : Jvm.MethodName) ({ cls := "MatroidDesk$Tokens", name := "open", desc := "([BI)V" } : Jvm.MethodName)) ∈ px_all := List.mem_append_right _ (List.mem_append_right _ (List.mem_append_right _ (List.mem_append_right _ (List.mem_append_right _ (List.mem_append_right _ (List.mem_append_right _ (List.mem_append_right _ (List.mem_append_right _ (List.mem_append_right _ (List.mem_append_right _ (List.mem_append_right _ (List.mem_append_right _ (List.mem_append_right _ (List.mem_append_right _ (List.mem_append_left _ (List.mem_of_getElem? (l := px_all_15) (i := 14) rfl))))))))))))))))
theorem px_w315 : (Jvm.Cond.methodLink "MatroidDesk$Tokens" (22 : Nat) ({ cls := "MatroidDesk$Tokens", name := "step", desc := "()V" } : Jvm.MethodName)) ∈ px_all := List.mem_append_right _ (List.mem_append_right _ (List.mem_append_right _ (List.mem_append_right _ (List.mem_append_right _ (List.mem_append_right _ (List.mem_append_right _ (List.mem_append_right _ (List.mem_append_right _ (List.mem_append_right _ (List.mem_append_right _ (List.mem_append_right _ (List.mem_append_right _ (List.mem_append_right _ (List.mem_append_right _ (List.mem_append_left _ (List.mem_of_getElem? (l := px_all_15) (i := 15) rfl))))))))))))))))
theorem px_w316 : (Jvm.Cond.code ({ cls := "MatroidDesk$Product", name := "cutTo", desc := "(I)V" } : Jvm.MethodName) prog_7_method_2_code (2 : Nat) (Option.none : Option Jvm.ClassFile.FieldType)) ∈ px_all := List.mem_append_right _ (List.mem_append_right _ (List.mem_append_right _ (List.mem_append_right _ (List.mem_append_right _ (List.mem_append_right _ (List.mem_append_right _ (List.mem_append_right _ (List.mem_append_right _ (List.mem_append_right _ (List.mem_append_right _ (List.mem_append_right _ (List.mem_append_right _ (List.mem_append_right _ (List.mem_append_right _ (List.mem_append_left _ (List.mem_of_getElem? (l := px_all_15) (i := 16) rfl))))))))))))))))
theorem px_w317 : (Jvm.Cond.instanceMethod ({ cls := "MatroidDesk$Product", name := "cutTo", desc := "(I)V" } : Jvm.MethodName)) ∈ px_all := List.mem_append_right _ (List.mem_append_right _ (List.mem_append_right _ (List.mem_append_right _ (List.mem_append_right _ (List.mem_append_right _ (List.mem_append_right _ (List.mem_append_right _ (List.mem_append_right _ (List.mem_append_right _ (List.mem_append_right _ (List.mem_append_right _ (List.mem_append_right _ (List.mem_append_right _ (List.mem_append_right _ (List.mem_append_left _ (List.mem_of_getElem? (l := px_all_15) (i := 17) rfl))))))))))))))))
theorem px_w318 : (Jvm.Cond.selects "MatroidDesk$Product" ({ cls := "MatroidDesk$Product", name := "cutTo", desc := "(I)V" } : Jvm.MethodName) ({ cls := "MatroidDesk$Product", name := "cutTo", desc := "(I)V" } : Jvm.MethodName)) ∈ px_all := List.mem_append_right _ (List.mem_append_right _ (List.mem_append_right _ (List.mem_append_right _ (List.mem_append_right _ (List.mem_append_right _ (List.mem_append_right _ (List.mem_append_right _ (List.mem_append_right _ (List.mem_append_right _ (List.mem_append_right _ (List.mem_append_right _ (List.mem_append_right _ (List.mem_append_right _ (List.mem_append_right _ (List.mem_append_left _ (List.mem_of_getElem? (l := px_all_15) (i := 18) rfl))))))))))))))))
theorem px_w319 : (Jvm.Cond.fieldLink "MatroidDesk$Product" (18 : Nat) "MatroidDesk$Product" "length" "I") ∈ px_all := List.mem_append_right _ (List.mem_append_right _ (List.mem_append_right _ (List.mem_append_right _ (List.mem_append_right _ (List.mem_append_right _ (List.mem_append_right _ (List.mem_append_right _ (List.mem_append_right _ (List.mem_append_right _ (List.mem_append_right _ (List.mem_append_right _ (List.mem_append_right _ (List.mem_append_right _ (List.mem_append_right _ (List.mem_append_left _ (List.mem_of_getElem? (l := px_all_15) (i := 19) rfl))))))))))))))))
theorem px_w320 : (Jvm.Cond.fieldLink "MatroidDesk$Product" (22 : Nat) "MatroidDesk$Product" "full" "Z") ∈ px_all := List.mem_append_right _ (List.mem_append_right _ (List.mem_append_right _ (List.mem_append_right _ (List.mem_append_right _ (List.mem_append_right _ (List.mem_append_right _ (List.mem_append_right _ (List.mem_append_right _ (List.mem_append_right _ (List.mem_append_right _ (List.mem_append_right _ (List.mem_append_right _ (List.mem_append_right _ (List.mem_append_right _ (List.mem_append_right _ (List.mem_append_left _ (List.mem_of_getElem? (l := px_all_16) (i := 0) rfl)))))))))))))))))
theorem px_w321 : (Jvm.Cond.code ({ cls := "MatroidDesk", name := "readsWhole", desc := "(I)Z" } : Jvm.MethodName) prog_1_method_27_code (3 : Nat) (Option.some Jvm.ClassFile.FieldType.boolean)) ∈ px_all := List.mem_append_right _ (List.mem_append_right _ (List.mem_append_right _ (List.mem_append_right _ (List.mem_append_right _ (List.mem_append_right _ (List.mem_append_right _ (List.mem_append_right _ (List.mem_append_right _ (List.mem_append_right _ (List.mem_append_right _ (List.mem_append_right _ (List.mem_append_right _ (List.mem_append_right _ (List.mem_append_right _ (List.mem_append_right _ (List.mem_append_left _ (List.mem_of_getElem? (l := px_all_16) (i := 1) rfl)))))))))))))))))
theorem px_w322 : (Jvm.Cond.instanceMethod ({ cls := "MatroidDesk", name := "readsWhole", desc := "(I)Z" } : Jvm.MethodName)) ∈ px_all := List.mem_append_right _ (List.mem_append_right _ (List.mem_append_right _ (List.mem_append_right _ (List.mem_append_right _ (List.mem_append_right _ (List.mem_append_right _ (List.mem_append_right _ (List.mem_append_right _ (List.mem_append_right _ (List.mem_append_right _ (List.mem_append_right _ (List.mem_append_right _ (List.mem_append_right _ (List.mem_append_right _ (List.mem_append_right _ (List.mem_append_left _ (List.mem_of_getElem? (l := px_all_16) (i := 2) rfl)))))))))))))))))
theorem px_w323 : (Jvm.Cond.selects "MatroidDesk" ({ cls := "MatroidDesk", name := "readsWhole", desc := "(I)Z" } : Jvm.MethodName) ({ cls := "MatroidDesk", name := "readsWhole", desc := "(I)Z" } : Jvm.MethodName)) ∈ px_all := List.mem_append_right _ (List.mem_append_right _ (List.mem_append_right _ (List.mem_append_right _ (List.mem_append_right _ (List.mem_append_right _ (List.mem_append_right _ (List.mem_append_right _ (List.mem_append_right _ (List.mem_append_right _ (List.mem_append_right _ (List.mem_append_right _ (List.mem_append_right _ (List.mem_append_right _ (List.mem_append_right _ (List.mem_append_right _ (List.mem_append_left _ (List.mem_of_getElem? (l := px_all_16) (i := 3) rfl)))))))))))))))))
theorem px_w324 : (Jvm.Cond.methodLink "MatroidDesk" (118 : Nat) ({ cls := "MatroidDesk$Tokens", name := "open", desc := "([BI)V" } : Jvm.MethodName)) ∈ px_all := List.mem_append_right _ (List.mem_append_right _ (List.mem_append_right _ (List.mem_append_right _ (List.mem_append_right _ (List.mem_append_right _ (List.mem_append_right _ (List.mem_append_right _ (List.mem_append_right _ (List.mem_append_right _ (List.mem_append_right _ (List.mem_append_right _ (List.mem_append_right _ (List.mem_append_right _ (List.mem_append_right _ (List.mem_append_right _ (List.mem_append_left _ (List.mem_of_getElem? (l := px_all_16) (i := 4) rfl)))))))))))))))))
theorem px_w325 : (Jvm.Cond.code ({ cls := "MatroidDesk", name := "run", desc := "()I" } : Jvm.MethodName) prog_1_method_4_code (5 : Nat) (Option.some Jvm.ClassFile.FieldType.int)) ∈ px_all := List.mem_append_right _ (List.mem_append_right _ (List.mem_append_right _ (List.mem_append_right _ (List.mem_append_right _ (List.mem_append_right _ (List.mem_append_right _ (List.mem_append_right _ (List.mem_append_right _ (List.mem_append_right _ (List.mem_append_right _ (List.mem_append_right _ (List.mem_append_right _ (List.mem_append_right _ (List.mem_append_right _ (List.mem_append_right _ (List.mem_append_left _ (List.mem_of_getElem? (l := px_all_16) (i := 5) rfl)))))))))))))))))
theorem px_w326 : (Jvm.Cond.instanceMethod ({ cls := "MatroidDesk", name := "run", desc := "()I" } : Jvm.MethodName)) ∈ px_all := List.mem_append_right _ (List.mem_append_right _ (List.mem_append_right _ (List.mem_append_right _ (List.mem_append_right _ (List.mem_append_right _ (List.mem_append_right _ (List.mem_append_right _ (List.mem_append_right _ (List.mem_append_right _ (List.mem_append_right _ (List.mem_append_right _ (List.mem_append_right _ (List.mem_append_right _ (List.mem_append_right _ (List.mem_append_right _ (List.mem_append_left _ (List.mem_of_getElem? (l := px_all_16) (i := 6) rfl)))))))))))))))))
theorem px_w327 : (Jvm.Cond.selects "MatroidDesk" ({ cls := "MatroidDesk", name := "run", desc := "()I" } : Jvm.MethodName) ({ cls := "MatroidDesk", name := "run", desc := "()I" } : Jvm.MethodName)) ∈ px_all := List.mem_append_right _ (List.mem_append_right _ (List.mem_append_right _ (List.mem_append_right _ (List.mem_append_right _ (List.mem_append_right _ (List.mem_append_right _ (List.mem_append_right _ (List.mem_append_right _ (List.mem_append_right _ (List.mem_append_right _ (List.mem_append_right _ (List.mem_append_right _ (List.mem_append_right _ (List.mem_append_right _ (List.mem_append_right _ (List.mem_append_left _ (List.mem_of_getElem? (l := px_all_16) (i := 7) rfl)))))))))))))))))
theorem px_w328 : (Jvm.Cond.methodLink "MatroidDesk" (108 : Nat) ({ cls := "MatroidDesk", name := "readsWhole", desc := "(I)Z" } : Jvm.MethodName)) ∈ px_all := List.mem_append_right _ (List.mem_append_right _ (List.mem_append_right _ (List.mem_append_right _ (List.mem_append_right _ (List.mem_append_right _ (List.mem_append_right _ (List.mem_append_right _ (List.mem_append_right _ (List.mem_append_right _ (List.mem_append_right _ (List.mem_append_right _ (List.mem_append_right _ (List.mem_append_right _ (List.mem_append_right _ (List.mem_append_right _ (List.mem_append_left _ (List.mem_of_getElem? (l := px_all_16) (i := 8) rfl)))))))))))))))))
theorem px_w329 : (Jvm.Cond.methodLink "MatroidDesk" (115 : Nat) ({ cls := "MatroidDesk$Product", name := "cutTo", desc := "(I)V" } : Jvm.MethodName)) ∈ px_all := List.mem_append_right _ (List.mem_append_right _ (List.mem_append_right _ (List.mem_append_right _ (List.mem_append_right _ (List.mem_append_right _ (List.mem_append_right _ (List.mem_append_right _ (List.mem_append_right _ (List.mem_append_right _ (List.mem_append_right _ (List.mem_append_right _ (List.mem_append_right _ (List.mem_append_right _ (List.mem_append_right _ (List.mem_append_right _ (List.mem_append_left _ (List.mem_of_getElem? (l := px_all_16) (i := 9) rfl)))))))))))))))))
theorem px_w330 : (Jvm.Cond.methodLink "MatroidDesk" (152 : Nat) ({ cls := "MatroidDesk", name := "matroidAt", desc := "(I)LMatroidDesk$Matroid;" } : Jvm.MethodName)) ∈ px_all := List.mem_append_right _ (List.mem_append_right _ (List.mem_append_right _ (List.mem_append_right _ (List.mem_append_right _ (List.mem_append_right _ (List.mem_append_right _ (List.mem_append_right _ (List.mem_append_right _ (List.mem_append_right _ (List.mem_append_right _ (List.mem_append_right _ (List.mem_append_right _ (List.mem_append_right _ (List.mem_append_right _ (List.mem_append_right _ (List.mem_append_left _ (List.mem_of_getElem? (l := px_all_16) (i := 10) rfl)))))))))))))))))
theorem px_w331 : (Jvm.Cond.code ({ cls := "MatroidDesk", name := "place", desc := "()I" } : Jvm.MethodName) prog_1_method_5_code (1 : Nat) (Option.some Jvm.ClassFile.FieldType.int)) ∈ px_all := List.mem_append_right _ (List.mem_append_right _ (List.mem_append_right _ (List.mem_append_right _ (List.mem_append_right _ (List.mem_append_right _ (List.mem_append_right _ (List.mem_append_right _ (List.mem_append_right _ (List.mem_append_right _ (List.mem_append_right _ (List.mem_append_right _ (List.mem_append_right _ (List.mem_append_right _ (List.mem_append_right _ (List.mem_append_right _ (List.mem_append_left _ (List.mem_of_getElem? (l := px_all_16) (i := 11) rfl)))))))))))))))))
theorem px_w332 : (Jvm.Cond.instanceMethod ({ cls := "MatroidDesk", name := "place", desc := "()I" } : Jvm.MethodName)) ∈ px_all := List.mem_append_right _ (List.mem_append_right _ (List.mem_append_right _ (List.mem_append_right _ (List.mem_append_right _ (List.mem_append_right _ (List.mem_append_right _ (List.mem_append_right _ (List.mem_append_right _ (List.mem_append_right _ (List.mem_append_right _ (List.mem_append_right _ (List.mem_append_right _ (List.mem_append_right _ (List.mem_append_right _ (List.mem_append_right _ (List.mem_append_left _ (List.mem_of_getElem? (l := px_all_16) (i := 12) rfl)))))))))))))))))
theorem px_w333 : (Jvm.Cond.selects "MatroidDesk" ({ cls := "MatroidDesk", name := "place", desc := "()I" } : Jvm.MethodName) ({ cls := "MatroidDesk", name := "place", desc := "()I" } : Jvm.MethodName)) ∈ px_all := List.mem_append_right _ (List.mem_append_right _ (List.mem_append_right _ (List.mem_append_right _ (List.mem_append_right _ (List.mem_append_right _ (List.mem_append_right _ (List.mem_append_right _ (List.mem_append_right _ (List.mem_append_right _ (List.mem_append_right _ (List.mem_append_right _ (List.mem_append_right _ (List.mem_append_right _ (List.mem_append_right _ (List.mem_append_right _ (List.mem_append_left _ (List.mem_of_getElem? (l := px_all_16) (i := 13) rfl)))))))))))))))))
theorem px_w334 : (Jvm.Cond.code ({ cls := "MatroidDesk", name := "why", desc := "()I" } : Jvm.MethodName) prog_1_method_6_code (1 : Nat) (Option.some Jvm.ClassFile.FieldType.int)) ∈ px_all := List.mem_append_right _ (List.mem_append_right _ (List.mem_append_right _ (List.mem_append_right _ (List.mem_append_right _ (List.mem_append_right _ (List.mem_append_right _ (List.mem_append_right _ (List.mem_append_right _ (List.mem_append_right _ (List.mem_append_right _ (List.mem_append_right _ (List.mem_append_right _ (List.mem_append_right _ (List.mem_append_right _ (List.mem_append_right _ (List.mem_append_left _ (List.mem_of_getElem? (l := px_all_16) (i := 14) rfl)))))))))))))))))
theorem px_w335 : (Jvm.Cond.instanceMethod ({ cls := "MatroidDesk", name := "why", desc := "()I" } : Jvm.MethodName)) ∈ px_all := List.mem_append_right _ (List.mem_append_right _ (List.mem_append_right _ (List.mem_append_right _ (List.mem_append_right _ (List.mem_append_right _ (List.mem_append_right _ (List.mem_append_right _ (List.mem_append_right _ (List.mem_append_right _ (List.mem_append_right _ (List.mem_append_right _ (List.mem_append_right _ (List.mem_append_right _ (List.mem_append_right _ (List.mem_append_right _ (List.mem_append_left _ (List.mem_of_getElem? (l := px_all_16) (i := 15) rfl)))))))))))))))))
theorem px_w336 : (Jvm.Cond.selects "MatroidDesk" ({ cls := "MatroidDesk", name := "why", desc := "()I" } : Jvm.MethodName) ({ cls := "MatroidDesk", name := "why", desc := "()I" } : Jvm.MethodName)) ∈ px_all := List.mem_append_right _ (List.mem_append_right _ (List.mem_append_right _ (List.mem_append_right _ (List.mem_append_right _ (List.mem_append_right _ (List.mem_append_right _ (List.mem_append_right _ (List.mem_append_right _ (List.mem_append_right _ (List.mem_append_right _ (List.mem_append_right _ (List.mem_append_right _ (List.mem_append_right _ (List.mem_append_right _ (List.mem_append_right _ (List.mem_append_left _ (List.mem_of_getElem? (l := px_all_16) (i := 16) rfl)))))))))))))))))
theorem px_w337 : (Jvm.Cond.code ({ cls := "MatroidDesk", name := "printed", desc := "()I" } : Jvm.MethodName) prog_1_method_7_code (1 : Nat) (Option.some Jvm.ClassFile.FieldType.int)) ∈ px_all := List.mem_append_right _ (List.mem_append_right _ (List.mem_append_right _ (List.mem_append_right _ (List.mem_append_right _ (List.mem_append_right _ (List.mem_append_right _ (List.mem_append_right _ (List.mem_append_right _ (List.mem_append_right _ (List.mem_append_right _ (List.mem_append_right _ (List.mem_append_right _ (List.mem_append_right _ (List.mem_append_right _ (List.mem_append_right _ (List.mem_append_left _ (List.mem_of_getElem? (l := px_all_16) (i := 17) rfl)))))))))))))))))
theorem px_w338 : (Jvm.Cond.instanceMethod ({ cls := "MatroidDesk", name := "printed", desc := "()I" } : Jvm.MethodName)) ∈ px_all := List.mem_append_right _ (List.mem_append_right _ (List.mem_append_right _ (List.mem_append_right _ (List.mem_append_right _ (List.mem_append_right _ (List.mem_append_right _ (List.mem_append_right _ (List.mem_append_right _ (List.mem_append_right _ (List.mem_append_right _ (List.mem_append_right _ (List.mem_append_right _ (List.mem_append_right _ (List.mem_append_right _ (List.mem_append_right _ (List.mem_append_left _ (List.mem_of_getElem? (l := px_all_16) (i := 18) rfl)))))))))))))))))
theorem px_w339 : (Jvm.Cond.selects "MatroidDesk" ({ cls := "MatroidDesk", name := "printed", desc := "()I" } : Jvm.MethodName) ({ cls := "MatroidDesk", name := "printed", desc := "()I" } : Jvm.MethodName)) ∈ px_all := List.mem_append_right _ (List.mem_append_right _ (List.mem_append_right _ (List.mem_append_right _ (List.mem_append_right _ (List.mem_append_right _ (List.mem_append_right _ (List.mem_append_right _ (List.mem_append_right _ (List.mem_append_right _ (List.mem_append_right _ (List.mem_append_right _ (List.mem_append_right _ (List.mem_append_right _ (List.mem_append_right _ (List.mem_append_right _ (List.mem_append_left _ (List.mem_of_getElem? (l := px_all_16) (i := 19) rfl)))))))))))))))))
theorem px_w340 : (Jvm.Cond.code ({ cls := "MatroidDesk", name := "out", desc := "(I)I" } : Jvm.MethodName) prog_1_method_8_code (2 : Nat) (Option.some Jvm.ClassFile.FieldType.int)) ∈ px_all := List.mem_append_right _ (List.mem_append_right _ (List.mem_append_right _ (List.mem_append_right _ (List.mem_append_right _ (List.mem_append_right _ (List.mem_append_right _ (List.mem_append_right _ (List.mem_append_right _ (List.mem_append_right _ (List.mem_append_right _ (List.mem_append_right _ (List.mem_append_right _ (List.mem_append_right _ (List.mem_append_right _ (List.mem_append_right _ (List.mem_append_right _ (List.mem_append_left _ (List.mem_of_getElem? (l := px_all_17) (i := 0) rfl))))))))))))))))))
theorem px_w341 : (Jvm.Cond.instanceMethod ({ cls := "MatroidDesk", name := "out", desc := "(I)I" } : Jvm.MethodName)) ∈ px_all := List.mem_append_right _ (List.mem_append_right _ (List.mem_append_right _ (List.mem_append_right _ (List.mem_append_right _ (List.mem_append_right _ (List.mem_append_right _ (List.mem_append_right _ (List.mem_append_right _ (List.mem_append_right _ (List.mem_append_right _ (List.mem_append_right _ (List.mem_append_right _ (List.mem_append_right _ (List.mem_append_right _ (List.mem_append_right _ (List.mem_append_right _ (List.mem_append_left _ (List.mem_of_getElem? (l := px_all_17) (i := 1) rfl))))))))))))))))))
theorem px_w342 : (Jvm.Cond.selects "MatroidDesk" ({ cls := "MatroidDesk", name := "out", desc := "(I)I" } : Jvm.MethodName) ({ cls := "MatroidDesk", name := "out", desc := "(I)I" } : Jvm.MethodName)) ∈ px_all := List.mem_append_right _ (List.mem_append_right _ (List.mem_append_right _ (List.mem_append_right _ (List.mem_append_right _ (List.mem_append_right _ (List.mem_append_right _ (List.mem_append_right _ (List.mem_append_right _ (List.mem_append_right _ (List.mem_append_right _ (List.mem_append_right _ (List.mem_append_right _ (List.mem_append_right _ (List.mem_append_right _ (List.mem_append_right _ (List.mem_append_right _ (List.mem_append_left _ (List.mem_of_getElem? (l := px_all_17) (i := 2) rfl))))))))))))))))))
theorem px_w343 : (Jvm.Cond.code ({ cls := "MatroidDesk", name := "matroidAt", desc := "(I)LMatroidDesk$Matroid;" } : Jvm.MethodName) prog_1_method_25_code (2 : Nat) (Option.some (Jvm.ClassFile.FieldType.object "MatroidDesk$Matroid"))) ∈ px_all := List.mem_append_right _ (List.mem_append_right _ (List.mem_append_right _ (List.mem_append_right _ (List.mem_append_right _ (List.mem_append_right _ (List.mem_append_right _ (List.mem_append_right _ (List.mem_append_right _ (List.mem_append_right _ (List.mem_append_right _ (List.mem_append_right _ (List.mem_append_right _ (List.mem_append_right _ (List.mem_append_right _ (List.mem_append_right _ (List.mem_append_right _ (List.mem_append_left _ (List.mem_of_getElem? (l := px_all_17) (i := 3) rfl))))))))))))))))))
theorem px_w344 : (Jvm.Cond.instanceMethod ({ cls := "MatroidDesk", name := "matroidAt", desc := "(I)LMatroidDesk$Matroid;" } : Jvm.MethodName)) ∈ px_all := List.mem_append_right _ (List.mem_append_right _ (List.mem_append_right _ (List.mem_append_right _ (List.mem_append_right _ (List.mem_append_right _ (List.mem_append_right _ (List.mem_append_right _ (List.mem_append_right _ (List.mem_append_right _ (List.mem_append_right _ (List.mem_append_right _ (List.mem_append_right _ (List.mem_append_right _ (List.mem_append_right _ (List.mem_append_right _ (List.mem_append_right _ (List.mem_append_left _ (List.mem_of_getElem? (l := px_all_17) (i := 4) rfl))))))))))))))))))
theorem px_w345 : (Jvm.Cond.selects "MatroidDesk" ({ cls := "MatroidDesk", name := "matroidAt", desc := "(I)LMatroidDesk$Matroid;" } : Jvm.MethodName) ({ cls := "MatroidDesk", name := "matroidAt", desc := "(I)LMatroidDesk$Matroid;" } : Jvm.MethodName)) ∈ px_all := List.mem_append_right _ (List.mem_append_right _ (List.mem_append_right _ (List.mem_append_right _ (List.mem_append_right _ (List.mem_append_right _ (List.mem_append_right _ (List.mem_append_right _ (List.mem_append_right _ (List.mem_append_right _ (List.mem_append_right _ (List.mem_append_right _ (List.mem_append_right _ (List.mem_append_right _ (List.mem_append_right _ (List.mem_append_right _ (List.mem_append_right _ (List.mem_append_left _ (List.mem_of_getElem? (l := px_all_17) (i := 5) rfl))))))))))))))))))
theorem px_w346 : (Jvm.Cond.code ({ cls := "MatroidDesk", name := "elements", desc := "(I)I" } : Jvm.MethodName) prog_1_method_9_code (3 : Nat) (Option.some Jvm.ClassFile.FieldType.int)) ∈ px_all := List.mem_append_right _ (List.mem_append_right _ (List.mem_append_right _ (List.mem_append_right _ (List.mem_append_right _ (List.mem_append_right _ (List.mem_append_right _ (List.mem_append_right _ (List.mem_append_right _ (List.mem_append_right _ (List.mem_append_right _ (List.mem_append_right _ (List.mem_append_right _ (List.mem_append_right _ (List.mem_append_right _ (List.mem_append_right _ (List.mem_append_right _ (List.mem_append_left _ (List.mem_of_getElem? (l := px_all_17) (i := 6) rfl))))))))))))))))))
theorem px_w347 : (Jvm.Cond.instanceMethod ({ cls := "MatroidDesk", name := "elements", desc := "(I)I" } : Jvm.MethodName)) ∈ px_all := List.mem_append_right _ (List.mem_append_right _ (List.mem_append_right _ (List.mem_append_right _ (List.mem_append_right _ (List.mem_append_right _ (List.mem_append_right _ (List.mem_append_right _ (List.mem_append_right _ (List.mem_append_right _ (List.mem_append_right _ (List.mem_append_right _ (List.mem_append_right _ (List.mem_append_right _ (List.mem_append_right _ (List.mem_append_right _ (List.mem_append_right _ (List.mem_append_left _ (List.mem_of_getElem? (l := px_all_17) (i := 7) rfl))))))))))))))))))
theorem px_w348 : (Jvm.Cond.selects "MatroidDesk" ({ cls := "MatroidDesk", name := "elements", desc := "(I)I" } : Jvm.MethodName) ({ cls := "MatroidDesk", name := "elements", desc := "(I)I" } : Jvm.MethodName)) ∈ px_all := List.mem_append_right _ (List.mem_append_right _ (List.mem_append_right _ (List.mem_append_right _ (List.mem_append_right _ (List.mem_append_right _ (List.mem_append_right _ (List.mem_append_right _ (List.mem_append_right _ (List.mem_append_right _ (List.mem_append_right _ (List.mem_append_right _ (List.mem_append_right _ (List.mem_append_right _ (List.mem_append_right _ (List.mem_append_right _ (List.mem_append_right _ (List.mem_append_left _ (List.mem_of_getElem? (l := px_all_17) (i := 8) rfl))))))))))))))))))
theorem px_w349 : (Jvm.Cond.code ({ cls := "MatroidDesk", name := "field", desc := "(I)I" } : Jvm.MethodName) prog_1_method_10_code (3 : Nat) (Option.some Jvm.ClassFile.FieldType.int)) ∈ px_all := List.mem_append_right _ (List.mem_append_right _ (List.mem_append_right _ (List.mem_append_right _ (List.mem_append_right _ (List.mem_append_right _ (List.mem_append_right _ (List.mem_append_right _ (List.mem_append_right _ (List.mem_append_right _ (List.mem_append_right _ (List.mem_append_right _ (List.mem_append_right _ (List.mem_append_right _ (List.mem_append_right _ (List.mem_append_right _ (List.mem_append_right _ (List.mem_append_left _ (List.mem_of_getElem? (l := px_all_17) (i := 9) rfl))))))))))))))))))
theorem px_w350 : (Jvm.Cond.instanceMethod ({ cls := "MatroidDesk", name := "field", desc := "(I)I" } : Jvm.MethodName)) ∈ px_all := List.mem_append_right _ (List.mem_append_right _ (List.mem_append_right _ (List.mem_append_right _ (List.mem_append_right _ (List.mem_append_right _ (List.mem_append_right _ (List.mem_append_right _ (List.mem_append_right _ (List.mem_append_right _ (List.mem_append_right _ (List.mem_append_right _ (List.mem_append_right _ (List.mem_append_right _ (List.mem_append_right _ (List.mem_append_right _ (List.mem_append_right _ (List.mem_append_left _ (List.mem_of_getElem? (l := px_all_17) (i := 10) rfl))))))))))))))))))
theorem px_w351 : (Jvm.Cond.selects "MatroidDesk" ({ cls := "MatroidDesk", name := "field", desc := "(I)I" } : Jvm.MethodName) ({ cls := "MatroidDesk", name := "field", desc := "(I)I" } : Jvm.MethodName)) ∈ px_all := List.mem_append_right _ (List.mem_append_right _ (List.mem_append_right _ (List.mem_append_right _ (List.mem_append_right _ (List.mem_append_right _ (List.mem_append_right _ (List.mem_append_right _ (List.mem_append_right _ (List.mem_append_right _ (List.mem_append_right _ (List.mem_append_right _ (List.mem_append_right _ (List.mem_append_right _ (List.mem_append_right _ (List.mem_append_right _ (List.mem_append_right _ (List.mem_append_left _ (List.mem_of_getElem? (l := px_all_17) (i := 11) rfl))))))))))))))))))
theorem px_w352 : (Jvm.Cond.code ({ cls := "MatroidDesk", name := "rank", desc := "(II)I" } : Jvm.MethodName) prog_1_method_11_code (4 : Nat) (Option.some Jvm.ClassFile.FieldType.int)) ∈ px_all := List.mem_append_right _ (List.mem_append_right _ (List.mem_append_right _ (List.mem_append_right _ (List.mem_append_right _ (List.mem_append_right _ (List.mem_append_right _ (List.mem_append_right _ (List.mem_append_right _ (List.mem_append_right _ (List.mem_append_right _ (List.mem_append_right _ (List.mem_append_right _ (List.mem_append_right _ (List.mem_append_right _ (List.mem_append_right _ (List.mem_append_right _ (List.mem_append_left _ (List.mem_of_getElem? (l := px_all_17) (i := 12) rfl))))))))))))))))))
theorem px_w353 : (Jvm.Cond.instanceMethod ({ cls := "MatroidDesk", name := "rank", desc := "(II)I" } : Jvm.MethodName)) ∈ px_all := List.mem_append_right _ (List.mem_append_right _ (List.mem_append_right _ (List.mem_append_right _ (List.mem_append_right _ (List.mem_append_right _ (List.mem_append_right _ (List.mem_append_right _ (List.mem_append_right _ (List.mem_append_right _ (List.mem_append_right _ (List.mem_append_right _ (List.mem_append_right _ (List.mem_append_right _ (List.mem_append_right _ (List.mem_append_right _ (List.mem_append_right _ (List.mem_append_left _ (List.mem_of_getElem? (l := px_all_17) (i := 13) rfl))))))))))))))))))
theorem px_w354 : (Jvm.Cond.selects "MatroidDesk" ({ cls := "MatroidDesk", name := "rank", desc := "(II)I" } : Jvm.MethodName) ({ cls := "MatroidDesk", name := "rank", desc := "(II)I" } : Jvm.MethodName)) ∈ px_all := List.mem_append_right _ (List.mem_append_right _ (List.mem_append_right _ (List.mem_append_right _ (List.mem_append_right _ (List.mem_append_right _ (List.mem_append_right _ (List.mem_append_right _ (List.mem_append_right _ (List.mem_append_right _ (List.mem_append_right _ (List.mem_append_right _ (List.mem_append_right _ (List.mem_append_right _ (List.mem_append_right _ (List.mem_append_right _ (List.mem_append_right _ (List.mem_append_left _ (List.mem_of_getElem? (l := px_all_17) (i := 14) rfl))))))))))))))))))
theorem px_w355 : (Jvm.Cond.code ({ cls := "MatroidDesk", name := "count", desc := "(II)I" } : Jvm.MethodName) prog_1_method_12_code (4 : Nat) (Option.some Jvm.ClassFile.FieldType.int)) ∈ px_all := List.mem_append_right _ (List.mem_append_right _ (List.mem_append_right _ (List.mem_append_right _ (List.mem_append_right _ (List.mem_append_right _ (List.mem_append_right _ (List.mem_append_right _ (List.mem_append_right _ (List.mem_append_right _ (List.mem_append_right _ (List.mem_append_right _ (List.mem_append_right _ (List.mem_append_right _ (List.mem_append_right _ (List.mem_append_right _ (List.mem_append_right _ (List.mem_append_left _ (List.mem_of_getElem? (l := px_all_17) (i := 15) rfl))))))))))))))))))
theorem px_w356 : (Jvm.Cond.instanceMethod ({ cls := "MatroidDesk", name := "count", desc := "(II)I" } : Jvm.MethodName)) ∈ px_all := List.mem_append_right _ (List.mem_append_right _ (List.mem_append_right _ (List.mem_append_right _ (List.mem_append_right _ (List.mem_append_right _ (List.mem_append_right _ (List.mem_append_right _ (List.mem_append_right _ (List.mem_append_right _ (List.mem_append_right _ (List.mem_append_right _ (List.mem_append_right _ (List.mem_append_right _ (List.mem_append_right _ (List.mem_append_right _ (List.mem_append_right _ (List.mem_append_left _ (List.mem_of_getElem? (l := px_all_17) (i := 16) rfl))))))))))))))))))
theorem px_w357 : (Jvm.Cond.selects "MatroidDesk" ({ cls := "MatroidDesk", name := "count", desc := "(II)I" } : Jvm.MethodName) ({ cls := "MatroidDesk", name := "count", desc := "(II)I" } : Jvm.MethodName)) ∈ px_all := List.mem_append_right _ (List.mem_append_right _ (List.mem_append_right _ (List.mem_append_right _ (List.mem_append_right _ (List.mem_append_right _ (List.mem_append_right _ (List.mem_append_right _ (List.mem_append_right _ (List.mem_append_right _ (List.mem_append_right _ (List.mem_append_right _ (List.mem_append_right _ (List.mem_append_right _ (List.mem_append_right _ (List.mem_append_right _ (List.mem_append_right _ (List.mem_append_left _ (List.mem_of_getElem? (l := px_all_17) (i := 17) rfl))))))))))))))))))
theorem px_w358 : (Jvm.Cond.code ({ cls := "MatroidDesk", name := "member", desc := "(III)I" } : Jvm.MethodName) prog_1_method_13_code (5 : Nat) (Option.some Jvm.ClassFile.FieldType.int)) ∈ px_all := List.mem_append_right _ (List.mem_append_right _ (List.mem_append_right _ (List.mem_append_right _ (List.mem_append_right _ (List.mem_append_right _ (List.mem_append_right _ (List.mem_append_right _ (List.mem_append_right _ (List.mem_append_right _ (List.mem_append_right _ (List.mem_append_right _ (List.mem_append_right _ (List.mem_append_right _ (List.mem_append_right _ (List.mem_append_right _ (List.mem_append_right _ (List.mem_append_left _ (List.mem_of_getElem? (l := px_all_17) (i := 18) rfl))))))))))))))))))
theorem px_w359 : (Jvm.Cond.instanceMethod ({ cls := "MatroidDesk", name := "member", desc := "(III)I" } : Jvm.MethodName)) ∈ px_all := List.mem_append_right _ (List.mem_append_right _ (List.mem_append_right _ (List.mem_append_right _ (List.mem_append_right _ (List.mem_append_right _ (List.mem_append_right _ (List.mem_append_right _ (List.mem_append_right _ (List.mem_append_right _ (List.mem_append_right _ (List.mem_append_right _ (List.mem_append_right _ (List.mem_append_right _ (List.mem_append_right _ (List.mem_append_right _ (List.mem_append_right _ (List.mem_append_left _ (List.mem_of_getElem? (l := px_all_17) (i := 19) rfl))))))))))))))))))
theorem px_w360 : (Jvm.Cond.selects "MatroidDesk" ({ cls := "MatroidDesk", name := "member", desc := "(III)I" } : Jvm.MethodName) ({ cls := "MatroidDesk", name := "member", desc := "(III)I" } : Jvm.MethodName)) ∈ px_all := List.mem_append_right _ (List.mem_append_right _ (List.mem_append_right _ (List.mem_append_right _ (List.mem_append_right _ (List.mem_append_right _ (List.mem_append_right _ (List.mem_append_right _ (List.mem_append_right _ (List.mem_append_right _ (List.mem_append_right _ (List.mem_append_right _ (List.mem_append_right _ (List.mem_append_right _ (List.mem_append_right _ (List.mem_append_right _ (List.mem_append_right _ (List.mem_append_right _ (List.mem_append_left _ (List.mem_of_getElem? (l := px_all_18) (i := 0) rfl)))))))))))))))))))
theorem px_w361 : (Jvm.Cond.code ({ cls := "MatroidDesk", name := "tutte", desc := "(III)J" } : Jvm.MethodName) prog_1_method_14_code (5 : Nat) (Option.some Jvm.ClassFile.FieldType.long)) ∈ px_all := List.mem_append_right _ (List.mem_append_right _ (List.mem_append_right _ (List.mem_append_right _ (List.mem_append_right _ (List.mem_append_right _ (List.mem_append_right _ (List.mem_append_right _ (List.mem_append_right _ (List.mem_append_right _ (List.mem_append_right _ (List.mem_append_right _ (List.mem_append_right _ (List.mem_append_right _ (List.mem_append_right _ (List.mem_append_right _ (List.mem_append_right _ (List.mem_append_right _ (List.mem_append_left _ (List.mem_of_getElem? (l := px_all_18) (i := 1) rfl)))))))))))))))))))
theorem px_w362 : (Jvm.Cond.instanceMethod ({ cls := "MatroidDesk", name := "tutte", desc := "(III)J" } : Jvm.MethodName)) ∈ px_all := List.mem_append_right _ (List.mem_append_right _ (List.mem_append_right _ (List.mem_append_right _ (List.mem_append_right _ (List.mem_append_right _ (List.mem_append_right _ (List.mem_append_right _ (List.mem_append_right _ (List.mem_append_right _ (List.mem_append_right _ (List.mem_append_right _ (List.mem_append_right _ (List.mem_append_right _ (List.mem_append_right _ (List.mem_append_right _ (List.mem_append_right _ (List.mem_append_right _ (List.mem_append_left _ (List.mem_of_getElem? (l := px_all_18) (i := 2) rfl)))))))))))))))))))
theorem px_w363 : (Jvm.Cond.selects "MatroidDesk" ({ cls := "MatroidDesk", name := "tutte", desc := "(III)J" } : Jvm.MethodName) ({ cls := "MatroidDesk", name := "tutte", desc := "(III)J" } : Jvm.MethodName)) ∈ px_all := List.mem_append_right _ (List.mem_append_right _ (List.mem_append_right _ (List.mem_append_right _ (List.mem_append_right _ (List.mem_append_right _ (List.mem_append_right _ (List.mem_append_right _ (List.mem_append_right _ (List.mem_append_right _ (List.mem_append_right _ (List.mem_append_right _ (List.mem_append_right _ (List.mem_append_right _ (List.mem_append_right _ (List.mem_append_right _ (List.mem_append_right _ (List.mem_append_right _ (List.mem_append_left _ (List.mem_of_getElem? (l := px_all_18) (i := 3) rfl)))))))))))))))))))
theorem px_w364 : (Jvm.Cond.code ({ cls := "MatroidDesk", name := "weight", desc := "(II)I" } : Jvm.MethodName) prog_1_method_15_code (4 : Nat) (Option.some Jvm.ClassFile.FieldType.int)) ∈ px_all := List.mem_append_right _ (List.mem_append_right _ (List.mem_append_right _ (List.mem_append_right _ (List.mem_append_right _ (List.mem_append_right _ (List.mem_append_right _ (List.mem_append_right _ (List.mem_append_right _ (List.mem_append_right _ (List.mem_append_right _ (List.mem_append_right _ (List.mem_append_right _ (List.mem_append_right _ (List.mem_append_right _ (List.mem_append_right _ (List.mem_append_right _ (List.mem_append_right _ (List.mem_append_left _ (List.mem_of_getElem? (l := px_all_18) (i := 4) rfl)))))))))))))))))))
theorem px_w365 : (Jvm.Cond.instanceMethod ({ cls := "MatroidDesk", name := "weight", desc := "(II)I" } : Jvm.MethodName)) ∈ px_all := List.mem_append_right _ (List.mem_append_right _ (List.mem_append_right _ (List.mem_append_right _ (List.mem_append_right _ (List.mem_append_right _ (List.mem_append_right _ (List.mem_append_right _ (List.mem_append_right _ (List.mem_append_right _ (List.mem_append_right _ (List.mem_append_right _ (List.mem_append_right _ (List.mem_append_right _ (List.mem_append_right _ (List.mem_append_right _ (List.mem_append_right _ (List.mem_append_right _ (List.mem_append_left _ (List.mem_of_getElem? (l := px_all_18) (i := 5) rfl)))))))))))))))))))
theorem px_w366 : (Jvm.Cond.selects "MatroidDesk" ({ cls := "MatroidDesk", name := "weight", desc := "(II)I" } : Jvm.MethodName) ({ cls := "MatroidDesk", name := "weight", desc := "(II)I" } : Jvm.MethodName)) ∈ px_all := List.mem_append_right _ (List.mem_append_right _ (List.mem_append_right _ (List.mem_append_right _ (List.mem_append_right _ (List.mem_append_right _ (List.mem_append_right _ (List.mem_append_right _ (List.mem_append_right _ (List.mem_append_right _ (List.mem_append_right _ (List.mem_append_right _ (List.mem_append_right _ (List.mem_append_right _ (List.mem_append_right _ (List.mem_append_right _ (List.mem_append_right _ (List.mem_append_right _ (List.mem_append_left _ (List.mem_of_getElem? (l := px_all_18) (i := 6) rfl)))))))))))))))))))
theorem px_w367 : (Jvm.Cond.code ({ cls := "MatroidDesk", name := "best", desc := "(I)I" } : Jvm.MethodName) prog_1_method_16_code (3 : Nat) (Option.some Jvm.ClassFile.FieldType.int)) ∈ px_all := List.mem_append_right _ (List.mem_append_right _ (List.mem_append_right _ (List.mem_append_right _ (List.mem_append_right _ (List.mem_append_right _ (List.mem_append_right _ (List.mem_append_right _ (List.mem_append_right _ (List.mem_append_right _ (List.mem_append_right _ (List.mem_append_right _ (List.mem_append_right _ (List.mem_append_right _ (List.mem_append_right _ (List.mem_append_right _ (List.mem_append_right _ (List.mem_append_right _ (List.mem_append_left _ (List.mem_of_getElem? (l := px_all_18) (i := 7) rfl)))))))))))))))))))
theorem px_w368 : (Jvm.Cond.instanceMethod ({ cls := "MatroidDesk", name := "best", desc := "(I)I" } : Jvm.MethodName)) ∈ px_all := List.mem_append_right _ (List.mem_append_right _ (List.mem_append_right _ (List.mem_append_right _ (List.mem_append_right _ (List.mem_append_right _ (List.mem_append_right _ (List.mem_append_right _ (List.mem_append_right _ (List.mem_append_right _ (List.mem_append_right _ (List.mem_append_right _ (List.mem_append_right _ (List.mem_append_right _ (List.mem_append_right _ (List.mem_append_right _ (List.mem_append_right _ (List.mem_append_right _ (List.mem_append_left _ (List.mem_of_getElem? (l := px_all_18) (i := 8) rfl)))))))))))))))))))
theorem px_w369 : (Jvm.Cond.selects "MatroidDesk" ({ cls := "MatroidDesk", name := "best", desc := "(I)I" } : Jvm.MethodName) ({ cls := "MatroidDesk", name := "best", desc := "(I)I" } : Jvm.MethodName)) ∈ px_all := List.mem_append_right _ (List.mem_append_right _ (List.mem_append_right _ (List.mem_append_right _ (List.mem_append_right _ (List.mem_append_right _ (List.mem_append_right _ (List.mem_append_right _ (List.mem_append_right _ (List.mem_append_right _ (List.mem_append_right _ (List.mem_append_right _ (List.mem_append_right _ (List.mem_append_right _ (List.mem_append_right _ (List.mem_append_right _ (List.mem_append_right _ (List.mem_append_right _ (List.mem_append_left _ (List.mem_of_getElem? (l := px_all_18) (i := 9) rfl)))))))))))))))))))
theorem px_w370 : (Jvm.Cond.code ({ cls := "MatroidDesk", name := "common", desc := "(II)I" } : Jvm.MethodName) prog_1_method_17_code (6 : Nat) (Option.some Jvm.ClassFile.FieldType.int)) ∈ px_all := List.mem_append_right _ (List.mem_append_right _ (List.mem_append_right _ (List.mem_append_right _ (List.mem_append_right _ (List.mem_append_right _ (List.mem_append_right _ (List.mem_append_right _ (List.mem_append_right _ (List.mem_append_right _ (List.mem_append_right _ (List.mem_append_right _ (List.mem_append_right _ (List.mem_append_right _ (List.mem_append_right _ (List.mem_append_right _ (List.mem_append_right _ (List.mem_append_right _ (List.mem_append_left _ (List.mem_of_getElem? (l := px_all_18) (i := 10) rfl)))))))))))))))))))
theorem px_w371 : (Jvm.Cond.instanceMethod ({ cls := "MatroidDesk", name := "common", desc := "(II)I" } : Jvm.MethodName)) ∈ px_all := List.mem_append_right _ (List.mem_append_right _ (List.mem_append_right _ (List.mem_append_right _ (List.mem_append_right _ (List.mem_append_right _ (List.mem_append_right _ (List.mem_append_right _ (List.mem_append_right _ (List.mem_append_right _ (List.mem_append_right _ (List.mem_append_right _ (List.mem_append_right _ (List.mem_append_right _ (List.mem_append_right _ (List.mem_append_right _ (List.mem_append_right _ (List.mem_append_right _ (List.mem_append_left _ (List.mem_of_getElem? (l := px_all_18) (i := 11) rfl)))))))))))))))))))
theorem px_w372 : (Jvm.Cond.selects "MatroidDesk" ({ cls := "MatroidDesk", name := "common", desc := "(II)I" } : Jvm.MethodName) ({ cls := "MatroidDesk", name := "common", desc := "(II)I" } : Jvm.MethodName)) ∈ px_all := List.mem_append_right _ (List.mem_append_right _ (List.mem_append_right _ (List.mem_append_right _ (List.mem_append_right _ (List.mem_append_right _ (List.mem_append_right _ (List.mem_append_right _ (List.mem_append_right _ (List.mem_append_right _ (List.mem_append_right _ (List.mem_append_right _ (List.mem_append_right _ (List.mem_append_right _ (List.mem_append_right _ (List.mem_append_right _ (List.mem_append_right _ (List.mem_append_right _ (List.mem_append_left _ (List.mem_of_getElem? (l := px_all_18) (i := 12) rfl)))))))))))))))))))
theorem px_w373 : (Jvm.Cond.code ({ cls := "MatroidDesk", name := "cover", desc := "(II)I" } : Jvm.MethodName) prog_1_method_18_code (6 : Nat) (Option.some Jvm.ClassFile.FieldType.int)) ∈ px_all := List.mem_append_right _ (List.mem_append_right _ (List.mem_append_right _ (List.mem_append_right _ (List.mem_append_right _ (List.mem_append_right _ (List.mem_append_right _ (List.mem_append_right _ (List.mem_append_right _ (List.mem_append_right _ (List.mem_append_right _ (List.mem_append_right _ (List.mem_append_right _ (List.mem_append_right _ (List.mem_append_right _ (List.mem_append_right _ (List.mem_append_right _ (List.mem_append_right _ (List.mem_append_left _ (List.mem_of_getElem? (l := px_all_18) (i := 13) rfl)))))))))))))))))))
theorem px_w374 : (Jvm.Cond.instanceMethod ({ cls := "MatroidDesk", name := "cover", desc := "(II)I" } : Jvm.MethodName)) ∈ px_all := List.mem_append_right _ (List.mem_append_right _ (List.mem_append_right _ (List.mem_append_right _ (List.mem_append_right _ (List.mem_append_right _ (List.mem_append_right _ (List.mem_append_right _ (List.mem_append_right _ (List.mem_append_right _ (List.mem_append_right _ (List.mem_append_right _ (List.mem_append_right _ (List.mem_append_right _ (List.mem_append_right _ (List.mem_append_right _ (List.mem_append_right _ (List.mem_append_right _ (List.mem_append_left _ (List.mem_of_getElem? (l := px_all_18) (i := 14) rfl)))))))))))))))))))
theorem px_w375 : (Jvm.Cond.selects "MatroidDesk" ({ cls := "MatroidDesk", name := "cover", desc := "(II)I" } : Jvm.MethodName) ({ cls := "MatroidDesk", name := "cover", desc := "(II)I" } : Jvm.MethodName)) ∈ px_all := List.mem_append_right _ (List.mem_append_right _ (List.mem_append_right _ (List.mem_append_right _ (List.mem_append_right _ (List.mem_append_right _ (List.mem_append_right _ (List.mem_append_right _ (List.mem_append_right _ (List.mem_append_right _ (List.mem_append_right _ (List.mem_append_right _ (List.mem_append_right _ (List.mem_append_right _ (List.mem_append_right _ (List.mem_append_right _ (List.mem_append_right _ (List.mem_append_right _ (List.mem_append_left _ (List.mem_of_getElem? (l := px_all_18) (i := 15) rfl)))))))))))))))))))
theorem px_w376 : (Jvm.Cond.code ({ cls := "MatroidDesk", name := "sign", desc := "(II)I" } : Jvm.MethodName) prog_1_method_19_code (4 : Nat) (Option.some Jvm.ClassFile.FieldType.int)) ∈ px_all := List.mem_append_right _ (List.mem_append_right _ (List.mem_append_right _ (List.mem_append_right _ (List.mem_append_right _ (List.mem_append_right _ (List.mem_append_right _ (List.mem_append_right _ (List.mem_append_right _ (List.mem_append_right _ (List.mem_append_right _ (List.mem_append_right _ (List.mem_append_right _ (List.mem_append_right _ (List.mem_append_right _ (List.mem_append_right _ (List.mem_append_right _ (List.mem_append_right _ (List.mem_append_left _ (List.mem_of_getElem? (l := px_all_18) (i := 16) rfl)))))))))))))))))))
theorem px_w377 : (Jvm.Cond.instanceMethod ({ cls := "MatroidDesk", name := "sign", desc := "(II)I" } : Jvm.MethodName)) ∈ px_all := List.mem_append_right _ (List.mem_append_right _ (List.mem_append_right _ (List.mem_append_right _ (List.mem_append_right _ (List.mem_append_right _ (List.mem_append_right _ (List.mem_append_right _ (List.mem_append_right _ (List.mem_append_right _ (List.mem_append_right _ (List.mem_append_right _ (List.mem_append_right _ (List.mem_append_right _ (List.mem_append_right _ (List.mem_append_right _ (List.mem_append_right _ (List.mem_append_right _ (List.mem_append_left _ (List.mem_of_getElem? (l := px_all_18) (i := 17) rfl)))))))))))))))))))
theorem px_w378 : (Jvm.Cond.selects "MatroidDesk" ({ cls := "MatroidDesk", name := "sign", desc := "(II)I" } : Jvm.MethodName) ({ cls := "MatroidDesk", name := "sign", desc := "(II)I" } : Jvm.MethodName)) ∈ px_all := List.mem_append_right _ (List.mem_append_right _ (List.mem_append_right _ (List.mem_append_right _ (List.mem_append_right _ (List.mem_append_right _ (List.mem_append_right _ (List.mem_append_right _ (List.mem_append_right _ (List.mem_append_right _ (List.mem_append_right _ (List.mem_append_right _ (List.mem_append_right _ (List.mem_append_right _ (List.mem_append_right _ (List.mem_append_right _ (List.mem_append_right _ (List.mem_append_right _ (List.mem_append_left _ (List.mem_of_getElem? (l := px_all_18) (i := 18) rfl)))))))))))))))))))
theorem px_w379 : (Jvm.Cond.code ({ cls := "MatroidDesk", name := "below", desc := "(II)I" } : Jvm.MethodName) prog_1_method_20_code (4 : Nat) (Option.some Jvm.ClassFile.FieldType.int)) ∈ px_all := List.mem_append_right _ (List.mem_append_right _ (List.mem_append_right _ (List.mem_append_right _ (List.mem_append_right _ (List.mem_append_right _ (List.mem_append_right _ (List.mem_append_right _ (List.mem_append_right _ (List.mem_append_right _ (List.mem_append_right _ (List.mem_append_right _ (List.mem_append_right _ (List.mem_append_right _ (List.mem_append_right _ (List.mem_append_right _ (List.mem_append_right _ (List.mem_append_right _ (List.mem_append_left _ (List.mem_of_getElem? (l := px_all_18) (i := 19) rfl)))))))))))))))))))
theorem px_w380 : (Jvm.Cond.instanceMethod ({ cls := "MatroidDesk", name := "below", desc := "(II)I" } : Jvm.MethodName)) ∈ px_all := List.mem_append_right _ (List.mem_append_right _ (List.mem_append_right _ (List.mem_append_right _ (List.mem_append_right _ (List.mem_append_right _ (List.mem_append_right _ (List.mem_append_right _ (List.mem_append_right _ (List.mem_append_right _ (List.mem_append_right _ (List.mem_append_right _ (List.mem_append_right _ (List.mem_append_right _ (List.mem_append_right _ (List.mem_append_right _ (List.mem_append_right _ (List.mem_append_right _ (List.mem_append_right _ (List.mem_append_left _ (List.mem_of_getElem? (l := px_all_19) (i := 0) rfl))))))))))))))))))))
theorem px_w381 : (Jvm.Cond.selects "MatroidDesk" ({ cls := "MatroidDesk", name := "below", desc := "(II)I" } : Jvm.MethodName) ({ cls := "MatroidDesk", name := "below", desc := "(II)I" } : Jvm.MethodName)) ∈ px_all := List.mem_append_right _ (List.mem_append_right _ (List.mem_append_right _ (List.mem_append_right _ (List.mem_append_right _ (List.mem_append_right _ (List.mem_append_right _ (List.mem_append_right _ (List.mem_append_right _ (List.mem_append_right _ (List.mem_append_right _ (List.mem_append_right _ (List.mem_append_right _ (List.mem_append_right _ (List.mem_append_right _ (List.mem_append_right _ (List.mem_append_right _ (List.mem_append_right _ (List.mem_append_right _ (List.mem_append_left _ (List.mem_of_getElem? (l := px_all_19) (i := 1) rfl))))))))))))))))))))
theorem px_w382 : (Jvm.Cond.code ({ cls := "MatroidDesk", name := "isMinor", desc := "(II)Z" } : Jvm.MethodName) prog_1_method_24_code (5 : Nat) (Option.some Jvm.ClassFile.FieldType.boolean)) ∈ px_all := List.mem_append_right _ (List.mem_append_right _ (List.mem_append_right _ (List.mem_append_right _ (List.mem_append_right _ (List.mem_append_right _ (List.mem_append_right _ (List.mem_append_right _ (List.mem_append_right _ (List.mem_append_right _ (List.mem_append_right _ (List.mem_append_right _ (List.mem_append_right _ (List.mem_append_right _ (List.mem_append_right _ (List.mem_append_right _ (List.mem_append_right _ (List.mem_append_right _ (List.mem_append_right _ (List.mem_append_left _ (List.mem_of_getElem? (l := px_all_19) (i := 2) rfl))))))))))))))))))))
theorem px_w383 : (Jvm.Cond.instanceMethod ({ cls := "MatroidDesk", name := "isMinor", desc := "(II)Z" } : Jvm.MethodName)) ∈ px_all := List.mem_append_right _ (List.mem_append_right _ (List.mem_append_right _ (List.mem_append_right _ (List.mem_append_right _ (List.mem_append_right _ (List.mem_append_right _ (List.mem_append_right _ (List.mem_append_right _ (List.mem_append_right _ (List.mem_append_right _ (List.mem_append_right _ (List.mem_append_right _ (List.mem_append_right _ (List.mem_append_right _ (List.mem_append_right _ (List.mem_append_right _ (List.mem_append_right _ (List.mem_append_right _ (List.mem_append_left _ (List.mem_of_getElem? (l := px_all_19) (i := 3) rfl))))))))))))))))))))
theorem px_w384 : (Jvm.Cond.selects "MatroidDesk" ({ cls := "MatroidDesk", name := "isMinor", desc := "(II)Z" } : Jvm.MethodName) ({ cls := "MatroidDesk", name := "isMinor", desc := "(II)Z" } : Jvm.MethodName)) ∈ px_all := List.mem_append_right _ (List.mem_append_right _ (List.mem_append_right _ (List.mem_append_right _ (List.mem_append_right _ (List.mem_append_right _ (List.mem_append_right _ (List.mem_append_right _ (List.mem_append_right _ (List.mem_append_right _ (List.mem_append_right _ (List.mem_append_right _ (List.mem_append_right _ (List.mem_append_right _ (List.mem_append_right _ (List.mem_append_right _ (List.mem_append_right _ (List.mem_append_right _ (List.mem_append_right _ (List.mem_append_left _ (List.mem_of_getElem? (l := px_all_19) (i := 4) rfl))))))))))))))))))))
theorem px_w385 : (Jvm.Cond.code ({ cls := "MatroidDesk", name := "contracted", desc := "(II)I" } : Jvm.MethodName) prog_1_method_21_code (3 : Nat) (Option.some Jvm.ClassFile.FieldType.int)) ∈ px_all := List.mem_append_right _ (List.mem_append_right _ (List.mem_append_right _ (List.mem_append_right _ (List.mem_append_right _ (List.mem_append_right _ (List.mem_append_right _ (List.mem_append_right _ (List.mem_append_right _ (List.mem_append_right _ (List.mem_append_right _ (List.mem_append_right _ (List.mem_append_right _ (List.mem_append_right _ (List.mem_append_right _ (List.mem_append_right _ (List.mem_append_right _ (List.mem_append_right _ (List.mem_append_right _ (List.mem_append_left _ (List.mem_of_getElem? (l := px_all_19) (i := 5) rfl))))))))))))))))))))
theorem px_w386 : (Jvm.Cond.instanceMethod ({ cls := "MatroidDesk", name := "contracted", desc := "(II)I" } : Jvm.MethodName)) ∈ px_all := List.mem_append_right _ (List.mem_append_right _ (List.mem_append_right _ (List.mem_append_right _ (List.mem_append_right _ (List.mem_append_right _ (List.mem_append_right _ (List.mem_append_right _ (List.mem_append_right _ (List.mem_append_right _ (List.mem_append_right _ (List.mem_append_right _ (List.mem_append_right _ (List.mem_append_right _ (List.mem_append_right _ (List.mem_append_right _ (List.mem_append_right _ (List.mem_append_right _ (List.mem_append_right _ (List.mem_append_left _ (List.mem_of_getElem? (l := px_all_19) (i := 6) rfl))))))))))))))))))))
theorem px_w387 : (Jvm.Cond.selects "MatroidDesk" ({ cls := "MatroidDesk", name := "contracted", desc := "(II)I" } : Jvm.MethodName) ({ cls := "MatroidDesk", name := "contracted", desc := "(II)I" } : Jvm.MethodName)) ∈ px_all := List.mem_append_right _ (List.mem_append_right _ (List.mem_append_right _ (List.mem_append_right _ (List.mem_append_right _ (List.mem_append_right _ (List.mem_append_right _ (List.mem_append_right _ (List.mem_append_right _ (List.mem_append_right _ (List.mem_append_right _ (List.mem_append_right _ (List.mem_append_right _ (List.mem_append_right _ (List.mem_append_right _ (List.mem_append_right _ (List.mem_append_right _ (List.mem_append_right _ (List.mem_append_right _ (List.mem_append_left _ (List.mem_of_getElem? (l := px_all_19) (i := 7) rfl))))))))))))))))))))
theorem px_w388 : (Jvm.Cond.methodLink "MatroidDesk" (215 : Nat) ({ cls := "MatroidDesk", name := "isMinor", desc := "(II)Z" } : Jvm.MethodName)) ∈ px_all := List.mem_append_right _ (List.mem_append_right _ (List.mem_append_right _ (List.mem_append_right _ (List.mem_append_right _ (List.mem_append_right _ (List.mem_append_right _ (List.mem_append_right _ (List.mem_append_right _ (List.mem_append_right _ (List.mem_append_right _ (List.mem_append_right _ (List.mem_append_right _ (List.mem_append_right _ (List.mem_append_right _ (List.mem_append_right _ (List.mem_append_right _ (List.mem_append_right _ (List.mem_append_right _ (List.mem_append_left _ (List.mem_of_getElem? (l := px_all_19) (i := 8) rfl))))))))))))))))))))
theorem px_w389 : (Jvm.Cond.code ({ cls := "MatroidDesk", name := "deleted", desc := "(II)I" } : Jvm.MethodName) prog_1_method_22_code (3 : Nat) (Option.some Jvm.ClassFile.FieldType.int)) ∈ px_all := List.mem_append_right _ (List.mem_append_right _ (List.mem_append_right _ (List.mem_append_right _ (List.mem_append_right _ (List.mem_append_right _ (List.mem_append_right _ (List.mem_append_right _ (List.mem_append_right _ (List.mem_append_right _ (List.mem_append_right _ (List.mem_append_right _ (List.mem_append_right _ (List.mem_append_right _ (List.mem_append_right _ (List.mem_append_right _ (List.mem_append_right _ (List.mem_append_right _ (List.mem_append_right _ (List.mem_append_left _ (List.mem_of_getElem? (l := px_all_19) (i := 9) rfl))))))))))))))))))))
theorem px_w390 : (Jvm.Cond.instanceMethod ({ cls := "MatroidDesk", name := "deleted", desc := "(II)I" } : Jvm.MethodName)) ∈ px_all := List.mem_append_right _ (List.mem_append_right _ (List.mem_append_right _ (List.mem_append_right _ (List.mem_append_right _ (List.mem_append_right _ (List.mem_append_right _ (List.mem_append_right _ (List.mem_append_right _ (List.mem_append_right _ (List.mem_append_right _ (List.mem_append_right _ (List.mem_append_right _ (List.mem_append_right _ (List.mem_append_right _ (List.mem_append_right _ (List.mem_append_right _ (List.mem_append_right _ (List.mem_append_right _ (List.mem_append_left _ (List.mem_of_getElem? (l := px_all_19) (i := 10) rfl))))))))))))))))))))
theorem px_w391 : (Jvm.Cond.selects "MatroidDesk" ({ cls := "MatroidDesk", name := "deleted", desc := "(II)I" } : Jvm.MethodName) ({ cls := "MatroidDesk", name := "deleted", desc := "(II)I" } : Jvm.MethodName)) ∈ px_all := List.mem_append_right _ (List.mem_append_right _ (List.mem_append_right _ (List.mem_append_right _ (List.mem_append_right _ (List.mem_append_right _ (List.mem_append_right _ (List.mem_append_right _ (List.mem_append_right _ (List.mem_append_right _ (List.mem_append_right _ (List.mem_append_right _ (List.mem_append_right _ (List.mem_append_right _ (List.mem_append_right _ (List.mem_append_right _ (List.mem_append_right _ (List.mem_append_right _ (List.mem_append_right _ (List.mem_append_left _ (List.mem_of_getElem? (l := px_all_19) (i := 11) rfl))))))))))))))))))))
theorem px_w392 : (Jvm.Cond.code ({ cls := "MatroidDesk", name := "image", desc := "(III)I" } : Jvm.MethodName) prog_1_method_23_code (6 : Nat) (Option.some Jvm.ClassFile.FieldType.int)) ∈ px_all := List.mem_append_right _ (List.mem_append_right _ (List.mem_append_right _ (List.mem_append_right _ (List.mem_append_right _ (List.mem_append_right _ (List.mem_append_right _ (List.mem_append_right _ (List.mem_append_right _ (List.mem_append_right _ (List.mem_append_right _ (List.mem_append_right _ (List.mem_append_right _ (List.mem_append_right _ (List.mem_append_right _ (List.mem_append_right _ (List.mem_append_right _ (List.mem_append_right _ (List.mem_append_right _ (List.mem_append_left _ (List.mem_of_getElem? (l := px_all_19) (i := 12) rfl))))))))))))))))))))
theorem px_w393 : (Jvm.Cond.instanceMethod ({ cls := "MatroidDesk", name := "image", desc := "(III)I" } : Jvm.MethodName)) ∈ px_all := List.mem_append_right _ (List.mem_append_right _ (List.mem_append_right _ (List.mem_append_right _ (List.mem_append_right _ (List.mem_append_right _ (List.mem_append_right _ (List.mem_append_right _ (List.mem_append_right _ (List.mem_append_right _ (List.mem_append_right _ (List.mem_append_right _ (List.mem_append_right _ (List.mem_append_right _ (List.mem_append_right _ (List.mem_append_right _ (List.mem_append_right _ (List.mem_append_right _ (List.mem_append_right _ (List.mem_append_left _ (List.mem_of_getElem? (l := px_all_19) (i := 13) rfl))))))))))))))))))))
theorem px_w394 : (Jvm.Cond.selects "MatroidDesk" ({ cls := "MatroidDesk", name := "image", desc := "(III)I" } : Jvm.MethodName) ({ cls := "MatroidDesk", name := "image", desc := "(III)I" } : Jvm.MethodName)) ∈ px_all := List.mem_append_right _ (List.mem_append_right _ (List.mem_append_right _ (List.mem_append_right _ (List.mem_append_right _ (List.mem_append_right _ (List.mem_append_right _ (List.mem_append_right _ (List.mem_append_right _ (List.mem_append_right _ (List.mem_append_right _ (List.mem_append_right _ (List.mem_append_right _ (List.mem_append_right _ (List.mem_append_right _ (List.mem_append_right _ (List.mem_append_right _ (List.mem_append_right _ (List.mem_append_right _ (List.mem_append_left _ (List.mem_of_getElem? (l := px_all_19) (i := 14) rfl))))))))))))))))))))
theorem px_w395 : (Jvm.Cond.code ({ cls := "MatroidDeskModel", name := "take", desc := "(I)V" } : Jvm.MethodName) prog_15_method_89_code (3 : Nat) (Option.none : Option Jvm.ClassFile.FieldType)) ∈ px_all := List.mem_append_right _ (List.mem_append_right _ (List.mem_append_right _ (List.mem_append_right _ (List.mem_append_right _ (List.mem_append_right _ (List.mem_append_right _ (List.mem_append_right _ (List.mem_append_right _ (List.mem_append_right _ (List.mem_append_right _ (List.mem_append_right _ (List.mem_append_right _ (List.mem_append_right _ (List.mem_append_right _ (List.mem_append_right _ (List.mem_append_right _ (List.mem_append_right _ (List.mem_append_right _ (List.mem_append_left _ (List.mem_of_getElem? (l := px_all_19) (i := 15) rfl))))))))))))))))))))
theorem px_w396 : (Jvm.Cond.instanceMethod ({ cls := "MatroidDeskModel", name := "take", desc := "(I)V" } : Jvm.MethodName)) ∈ px_all := List.mem_append_right _ (List.mem_append_right _ (List.mem_append_right _ (List.mem_append_right _ (List.mem_append_right _ (List.mem_append_right _ (List.mem_append_right _ (List.mem_append_right _ (List.mem_append_right _ (List.mem_append_right _ (List.mem_append_right _ (List.mem_append_right _ (List.mem_append_right _ (List.mem_append_right _ (List.mem_append_right _ (List.mem_append_right _ (List.mem_append_right _ (List.mem_append_right _ (List.mem_append_right _ (List.mem_append_left _ (List.mem_of_getElem? (l := px_all_19) (i := 16) rfl))))))))))))))))))))
theorem px_w397 : (Jvm.Cond.selects "MatroidDeskModel" ({ cls := "MatroidDeskModel", name := "take", desc := "(I)V" } : Jvm.MethodName) ({ cls := "MatroidDeskModel", name := "take", desc := "(I)V" } : Jvm.MethodName)) ∈ px_all := List.mem_append_right _ (List.mem_append_right _ (List.mem_append_right _ (List.mem_append_right _ (List.mem_append_right _ (List.mem_append_right _ (List.mem_append_right _ (List.mem_append_right _ (List.mem_append_right _ (List.mem_append_right _ (List.mem_append_right _ (List.mem_append_right _ (List.mem_append_right _ (List.mem_append_right _ (List.mem_append_right _ (List.mem_append_right _ (List.mem_append_right _ (List.mem_append_right _ (List.mem_append_right _ (List.mem_append_left _ (List.mem_of_getElem? (l := px_all_19) (i := 17) rfl))))))))))))))))))))
theorem px_w398 : (Jvm.Cond.fieldLink "MatroidDeskModel" (508 : Nat) "MatroidDeskModel" "size" "I") ∈ px_all := List.mem_append_right _ (List.mem_append_right _ (List.mem_append_right _ (List.mem_append_right _ (List.mem_append_right _ (List.mem_append_right _ (List.mem_append_right _ (List.mem_append_right _ (List.mem_append_right _ (List.mem_append_right _ (List.mem_append_right _ (List.mem_append_right _ (List.mem_append_right _ (List.mem_append_right _ (List.mem_append_right _ (List.mem_append_right _ (List.mem_append_right _ (List.mem_append_right _ (List.mem_append_right _ (List.mem_append_left _ (List.mem_of_getElem? (l := px_all_19) (i := 18) rfl))))))))))))))))))))
theorem px_w399 : (Jvm.Cond.code ({ cls := "MatroidDeskModel", name := "feed", desc := "(IIIII)V" } : Jvm.MethodName) prog_15_method_90_code (6 : Nat) (Option.none : Option Jvm.ClassFile.FieldType)) ∈ px_all := List.mem_append_right _ (List.mem_append_right _ (List.mem_append_right _ (List.mem_append_right _ (List.mem_append_right _ (List.mem_append_right _ (List.mem_append_right _ (List.mem_append_right _ (List.mem_append_right _ (List.mem_append_right _ (List.mem_append_right _ (List.mem_append_right _ (List.mem_append_right _ (List.mem_append_right _ (List.mem_append_right _ (List.mem_append_right _ (List.mem_append_right _ (List.mem_append_right _ (List.mem_append_right _ (List.mem_append_left _ (List.mem_of_getElem? (l := px_all_19) (i := 19) rfl))))))))))))))))))))
theorem px_w400 : (Jvm.Cond.instanceMethod ({ cls := "MatroidDeskModel", name := "feed", desc := "(IIIII)V" } : Jvm.MethodName)) ∈ px_all := List.mem_append_right _ (List.mem_append_right _ (List.mem_append_right _ (List.mem_append_right _ (List.mem_append_right _ (List.mem_append_right _ (List.mem_append_right _ (List.mem_append_right _ (List.mem_append_right _ (List.mem_append_right _ (List.mem_append_right _ (List.mem_append_right _ (List.mem_append_right _ (List.mem_append_right _ (List.mem_append_right _ (List.mem_append_right _ (List.mem_append_right _ (List.mem_append_right _ (List.mem_append_right _ (List.mem_append_right _ (List.mem_append_left _ (List.mem_of_getElem? (l := px_all_20) (i := 0) rfl)))))))))))))))))))))
theorem px_w401 : (Jvm.Cond.selects "MatroidDeskModel" ({ cls := "MatroidDeskModel", name := "feed", desc := "(IIIII)V" } : Jvm.MethodName) ({ cls := "MatroidDeskModel", name := "feed", desc := "(IIIII)V" } : Jvm.MethodName)) ∈ px_all := List.mem_append_right _ (List.mem_append_right _ (List.mem_append_right _ (List.mem_append_right _ (List.mem_append_right _ (List.mem_append_right _ (List.mem_append_right _ (List.mem_append_right _ (List.mem_append_right _ (List.mem_append_right _ (List.mem_append_right _ (List.mem_append_right _ (List.mem_append_right _ (List.mem_append_right _ (List.mem_append_right _ (List.mem_append_right _ (List.mem_append_right _ (List.mem_append_right _ (List.mem_append_right _ (List.mem_append_right _ (List.mem_append_left _ (List.mem_of_getElem? (l := px_all_20) (i := 1) rfl)))))))))))))))))))))
theorem px_w402 : (Jvm.Cond.fieldLink "MatroidDeskModel" (505 : Nat) "MatroidDeskModel" "fault" "I") ∈ px_all := List.mem_append_right _ (List.mem_append_right _ (List.mem_append_right _ (List.mem_append_right _ (List.mem_append_right _ (List.mem_append_right _ (List.mem_append_right _ (List.mem_append_right _ (List.mem_append_right _ (List.mem_append_right _ (List.mem_append_right _ (List.mem_append_right _ (List.mem_append_right _ (List.mem_append_right _ (List.mem_append_right _ (List.mem_append_right _ (List.mem_append_right _ (List.mem_append_right _ (List.mem_append_right _ (List.mem_append_right _ (List.mem_append_left _ (List.mem_of_getElem? (l := px_all_20) (i := 2) rfl)))))))))))))))))))))
theorem px_w403 : (Jvm.Cond.methodLink "MatroidDeskModel" (511 : Nat) ({ cls := "MatroidDeskModel", name := "take", desc := "(I)V" } : Jvm.MethodName)) ∈ px_all := List.mem_append_right _ (List.mem_append_right _ (List.mem_append_right _ (List.mem_append_right _ (List.mem_append_right _ (List.mem_append_right _ (List.mem_append_right _ (List.mem_append_right _ (List.mem_append_right _ (List.mem_append_right _ (List.mem_append_right _ (List.mem_append_right _ (List.mem_append_right _ (List.mem_append_right _ (List.mem_append_right _ (List.mem_append_right _ (List.mem_append_right _ (List.mem_append_right _ (List.mem_append_right _ (List.mem_append_right _ (List.mem_append_left _ (List.mem_of_getElem? (l := px_all_20) (i := 3) rfl)))))))))))))))))))))
theorem px_w404 : (Jvm.Cond.code ({ cls := "MatroidDeskModel", name := "end", desc := "(I)I" } : Jvm.MethodName) prog_15_method_91_code (3 : Nat) (Option.some Jvm.ClassFile.FieldType.int)) ∈ px_all := List.mem_append_right _ (List.mem_append_right _ (List.mem_append_right _ (List.mem_append_right _ (List.mem_append_right _ (List.mem_append_right _ (List.mem_append_right _ (List.mem_append_right _ (List.mem_append_right _ (List.mem_append_right _ (List.mem_append_right _ (List.mem_append_right _ (List.mem_append_right _ (List.mem_append_right _ (List.mem_append_right _ (List.mem_append_right _ (List.mem_append_right _ (List.mem_append_right _ (List.mem_append_right _ (List.mem_append_right _ (List.mem_append_left _ (List.mem_of_getElem? (l := px_all_20) (i := 4) rfl)))))))))))))))))))))
theorem px_w405 : (Jvm.Cond.instanceMethod ({ cls := "MatroidDeskModel", name := "end", desc := "(I)I" } : Jvm.MethodName)) ∈ px_all := List.mem_append_right _ (List.mem_append_right _ (List.mem_append_right _ (List.mem_append_right _ (List.mem_append_right _ (List.mem_append_right _ (List.mem_append_right _ (List.mem_append_right _ (List.mem_append_right _ (List.mem_append_right _ (List.mem_append_right _ (List.mem_append_right _ (List.mem_append_right _ (List.mem_append_right _ (List.mem_append_right _ (List.mem_append_right _ (List.mem_append_right _ (List.mem_append_right _ (List.mem_append_right _ (List.mem_append_right _ (List.mem_append_left _ (List.mem_of_getElem? (l := px_all_20) (i := 5) rfl)))))))))))))))))))))
theorem px_w406 : (Jvm.Cond.selects "MatroidDeskModel" ({ cls := "MatroidDeskModel", name := "end", desc := "(I)I" } : Jvm.MethodName) ({ cls := "MatroidDeskModel", name := "end", desc := "(I)I" } : Jvm.MethodName)) ∈ px_all := List.mem_append_right _ (List.mem_append_right _ (List.mem_append_right _ (List.mem_append_right _ (List.mem_append_right _ (List.mem_append_right _ (List.mem_append_right _ (List.mem_append_right _ (List.mem_append_right _ (List.mem_append_right _ (List.mem_append_right _ (List.mem_append_right _ (List.mem_append_right _ (List.mem_append_right _ (List.mem_append_right _ (List.mem_append_right _ (List.mem_append_right _ (List.mem_append_right _ (List.mem_append_right _ (List.mem_append_right _ (List.mem_append_left _ (List.mem_of_getElem? (l := px_all_20) (i := 6) rfl)))))))))))))))))))))
theorem px_w407 : (Jvm.Cond.code ({ cls := "MatroidDeskModel", name := "thrown", desc := "()I" } : Jvm.MethodName) prog_15_method_88_code (1 : Nat) (Option.some Jvm.ClassFile.FieldType.int)) ∈ px_all := List.mem_append_right _ (List.mem_append_right _ (List.mem_append_right _ (List.mem_append_right _ (List.mem_append_right _ (List.mem_append_right _ (List.mem_append_right _ (List.mem_append_right _ (List.mem_append_right _ (List.mem_append_right _ (List.mem_append_right _ (List.mem_append_right _ (List.mem_append_right _ (List.mem_append_right _ (List.mem_append_right _ (List.mem_append_right _ (List.mem_append_right _ (List.mem_append_right _ (List.mem_append_right _ (List.mem_append_right _ (List.mem_append_left _ (List.mem_of_getElem? (l := px_all_20) (i := 7) rfl)))))))))))))))))))))
theorem px_w408 : (Jvm.Cond.instanceMethod ({ cls := "MatroidDeskModel", name := "thrown", desc := "()I" } : Jvm.MethodName)) ∈ px_all := List.mem_append_right _ (List.mem_append_right _ (List.mem_append_right _ (List.mem_append_right _ (List.mem_append_right _ (List.mem_append_right _ (List.mem_append_right _ (List.mem_append_right _ (List.mem_append_right _ (List.mem_append_right _ (List.mem_append_right _ (List.mem_append_right _ (List.mem_append_right _ (List.mem_append_right _ (List.mem_append_right _ (List.mem_append_right _ (List.mem_append_right _ (List.mem_append_right _ (List.mem_append_right _ (List.mem_append_right _ (List.mem_append_left _ (List.mem_of_getElem? (l := px_all_20) (i := 8) rfl)))))))))))))))))))))
theorem px_w409 : (Jvm.Cond.selects "MatroidDeskModel" ({ cls := "MatroidDeskModel", name := "thrown", desc := "()I" } : Jvm.MethodName) ({ cls := "MatroidDeskModel", name := "thrown", desc := "()I" } : Jvm.MethodName)) ∈ px_all := List.mem_append_right _ (List.mem_append_right _ (List.mem_append_right _ (List.mem_append_right _ (List.mem_append_right _ (List.mem_append_right _ (List.mem_append_right _ (List.mem_append_right _ (List.mem_append_right _ (List.mem_append_right _ (List.mem_append_right _ (List.mem_append_right _ (List.mem_append_right _ (List.mem_append_right _ (List.mem_append_right _ (List.mem_append_right _ (List.mem_append_right _ (List.mem_append_right _ (List.mem_append_right _ (List.mem_append_right _ (List.mem_append_left _ (List.mem_of_getElem? (l := px_all_20) (i := 9) rfl)))))))))))))))))))))
theorem px_w410 : (Jvm.Cond.code ({ cls := "MatroidDeskModel", name := "look", desc := "(I)I" } : Jvm.MethodName) prog_15_method_50_code (2 : Nat) (Option.some Jvm.ClassFile.FieldType.int)) ∈ px_all := List.mem_append_right _ (List.mem_append_right _ (List.mem_append_right _ (List.mem_append_right _ (List.mem_append_right _ (List.mem_append_right _ (List.mem_append_right _ (List.mem_append_right _ (List.mem_append_right _ (List.mem_append_right _ (List.mem_append_right _ (List.mem_append_right _ (List.mem_append_right _ (List.mem_append_right _ (List.mem_append_right _ (List.mem_append_right _ (List.mem_append_right _ (List.mem_append_right _ (List.mem_append_right _ (List.mem_append_right _ (List.mem_append_left _ (List.mem_of_getElem? (l := px_all_20) (i := 10) rfl)))))))))))))))))))))
theorem px_w411 : (Jvm.Cond.instanceMethod ({ cls := "MatroidDeskModel", name := "look", desc := "(I)I" } : Jvm.MethodName)) ∈ px_all := List.mem_append_right _ (List.mem_append_right _ (List.mem_append_right _ (List.mem_append_right _ (List.mem_append_right _ (List.mem_append_right _ (List.mem_append_right _ (List.mem_append_right _ (List.mem_append_right _ (List.mem_append_right _ (List.mem_append_right _ (List.mem_append_right _ (List.mem_append_right _ (List.mem_append_right _ (List.mem_append_right _ (List.mem_append_right _ (List.mem_append_right _ (List.mem_append_right _ (List.mem_append_right _ (List.mem_append_right _ (List.mem_append_left _ (List.mem_of_getElem? (l := px_all_20) (i := 11) rfl)))))))))))))))))))))
theorem px_w412 : (Jvm.Cond.selects "MatroidDeskModel" ({ cls := "MatroidDeskModel", name := "look", desc := "(I)I" } : Jvm.MethodName) ({ cls := "MatroidDeskModel", name := "look", desc := "(I)I" } : Jvm.MethodName)) ∈ px_all := List.mem_append_right _ (List.mem_append_right _ (List.mem_append_right _ (List.mem_append_right _ (List.mem_append_right _ (List.mem_append_right _ (List.mem_append_right _ (List.mem_append_right _ (List.mem_append_right _ (List.mem_append_right _ (List.mem_append_right _ (List.mem_append_right _ (List.mem_append_right _ (List.mem_append_right _ (List.mem_append_right _ (List.mem_append_right _ (List.mem_append_right _ (List.mem_append_right _ (List.mem_append_right _ (List.mem_append_right _ (List.mem_append_left _ (List.mem_of_getElem? (l := px_all_20) (i := 12) rfl)))))))))))))))))))))
theorem px_w413 : (Jvm.Cond.fieldLink "MatroidDeskModel" (326 : Nat) "MatroidDeskModel" "length" "I") ∈ px_all := List.mem_append_right _ (List.mem_append_right _ (List.mem_append_right _ (List.mem_append_right _ (List.mem_append_right _ (List.mem_append_right _ (List.mem_append_right _ (List.mem_append_right _ (List.mem_append_right _ (List.mem_append_right _ (List.mem_append_right _ (List.mem_append_right _ (List.mem_append_right _ (List.mem_append_right _ (List.mem_append_right _ (List.mem_append_right _ (List.mem_append_right _ (List.mem_append_right _ (List.mem_append_right _ (List.mem_append_right _ (List.mem_append_left _ (List.mem_of_getElem? (l := px_all_20) (i := 13) rfl)))))))))))))))))))))
theorem px_w414 : (Jvm.Cond.code ({ cls := "MatroidDeskModel", name := "next", desc := "()V" } : Jvm.MethodName) prog_15_method_53_code (5 : Nat) (Option.none : Option Jvm.ClassFile.FieldType)) ∈ px_all := List.mem_append_right _ (List.mem_append_right _ (List.mem_append_right _ (List.mem_append_right _ (List.mem_append_right _ (List.mem_append_right _ (List.mem_append_right _ (List.mem_append_right _ (List.mem_append_right _ (List.mem_append_right _ (List.mem_append_right _ (List.mem_append_right _ (List.mem_append_right _ (List.mem_append_right _ (List.mem_append_right _ (List.mem_append_right _ (List.mem_append_right _ (List.mem_append_right _ (List.mem_append_right _ (List.mem_append_right _ (List.mem_append_left _ (List.mem_of_getElem? (l := px_all_20) (i := 14) rfl)))))))))))))))))))))
theorem px_w415 : (Jvm.Cond.instanceMethod ({ cls := "MatroidDeskModel", name := "next", desc := "()V" } : Jvm.MethodName)) ∈ px_all := List.mem_append_right _ (List.mem_append_right _ (List.mem_append_right _ (List.mem_append_right _ (List.mem_append_right _ (List.mem_append_right _ (List.mem_append_right _ (List.mem_append_right _ (List.mem_append_right _ (List.mem_append_right _ (List.mem_append_right _ (List.mem_append_right _ (List.mem_append_right _ (List.mem_append_right _ (List.mem_append_right _ (List.mem_append_right _ (List.mem_append_right _ (List.mem_append_right _ (List.mem_append_right _ (List.mem_append_right _ (List.mem_append_left _ (List.mem_of_getElem? (l := px_all_20) (i := 15) rfl)))))))))))))))))))))
theorem px_w416 : (Jvm.Cond.selects "MatroidDeskModel" ({ cls := "MatroidDeskModel", name := "next", desc := "()V" } : Jvm.MethodName) ({ cls := "MatroidDeskModel", name := "next", desc := "()V" } : Jvm.MethodName)) ∈ px_all := List.mem_append_right _ (List.mem_append_right _ (List.mem_append_right _ (List.mem_append_right _ (List.mem_append_right _ (List.mem_append_right _ (List.mem_append_right _ (List.mem_append_right _ (List.mem_append_right _ (List.mem_append_right _ (List.mem_append_right _ (List.mem_append_right _ (List.mem_append_right _ (List.mem_append_right _ (List.mem_append_right _ (List.mem_append_right _ (List.mem_append_right _ (List.mem_append_right _ (List.mem_append_right _ (List.mem_append_right _ (List.mem_append_left _ (List.mem_of_getElem? (l := px_all_20) (i := 16) rfl)))))))))))))))))))))
theorem px_w417 : (Jvm.Cond.fieldLink "MatroidDeskModel" (329 : Nat) "MatroidDeskModel" "to" "I") ∈ px_all := List.mem_append_right _ (List.mem_append_right _ (List.mem_append_right _ (List.mem_append_right _ (List.mem_append_right _ (List.mem_append_right _ (List.mem_append_right _ (List.mem_append_right _ (List.mem_append_right _ (List.mem_append_right _ (List.mem_append_right _ (List.mem_append_right _ (List.mem_append_right _ (List.mem_append_right _ (List.mem_append_right _ (List.mem_append_right _ (List.mem_append_right _ (List.mem_append_right _ (List.mem_append_right _ (List.mem_append_right _ (List.mem_append_left _ (List.mem_of_getElem? (l := px_all_20) (i := 17) rfl)))))))))))))))))))))
theorem px_w418 : (Jvm.Cond.methodLink "MatroidDeskModel" (332 : Nat) ({ cls := "MatroidDeskModel", name := "look", desc := "(I)I" } : Jvm.MethodName)) ∈ px_all := List.mem_append_right _ (List.mem_append_right _ (List.mem_append_right _ (List.mem_append_right _ (List.mem_append_right _ (List.mem_append_right _ (List.mem_append_right _ (List.mem_append_right _ (List.mem_append_right _ (List.mem_append_right _ (List.mem_append_right _ (List.mem_append_right _ (List.mem_append_right _ (List.mem_append_right _ (List.mem_append_right _ (List.mem_append_right _ (List.mem_append_right _ (List.mem_append_right _ (List.mem_append_right _ (List.mem_append_right _ (List.mem_append_left _ (List.mem_of_getElem? (l := px_all_20) (i := 18) rfl)))))))))))))))))))))
theorem px_w419 : (Jvm.Cond.fieldLink "MatroidDeskModel" (335 : Nat) "MatroidDeskModel" "from" "I") ∈ px_all := List.mem_append_right _ (List.mem_append_right _ (List.mem_append_right _ (List.mem_append_right _ (List.mem_append_right _ (List.mem_append_right _ (List.mem_append_right _ (List.mem_append_right _ (List.mem_append_right _ (List.mem_append_right _ (List.mem_append_right _ (List.mem_append_right _ (List.mem_append_right _ (List.mem_append_right _ (List.mem_append_right _ (List.mem_append_right _ (List.mem_append_right _ (List.mem_append_right _ (List.mem_append_right _ (List.mem_append_right _ (List.mem_append_left _ (List.mem_of_getElem? (l := px_all_20) (i := 19) rfl)))))))))))))))))))))
theorem px_w420 : (Jvm.Cond.fieldLink "MatroidDeskModel" (338 : Nat) "MatroidDeskModel" "token" "I") ∈ px_all := List.mem_append_right _ (List.mem_append_right _ (List.mem_append_right _ (List.mem_append_right _ (List.mem_append_right _ (List.mem_append_right _ (List.mem_append_right _ (List.mem_append_right _ (List.mem_append_right _ (List.mem_append_right _ (List.mem_append_right _ (List.mem_append_right _ (List.mem_append_right _ (List.mem_append_right _ (List.mem_append_right _ (List.mem_append_right _ (List.mem_append_right _ (List.mem_append_right _ (List.mem_append_right _ (List.mem_append_right _ (List.mem_append_right _ (List.mem_append_left _ (List.mem_of_getElem? (l := px_all_21) (i := 0) rfl))))))))))))))))))))))
theorem px_w421 : (Jvm.Cond.code ({ cls := "MatroidDeskModel", name := "isScript", desc := "()Z" } : Jvm.MethodName) prog_15_method_63_code (3 : Nat) (Option.some Jvm.ClassFile.FieldType.boolean)) ∈ px_all := List.mem_append_right _ (List.mem_append_right _ (List.mem_append_right _ (List.mem_append_right _ (List.mem_append_right _ (List.mem_append_right _ (List.mem_append_right _ (List.mem_append_right _ (List.mem_append_right _ (List.mem_append_right _ (List.mem_append_right _ (List.mem_append_right _ (List.mem_append_right _ (List.mem_append_right _ (List.mem_append_right _ (List.mem_append_right _ (List.mem_append_right _ (List.mem_append_right _ (List.mem_append_right _ (List.mem_append_right _ (List.mem_append_right _ (List.mem_append_left _ (List.mem_of_getElem? (l := px_all_21) (i := 1) rfl))))))))))))))))))))))
theorem px_w422 : (Jvm.Cond.instanceMethod ({ cls := "MatroidDeskModel", name := "isScript", desc := "()Z" } : Jvm.MethodName)) ∈ px_all := List.mem_append_right _ (List.mem_append_right _ (List.mem_append_right _ (List.mem_append_right _ (List.mem_append_right _ (List.mem_append_right _ (List.mem_append_right _ (List.mem_append_right _ (List.mem_append_right _ (List.mem_append_right _ (List.mem_append_right _ (List.mem_append_right _ (List.mem_append_right _ (List.mem_append_right _ (List.mem_append_right _ (List.mem_append_right _ (List.mem_append_right _ (List.mem_append_right _ (List.mem_append_right _ (List.mem_append_right _ (List.mem_append_right _ (List.mem_append_left _ (List.mem_of_getElem? (l := px_all_21) (i := 2) rfl))))))))))))))))))))))
theorem px_w423 : (Jvm.Cond.selects "MatroidDeskModel" ({ cls := "MatroidDeskModel", name := "isScript", desc := "()Z" } : Jvm.MethodName) ({ cls := "MatroidDeskModel", name := "isScript", desc := "()Z" } : Jvm.MethodName)) ∈ px_all := List.mem_append_right _ (List.mem_append_right _ (List.mem_append_right _ (List.mem_append_right _ (List.mem_append_right _ (List.mem_append_right _ (List.mem_append_right _ (List.mem_append_right _ (List.mem_append_right _ (List.mem_append_right _ (List.mem_append_right _ (List.mem_append_right _ (List.mem_append_right _ (List.mem_append_right _ (List.mem_append_right _ (List.mem_append_right _ (List.mem_append_right _ (List.mem_append_right _ (List.mem_append_right _ (List.mem_append_right _ (List.mem_append_right _ (List.mem_append_left _ (List.mem_of_getElem? (l := px_all_21) (i := 3) rfl))))))))))))))))))))))
theorem px_w424 : (Jvm.Cond.fieldLink "MatroidDeskModel" (356 : Nat) "MatroidDeskModel" "refused" "Z") ∈ px_all := List.mem_append_right _ (List.mem_append_right _ (List.mem_append_right _ (List.mem_append_right _ (List.mem_append_right _ (List.mem_append_right _ (List.mem_append_right _ (List.mem_append_right _ (List.mem_append_right _ (List.mem_append_right _ (List.mem_append_right _ (List.mem_append_right _ (List.mem_append_right _ (List.mem_append_right _ (List.mem_append_right _ (List.mem_append_right _ (List.mem_append_right _ (List.mem_append_right _ (List.mem_append_right _ (List.mem_append_right _ (List.mem_append_right _ (List.mem_append_left _ (List.mem_of_getElem? (l := px_all_21) (i := 4) rfl))))))))))))))))))))))
theorem px_w425 : (Jvm.Cond.methodLink "MatroidDeskModel" (359 : Nat) ({ cls := "MatroidDeskModel", name := "next", desc := "()V" } : Jvm.MethodName)) ∈ px_all := List.mem_append_right _ (List.mem_append_right _ (List.mem_append_right _ (List.mem_append_right _ (List.mem_append_right _ (List.mem_append_right _ (List.mem_append_right _ (List.mem_append_right _ (List.mem_append_right _ (List.mem_append_right _ (List.mem_append_right _ (List.mem_append_right _ (List.mem_append_right _ (List.mem_append_right _ (List.mem_append_right _ (List.mem_append_right _ (List.mem_append_right _ (List.mem_append_right _ (List.mem_append_right _ (List.mem_append_right _ (List.mem_append_right _ (List.mem_append_left _ (List.mem_of_getElem? (l := px_all_21) (i := 5) rfl))))))))))))))))))))))
theorem px_w426 : (Jvm.Cond.code ({ cls := "MatroidDeskModel", name := "run", desc := "()I" } : Jvm.MethodName) prog_15_method_92_code (2 : Nat) (Option.some Jvm.ClassFile.FieldType.int)) ∈ px_all := List.mem_append_right _ (List.mem_append_right _ (List.mem_append_right _ (List.mem_append_right _ (List.mem_append_right _ (List.mem_append_right _ (List.mem_append_right _ (List.mem_append_right _ (List.mem_append_right _ (List.mem_append_right _ (List.mem_append_right _ (List.mem_append_right _ (List.mem_append_right _ (List.mem_append_right _ (List.mem_append_right _ (List.mem_append_right _ (List.mem_append_right _ (List.mem_append_right _ (List.mem_append_right _ (List.mem_append_right _ (List.mem_append_right _ (List.mem_append_left _ (List.mem_of_getElem? (l := px_all_21) (i := 6) rfl))))))))))))))))))))))
theorem px_w427 : (Jvm.Cond.instanceMethod ({ cls := "MatroidDeskModel", name := "run", desc := "()I" } : Jvm.MethodName)) ∈ px_all := List.mem_append_right _ (List.mem_append_right _ (List.mem_append_right _ (List.mem_append_right _ (List.mem_append_right _ (List.mem_append_right _ (List.mem_append_right _ (List.mem_append_right _ (List.mem_append_right _ (List.mem_append_right _ (List.mem_append_right _ (List.mem_append_right _ (List.mem_append_right _ (List.mem_append_right _ (List.mem_append_right _ (List.mem_append_right _ (List.mem_append_right _ (List.mem_append_right _ (List.mem_append_right _ (List.mem_append_right _ (List.mem_append_right _ (List.mem_append_left _ (List.mem_of_getElem? (l := px_all_21) (i := 7) rfl))))))))))))))))))))))
theorem px_w428 : (Jvm.Cond.selects "MatroidDeskModel" ({ cls := "MatroidDeskModel", name := "run", desc := "()I" } : Jvm.MethodName) ({ cls := "MatroidDeskModel", name := "run", desc := "()I" } : Jvm.MethodName)) ∈ px_all := List.mem_append_right _ (List.mem_append_right _ (List.mem_append_right _ (List.mem_append_right _ (List.mem_append_right _ (List.mem_append_right _ (List.mem_append_right _ (List.mem_append_right _ (List.mem_append_right _ (List.mem_append_right _ (List.mem_append_right _ (List.mem_append_right _ (List.mem_append_right _ (List.mem_append_right _ (List.mem_append_right _ (List.mem_append_right _ (List.mem_append_right _ (List.mem_append_right _ (List.mem_append_right _ (List.mem_append_right _ (List.mem_append_right _ (List.mem_append_left _ (List.mem_of_getElem? (l := px_all_21) (i := 8) rfl))))))))))))))))))))))
theorem px_w429 : (Jvm.Cond.methodLink "MatroidDeskModel" (513 : Nat) ({ cls := "MatroidDeskModel", name := "isScript", desc := "()Z" } : Jvm.MethodName)) ∈ px_all := List.mem_append_right _ (List.mem_append_right _ (List.mem_append_right _ (List.mem_append_right _ (List.mem_append_right _ (List.mem_append_right _ (List.mem_append_right _ (List.mem_append_right _ (List.mem_append_right _ (List.mem_append_right _ (List.mem_append_right _ (List.mem_append_right _ (List.mem_append_right _ (List.mem_append_right _ (List.mem_append_right _ (List.mem_append_right _ (List.mem_append_right _ (List.mem_append_right _ (List.mem_append_right _ (List.mem_append_right _ (List.mem_append_right _ (List.mem_append_left _ (List.mem_of_getElem? (l := px_all_21) (i := 9) rfl))))))))))))))))))))))
theorem px_w430 : (Jvm.Cond.fieldLink "MatroidDeskModel" (443 : Nat) "MatroidDeskModel" "sheetSize" "I") ∈ px_all := List.mem_append_right _ (List.mem_append_right _ (List.mem_append_right _ (List.mem_append_right _ (List.mem_append_right _ (List.mem_append_right _ (List.mem_append_right _ (List.mem_append_right _ (List.mem_append_right _ (List.mem_append_right _ (List.mem_append_right _ (List.mem_append_right _ (List.mem_append_right _ (List.mem_append_right _ (List.mem_append_right _ (List.mem_append_right _ (List.mem_append_right _ (List.mem_append_right _ (List.mem_append_right _ (List.mem_append_right _ (List.mem_append_right _ (List.mem_append_left _ (List.mem_of_getElem? (l := px_all_21) (i := 10) rfl))))))))))))))))))))))
theorem px_w431 : (Jvm.Cond.fieldLink "MatroidDeskModel" (395 : Nat) "MatroidDeskModel" "reason" "I") ∈ px_all := List.mem_append_right _ (List.mem_append_right _ (List.mem_append_right _ (List.mem_append_right _ (List.mem_append_right _ (List.mem_append_right _ (List.mem_append_right _ (List.mem_append_right _ (List.mem_append_right _ (List.mem_append_right _ (List.mem_append_right _ (List.mem_append_right _ (List.mem_append_right _ (List.mem_append_right _ (List.mem_append_right _ (List.mem_append_right _ (List.mem_append_right _ (List.mem_append_right _ (List.mem_append_right _ (List.mem_append_right _ (List.mem_append_right _ (List.mem_append_left _ (List.mem_of_getElem? (l := px_all_21) (i := 11) rfl))))))))))))))))))))))
theorem px_w432 : (Jvm.Cond.fieldLink "MatroidDeskModel" (519 : Nat) "MatroidDeskModel" "whyTold" "I") ∈ px_all := List.mem_append_right _ (List.mem_append_right _ (List.mem_append_right _ (List.mem_append_right _ (List.mem_append_right _ (List.mem_append_right _ (List.mem_append_right _ (List.mem_append_right _ (List.mem_append_right _ (List.mem_append_right _ (List.mem_append_right _ (List.mem_append_right _ (List.mem_append_right _ (List.mem_append_right _ (List.mem_append_right _ (List.mem_append_right _ (List.mem_append_right _ (List.mem_append_right _ (List.mem_append_right _ (List.mem_append_right _ (List.mem_append_right _ (List.mem_append_left _ (List.mem_of_getElem? (l := px_all_21) (i := 12) rfl))))))))))))))))))))))
theorem px_w433 : (Jvm.Cond.code ({ cls := "MatroidDeskModel", name := "place", desc := "()I" } : Jvm.MethodName) prog_15_method_93_code (1 : Nat) (Option.some Jvm.ClassFile.FieldType.int)) ∈ px_all := List.mem_append_right _ (List.mem_append_right _ (List.mem_append_right _ (List.mem_append_right _ (List.mem_append_right _ (List.mem_append_right _ (List.mem_append_right _ (List.mem_append_right _ (List.mem_append_right _ (List.mem_append_right _ (List.mem_append_right _ (List.mem_append_right _ (List.mem_append_right _ (List.mem_append_right _ (List.mem_append_right _ (List.mem_append_right _ (List.mem_append_right _ (List.mem_append_right _ (List.mem_append_right _ (List.mem_append_right _ (List.mem_append_right _ (List.mem_append_left _ (List.mem_of_getElem? (l := px_all_21) (i := 13) rfl))))))))))))))))))))))
theorem px_w434 : (Jvm.Cond.instanceMethod ({ cls := "MatroidDeskModel", name := "place", desc := "()I" } : Jvm.MethodName)) ∈ px_all := List.mem_append_right _ (List.mem_append_right _ (List.mem_append_right _ (List.mem_append_right _ (List.mem_append_right _ (List.mem_append_right _ (List.mem_append_right _ (List.mem_append_right _ (List.mem_append_right _ (List.mem_append_right _ (List.mem_append_right _ (List.mem_append_right _ (List.mem_append_right _ (List.mem_append_right _ (List.mem_append_right _ (List.mem_append_right _ (List.mem_append_right _ (List.mem_append_right _ (List.mem_append_right _ (List.mem_append_right _ (List.mem_append_right _ (List.mem_append_left _ (List.mem_of_getElem? (l := px_all_21) (i := 14) rfl))))))))))))))))))))))
theorem px_w435 : (Jvm.Cond.selects "MatroidDeskModel" ({ cls := "MatroidDeskModel", name := "place", desc := "()I" } : Jvm.MethodName) ({ cls := "MatroidDeskModel", name := "place", desc := "()I" } : Jvm.MethodName)) ∈ px_all := List.mem_append_right _ (List.mem_append_right _ (List.mem_append_right _ (List.mem_append_right _ (List.mem_append_right _ (List.mem_append_right _ (List.mem_append_right _ (List.mem_append_right _ (List.mem_append_right _ (List.mem_append_right _ (List.mem_append_right _ (List.mem_append_right _ (List.mem_append_right _ (List.mem_append_right _ (List.mem_append_right _ (List.mem_append_right _ (List.mem_append_right _ (List.mem_append_right _ (List.mem_append_right _ (List.mem_append_right _ (List.mem_append_right _ (List.mem_append_left _ (List.mem_of_getElem? (l := px_all_21) (i := 15) rfl))))))))))))))))))))))
theorem px_w436 : (Jvm.Cond.code ({ cls := "MatroidDeskModel", name := "why", desc := "()I" } : Jvm.MethodName) prog_15_method_94_code (1 : Nat) (Option.some Jvm.ClassFile.FieldType.int)) ∈ px_all := List.mem_append_right _ (List.mem_append_right _ (List.mem_append_right _ (List.mem_append_right _ (List.mem_append_right _ (List.mem_append_right _ (List.mem_append_right _ (List.mem_append_right _ (List.mem_append_right _ (List.mem_append_right _ (List.mem_append_right _ (List.mem_append_right _ (List.mem_append_right _ (List.mem_append_right _ (List.mem_append_right _ (List.mem_append_right _ (List.mem_append_right _ (List.mem_append_right _ (List.mem_append_right _ (List.mem_append_right _ (List.mem_append_right _ (List.mem_append_left _ (List.mem_of_getElem? (l := px_all_21) (i := 16) rfl))))))))))))))))))))))
theorem px_w437 : (Jvm.Cond.instanceMethod ({ cls := "MatroidDeskModel", name := "why", desc := "()I" } : Jvm.MethodName)) ∈ px_all := List.mem_append_right _ (List.mem_append_right _ (List.mem_append_right _ (List.mem_append_right _ (List.mem_append_right _ (List.mem_append_right _ (List.mem_append_right _ (List.mem_append_right _ (List.mem_append_right _ (List.mem_append_right _ (List.mem_append_right _ (List.mem_append_right _ (List.mem_append_right _ (List.mem_append_right _ (List.mem_append_right _ (List.mem_append_right _ (List.mem_append_right _ (List.mem_append_right _ (List.mem_append_right _ (List.mem_append_right _ (List.mem_append_right _ (List.mem_append_left _ (List.mem_of_getElem? (l := px_all_21) (i := 17) rfl))))))))))))))))))))))
theorem px_w438 : (Jvm.Cond.selects "MatroidDeskModel" ({ cls := "MatroidDeskModel", name := "why", desc := "()I" } : Jvm.MethodName) ({ cls := "MatroidDeskModel", name := "why", desc := "()I" } : Jvm.MethodName)) ∈ px_all := List.mem_append_right _ (List.mem_append_right _ (List.mem_append_right _ (List.mem_append_right _ (List.mem_append_right _ (List.mem_append_right _ (List.mem_append_right _ (List.mem_append_right _ (List.mem_append_right _ (List.mem_append_right _ (List.mem_append_right _ (List.mem_append_right _ (List.mem_append_right _ (List.mem_append_right _ (List.mem_append_right _ (List.mem_append_right _ (List.mem_append_right _ (List.mem_append_right _ (List.mem_append_right _ (List.mem_append_right _ (List.mem_append_right _ (List.mem_append_left _ (List.mem_of_getElem? (l := px_all_21) (i := 18) rfl))))))))))))))))))))))
theorem px_w439 : (Jvm.Cond.code ({ cls := "MatroidDeskModel", name := "printed", desc := "()I" } : Jvm.MethodName) prog_15_method_95_code (1 : Nat) (Option.some Jvm.ClassFile.FieldType.int)) ∈ px_all := List.mem_append_right _ (List.mem_append_right _ (List.mem_append_right _ (List.mem_append_right _ (List.mem_append_right _ (List.mem_append_right _ (List.mem_append_right _ (List.mem_append_right _ (List.mem_append_right _ (List.mem_append_right _ (List.mem_append_right _ (List.mem_append_right _ (List.mem_append_right _ (List.mem_append_right _ (List.mem_append_right _ (List.mem_append_right _ (List.mem_append_right _ (List.mem_append_right _ (List.mem_append_right _ (List.mem_append_right _ (List.mem_append_right _ (List.mem_append_left _ (List.mem_of_getElem? (l := px_all_21) (i := 19) rfl))))))))))))))))))))))
theorem px_w440 : (Jvm.Cond.instanceMethod ({ cls := "MatroidDeskModel", name := "printed", desc := "()I" } : Jvm.MethodName)) ∈ px_all := List.mem_append_right _ (List.mem_append_right _ (List.mem_append_right _ (List.mem_append_right _ (List.mem_append_right _ (List.mem_append_right _ (List.mem_append_right _ (List.mem_append_right _ (List.mem_append_right _ (List.mem_append_right _ (List.mem_append_right _ (List.mem_append_right _ (List.mem_append_right _ (List.mem_append_right _ (List.mem_append_right _ (List.mem_append_right _ (List.mem_append_right _ (List.mem_append_right _ (List.mem_append_right _ (List.mem_append_right _ (List.mem_append_right _ (List.mem_append_right _ (List.mem_append_left _ (List.mem_of_getElem? (l := px_all_22) (i := 0) rfl)))))))))))))))))))))))
theorem px_w441 : (Jvm.Cond.selects "MatroidDeskModel" ({ cls := "MatroidDeskModel", name := "printed", desc := "()I" } : Jvm.MethodName) ({ cls := "MatroidDeskModel", name := "printed", desc := "()I" } : Jvm.MethodName)) ∈ px_all := List.mem_append_right _ (List.mem_append_right _ (List.mem_append_right _ (List.mem_append_right _ (List.mem_append_right _ (List.mem_append_right _ (List.mem_append_right _ (List.mem_append_right _ (List.mem_append_right _ (List.mem_append_right _ (List.mem_append_right _ (List.mem_append_right _ (List.mem_append_right _ (List.mem_append_right _ (List.mem_append_right _ (List.mem_append_right _ (List.mem_append_right _ (List.mem_append_right _ (List.mem_append_right _ (List.mem_append_right _ (List.mem_append_right _ (List.mem_append_right _ (List.mem_append_left _ (List.mem_of_getElem? (l := px_all_22) (i := 1) rfl)))))))))))))))))))))))
theorem px_w442 : (Jvm.Cond.code ({ cls := "MatroidDeskModel", name := "out", desc := "(I)I" } : Jvm.MethodName) prog_15_method_96_code (2 : Nat) (Option.some Jvm.ClassFile.FieldType.int)) ∈ px_all := List.mem_append_right _ (List.mem_append_right _ (List.mem_append_right _ (List.mem_append_right _ (List.mem_append_right _ (List.mem_append_right _ (List.mem_append_right _ (List.mem_append_right _ (List.mem_append_right _ (List.mem_append_right _ (List.mem_append_right _ (List.mem_append_right _ (List.mem_append_right _ (List.mem_append_right _ (List.mem_append_right _ (List.mem_append_right _ (List.mem_append_right _ (List.mem_append_right _ (List.mem_append_right _ (List.mem_append_right _ (List.mem_append_right _ (List.mem_append_right _ (List.mem_append_left _ (List.mem_of_getElem? (l := px_all_22) (i := 2) rfl)))))))))))))))))))))))
theorem px_w443 : (Jvm.Cond.instanceMethod ({ cls := "MatroidDeskModel", name := "out", desc := "(I)I" } : Jvm.MethodName)) ∈ px_all := List.mem_append_right _ (List.mem_append_right _ (List.mem_append_right _ (List.mem_append_right _ (List.mem_append_right _ (List.mem_append_right _ (List.mem_append_right _ (List.mem_append_right _ (List.mem_append_right _ (List.mem_append_right _ (List.mem_append_right _ (List.mem_append_right _ (List.mem_append_right _ (List.mem_append_right _ (List.mem_append_right _ (List.mem_append_right _ (List.mem_append_right _ (List.mem_append_right _ (List.mem_append_right _ (List.mem_append_right _ (List.mem_append_right _ (List.mem_append_right _ (List.mem_append_left _ (List.mem_of_getElem? (l := px_all_22) (i := 3) rfl)))))))))))))))))))))))
theorem px_w444 : (Jvm.Cond.selects "MatroidDeskModel" ({ cls := "MatroidDeskModel", name := "out", desc := "(I)I" } : Jvm.MethodName) ({ cls := "MatroidDeskModel", name := "out", desc := "(I)I" } : Jvm.MethodName)) ∈ px_all := List.mem_append_right _ (List.mem_append_right _ (List.mem_append_right _ (List.mem_append_right _ (List.mem_append_right _ (List.mem_append_right _ (List.mem_append_right _ (List.mem_append_right _ (List.mem_append_right _ (List.mem_append_right _ (List.mem_append_right _ (List.mem_append_right _ (List.mem_append_right _ (List.mem_append_right _ (List.mem_append_right _ (List.mem_append_right _ (List.mem_append_right _ (List.mem_append_right _ (List.mem_append_right _ (List.mem_append_right _ (List.mem_append_right _ (List.mem_append_right _ (List.mem_append_left _ (List.mem_of_getElem? (l := px_all_22) (i := 4) rfl)))))))))))))))))))))))
theorem px_w445 : (Jvm.Cond.code ({ cls := "MatroidDeskModel", name := "is", desc := "(I)Z" } : Jvm.MethodName) prog_15_method_97_code (2 : Nat) (Option.some Jvm.ClassFile.FieldType.boolean)) ∈ px_all := List.mem_append_right _ (List.mem_append_right _ (List.mem_append_right _ (List.mem_append_right _ (List.mem_append_right _ (List.mem_append_right _ (List.mem_append_right _ (List.mem_append_right _ (List.mem_append_right _ (List.mem_append_right _ (List.mem_append_right _ (List.mem_append_right _ (List.mem_append_right _ (List.mem_append_right _ (List.mem_append_right _ (List.mem_append_right _ (List.mem_append_right _ (List.mem_append_right _ (List.mem_append_right _ (List.mem_append_right _ (List.mem_append_right _ (List.mem_append_right _ (List.mem_append_left _ (List.mem_of_getElem? (l := px_all_22) (i := 5) rfl)))))))))))))))))))))))
theorem px_w446 : (Jvm.Cond.instanceMethod ({ cls := "MatroidDeskModel", name := "is", desc := "(I)Z" } : Jvm.MethodName)) ∈ px_all := List.mem_append_right _ (List.mem_append_right _ (List.mem_append_right _ (List.mem_append_right _ (List.mem_append_right _ (List.mem_append_right _ (List.mem_append_right _ (List.mem_append_right _ (List.mem_append_right _ (List.mem_append_right _ (List.mem_append_right _ (List.mem_append_right _ (List.mem_append_right _ (List.mem_append_right _ (List.mem_append_right _ (List.mem_append_right _ (List.mem_append_right _ (List.mem_append_right _ (List.mem_append_right _ (List.mem_append_right _ (List.mem_append_right _ (List.mem_append_right _ (List.mem_append_left _ (List.mem_of_getElem? (l := px_all_22) (i := 6) rfl)))))))))))))))))))))))
theorem px_w447 : (Jvm.Cond.selects "MatroidDeskModel" ({ cls := "MatroidDeskModel", name := "is", desc := "(I)Z" } : Jvm.MethodName) ({ cls := "MatroidDeskModel", name := "is", desc := "(I)Z" } : Jvm.MethodName)) ∈ px_all := List.mem_append_right _ (List.mem_append_right _ (List.mem_append_right _ (List.mem_append_right _ (List.mem_append_right _ (List.mem_append_right _ (List.mem_append_right _ (List.mem_append_right _ (List.mem_append_right _ (List.mem_append_right _ (List.mem_append_right _ (List.mem_append_right _ (List.mem_append_right _ (List.mem_append_right _ (List.mem_append_right _ (List.mem_append_right _ (List.mem_append_right _ (List.mem_append_right _ (List.mem_append_right _ (List.mem_append_right _ (List.mem_append_right _ (List.mem_append_right _ (List.mem_append_left _ (List.mem_of_getElem? (l := px_all_22) (i := 7) rfl)))))))))))))))))))))))
theorem px_w448 : (Jvm.Cond.code ({ cls := "MatroidDeskModel", name := "elements", desc := "(I)I" } : Jvm.MethodName) prog_15_method_98_code (2 : Nat) (Option.some Jvm.ClassFile.FieldType.int)) ∈ px_all := List.mem_append_right _ (List.mem_append_right _ (List.mem_append_right _ (List.mem_append_right _ (List.mem_append_right _ (List.mem_append_right _ (List.mem_append_right _ (List.mem_append_right _ (List.mem_append_right _ (List.mem_append_right _ (List.mem_append_right _ (List.mem_append_right _ (List.mem_append_right _ (List.mem_append_right _ (List.mem_append_right _ (List.mem_append_right _ (List.mem_append_right _ (List.mem_append_right _ (List.mem_append_right _ (List.mem_append_right _ (List.mem_append_right _ (List.mem_append_right _ (List.mem_append_left _ (List.mem_of_getElem? (l := px_all_22) (i := 8) rfl)))))))))))))))))))))))
theorem px_w449 : (Jvm.Cond.instanceMethod ({ cls := "MatroidDeskModel", name := "elements", desc := "(I)I" } : Jvm.MethodName)) ∈ px_all := List.mem_append_right _ (List.mem_append_right _ (List.mem_append_right _ (List.mem_append_right _ (List.mem_append_right _ (List.mem_append_right _ (List.mem_append_right _ (List.mem_append_right _ (List.mem_append_right _ (List.mem_append_right _ (List.mem_append_right _ (List.mem_append_right _ (List.mem_append_right _ (List.mem_append_right _ (List.mem_append_right _ (List.mem_append_right _ (List.mem_append_right _ (List.mem_append_right _ (List.mem_append_right _ (List.mem_append_right _ (List.mem_append_right _ (List.mem_append_right _ (List.mem_append_left _ (List.mem_of_getElem? (l := px_all_22) (i := 9) rfl)))))))))))))))))))))))
theorem px_w450 : (Jvm.Cond.selects "MatroidDeskModel" ({ cls := "MatroidDeskModel", name := "elements", desc := "(I)I" } : Jvm.MethodName) ({ cls := "MatroidDeskModel", name := "elements", desc := "(I)I" } : Jvm.MethodName)) ∈ px_all := List.mem_append_right _ (List.mem_append_right _ (List.mem_append_right _ (List.mem_append_right _ (List.mem_append_right _ (List.mem_append_right _ (List.mem_append_right _ (List.mem_append_right _ (List.mem_append_right _ (List.mem_append_right _ (List.mem_append_right _ (List.mem_append_right _ (List.mem_append_right _ (List.mem_append_right _ (List.mem_append_right _ (List.mem_append_right _ (List.mem_append_right _ (List.mem_append_right _ (List.mem_append_right _ (List.mem_append_right _ (List.mem_append_right _ (List.mem_append_right _ (List.mem_append_left _ (List.mem_of_getElem? (l := px_all_22) (i := 10) rfl)))))))))))))))))))))))
theorem px_w451 : (Jvm.Cond.methodLink "MatroidDeskModel" (522 : Nat) ({ cls := "MatroidDeskModel", name := "is", desc := "(I)Z" } : Jvm.MethodName)) ∈ px_all := List.mem_append_right _ (List.mem_append_right _ (List.mem_append_right _ (List.mem_append_right _ (List.mem_append_right _ (List.mem_append_right _ (List.mem_append_right _ (List.mem_append_right _ (List.mem_append_right _ (List.mem_append_right _ (List.mem_append_right _ (List.mem_append_right _ (List.mem_append_right _ (List.mem_append_right _ (List.mem_append_right _ (List.mem_append_right _ (List.mem_append_right _ (List.mem_append_right _ (List.mem_append_right _ (List.mem_append_right _ (List.mem_append_right _ (List.mem_append_right _ (List.mem_append_left _ (List.mem_of_getElem? (l := px_all_22) (i := 11) rfl)))))))))))))))))))))))
theorem px_w452 : (Jvm.Cond.code ({ cls := "MatroidDeskModel", name := "field", desc := "(I)I" } : Jvm.MethodName) prog_15_method_99_code (2 : Nat) (Option.some Jvm.ClassFile.FieldType.int)) ∈ px_all := List.mem_append_right _ (List.mem_append_right _ (List.mem_append_right _ (List.mem_append_right _ (List.mem_append_right _ (List.mem_append_right _ (List.mem_append_right _ (List.mem_append_right _ (List.mem_append_right _ (List.mem_append_right _ (List.mem_append_right _ (List.mem_append_right _ (List.mem_append_right _ (List.mem_append_right _ (List.mem_append_right _ (List.mem_append_right _ (List.mem_append_right _ (List.mem_append_right _ (List.mem_append_right _ (List.mem_append_right _ (List.mem_append_right _ (List.mem_append_right _ (List.mem_append_left _ (List.mem_of_getElem? (l := px_all_22) (i := 12) rfl)))))))))))))))))))))))
theorem px_w453 : (Jvm.Cond.instanceMethod ({ cls := "MatroidDeskModel", name := "field", desc := "(I)I" } : Jvm.MethodName)) ∈ px_all := List.mem_append_right _ (List.mem_append_right _ (List.mem_append_right _ (List.mem_append_right _ (List.mem_append_right _ (List.mem_append_right _ (List.mem_append_right _ (List.mem_append_right _ (List.mem_append_right _ (List.mem_append_right _ (List.mem_append_right _ (List.mem_append_right _ (List.mem_append_right _ (List.mem_append_right _ (List.mem_append_right _ (List.mem_append_right _ (List.mem_append_right _ (List.mem_append_right _ (List.mem_append_right _ (List.mem_append_right _ (List.mem_append_right _ (List.mem_append_right _ (List.mem_append_left _ (List.mem_of_getElem? (l := px_all_22) (i := 13) rfl)))))))))))))))))))))))
theorem px_w454 : (Jvm.Cond.selects "MatroidDeskModel" ({ cls := "MatroidDeskModel", name := "field", desc := "(I)I" } : Jvm.MethodName) ({ cls := "MatroidDeskModel", name := "field", desc := "(I)I" } : Jvm.MethodName)) ∈ px_all := List.mem_append_right _ (List.mem_append_right _ (List.mem_append_right _ (List.mem_append_right _ (List.mem_append_right _ (List.mem_append_right _ (List.mem_append_right _ (List.mem_append_right _ (List.mem_append_right _ (List.mem_append_right _ (List.mem_append_right _ (List.mem_append_right _ (List.mem_append_right _ (List.mem_append_right _ (List.mem_append_right _ (List.mem_append_right _ (List.mem_append_right _ (List.mem_append_right _ (List.mem_append_right _ (List.mem_append_right _ (List.mem_append_right _ (List.mem_append_right _ (List.mem_append_left _ (List.mem_of_getElem? (l := px_all_22) (i := 14) rfl)))))))))))))))))))))))
theorem px_w455 : (Jvm.Cond.code ({ cls := "MatroidDeskModel", name := "rank", desc := "(II)I" } : Jvm.MethodName) prog_15_method_100_code (3 : Nat) (Option.some Jvm.ClassFile.FieldType.int)) ∈ px_all := List.mem_append_right _ (List.mem_append_right _ (List.mem_append_right _ (List.mem_append_right _ (List.mem_append_right _ (List.mem_append_right _ (List.mem_append_right _ (List.mem_append_right _ (List.mem_append_right _ (List.mem_append_right _ (List.mem_append_right _ (List.mem_append_right _ (List.mem_append_right _ (List.mem_append_right _ (List.mem_append_right _ (List.mem_append_right _ (List.mem_append_right _ (List.mem_append_right _ (List.mem_append_right _ (List.mem_append_right _ (List.mem_append_right _ (List.mem_append_right _ (List.mem_append_left _ (List.mem_of_getElem? (l := px_all_22) (i := 15) rfl)))))))))))))))))))))))
theorem px_w456 : (Jvm.Cond.instanceMethod ({ cls := "MatroidDeskModel", name := "rank", desc := "(II)I" } : Jvm.MethodName)) ∈ px_all := List.mem_append_right _ (List.mem_append_right _ (List.mem_append_right _ (List.mem_append_right _ (List.mem_append_right _ (List.mem_append_right _ (List.mem_append_right _ (List.mem_append_right _ (List.mem_append_right _ (List.mem_append_right _ (List.mem_append_right _ (List.mem_append_right _ (List.mem_append_right _ (List.mem_append_right _ (List.mem_append_right _ (List.mem_append_right _ (List.mem_append_right _ (List.mem_append_right _ (List.mem_append_right _ (List.mem_append_right _ (List.mem_append_right _ (List.mem_append_right _ (List.mem_append_left _ (List.mem_of_getElem? (l := px_all_22) (i := 16) rfl)))))))))))))))))))))))
theorem px_w457 : (Jvm.Cond.selects "MatroidDeskModel" ({ cls := "MatroidDeskModel", name := "rank", desc := "(II)I" } : Jvm.MethodName) ({ cls := "MatroidDeskModel", name := "rank", desc := "(II)I" } : Jvm.MethodName)) ∈ px_all := List.mem_append_right _ (List.mem_append_right _ (List.mem_append_right _ (List.mem_append_right _ (List.mem_append_right _ (List.mem_append_right _ (List.mem_append_right _ (List.mem_append_right _ (List.mem_append_right _ (List.mem_append_right _ (List.mem_append_right _ (List.mem_append_right _ (List.mem_append_right _ (List.mem_append_right _ (List.mem_append_right _ (List.mem_append_right _ (List.mem_append_right _ (List.mem_append_right _ (List.mem_append_right _ (List.mem_append_right _ (List.mem_append_right _ (List.mem_append_right _ (List.mem_append_left _ (List.mem_of_getElem? (l := px_all_22) (i := 17) rfl)))))))))))))))))))))))
theorem px_w458 : (Jvm.Cond.code ({ cls := "MatroidDeskModel", name := "count", desc := "(II)I" } : Jvm.MethodName) prog_15_method_101_code (3 : Nat) (Option.some Jvm.ClassFile.FieldType.int)) ∈ px_all := List.mem_append_right _ (List.mem_append_right _ (List.mem_append_right _ (List.mem_append_right _ (List.mem_append_right _ (List.mem_append_right _ (List.mem_append_right _ (List.mem_append_right _ (List.mem_append_right _ (List.mem_append_right _ (List.mem_append_right _ (List.mem_append_right _ (List.mem_append_right _ (List.mem_append_right _ (List.mem_append_right _ (List.mem_append_right _ (List.mem_append_right _ (List.mem_append_right _ (List.mem_append_right _ (List.mem_append_right _ (List.mem_append_right _ (List.mem_append_right _ (List.mem_append_left _ (List.mem_of_getElem? (l := px_all_22) (i := 18) rfl)))))))))))))))))))))))
theorem px_w459 : (Jvm.Cond.instanceMethod ({ cls := "MatroidDeskModel", name := "count", desc := "(II)I" } : Jvm.MethodName)) ∈ px_all := List.mem_append_right _ (List.mem_append_right _ (List.mem_append_right _ (List.mem_append_right _ (List.mem_append_right _ (List.mem_append_right _ (List.mem_append_right _ (List.mem_append_right _ (List.mem_append_right _ (List.mem_append_right _ (List.mem_append_right _ (List.mem_append_right _ (List.mem_append_right _ (List.mem_append_right _ (List.mem_append_right _ (List.mem_append_right _ (List.mem_append_right _ (List.mem_append_right _ (List.mem_append_right _ (List.mem_append_right _ (List.mem_append_right _ (List.mem_append_right _ (List.mem_append_left _ (List.mem_of_getElem? (l := px_all_22) (i := 19) rfl)))))))))))))))))))))))
theorem px_w460 : (Jvm.Cond.selects "MatroidDeskModel" ({ cls := "MatroidDeskModel", name := "count", desc := "(II)I" } : Jvm.MethodName) ({ cls := "MatroidDeskModel", name := "count", desc := "(II)I" } : Jvm.MethodName)) ∈ px_all := List.mem_append_right _ (List.mem_append_right _ (List.mem_append_right _ (List.mem_append_right _ (List.mem_append_right _ (List.mem_append_right _ (List.mem_append_right _ (List.mem_append_right _ (List.mem_append_right _ (List.mem_append_right _ (List.mem_append_right _ (List.mem_append_right _ (List.mem_append_right _ (List.mem_append_right _ (List.mem_append_right _ (List.mem_append_right _ (List.mem_append_right _ (List.mem_append_right _ (List.mem_append_right _ (List.mem_append_right _ (List.mem_append_right _ (List.mem_append_right _ (List.mem_append_right _ (List.mem_append_left _ (List.mem_of_getElem? (l := px_all_23) (i := 0) rfl))))))))))))))))))))))))
theorem px_w461 : (Jvm.Cond.code ({ cls := "MatroidDeskModel", name := "member", desc := "(III)I" } : Jvm.MethodName) prog_15_method_102_code (4 : Nat) (Option.some Jvm.ClassFile.FieldType.int)) ∈ px_all := List.mem_append_right _ (List.mem_append_right _ (List.mem_append_right _ (List.mem_append_right _ (List.mem_append_right _ (List.mem_append_right _ (List.mem_append_right _ (List.mem_append_right _ (List.mem_append_right _ (List.mem_append_right _ (List.mem_append_right _ (List.mem_append_right _ (List.mem_append_right _ (List.mem_append_right _ (List.mem_append_right _ (List.mem_append_right _ (List.mem_append_right _ (List.mem_append_right _ (List.mem_append_right _ (List.mem_append_right _ (List.mem_append_right _ (List.mem_append_right _ (List.mem_append_right _ (List.mem_append_left _ (List.mem_of_getElem? (l := px_all_23) (i := 1) rfl))))))))))))))))))))))))
theorem px_w462 : (Jvm.Cond.instanceMethod ({ cls := "MatroidDeskModel", name := "member", desc := "(III)I" } : Jvm.MethodName)) ∈ px_all := List.mem_append_right _ (List.mem_append_right _ (List.mem_append_right _ (List.mem_append_right _ (List.mem_append_right _ (List.mem_append_right _ (List.mem_append_right _ (List.mem_append_right _ (List.mem_append_right _ (List.mem_append_right _ (List.mem_append_right _ (List.mem_append_right _ (List.mem_append_right _ (List.mem_append_right _ (List.mem_append_right _ (List.mem_append_right _ (List.mem_append_right _ (List.mem_append_right _ (List.mem_append_right _ (List.mem_append_right _ (List.mem_append_right _ (List.mem_append_right _ (List.mem_append_right _ (List.mem_append_left _ (List.mem_of_getElem? (l := px_all_23) (i := 2) rfl))))))))))))))))))))))))
theorem px_w463 : (Jvm.Cond.selects "MatroidDeskModel" ({ cls := "MatroidDeskModel", name := "member", desc := "(III)I" } : Jvm.MethodName) ({ cls := "MatroidDeskModel", name := "member", desc := "(III)I" } : Jvm.MethodName)) ∈ px_all := List.mem_append_right _ (List.mem_append_right _ (List.mem_append_right _ (List.mem_append_right _ (List.mem_append_right _ (List.mem_append_right _ (List.mem_append_right _ (List.mem_append_right _ (List.mem_append_right _ (List.mem_append_right _ (List.mem_append_right _ (List.mem_append_right _ (List.mem_append_right _ (List.mem_append_right _ (List.mem_append_right _ (List.mem_append_right _ (List.mem_append_right _ (List.mem_append_right _ (List.mem_append_right _ (List.mem_append_right _ (List.mem_append_right _ (List.mem_append_right _ (List.mem_append_right _ (List.mem_append_left _ (List.mem_of_getElem? (l := px_all_23) (i := 3) rfl))))))))))))))))))))))))
theorem px_w464 : (Jvm.Cond.code ({ cls := "MatroidDeskModel", name := "tutte", desc := "(III)J" } : Jvm.MethodName) prog_15_method_103_code (4 : Nat) (Option.some Jvm.ClassFile.FieldType.long)) ∈ px_all := List.mem_append_right _ (List.mem_append_right _ (List.mem_append_right _ (List.mem_append_right _ (List.mem_append_right _ (List.mem_append_right _ (List.mem_append_right _ (List.mem_append_right _ (List.mem_append_right _ (List.mem_append_right _ (List.mem_append_right _ (List.mem_append_right _ (List.mem_append_right _ (List.mem_append_right _ (List.mem_append_right _ (List.mem_append_right _ (List.mem_append_right _ (List.mem_append_right _ (List.mem_append_right _ (List.mem_append_right _ (List.mem_append_right _ (List.mem_append_right _ (List.mem_append_right _ (List.mem_append_left _ (List.mem_of_getElem? (l := px_all_23) (i := 4) rfl))))))))))))))))))))))))
theorem px_w465 : (Jvm.Cond.instanceMethod ({ cls := "MatroidDeskModel", name := "tutte", desc := "(III)J" } : Jvm.MethodName)) ∈ px_all := List.mem_append_right _ (List.mem_append_right _ (List.mem_append_right _ (List.mem_append_right _ (List.mem_append_right _ (List.mem_append_right _ (List.mem_append_right _ (List.mem_append_right _ (List.mem_append_right _ (List.mem_append_right _ (List.mem_append_right _ (List.mem_append_right _ (List.mem_append_right _ (List.mem_append_right _ (List.mem_append_right _ (List.mem_append_right _ (List.mem_append_right _ (List.mem_append_right _ (List.mem_append_right _ (List.mem_append_right _ (List.mem_append_right _ (List.mem_append_right _ (List.mem_append_right _ (List.mem_append_left _ (List.mem_of_getElem? (l := px_all_23) (i := 5) rfl))))))))))))))))))))))))
theorem px_w466 : (Jvm.Cond.selects "MatroidDeskModel" ({ cls := "MatroidDeskModel", name := "tutte", desc := "(III)J" } : Jvm.MethodName) ({ cls := "MatroidDeskModel", name := "tutte", desc := "(III)J" } : Jvm.MethodName)) ∈ px_all := List.mem_append_right _ (List.mem_append_right _ (List.mem_append_right _ (List.mem_append_right _ (List.mem_append_right _ (List.mem_append_right _ (List.mem_append_right _ (List.mem_append_right _ (List.mem_append_right _ (List.mem_append_right _ (List.mem_append_right _ (List.mem_append_right _ (List.mem_append_right _ (List.mem_append_right _ (List.mem_append_right _ (List.mem_append_right _ (List.mem_append_right _ (List.mem_append_right _ (List.mem_append_right _ (List.mem_append_right _ (List.mem_append_right _ (List.mem_append_right _ (List.mem_append_right _ (List.mem_append_left _ (List.mem_of_getElem? (l := px_all_23) (i := 6) rfl))))))))))))))))))))))))
theorem px_w467 : (Jvm.Cond.code ({ cls := "MatroidDeskModel", name := "weight", desc := "(II)I" } : Jvm.MethodName) prog_15_method_104_code (3 : Nat) (Option.some Jvm.ClassFile.FieldType.int)) ∈ px_all := List.mem_append_right _ (List.mem_append_right _ (List.mem_append_right _ (List.mem_append_right _ (List.mem_append_right _ (List.mem_append_right _ (List.mem_append_right _ (List.mem_append_right _ (List.mem_append_right _ (List.mem_append_right _ (List.mem_append_right _ (List.mem_append_right _ (List.mem_append_right _ (List.mem_append_right _ (List.mem_append_right _ (List.mem_append_right _ (List.mem_append_right _ (List.mem_append_right _ (List.mem_append_right _ (List.mem_append_right _ (List.mem_append_right _ (List.mem_append_right _ (List.mem_append_right _ (List.mem_append_left _ (List.mem_of_getElem? (l := px_all_23) (i := 7) rfl))))))))))))))))))))))))
theorem px_w468 : (Jvm.Cond.instanceMethod ({ cls := "MatroidDeskModel", name := "weight", desc := "(II)I" } : Jvm.MethodName)) ∈ px_all := List.mem_append_right _ (List.mem_append_right _ (List.mem_append_right _ (List.mem_append_right _ (List.mem_append_right _ (List.mem_append_right _ (List.mem_append_right _ (List.mem_append_right _ (List.mem_append_right _ (List.mem_append_right _ (List.mem_append_right _ (List.mem_append_right _ (List.mem_append_right _ (List.mem_append_right _ (List.mem_append_right _ (List.mem_append_right _ (List.mem_append_right _ (List.mem_append_right _ (List.mem_append_right _ (List.mem_append_right _ (List.mem_append_right _ (List.mem_append_right _ (List.mem_append_right _ (List.mem_append_left _ (List.mem_of_getElem? (l := px_all_23) (i := 8) rfl))))))))))))))))))))))))
theorem px_w469 : (Jvm.Cond.selects "MatroidDeskModel" ({ cls := "MatroidDeskModel", name := "weight", desc := "(II)I" } : Jvm.MethodName) ({ cls := "MatroidDeskModel", name := "weight", desc := "(II)I" } : Jvm.MethodName)) ∈ px_all := List.mem_append_right _ (List.mem_append_right _ (List.mem_append_right _ (List.mem_append_right _ (List.mem_append_right _ (List.mem_append_right _ (List.mem_append_right _ (List.mem_append_right _ (List.mem_append_right _ (List.mem_append_right _ (List.mem_append_right _ (List.mem_append_right _ (List.mem_append_right _ (List.mem_append_right _ (List.mem_append_right _ (List.mem_append_right _ (List.mem_append_right _ (List.mem_append_right _ (List.mem_append_right _ (List.mem_append_right _ (List.mem_append_right _ (List.mem_append_right _ (List.mem_append_right _ (List.mem_append_left _ (List.mem_of_getElem? (l := px_all_23) (i := 9) rfl))))))))))))))))))))))))
theorem px_w470 : (Jvm.Cond.code ({ cls := "MatroidDeskModel", name := "best", desc := "(I)I" } : Jvm.MethodName) prog_15_method_105_code (2 : Nat) (Option.some Jvm.ClassFile.FieldType.int)) ∈ px_all := List.mem_append_right _ (List.mem_append_right _ (List.mem_append_right _ (List.mem_append_right _ (List.mem_append_right _ (List.mem_append_right _ (List.mem_append_right _ (List.mem_append_right _ (List.mem_append_right _ (List.mem_append_right _ (List.mem_append_right _ (List.mem_append_right _ (List.mem_append_right _ (List.mem_append_right _ (List.mem_append_right _ (List.mem_append_right _ (List.mem_append_right _ (List.mem_append_right _ (List.mem_append_right _ (List.mem_append_right _ (List.mem_append_right _ (List.mem_append_right _ (List.mem_append_right _ (List.mem_append_left _ (List.mem_of_getElem? (l := px_all_23) (i := 10) rfl))))))))))))))))))))))))
theorem px_w471 : (Jvm.Cond.instanceMethod ({ cls := "MatroidDeskModel", name := "best", desc := "(I)I" } : Jvm.MethodName)) ∈ px_all := List.mem_append_right _ (List.mem_append_right _ (List.mem_append_right _ (List.mem_append_right _ (List.mem_append_right _ (List.mem_append_right _ (List.mem_append_right _ (List.mem_append_right _ (List.mem_append_right _ (List.mem_append_right _ (List.mem_append_right _ (List.mem_append_right _ (List.mem_append_right _ (List.mem_append_right _ (List.mem_append_right _ (List.mem_append_right _ (List.mem_append_right _ (List.mem_append_right _ (List.mem_append_right _ (List.mem_append_right _ (List.mem_append_right _ (List.mem_append_right _ (List.mem_append_right _ (List.mem_append_left _ (List.mem_of_getElem? (l := px_all_23) (i := 11) rfl))))))))))))))))))))))))
theorem px_w472 : (Jvm.Cond.selects "MatroidDeskModel" ({ cls := "MatroidDeskModel", name := "best", desc := "(I)I" } : Jvm.MethodName) ({ cls := "MatroidDeskModel", name := "best", desc := "(I)I" } : Jvm.MethodName)) ∈ px_all := List.mem_append_right _ (List.mem_append_right _ (List.mem_append_right _ (List.mem_append_right _ (List.mem_append_right _ (List.mem_append_right _ (List.mem_append_right _ (List.mem_append_right _ (List.mem_append_right _ (List.mem_append_right _ (List.mem_append_right _ (List.mem_append_right _ (List.mem_append_right _ (List.mem_append_right _ (List.mem_append_right _ (List.mem_append_right _ (List.mem_append_right _ (List.mem_append_right _ (List.mem_append_right _ (List.mem_append_right _ (List.mem_append_right _ (List.mem_append_right _ (List.mem_append_right _ (List.mem_append_left _ (List.mem_of_getElem? (l := px_all_23) (i := 12) rfl))))))))))))))))))))))))
theorem px_w473 : (Jvm.Cond.code ({ cls := "MatroidDeskModel", name := "common", desc := "(II)I" } : Jvm.MethodName) prog_15_method_106_code (3 : Nat) (Option.some Jvm.ClassFile.FieldType.int)) ∈ px_all := List.mem_append_right _ (List.mem_append_right _ (List.mem_append_right _ (List.mem_append_right _ (List.mem_append_right _ (List.mem_append_right _ (List.mem_append_right _ (List.mem_append_right _ (List.mem_append_right _ (List.mem_append_right _ (List.mem_append_right _ (List.mem_append_right _ (List.mem_append_right _ (List.mem_append_right _ (List.mem_append_right _ (List.mem_append_right _ (List.mem_append_right _ (List.mem_append_right _ (List.mem_append_right _ (List.mem_append_right _ (List.mem_append_right _ (List.mem_append_right _ (List.mem_append_right _ (List.mem_append_left _ (List.mem_of_getElem? (l := px_all_23) (i := 13) rfl))))))))))))))))))))))))
theorem px_w474 : (Jvm.Cond.instanceMethod ({ cls := "MatroidDeskModel", name := "common", desc := "(II)I" } : Jvm.MethodName)) ∈ px_all := List.mem_append_right _ (List.mem_append_right _ (List.mem_append_right _ (List.mem_append_right _ (List.mem_append_right _ (List.mem_append_right _ (List.mem_append_right _ (List.mem_append_right _ (List.mem_append_right _ (List.mem_append_right _ (List.mem_append_right _ (List.mem_append_right _ (List.mem_append_right _ (List.mem_append_right _ (List.mem_append_right _ (List.mem_append_right _ (List.mem_append_right _ (List.mem_append_right _ (List.mem_append_right _ (List.mem_append_right _ (List.mem_append_right _ (List.mem_append_right _ (List.mem_append_right _ (List.mem_append_left _ (List.mem_of_getElem? (l := px_all_23) (i := 14) rfl))))))))))))))))))))))))
theorem px_w475 : (Jvm.Cond.selects "MatroidDeskModel" ({ cls := "MatroidDeskModel", name := "common", desc := "(II)I" } : Jvm.MethodName) ({ cls := "MatroidDeskModel", name := "common", desc := "(II)I" } : Jvm.MethodName)) ∈ px_all := List.mem_append_right _ (List.mem_append_right _ (List.mem_append_right _ (List.mem_append_right _ (List.mem_append_right _ (List.mem_append_right _ (List.mem_append_right _ (List.mem_append_right _ (List.mem_append_right _ (List.mem_append_right _ (List.mem_append_right _ (List.mem_append_right _ (List.mem_append_right _ (List.mem_append_right _ (List.mem_append_right _ (List.mem_append_right _ (List.mem_append_right _ (List.mem_append_right _ (List.mem_append_right _ (List.mem_append_right _ (List.mem_append_right _ (List.mem_append_right _ (List.mem_append_right _ (List.mem_append_left _ (List.mem_of_getElem? (l := px_all_23) (i := 15) rfl))))))))))))))))))))))))
theorem px_w476 : (Jvm.Cond.code ({ cls := "MatroidDeskModel", name := "cover", desc := "(II)I" } : Jvm.MethodName) prog_15_method_107_code (3 : Nat) (Option.some Jvm.ClassFile.FieldType.int)) ∈ px_all := List.mem_append_right _ (List.mem_append_right _ (List.mem_append_right _ (List.mem_append_right _ (List.mem_append_right _ (List.mem_append_right _ (List.mem_append_right _ (List.mem_append_right _ (List.mem_append_right _ (List.mem_append_right _ (List.mem_append_right _ (List.mem_append_right _ (List.mem_append_right _ (List.mem_append_right _ (List.mem_append_right _ (List.mem_append_right _ (List.mem_append_right _ (List.mem_append_right _ (List.mem_append_right _ (List.mem_append_right _ (List.mem_append_right _ (List.mem_append_right _ (List.mem_append_right _ (List.mem_append_left _ (List.mem_of_getElem? (l := px_all_23) (i := 16) rfl))))))))))))))))))))))))
theorem px_w477 : (Jvm.Cond.instanceMethod ({ cls := "MatroidDeskModel", name := "cover", desc := "(II)I" } : Jvm.MethodName)) ∈ px_all := List.mem_append_right _ (List.mem_append_right _ (List.mem_append_right _ (List.mem_append_right _ (List.mem_append_right _ (List.mem_append_right _ (List.mem_append_right _ (List.mem_append_right _ (List.mem_append_right _ (List.mem_append_right _ (List.mem_append_right _ (List.mem_append_right _ (List.mem_append_right _ (List.mem_append_right _ (List.mem_append_right _ (List.mem_append_right _ (List.mem_append_right _ (List.mem_append_right _ (List.mem_append_right _ (List.mem_append_right _ (List.mem_append_right _ (List.mem_append_right _ (List.mem_append_right _ (List.mem_append_left _ (List.mem_of_getElem? (l := px_all_23) (i := 17) rfl))))))))))))))))))))))))
theorem px_w478 : (Jvm.Cond.selects "MatroidDeskModel" ({ cls := "MatroidDeskModel", name := "cover", desc := "(II)I" } : Jvm.MethodName) ({ cls := "MatroidDeskModel", name := "cover", desc := "(II)I" } : Jvm.MethodName)) ∈ px_all := List.mem_append_right _ (List.mem_append_right _ (List.mem_append_right _ (List.mem_append_right _ (List.mem_append_right _ (List.mem_append_right _ (List.mem_append_right _ (List.mem_append_right _ (List.mem_append_right _ (List.mem_append_right _ (List.mem_append_right _ (List.mem_append_right _ (List.mem_append_right _ (List.mem_append_right _ (List.mem_append_right _ (List.mem_append_right _ (List.mem_append_right _ (List.mem_append_right _ (List.mem_append_right _ (List.mem_append_right _ (List.mem_append_right _ (List.mem_append_right _ (List.mem_append_right _ (List.mem_append_left _ (List.mem_of_getElem? (l := px_all_23) (i := 18) rfl))))))))))))))))))))))))
theorem px_w479 : (Jvm.Cond.code ({ cls := "MatroidDeskModel", name := "sign", desc := "(II)I" } : Jvm.MethodName) prog_15_method_108_code (4 : Nat) (Option.some Jvm.ClassFile.FieldType.int)) ∈ px_all := List.mem_append_right _ (List.mem_append_right _ (List.mem_append_right _ (List.mem_append_right _ (List.mem_append_right _ (List.mem_append_right _ (List.mem_append_right _ (List.mem_append_right _ (List.mem_append_right _ (List.mem_append_right _ (List.mem_append_right _ (List.mem_append_right _ (List.mem_append_right _ (List.mem_append_right _ (List.mem_append_right _ (List.mem_append_right _ (List.mem_append_right _ (List.mem_append_right _ (List.mem_append_right _ (List.mem_append_right _ (List.mem_append_right _ (List.mem_append_right _ (List.mem_append_right _ (List.mem_append_left _ (List.mem_of_getElem? (l := px_all_23) (i := 19) rfl))))))))))))))))))))))))
theorem px_w480 : (Jvm.Cond.instanceMethod ({ cls := "MatroidDeskModel", name := "sign", desc := "(II)I" } : Jvm.MethodName)) ∈ px_all := List.mem_append_right _ (List.mem_append_right _ (List.mem_append_right _ (List.mem_append_right _ (List.mem_append_right _ (List.mem_append_right _ (List.mem_append_right _ (List.mem_append_right _ (List.mem_append_right _ (List.mem_append_right _ (List.mem_append_right _ (List.mem_append_right _ (List.mem_append_right _ (List.mem_append_right _ (List.mem_append_right _ (List.mem_append_right _ (List.mem_append_right _ (List.mem_append_right _ (List.mem_append_right _ (List.mem_append_right _ (List.mem_append_right _ (List.mem_append_right _ (List.mem_append_right _ (List.mem_append_right _ ((List.mem_of_getElem? (l := px_all_24) (i := 0) rfl)))))))))))))))))))))))))
theorem px_w481 : (Jvm.Cond.selects "MatroidDeskModel" ({ cls := "MatroidDeskModel", name := "sign", desc := "(II)I" } : Jvm.MethodName) ({ cls := "MatroidDeskModel", name := "sign", desc := "(II)I" } : Jvm.MethodName)) ∈ px_all := List.mem_append_right _ (List.mem_append_right _ (List.mem_append_right _ (List.mem_append_right _ (List.mem_append_right _ (List.mem_append_right _ (List.mem_append_right _ (List.mem_append_right _ (List.mem_append_right _ (List.mem_append_right _ (List.mem_append_right _ (List.mem_append_right _ (List.mem_append_right _ (List.mem_append_right _ (List.mem_append_right _ (List.mem_append_right _ (List.mem_append_right _ (List.mem_append_right _ (List.mem_append_right _ (List.mem_append_right _ (List.mem_append_right _ (List.mem_append_right _ (List.mem_append_right _ (List.mem_append_right _ ((List.mem_of_getElem? (l := px_all_24) (i := 1) rfl)))))))))))))))))))))))))
theorem px_w482 : (Jvm.Cond.code ({ cls := "MatroidDeskModel", name := "below", desc := "(II)I" } : Jvm.MethodName) prog_15_method_109_code (4 : Nat) (Option.some Jvm.ClassFile.FieldType.int)) ∈ px_all := List.mem_append_right _ (List.mem_append_right _ (List.mem_append_right _ (List.mem_append_right _ (List.mem_append_right _ (List.mem_append_right _ (List.mem_append_right _ (List.mem_append_right _ (List.mem_append_right _ (List.mem_append_right _ (List.mem_append_right _ (List.mem_append_right _ (List.mem_append_right _ (List.mem_append_right _ (List.mem_append_right _ (List.mem_append_right _ (List.mem_append_right _ (List.mem_append_right _ (List.mem_append_right _ (List.mem_append_right _ (List.mem_append_right _ (List.mem_append_right _ (List.mem_append_right _ (List.mem_append_right _ ((List.mem_of_getElem? (l := px_all_24) (i := 2) rfl)))))))))))))))))))))))))
theorem px_w483 : (Jvm.Cond.instanceMethod ({ cls := "MatroidDeskModel", name := "below", desc := "(II)I" } : Jvm.MethodName)) ∈ px_all := List.mem_append_right _ (List.mem_append_right _ (List.mem_append_right _ (List.mem_append_right _ (List.mem_append_right _ (List.mem_append_right _ (List.mem_append_right _ (List.mem_append_right _ (List.mem_append_right _ (List.mem_append_right _ (List.mem_append_right _ (List.mem_append_right _ (List.mem_append_right _ (List.mem_append_right _ (List.mem_append_right _ (List.mem_append_right _ (List.mem_append_right _ (List.mem_append_right _ (List.mem_append_right _ (List.mem_append_right _ (List.mem_append_right _ (List.mem_append_right _ (List.mem_append_right _ (List.mem_append_right _ ((List.mem_of_getElem? (l := px_all_24) (i := 3) rfl)))))))))))))))))))))))))
theorem px_w484 : (Jvm.Cond.selects "MatroidDeskModel" ({ cls := "MatroidDeskModel", name := "below", desc := "(II)I" } : Jvm.MethodName) ({ cls := "MatroidDeskModel", name := "below", desc := "(II)I" } : Jvm.MethodName)) ∈ px_all := List.mem_append_right _ (List.mem_append_right _ (List.mem_append_right _ (List.mem_append_right _ (List.mem_append_right _ (List.mem_append_right _ (List.mem_append_right _ (List.mem_append_right _ (List.mem_append_right _ (List.mem_append_right _ (List.mem_append_right _ (List.mem_append_right _ (List.mem_append_right _ (List.mem_append_right _ (List.mem_append_right _ (List.mem_append_right _ (List.mem_append_right _ (List.mem_append_right _ (List.mem_append_right _ (List.mem_append_right _ (List.mem_append_right _ (List.mem_append_right _ (List.mem_append_right _ (List.mem_append_right _ ((List.mem_of_getElem? (l := px_all_24) (i := 4) rfl)))))))))))))))))))))))))
theorem px_w485 : (Jvm.Cond.code ({ cls := "MatroidDeskModel", name := "contracted", desc := "(II)I" } : Jvm.MethodName) prog_15_method_110_code (3 : Nat) (Option.some Jvm.ClassFile.FieldType.int)) ∈ px_all := List.mem_append_right _ (List.mem_append_right _ (List.mem_append_right _ (List.mem_append_right _ (List.mem_append_right _ (List.mem_append_right _ (List.mem_append_right _ (List.mem_append_right _ (List.mem_append_right _ (List.mem_append_right _ (List.mem_append_right _ (List.mem_append_right _ (List.mem_append_right _ (List.mem_append_right _ (List.mem_append_right _ (List.mem_append_right _ (List.mem_append_right _ (List.mem_append_right _ (List.mem_append_right _ (List.mem_append_right _ (List.mem_append_right _ (List.mem_append_right _ (List.mem_append_right _ (List.mem_append_right _ ((List.mem_of_getElem? (l := px_all_24) (i := 5) rfl)))))))))))))))))))))))))
theorem px_w486 : (Jvm.Cond.instanceMethod ({ cls := "MatroidDeskModel", name := "contracted", desc := "(II)I" } : Jvm.MethodName)) ∈ px_all := List.mem_append_right _ (List.mem_append_right _ (List.mem_append_right _ (List.mem_append_right _ (List.mem_append_right _ (List.mem_append_right _ (List.mem_append_right _ (List.mem_append_right _ (List.mem_append_right _ (List.mem_append_right _ (List.mem_append_right _ (List.mem_append_right _ (List.mem_append_right _ (List.mem_append_right _ (List.mem_append_right _ (List.mem_append_right _ (List.mem_append_right _ (List.mem_append_right _ (List.mem_append_right _ (List.mem_append_right _ (List.mem_append_right _ (List.mem_append_right _ (List.mem_append_right _ (List.mem_append_right _ ((List.mem_of_getElem? (l := px_all_24) (i := 6) rfl)))))))))))))))))))))))))
theorem px_w487 : (Jvm.Cond.selects "MatroidDeskModel" ({ cls := "MatroidDeskModel", name := "contracted", desc := "(II)I" } : Jvm.MethodName) ({ cls := "MatroidDeskModel", name := "contracted", desc := "(II)I" } : Jvm.MethodName)) ∈ px_all := List.mem_append_right _ (List.mem_append_right _ (List.mem_append_right _ (List.mem_append_right _ (List.mem_append_right _ (List.mem_append_right _ (List.mem_append_right _ (List.mem_append_right _ (List.mem_append_right _ (List.mem_append_right _ (List.mem_append_right _ (List.mem_append_right _ (List.mem_append_right _ (List.mem_append_right _ (List.mem_append_right _ (List.mem_append_right _ (List.mem_append_right _ (List.mem_append_right _ (List.mem_append_right _ (List.mem_append_right _ (List.mem_append_right _ (List.mem_append_right _ (List.mem_append_right _ (List.mem_append_right _ ((List.mem_of_getElem? (l := px_all_24) (i := 7) rfl)))))))))))))))))))))))))
theorem px_w488 : (Jvm.Cond.fieldLink "MatroidDeskModel" (304 : Nat) "MatroidDeskModel" "witnessC" "I") ∈ px_all := List.mem_append_right _ (List.mem_append_right _ (List.mem_append_right _ (List.mem_append_right _ (List.mem_append_right _ (List.mem_append_right _ (List.mem_append_right _ (List.mem_append_right _ (List.mem_append_right _ (List.mem_append_right _ (List.mem_append_right _ (List.mem_append_right _ (List.mem_append_right _ (List.mem_append_right _ (List.mem_append_right _ (List.mem_append_right _ (List.mem_append_right _ (List.mem_append_right _ (List.mem_append_right _ (List.mem_append_right _ (List.mem_append_right _ (List.mem_append_right _ (List.mem_append_right _ (List.mem_append_right _ ((List.mem_of_getElem? (l := px_all_24) (i := 8) rfl)))))))))))))))))))))))))
theorem px_w489 : (Jvm.Cond.code ({ cls := "MatroidDeskModel", name := "deleted", desc := "(II)I" } : Jvm.MethodName) prog_15_method_111_code (3 : Nat) (Option.some Jvm.ClassFile.FieldType.int)) ∈ px_all := List.mem_append_right _ (List.mem_append_right _ (List.mem_append_right _ (List.mem_append_right _ (List.mem_append_right _ (List.mem_append_right _ (List.mem_append_right _ (List.mem_append_right _ (List.mem_append_right _ (List.mem_append_right _ (List.mem_append_right _ (List.mem_append_right _ (List.mem_append_right _ (List.mem_append_right _ (List.mem_append_right _ (List.mem_append_right _ (List.mem_append_right _ (List.mem_append_right _ (List.mem_append_right _ (List.mem_append_right _ (List.mem_append_right _ (List.mem_append_right _ (List.mem_append_right _ (List.mem_append_right _ ((List.mem_of_getElem? (l := px_all_24) (i := 9) rfl)))))))))))))))))))))))))
theorem px_w490 : (Jvm.Cond.instanceMethod ({ cls := "MatroidDeskModel", name := "deleted", desc := "(II)I" } : Jvm.MethodName)) ∈ px_all := List.mem_append_right _ (List.mem_append_right _ (List.mem_append_right _ (List.mem_append_right _ (List.mem_append_right _ (List.mem_append_right _ (List.mem_append_right _ (List.mem_append_right _ (List.mem_append_right _ (List.mem_append_right _ (List.mem_append_right _ (List.mem_append_right _ (List.mem_append_right _ (List.mem_append_right _ (List.mem_append_right _ (List.mem_append_right _ (List.mem_append_right _ (List.mem_append_right _ (List.mem_append_right _ (List.mem_append_right _ (List.mem_append_right _ (List.mem_append_right _ (List.mem_append_right _ (List.mem_append_right _ ((List.mem_of_getElem? (l := px_all_24) (i := 10) rfl)))))))))))))))))))))))))
theorem px_w491 : (Jvm.Cond.selects "MatroidDeskModel" ({ cls := "MatroidDeskModel", name := "deleted", desc := "(II)I" } : Jvm.MethodName) ({ cls := "MatroidDeskModel", name := "deleted", desc := "(II)I" } : Jvm.MethodName)) ∈ px_all := List.mem_append_right _ (List.mem_append_right _ (List.mem_append_right _ (List.mem_append_right _ (List.mem_append_right _ (List.mem_append_right _ (List.mem_append_right _ (List.mem_append_right _ (List.mem_append_right _ (List.mem_append_right _ (List.mem_append_right _ (List.mem_append_right _ (List.mem_append_right _ (List.mem_append_right _ (List.mem_append_right _ (List.mem_append_right _ (List.mem_append_right _ (List.mem_append_right _ (List.mem_append_right _ (List.mem_append_right _ (List.mem_append_right _ (List.mem_append_right _ (List.mem_append_right _ (List.mem_append_right _ ((List.mem_of_getElem? (l := px_all_24) (i := 11) rfl)))))))))))))))))))))))))
theorem px_w492 : (Jvm.Cond.fieldLink "MatroidDeskModel" (301 : Nat) "MatroidDeskModel" "witnessK" "I") ∈ px_all := List.mem_append_right _ (List.mem_append_right _ (List.mem_append_right _ (List.mem_append_right _ (List.mem_append_right _ (List.mem_append_right _ (List.mem_append_right _ (List.mem_append_right _ (List.mem_append_right _ (List.mem_append_right _ (List.mem_append_right _ (List.mem_append_right _ (List.mem_append_right _ (List.mem_append_right _ (List.mem_append_right _ (List.mem_append_right _ (List.mem_append_right _ (List.mem_append_right _ (List.mem_append_right _ (List.mem_append_right _ (List.mem_append_right _ (List.mem_append_right _ (List.mem_append_right _ (List.mem_append_right _ ((List.mem_of_getElem? (l := px_all_24) (i := 12) rfl)))))))))))))))))))))))))
theorem px_w493 : (Jvm.Cond.code ({ cls := "MatroidDeskModel", name := "image", desc := "(III)I" } : Jvm.MethodName) prog_15_method_112_code (4 : Nat) (Option.some Jvm.ClassFile.FieldType.int)) ∈ px_all := List.mem_append_right _ (List.mem_append_right _ (List.mem_append_right _ (List.mem_append_right _ (List.mem_append_right _ (List.mem_append_right _ (List.mem_append_right _ (List.mem_append_right _ (List.mem_append_right _ (List.mem_append_right _ (List.mem_append_right _ (List.mem_append_right _ (List.mem_append_right _ (List.mem_append_right _ (List.mem_append_right _ (List.mem_append_right _ (List.mem_append_right _ (List.mem_append_right _ (List.mem_append_right _ (List.mem_append_right _ (List.mem_append_right _ (List.mem_append_right _ (List.mem_append_right _ (List.mem_append_right _ ((List.mem_of_getElem? (l := px_all_24) (i := 13) rfl)))))))))))))))))))))))))
theorem px_w494 : (Jvm.Cond.instanceMethod ({ cls := "MatroidDeskModel", name := "image", desc := "(III)I" } : Jvm.MethodName)) ∈ px_all := List.mem_append_right _ (List.mem_append_right _ (List.mem_append_right _ (List.mem_append_right _ (List.mem_append_right _ (List.mem_append_right _ (List.mem_append_right _ (List.mem_append_right _ (List.mem_append_right _ (List.mem_append_right _ (List.mem_append_right _ (List.mem_append_right _ (List.mem_append_right _ (List.mem_append_right _ (List.mem_append_right _ (List.mem_append_right _ (List.mem_append_right _ (List.mem_append_right _ (List.mem_append_right _ (List.mem_append_right _ (List.mem_append_right _ (List.mem_append_right _ (List.mem_append_right _ (List.mem_append_right _ ((List.mem_of_getElem? (l := px_all_24) (i := 14) rfl)))))))))))))))))))))))))
theorem px_w495 : (Jvm.Cond.selects "MatroidDeskModel" ({ cls := "MatroidDeskModel", name := "image", desc := "(III)I" } : Jvm.MethodName) ({ cls := "MatroidDeskModel", name := "image", desc := "(III)I" } : Jvm.MethodName)) ∈ px_all := List.mem_append_right _ (List.mem_append_right _ (List.mem_append_right _ (List.mem_append_right _ (List.mem_append_right _ (List.mem_append_right _ (List.mem_append_right _ (List.mem_append_right _ (List.mem_append_right _ (List.mem_append_right _ (List.mem_append_right _ (List.mem_append_right _ (List.mem_append_right _ (List.mem_append_right _ (List.mem_append_right _ (List.mem_append_right _ (List.mem_append_right _ (List.mem_append_right _ (List.mem_append_right _ (List.mem_append_right _ (List.mem_append_right _ (List.mem_append_right _ (List.mem_append_right _ (List.mem_append_right _ ((List.mem_of_getElem? (l := px_all_24) (i := 15) rfl)))))))))))))))))))))))))
theorem px_w496 : (Jvm.Cond.static ({ cls := "MatroidDeskLaw", name := "feed", desc := "(LMatroidDesk;IIIII)I" } : Jvm.MethodName)) ∈ px_all := List.mem_append_right _ (List.mem_append_right _ (List.mem_append_right _ (List.mem_append_right _ (List.mem_append_right _ (List.mem_append_right _ (List.mem_append_right _ (List.mem_append_right _ (List.mem_append_right _ (List.mem_append_right _ (List.mem_append_right _ (List.mem_append_right _ (List.mem_append_right _ (List.mem_append_right _ (List.mem_append_right _ (List.mem_append_right _ (List.mem_append_right _ (List.mem_append_right _ (List.mem_append_right _ (List.mem_append_right _ (List.mem_append_right _ (List.mem_append_right _ (List.mem_append_right _ (List.mem_append_right _ ((List.mem_of_getElem? (l := px_all_24) (i := 16) rfl)))))))))))))))))))))))))
theorem px_w497 : (Jvm.Cond.methodLink "MatroidDeskLaw" (7 : Nat) ({ cls := "MatroidDesk", name := "feed", desc := "(IIIII)V" } : Jvm.MethodName)) ∈ px_all := List.mem_append_right _ (List.mem_append_right _ (List.mem_append_right _ (List.mem_append_right _ (List.mem_append_right _ (List.mem_append_right _ (List.mem_append_right _ (List.mem_append_right _ (List.mem_append_right _ (List.mem_append_right _ (List.mem_append_right _ (List.mem_append_right _ (List.mem_append_right _ (List.mem_append_right _ (List.mem_append_right _ (List.mem_append_right _ (List.mem_append_right _ (List.mem_append_right _ (List.mem_append_right _ (List.mem_append_right _ (List.mem_append_right _ (List.mem_append_right _ (List.mem_append_right _ (List.mem_append_right _ ((List.mem_of_getElem? (l := px_all_24) (i := 17) rfl)))))))))))))))))))))))))
theorem px_w498 : (Jvm.Cond.static ({ cls := "MatroidDeskLaw", name := "end", desc := "(LMatroidDesk;I[J)I" } : Jvm.MethodName)) ∈ px_all := List.mem_append_right _ (List.mem_append_right _ (List.mem_append_right _ (List.mem_append_right _ (List.mem_append_right _ (List.mem_append_right _ (List.mem_append_right _ (List.mem_append_right _ (List.mem_append_right _ (List.mem_append_right _ (List.mem_append_right _ (List.mem_append_right _ (List.mem_append_right _ (List.mem_append_right _ (List.mem_append_right _ (List.mem_append_right _ (List.mem_append_right _ (List.mem_append_right _ (List.mem_append_right _ (List.mem_append_right _ (List.mem_append_right _ (List.mem_append_right _ (List.mem_append_right _ (List.mem_append_right _ ((List.mem_of_getElem? (l := px_all_24) (i := 18) rfl)))))))))))))))))))))))))
theorem px_w499 : (Jvm.Cond.methodLink "MatroidDeskLaw" (15 : Nat) ({ cls := "MatroidDesk", name := "end", desc := "(I)I" } : Jvm.MethodName)) ∈ px_all := List.mem_append_right _ (List.mem_append_right _ (List.mem_append_right _ (List.mem_append_right _ (List.mem_append_right _ (List.mem_append_right _ (List.mem_append_right _ (List.mem_append_right _ (List.mem_append_right _ (List.mem_append_right _ (List.mem_append_right _ (List.mem_append_right _ (List.mem_append_right _ (List.mem_append_right _ (List.mem_append_right _ (List.mem_append_right _ (List.mem_append_right _ (List.mem_append_right _ (List.mem_append_right _ (List.mem_append_right _ (List.mem_append_right _ (List.mem_append_right _ (List.mem_append_right _ (List.mem_append_right _ ((List.mem_of_getElem? (l := px_all_24) (i := 19) rfl)))))))))))))))))))))))))
theorem px_allgood : px_all.all goodWord = true := by decide +kernel
theorem px_good {c : Cond} (h : c ∈ px_all) : GoodIn px_all (c :: px_all) := fun w hw => by
  have hm : w ∈ px_all := by
    rcases List.mem_cons.mp hw with h1 | h1
    · rw [h1]; exact h
    · exact h1
  exact ⟨hm, good_of_word (List.all_eq_true.mp px_allgood w hm)⟩
theorem px_gv {own C : String} {idx : Nat} {y : MethodName} {ws : List Cond} (h1 : Cond.methodLink own idx y ∈ px_all) (h2 : Cond.instanceMethod y ∈ px_all) (h3 : Cond.selects C y y ∈ px_all) (h4 : Cond.initialized C ∈ px_all) (h5 : GoodIn px_all ws) : GoodIn px_all (wsV own idx C y ws) := fun w hw => by
  rcases List.mem_append.mp hw with h | h
  · have hm : w ∈ px_all := by
      simp only [List.mem_cons, List.not_mem_nil, or_false] at h
      rcases h with rfl | rfl | rfl | rfl <;> assumption
    exact ⟨hm, good_of_word (List.all_eq_true.mp px_allgood w hm)⟩
  · exact h5 w h
theorem px_gs {own : String} {idx : Nat} {y : MethodName} {ws : List Cond} (h1 : Cond.methodLink own idx y ∈ px_all) (h2 : Cond.static y ∈ px_all) (h4 : Cond.initialized own ∈ px_all) (h5 : GoodIn px_all ws) : GoodIn px_all (wsS own idx y ws) := fun w hw => by
  rcases List.mem_append.mp hw with h | h
  · have hm : w ∈ px_all := by
      simp only [List.mem_cons, List.not_mem_nil, or_false] at h
      rcases h with rfl | rfl | rfl <;> assumption
    exact ⟨hm, good_of_word (List.all_eq_true.mp px_allgood w hm)⟩
  · exact h5 w h
theorem px_in0 : ∀ w ∈ u_ws "MatroidDesk" px_T0 14, w ∈ px_all := by decide +kernel
theorem px_in1 : ∀ w ∈ u_ws "MatroidDesk$Orders" px_T1 3, w ∈ px_all := by decide +kernel
theorem px_in2 : ∀ w ∈ u_ws "MatroidDesk$Minors" px_T2 12, w ∈ px_all := by decide +kernel
theorem px_in3 : ∀ w ∈ u_ws "MatroidDesk$Wide" px_T3 3, w ∈ px_all := by decide +kernel
theorem px_in4 : ∀ w ∈ u_ws "MatroidDesk$Witness" px_T4 18, w ∈ px_all := by decide +kernel
theorem px_in5 : ∀ w ∈ u_ws "MatroidDesk$Tokens" px_T5 6, w ∈ px_all := by decide +kernel
theorem px_in6 : ∀ w ∈ u_ws "MatroidDesk$Statement" px_T6 12, w ∈ px_all := by decide +kernel
theorem px_in7 : ∀ w ∈ u_ws "MatroidDesk$Product" px_T7 4, w ∈ px_all := by decide +kernel
theorem px_in8 : ∀ w ∈ u_ws "MatroidDeskModel" px_T8 53, w ∈ px_all := by decide +kernel
theorem px_in9 : ∀ w ∈ u_ws "MatroidDeskModel$Num" px_T9 3, w ∈ px_all := by decide +kernel
abbrev px_s0 : List Cond := Cond.code px_y0 prog_10_method_1_code 1 none :: px_all
theorem px_g0 : GoodIn px_all px_s0 := px_good px_w155
abbrev px_s1 : List Cond := Cond.code px_y1 prog_5_method_1_code 1 none :: px_all
theorem px_g1 : GoodIn px_all px_s1 := px_good px_w159
abbrev px_s2 : List Cond := Cond.code px_y2 prog_12_method_1_code 1 none :: px_all
theorem px_g2 : GoodIn px_all px_s2 := px_good px_w165
abbrev px_s3 : List Cond := Cond.code px_y3 prog_4_method_1_code 2 none :: px_all
theorem px_g3 : GoodIn px_all px_s3 := px_good px_w168
abbrev px_s4 : List Cond := Cond.code px_y4 prog_13_method_1_code 2 none :: px_all
theorem px_g4 : GoodIn px_all px_s4 := px_good px_w180
abbrev px_s5 : List Cond := Cond.code px_y5 prog_9_method_1_code 2 none :: px_all
theorem px_g5 : GoodIn px_all px_s5 := px_good px_w194
abbrev px_s6 : List Cond := Cond.code px_y6 prog_7_method_1_code 1 none :: px_all
theorem px_g6 : GoodIn px_all px_s6 := px_good px_w201
abbrev px_s7 : List Cond := Cond.code px_y7 prog_1_method_1_code 1 none :: px_all
theorem px_g7 : GoodIn px_all px_s7 := px_good px_w206
abbrev px_s8 : List Cond := Cond.code px_y8 prog_16_method_1_code 1 none :: px_all
theorem px_g8 : GoodIn px_all px_s8 := px_good px_w236
abbrev px_s9 : List Cond := Cond.code px_y9 prog_15_method_18_code 7 (some .int) :: px_all
theorem px_g9 : GoodIn px_all px_s9 := px_good px_w240
abbrev px_s10 : List Cond := Cond.code px_y10 prog_15_method_17_code 3 none :: px_all
theorem px_g10 : GoodIn px_all px_s10 := px_good px_w246
abbrev px_s11 : List Cond := Cond.code px_y11 prog_1_method_26_code 3 none :: px_all
theorem px_g11 : GoodIn px_all px_s11 := px_good px_w289
abbrev px_s12 : List Cond := Cond.code px_y12 prog_1_method_2_code 6 none :: px_all
theorem px_g12 : GoodIn px_all px_s12 := px_good px_w292
abbrev px_s13 : List Cond := Cond.code px_y13 prog_1_method_3_code 3 (some .int) :: px_all
theorem px_g13 : GoodIn px_all px_s13 := px_good px_w297
abbrev px_s14 : List Cond := Cond.code px_y14 prog_10_method_6_code 3 none :: px_all
theorem px_g14 : GoodIn px_all px_s14 := px_good px_w301
abbrev px_s15 : List Cond := Cond.code px_y15 prog_10_method_3_code 3 none :: px_all
theorem px_g15 : GoodIn px_all px_s15 := px_good px_w306
abbrev px_s16 : List Cond := Cond.code px_y16 prog_10_method_2_code 3 none :: px_all
theorem px_g16 : GoodIn px_all px_s16 := px_good px_w312
abbrev px_s17 : List Cond := Cond.code px_y17 prog_7_method_2_code 2 none :: px_all
theorem px_g17 : GoodIn px_all px_s17 := px_good px_w316
abbrev px_s18 : List Cond := Cond.code px_y18 prog_1_method_27_code 3 (some .boolean) :: px_all
theorem px_g18 : GoodIn px_all px_s18 := px_good px_w321
abbrev px_s19 : List Cond := Cond.code px_y19 prog_1_method_4_code 5 (some .int) :: px_all
theorem px_g19 : GoodIn px_all px_s19 := px_good px_w325
abbrev px_s20 : List Cond := Cond.code px_y20 prog_1_method_5_code 1 (some .int) :: px_all
theorem px_g20 : GoodIn px_all px_s20 := px_good px_w331
abbrev px_s21 : List Cond := Cond.code px_y21 prog_1_method_6_code 1 (some .int) :: px_all
theorem px_g21 : GoodIn px_all px_s21 := px_good px_w334
abbrev px_s22 : List Cond := Cond.code px_y22 prog_1_method_7_code 1 (some .int) :: px_all
theorem px_g22 : GoodIn px_all px_s22 := px_good px_w337
abbrev px_s23 : List Cond := Cond.code px_y23 prog_1_method_8_code 2 (some .int) :: px_all
theorem px_g23 : GoodIn px_all px_s23 := px_good px_w340
abbrev px_s24 : List Cond := Cond.code px_y24 prog_1_method_25_code 2 (some (.object "MatroidDesk$Matroid")) :: px_all
theorem px_g24 : GoodIn px_all px_s24 := px_good px_w343
abbrev px_s25 : List Cond := Cond.code px_y25 prog_1_method_9_code 3 (some .int) :: px_all
theorem px_g25 : GoodIn px_all px_s25 := px_good px_w346
abbrev px_s26 : List Cond := Cond.code px_y26 prog_1_method_10_code 3 (some .int) :: px_all
theorem px_g26 : GoodIn px_all px_s26 := px_good px_w349
abbrev px_s27 : List Cond := Cond.code px_y27 prog_1_method_11_code 4 (some .int) :: px_all
theorem px_g27 : GoodIn px_all px_s27 := px_good px_w352
abbrev px_s28 : List Cond := Cond.code px_y28 prog_1_method_12_code 4 (some .int) :: px_all
theorem px_g28 : GoodIn px_all px_s28 := px_good px_w355
abbrev px_s29 : List Cond := Cond.code px_y29 prog_1_method_13_code 5 (some .int) :: px_all
theorem px_g29 : GoodIn px_all px_s29 := px_good px_w358
abbrev px_s30 : List Cond := Cond.code px_y30 prog_1_method_14_code 5 (some .long) :: px_all
theorem px_g30 : GoodIn px_all px_s30 := px_good px_w361
abbrev px_s31 : List Cond := Cond.code px_y31 prog_1_method_15_code 4 (some .int) :: px_all
theorem px_g31 : GoodIn px_all px_s31 := px_good px_w364
abbrev px_s32 : List Cond := Cond.code px_y32 prog_1_method_16_code 3 (some .int) :: px_all
theorem px_g32 : GoodIn px_all px_s32 := px_good px_w367
abbrev px_s33 : List Cond := Cond.code px_y33 prog_1_method_17_code 6 (some .int) :: px_all
theorem px_g33 : GoodIn px_all px_s33 := px_good px_w370
abbrev px_s34 : List Cond := Cond.code px_y34 prog_1_method_18_code 6 (some .int) :: px_all
theorem px_g34 : GoodIn px_all px_s34 := px_good px_w373
abbrev px_s35 : List Cond := Cond.code px_y35 prog_1_method_19_code 4 (some .int) :: px_all
theorem px_g35 : GoodIn px_all px_s35 := px_good px_w376
abbrev px_s36 : List Cond := Cond.code px_y36 prog_1_method_20_code 4 (some .int) :: px_all
theorem px_g36 : GoodIn px_all px_s36 := px_good px_w379
abbrev px_s37 : List Cond := Cond.code px_y37 prog_1_method_24_code 5 (some .boolean) :: px_all
theorem px_g37 : GoodIn px_all px_s37 := px_good px_w382
abbrev px_s38 : List Cond := Cond.code px_y38 prog_1_method_21_code 3 (some .int) :: px_all
theorem px_g38 : GoodIn px_all px_s38 := px_good px_w385
abbrev px_s39 : List Cond := Cond.code px_y39 prog_1_method_22_code 3 (some .int) :: px_all
theorem px_g39 : GoodIn px_all px_s39 := px_good px_w389
abbrev px_s40 : List Cond := Cond.code px_y40 prog_1_method_23_code 6 (some .int) :: px_all
theorem px_g40 : GoodIn px_all px_s40 := px_good px_w392
abbrev px_s41 : List Cond := Cond.code px_y41 prog_15_method_89_code 3 none :: px_all
theorem px_g41 : GoodIn px_all px_s41 := px_good px_w395
abbrev px_s42 : List Cond := Cond.code px_y42 prog_15_method_90_code 6 none :: px_all
theorem px_g42 : GoodIn px_all px_s42 := px_good px_w399
abbrev px_s43 : List Cond := Cond.code px_y43 prog_15_method_91_code 3 (some .int) :: px_all
theorem px_g43 : GoodIn px_all px_s43 := px_good px_w404
abbrev px_s44 : List Cond := Cond.code px_y44 prog_15_method_88_code 1 (some .int) :: px_all
theorem px_g44 : GoodIn px_all px_s44 := px_good px_w407
abbrev px_s45 : List Cond := Cond.code px_y45 prog_15_method_50_code 2 (some .int) :: px_all
theorem px_g45 : GoodIn px_all px_s45 := px_good px_w410
abbrev px_s46 : List Cond := Cond.code px_y46 prog_15_method_53_code 5 none :: px_all
theorem px_g46 : GoodIn px_all px_s46 := px_good px_w414
abbrev px_s47 : List Cond := Cond.code px_y47 prog_15_method_63_code 3 (some .boolean) :: px_all
theorem px_g47 : GoodIn px_all px_s47 := px_good px_w421
abbrev px_s48 : List Cond := Cond.code px_y48 prog_15_method_92_code 2 (some .int) :: px_all
theorem px_g48 : GoodIn px_all px_s48 := px_good px_w426
abbrev px_s49 : List Cond := Cond.code px_y49 prog_15_method_93_code 1 (some .int) :: px_all
theorem px_g49 : GoodIn px_all px_s49 := px_good px_w433
abbrev px_s50 : List Cond := Cond.code px_y50 prog_15_method_94_code 1 (some .int) :: px_all
theorem px_g50 : GoodIn px_all px_s50 := px_good px_w436
abbrev px_s51 : List Cond := Cond.code px_y51 prog_15_method_95_code 1 (some .int) :: px_all
theorem px_g51 : GoodIn px_all px_s51 := px_good px_w439
abbrev px_s52 : List Cond := Cond.code px_y52 prog_15_method_96_code 2 (some .int) :: px_all
theorem px_g52 : GoodIn px_all px_s52 := px_good px_w442
abbrev px_s53 : List Cond := Cond.code px_y53 prog_15_method_97_code 2 (some .boolean) :: px_all
theorem px_g53 : GoodIn px_all px_s53 := px_good px_w445
abbrev px_s54 : List Cond := Cond.code px_y54 prog_15_method_98_code 2 (some .int) :: px_all
theorem px_g54 : GoodIn px_all px_s54 := px_good px_w448
abbrev px_s55 : List Cond := Cond.code px_y55 prog_15_method_99_code 2 (some .int) :: px_all
theorem px_g55 : GoodIn px_all px_s55 := px_good px_w452
abbrev px_s56 : List Cond := Cond.code px_y56 prog_15_method_100_code 3 (some .int) :: px_all
theorem px_g56 : GoodIn px_all px_s56 := px_good px_w455
abbrev px_s57 : List Cond := Cond.code px_y57 prog_15_method_101_code 3 (some .int) :: px_all
theorem px_g57 : GoodIn px_all px_s57 := px_good px_w458
abbrev px_s58 : List Cond := Cond.code px_y58 prog_15_method_102_code 4 (some .int) :: px_all
theorem px_g58 : GoodIn px_all px_s58 := px_good px_w461
abbrev px_s59 : List Cond := Cond.code px_y59 prog_15_method_103_code 4 (some .long) :: px_all
theorem px_g59 : GoodIn px_all px_s59 := px_good px_w464
abbrev px_s60 : List Cond := Cond.code px_y60 prog_15_method_104_code 3 (some .int) :: px_all
theorem px_g60 : GoodIn px_all px_s60 := px_good px_w467
abbrev px_s61 : List Cond := Cond.code px_y61 prog_15_method_105_code 2 (some .int) :: px_all
theorem px_g61 : GoodIn px_all px_s61 := px_good px_w470
abbrev px_s62 : List Cond := Cond.code px_y62 prog_15_method_106_code 3 (some .int) :: px_all
theorem px_g62 : GoodIn px_all px_s62 := px_good px_w473
abbrev px_s63 : List Cond := Cond.code px_y63 prog_15_method_107_code 3 (some .int) :: px_all
theorem px_g63 : GoodIn px_all px_s63 := px_good px_w476
abbrev px_s64 : List Cond := Cond.code px_y64 prog_15_method_108_code 4 (some .int) :: px_all
theorem px_g64 : GoodIn px_all px_s64 := px_good px_w479
abbrev px_s65 : List Cond := Cond.code px_y65 prog_15_method_109_code 4 (some .int) :: px_all
theorem px_g65 : GoodIn px_all px_s65 := px_good px_w482
abbrev px_s66 : List Cond := Cond.code px_y66 prog_15_method_110_code 3 (some .int) :: px_all
theorem px_g66 : GoodIn px_all px_s66 := px_good px_w485
abbrev px_s67 : List Cond := Cond.code px_y67 prog_15_method_111_code 3 (some .int) :: px_all
theorem px_g67 : GoodIn px_all px_s67 := px_good px_w489
abbrev px_s68 : List Cond := Cond.code px_y68 prog_15_method_112_code 4 (some .int) :: px_all
theorem px_g68 : GoodIn px_all px_s68 := px_good px_w493
def px_nf : List (String × Nat × String × String × String × String) := [("MatroidDesk", 122, "MatroidDesk$Tokens", "kind", "I", "MatroidDesk"), ("MatroidDesk", 112, "MatroidDesk$Tokens", "start", "I", "MatroidDesk"), ("MatroidDesk", 125, "MatroidDesk$Product", "length", "I", "MatroidDesk"), ("MatroidDesk", 136, "MatroidDesk$Statement", "verb", "LMatroidDesk$Verb;", "MatroidDesk"), ("MatroidDesk", 149, "MatroidDesk$Statement", "first", "I", "MatroidDesk"), ("MatroidDesk", 160, "MatroidDesk$Product", "full", "Z", "MatroidDesk"), ("MatroidDesk", 163, "MatroidDesk$Product", "bytes", "[B", "MatroidDesk"), ("MatroidDesk", 219, "MatroidDesk$Witness", "contractedSet", "I", "MatroidDesk"), ("MatroidDesk", 222, "MatroidDesk$Witness", "deletedSet", "I", "MatroidDesk")]
def px_nm : List (String × Nat × MethodName × String) := [("MatroidDesk$Minors", 15, px_y2, "MatroidDesk"), ("MatroidDeskModel", 152, px_y8, "MatroidDeskModel")]
def px_ao : List String := ["MatroidDesk$Matroid", "MatroidDeskModel$Num"]
/-- the words on nest mates and on arrays of references, which no list of good words holds -/
def px_N (U : State) : Prop := (∀ q ∈ px_nf, va_Nw (.fieldLinkNest q.1 q.2.1 q.2.2.1 q.2.2.2.1 q.2.2.2.2.1 q.2.2.2.2.2) U) ∧ (∀ q ∈ px_nm, va_Nw (.methodLinkNest q.1 q.2.1 q.2.2.1 q.2.2.2) U) ∧ ∀ C ∈ px_ao, va_AO C U
theorem px_N.warm {s U : State} (h : px_N s) (hW : s.WarmedH U.vm) : px_N U := ⟨fun q hq => (h.1 q hq).warmF hW, fun q hq => (h.2.1 q hq).warmM hW, fun C hC => (h.2.2 C hC).moved hW.alike⟩
theorem px_N.same {u U : State} (h : px_N u) (hv : u.vm = U.vm) : px_N U := ⟨fun q hq => (h.1 q hq).same rfl hv, fun q hq => (h.2.1 q hq).same rfl hv, fun C hC => (h.2.2 C hC).moved (by rw [hv]; exact Vm.Alike.refl _)⟩
end
section
theorem px_d0_0 : decode prog_10_method_1_code 0 = .ok (.aload_n 0, 1) := by decide +kernel
theorem px_d0_1 : decode prog_10_method_1_code 1 = .ok (.invokespecial 3, 3) := by decide +kernel
theorem px_d0_4 : decode prog_10_method_1_code 4 = .ok (.aload_n 0, 1) := by decide +kernel
theorem px_d0_5 : decode prog_10_method_1_code 5 = .ok (.iconst 0, 1) := by decide +kernel
theorem px_d0_6 : decode prog_10_method_1_code 6 = .ok (.newarray .byte, 2) := by decide +kernel
theorem px_d0_8 : decode prog_10_method_1_code 8 = .ok (.putfield 9, 3) := by decide +kernel
theorem px_d0_11 : decode prog_10_method_1_code 11 = .ok (.return_, 1) := by decide +kernel
theorem px_d1_0 : decode prog_5_method_1_code 0 = .ok (.aload_n 0, 1) := by decide +kernel
theorem px_d1_1 : decode prog_5_method_1_code 1 = .ok (.invokespecial 3, 3) := by decide +kernel
theorem px_d1_4 : decode prog_5_method_1_code 4 = .ok (.aload_n 0, 1) := by decide +kernel
theorem px_d1_5 : decode prog_5_method_1_code 5 = .ok (.bipush 64, 2) := by decide +kernel
theorem px_d1_7 : decode prog_5_method_1_code 7 = .ok (.newarray .int, 2) := by decide +kernel
theorem px_d1_9 : decode prog_5_method_1_code 9 = .ok (.putfield 9, 3) := by decide +kernel
theorem px_d1_12 : decode prog_5_method_1_code 12 = .ok (.aload_n 0, 1) := by decide +kernel
theorem px_d1_13 : decode prog_5_method_1_code 13 = .ok (.sipush 182, 3) := by decide +kernel
theorem px_d1_16 : decode prog_5_method_1_code 16 = .ok (.newarray .int, 2) := by decide +kernel
theorem px_d1_18 : decode prog_5_method_1_code 18 = .ok (.putfield 15, 3) := by decide +kernel
theorem px_d1_21 : decode prog_5_method_1_code 21 = .ok (.aload_n 0, 1) := by decide +kernel
theorem px_d1_22 : decode prog_5_method_1_code 22 = .ok (.getfield 9, 3) := by decide +kernel
theorem px_d1_25 : decode prog_5_method_1_code 25 = .ok (.iconst 1, 1) := by decide +kernel
theorem px_d1_26 : decode prog_5_method_1_code 26 = .ok (.iconst 0, 1) := by decide +kernel
theorem px_d1_27 : decode prog_5_method_1_code 27 = .ok (.iastore, 1) := by decide +kernel
theorem px_d1_28 : decode prog_5_method_1_code 28 = .ok (.aload_n 0, 1) := by decide +kernel
theorem px_d1_29 : decode prog_5_method_1_code 29 = .ok (.getfield 15, 3) := by decide +kernel
theorem px_d1_32 : decode prog_5_method_1_code 32 = .ok (.iconst 1, 1) := by decide +kernel
theorem px_d1_33 : decode prog_5_method_1_code 33 = .ok (.iconst 1, 1) := by decide +kernel
theorem px_d1_34 : decode prog_5_method_1_code 34 = .ok (.iastore, 1) := by decide +kernel
theorem px_d1_35 : decode prog_5_method_1_code 35 = .ok (.aload_n 0, 1) := by decide +kernel
theorem px_d1_36 : decode prog_5_method_1_code 36 = .ok (.iconst 0, 1) := by decide +kernel
theorem px_d1_37 : decode prog_5_method_1_code 37 = .ok (.putfield 18, 3) := by decide +kernel
theorem px_d1_40 : decode prog_5_method_1_code 40 = .ok (.return_, 1) := by decide +kernel
theorem px_d2_0 : decode prog_12_method_1_code 0 = .ok (.aload_n 0, 1) := by decide +kernel
theorem px_d2_1 : decode prog_12_method_1_code 1 = .ok (.invokespecial 3, 3) := by decide +kernel
theorem px_d2_4 : decode prog_12_method_1_code 4 = .ok (.return_, 1) := by decide +kernel
theorem px_d3_0 : decode prog_4_method_1_code 0 = .ok (.aload_n 0, 1) := by decide +kernel
theorem px_d3_1 : decode prog_4_method_1_code 1 = .ok (.invokespecial 1, 3) := by decide +kernel
theorem px_d3_4 : decode prog_4_method_1_code 4 = .ok (.aload_n 0, 1) := by decide +kernel
theorem px_d3_5 : decode prog_4_method_1_code 5 = .ok (.aload_n 1, 1) := by decide +kernel
theorem px_d3_6 : decode prog_4_method_1_code 6 = .ok (.putfield 7, 3) := by decide +kernel
theorem px_d3_9 : decode prog_4_method_1_code 9 = .ok (.aload_n 0, 1) := by decide +kernel
theorem px_d3_10 : decode prog_4_method_1_code 10 = .ok (.new 13, 3) := by decide +kernel
theorem px_d3_13 : decode prog_4_method_1_code 13 = .ok (.dup, 1) := by decide +kernel
theorem px_d3_14 : decode prog_4_method_1_code 14 = .ok (.invokespecial 15, 3) := by decide +kernel
theorem px_d3_17 : decode prog_4_method_1_code 17 = .ok (.putfield 16, 3) := by decide +kernel
theorem px_d3_20 : decode prog_4_method_1_code 20 = .ok (.aload_n 0, 1) := by decide +kernel
theorem px_d3_21 : decode prog_4_method_1_code 21 = .ok (.new 13, 3) := by decide +kernel
theorem px_d3_24 : decode prog_4_method_1_code 24 = .ok (.dup, 1) := by decide +kernel
theorem px_d3_25 : decode prog_4_method_1_code 25 = .ok (.invokespecial 15, 3) := by decide +kernel
theorem px_d3_28 : decode prog_4_method_1_code 28 = .ok (.putfield 20, 3) := by decide +kernel
theorem px_d3_31 : decode prog_4_method_1_code 31 = .ok (.aload_n 0, 1) := by decide +kernel
theorem px_d3_32 : decode prog_4_method_1_code 32 = .ok (.new 13, 3) := by decide +kernel
theorem px_d3_35 : decode prog_4_method_1_code 35 = .ok (.dup, 1) := by decide +kernel
theorem px_d3_36 : decode prog_4_method_1_code 36 = .ok (.invokespecial 15, 3) := by decide +kernel
theorem px_d3_39 : decode prog_4_method_1_code 39 = .ok (.putfield 23, 3) := by decide +kernel
theorem px_d3_42 : decode prog_4_method_1_code 42 = .ok (.aload_n 0, 1) := by decide +kernel
theorem px_d3_43 : decode prog_4_method_1_code 43 = .ok (.new 13, 3) := by decide +kernel
theorem px_d3_46 : decode prog_4_method_1_code 46 = .ok (.dup, 1) := by decide +kernel
theorem px_d3_47 : decode prog_4_method_1_code 47 = .ok (.invokespecial 15, 3) := by decide +kernel
theorem px_d3_50 : decode prog_4_method_1_code 50 = .ok (.putfield 26, 3) := by decide +kernel
theorem px_d3_53 : decode prog_4_method_1_code 53 = .ok (.aload_n 0, 1) := by decide +kernel
theorem px_d3_54 : decode prog_4_method_1_code 54 = .ok (.bipush 32, 2) := by decide +kernel
theorem px_d3_56 : decode prog_4_method_1_code 56 = .ok (.newarray .long, 2) := by decide +kernel
theorem px_d3_58 : decode prog_4_method_1_code 58 = .ok (.putfield 29, 3) := by decide +kernel
theorem px_d3_61 : decode prog_4_method_1_code 61 = .ok (.aload_n 0, 1) := by decide +kernel
theorem px_d3_62 : decode prog_4_method_1_code 62 = .ok (.bipush 32, 2) := by decide +kernel
theorem px_d3_64 : decode prog_4_method_1_code 64 = .ok (.newarray .long, 2) := by decide +kernel
theorem px_d3_66 : decode prog_4_method_1_code 66 = .ok (.putfield 33, 3) := by decide +kernel
theorem px_d3_69 : decode prog_4_method_1_code 69 = .ok (.aload_n 0, 1) := by decide +kernel
theorem px_d3_70 : decode prog_4_method_1_code 70 = .ok (.bipush 32, 2) := by decide +kernel
theorem px_d3_72 : decode prog_4_method_1_code 72 = .ok (.newarray .long, 2) := by decide +kernel
theorem px_d3_74 : decode prog_4_method_1_code 74 = .ok (.putfield 36, 3) := by decide +kernel
theorem px_d3_77 : decode prog_4_method_1_code 77 = .ok (.return_, 1) := by decide +kernel
theorem px_d4_0 : decode prog_13_method_1_code 0 = .ok (.aload_n 0, 1) := by decide +kernel
theorem px_d4_1 : decode prog_13_method_1_code 1 = .ok (.invokespecial 3, 3) := by decide +kernel
theorem px_d4_4 : decode prog_13_method_1_code 4 = .ok (.aload_n 0, 1) := by decide +kernel
theorem px_d4_5 : decode prog_13_method_1_code 5 = .ok (.aload_n 1, 1) := by decide +kernel
theorem px_d4_6 : decode prog_13_method_1_code 6 = .ok (.putfield 9, 3) := by decide +kernel
theorem px_d4_9 : decode prog_13_method_1_code 9 = .ok (.aload_n 0, 1) := by decide +kernel
theorem px_d4_10 : decode prog_13_method_1_code 10 = .ok (.bipush 12, 2) := by decide +kernel
theorem px_d4_12 : decode prog_13_method_1_code 12 = .ok (.newarray .int, 2) := by decide +kernel
theorem px_d4_14 : decode prog_13_method_1_code 14 = .ok (.putfield 15, 3) := by decide +kernel
theorem px_d4_17 : decode prog_13_method_1_code 17 = .ok (.aload_n 0, 1) := by decide +kernel
theorem px_d4_18 : decode prog_13_method_1_code 18 = .ok (.sipush 144, 3) := by decide +kernel
theorem px_d4_21 : decode prog_13_method_1_code 21 = .ok (.newarray .int, 2) := by decide +kernel
theorem px_d4_23 : decode prog_13_method_1_code 23 = .ok (.putfield 19, 3) := by decide +kernel
theorem px_d4_26 : decode prog_13_method_1_code 26 = .ok (.aload_n 0, 1) := by decide +kernel
theorem px_d4_27 : decode prog_13_method_1_code 27 = .ok (.sipush 144, 3) := by decide +kernel
theorem px_d4_30 : decode prog_13_method_1_code 30 = .ok (.newarray .int, 2) := by decide +kernel
theorem px_d4_32 : decode prog_13_method_1_code 32 = .ok (.putfield 22, 3) := by decide +kernel
theorem px_d4_35 : decode prog_13_method_1_code 35 = .ok (.aload_n 0, 1) := by decide +kernel
theorem px_d4_36 : decode prog_13_method_1_code 36 = .ok (.bipush 16, 2) := by decide +kernel
theorem px_d4_38 : decode prog_13_method_1_code 38 = .ok (.newarray .int, 2) := by decide +kernel
theorem px_d4_40 : decode prog_13_method_1_code 40 = .ok (.putfield 25, 3) := by decide +kernel
theorem px_d4_43 : decode prog_13_method_1_code 43 = .ok (.aload_n 0, 1) := by decide +kernel
theorem px_d4_44 : decode prog_13_method_1_code 44 = .ok (.bipush 16, 2) := by decide +kernel
theorem px_d4_46 : decode prog_13_method_1_code 46 = .ok (.newarray .int, 2) := by decide +kernel
theorem px_d4_48 : decode prog_13_method_1_code 48 = .ok (.putfield 28, 3) := by decide +kernel
theorem px_d4_51 : decode prog_13_method_1_code 51 = .ok (.aload_n 0, 1) := by decide +kernel
theorem px_d4_52 : decode prog_13_method_1_code 52 = .ok (.bipush 16, 2) := by decide +kernel
theorem px_d4_54 : decode prog_13_method_1_code 54 = .ok (.newarray .int, 2) := by decide +kernel
theorem px_d4_56 : decode prog_13_method_1_code 56 = .ok (.putfield 31, 3) := by decide +kernel
theorem px_d4_59 : decode prog_13_method_1_code 59 = .ok (.aload_n 0, 1) := by decide +kernel
theorem px_d4_60 : decode prog_13_method_1_code 60 = .ok (.aconst_null, 1) := by decide +kernel
theorem px_d4_61 : decode prog_13_method_1_code 61 = .ok (.putfield 34, 3) := by decide +kernel
theorem px_d4_64 : decode prog_13_method_1_code 64 = .ok (.aload_n 0, 1) := by decide +kernel
theorem px_d4_65 : decode prog_13_method_1_code 65 = .ok (.aconst_null, 1) := by decide +kernel
theorem px_d4_66 : decode prog_13_method_1_code 66 = .ok (.putfield 38, 3) := by decide +kernel
theorem px_d4_69 : decode prog_13_method_1_code 69 = .ok (.aload_n 0, 1) := by decide +kernel
theorem px_d4_70 : decode prog_13_method_1_code 70 = .ok (.iconst (-1), 1) := by decide +kernel
theorem px_d4_71 : decode prog_13_method_1_code 71 = .ok (.putfield 41, 3) := by decide +kernel
theorem px_d4_74 : decode prog_13_method_1_code 74 = .ok (.aload_n 0, 1) := by decide +kernel
theorem px_d4_75 : decode prog_13_method_1_code 75 = .ok (.iconst (-1), 1) := by decide +kernel
theorem px_d4_76 : decode prog_13_method_1_code 76 = .ok (.putfield 45, 3) := by decide +kernel
theorem px_d4_79 : decode prog_13_method_1_code 79 = .ok (.return_, 1) := by decide +kernel
theorem px_d5_0 : decode prog_9_method_1_code 0 = .ok (.aload_n 0, 1) := by decide +kernel
theorem px_d5_1 : decode prog_9_method_1_code 1 = .ok (.invokespecial 3, 3) := by decide +kernel
theorem px_d5_4 : decode prog_9_method_1_code 4 = .ok (.aload_n 0, 1) := by decide +kernel
theorem px_d5_5 : decode prog_9_method_1_code 5 = .ok (.aload_n 1, 1) := by decide +kernel
theorem px_d5_6 : decode prog_9_method_1_code 6 = .ok (.putfield 9, 3) := by decide +kernel
theorem px_d5_9 : decode prog_9_method_1_code 9 = .ok (.aload_n 0, 1) := by decide +kernel
theorem px_d5_10 : decode prog_9_method_1_code 10 = .ok (.sipush 160, 3) := by decide +kernel
theorem px_d5_13 : decode prog_9_method_1_code 13 = .ok (.newarray .int, 2) := by decide +kernel
theorem px_d5_15 : decode prog_9_method_1_code 15 = .ok (.putfield 15, 3) := by decide +kernel
theorem px_d5_18 : decode prog_9_method_1_code 18 = .ok (.aload_n 0, 1) := by decide +kernel
theorem px_d5_19 : decode prog_9_method_1_code 19 = .ok (.getstatic 19, 3) := by decide +kernel
theorem px_d5_22 : decode prog_9_method_1_code 22 = .ok (.putfield 25, 3) := by decide +kernel
theorem px_d5_25 : decode prog_9_method_1_code 25 = .ok (.return_, 1) := by decide +kernel
theorem px_d6_0 : decode prog_7_method_1_code 0 = .ok (.aload_n 0, 1) := by decide +kernel
theorem px_d6_1 : decode prog_7_method_1_code 1 = .ok (.invokespecial 3, 3) := by decide +kernel
theorem px_d6_4 : decode prog_7_method_1_code 4 = .ok (.aload_n 0, 1) := by decide +kernel
theorem px_d6_5 : decode prog_7_method_1_code 5 = .ok (.sipush 256, 3) := by decide +kernel
theorem px_d6_8 : decode prog_7_method_1_code 8 = .ok (.newarray .byte, 2) := by decide +kernel
theorem px_d6_10 : decode prog_7_method_1_code 10 = .ok (.putfield 9, 3) := by decide +kernel
theorem px_d6_13 : decode prog_7_method_1_code 13 = .ok (.aload_n 0, 1) := by decide +kernel
theorem px_d6_14 : decode prog_7_method_1_code 14 = .ok (.bipush 48, 2) := by decide +kernel
theorem px_d6_16 : decode prog_7_method_1_code 16 = .ok (.newarray .byte, 2) := by decide +kernel
theorem px_d6_18 : decode prog_7_method_1_code 18 = .ok (.putfield 15, 3) := by decide +kernel
theorem px_d6_21 : decode prog_7_method_1_code 21 = .ok (.return_, 1) := by decide +kernel
theorem px_d7_0 : decode prog_1_method_1_code 0 = .ok (.aload_n 0, 1) := by decide +kernel
theorem px_d7_1 : decode prog_1_method_1_code 1 = .ok (.invokespecial 1, 3) := by decide +kernel
theorem px_d7_4 : decode prog_1_method_1_code 4 = .ok (.aload_n 0, 1) := by decide +kernel
theorem px_d7_5 : decode prog_1_method_1_code 5 = .ok (.sipush 512, 3) := by decide +kernel
theorem px_d7_8 : decode prog_1_method_1_code 8 = .ok (.newarray .byte, 2) := by decide +kernel
theorem px_d7_10 : decode prog_1_method_1_code 10 = .ok (.putfield 7, 3) := by decide +kernel
theorem px_d7_13 : decode prog_1_method_1_code 13 = .ok (.aload_n 0, 1) := by decide +kernel
theorem px_d7_14 : decode prog_1_method_1_code 14 = .ok (.iconst 0, 1) := by decide +kernel
theorem px_d7_15 : decode prog_1_method_1_code 15 = .ok (.putfield 13, 3) := by decide +kernel
theorem px_d7_18 : decode prog_1_method_1_code 18 = .ok (.aload_n 0, 1) := by decide +kernel
theorem px_d7_19 : decode prog_1_method_1_code 19 = .ok (.iconst (-1), 1) := by decide +kernel
theorem px_d7_20 : decode prog_1_method_1_code 20 = .ok (.putfield 17, 3) := by decide +kernel
theorem px_d7_23 : decode prog_1_method_1_code 23 = .ok (.aload_n 0, 1) := by decide +kernel
theorem px_d7_24 : decode prog_1_method_1_code 24 = .ok (.iconst 0, 1) := by decide +kernel
theorem px_d7_25 : decode prog_1_method_1_code 25 = .ok (.putfield 20, 3) := by decide +kernel
theorem px_d7_28 : decode prog_1_method_1_code 28 = .ok (.aload_n 0, 1) := by decide +kernel
theorem px_d7_29 : decode prog_1_method_1_code 29 = .ok (.iconst 0, 1) := by decide +kernel
theorem px_d7_30 : decode prog_1_method_1_code 30 = .ok (.putfield 23, 3) := by decide +kernel
theorem px_d7_33 : decode prog_1_method_1_code 33 = .ok (.aload_n 0, 1) := by decide +kernel
theorem px_d7_34 : decode prog_1_method_1_code 34 = .ok (.aconst_null, 1) := by decide +kernel
theorem px_d7_35 : decode prog_1_method_1_code 35 = .ok (.putfield 26, 3) := by decide +kernel
theorem px_d7_38 : decode prog_1_method_1_code 38 = .ok (.aload_n 0, 1) := by decide +kernel
theorem px_d7_39 : decode prog_1_method_1_code 39 = .ok (.bipush 26, 2) := by decide +kernel
theorem px_d7_41 : decode prog_1_method_1_code 41 = .ok (.anewarray 30, 3) := by decide +kernel
theorem px_d7_44 : decode prog_1_method_1_code 44 = .ok (.putfield 32, 3) := by decide +kernel
theorem px_d7_47 : decode prog_1_method_1_code 47 = .ok (.aload_n 0, 1) := by decide +kernel
theorem px_d7_48 : decode prog_1_method_1_code 48 = .ok (.sipush 156, 3) := by decide +kernel
theorem px_d7_51 : decode prog_1_method_1_code 51 = .ok (.newarray .int, 2) := by decide +kernel
theorem px_d7_53 : decode prog_1_method_1_code 53 = .ok (.putfield 36, 3) := by decide +kernel
theorem px_d7_56 : decode prog_1_method_1_code 56 = .ok (.aload_n 0, 1) := by decide +kernel
theorem px_d7_57 : decode prog_1_method_1_code 57 = .ok (.new 40, 3) := by decide +kernel
theorem px_d7_60 : decode prog_1_method_1_code 60 = .ok (.dup, 1) := by decide +kernel
theorem px_d7_61 : decode prog_1_method_1_code 61 = .ok (.invokespecial 42, 3) := by decide +kernel
theorem px_d7_64 : decode prog_1_method_1_code 64 = .ok (.putfield 43, 3) := by decide +kernel
theorem px_d7_67 : decode prog_1_method_1_code 67 = .ok (.aload_n 0, 1) := by decide +kernel
theorem px_d7_68 : decode prog_1_method_1_code 68 = .ok (.new 47, 3) := by decide +kernel
theorem px_d7_71 : decode prog_1_method_1_code 71 = .ok (.dup, 1) := by decide +kernel
theorem px_d7_72 : decode prog_1_method_1_code 72 = .ok (.aload_n 0, 1) := by decide +kernel
theorem px_d7_73 : decode prog_1_method_1_code 73 = .ok (.getfield 43, 3) := by decide +kernel
theorem px_d7_76 : decode prog_1_method_1_code 76 = .ok (.invokespecial 49, 3) := by decide +kernel
theorem px_d7_79 : decode prog_1_method_1_code 79 = .ok (.putfield 52, 3) := by decide +kernel
theorem px_d7_82 : decode prog_1_method_1_code 82 = .ok (.aload_n 0, 1) := by decide +kernel
theorem px_d7_83 : decode prog_1_method_1_code 83 = .ok (.new 56, 3) := by decide +kernel
theorem px_d7_86 : decode prog_1_method_1_code 86 = .ok (.dup, 1) := by decide +kernel
theorem px_d7_87 : decode prog_1_method_1_code 87 = .ok (.aload_n 0, 1) := by decide +kernel
theorem px_d7_88 : decode prog_1_method_1_code 88 = .ok (.getfield 43, 3) := by decide +kernel
theorem px_d7_91 : decode prog_1_method_1_code 91 = .ok (.invokespecial 58, 3) := by decide +kernel
theorem px_d7_94 : decode prog_1_method_1_code 94 = .ok (.putfield 59, 3) := by decide +kernel
theorem px_d7_97 : decode prog_1_method_1_code 97 = .ok (.aload_n 0, 1) := by decide +kernel
theorem px_d7_98 : decode prog_1_method_1_code 98 = .ok (.new 63, 3) := by decide +kernel
theorem px_d7_101 : decode prog_1_method_1_code 101 = .ok (.dup, 1) := by decide +kernel
theorem px_d7_102 : decode prog_1_method_1_code 102 = .ok (.invokespecial 65, 3) := by decide +kernel
theorem px_d7_105 : decode prog_1_method_1_code 105 = .ok (.putfield 66, 3) := by decide +kernel
theorem px_d7_108 : decode prog_1_method_1_code 108 = .ok (.aload_n 0, 1) := by decide +kernel
theorem px_d7_109 : decode prog_1_method_1_code 109 = .ok (.new 70, 3) := by decide +kernel
theorem px_d7_112 : decode prog_1_method_1_code 112 = .ok (.dup, 1) := by decide +kernel
theorem px_d7_113 : decode prog_1_method_1_code 113 = .ok (.aload_n 0, 1) := by decide +kernel
theorem px_d7_114 : decode prog_1_method_1_code 114 = .ok (.getfield 66, 3) := by decide +kernel
theorem px_d7_117 : decode prog_1_method_1_code 117 = .ok (.invokespecial 72, 3) := by decide +kernel
theorem px_d7_120 : decode prog_1_method_1_code 120 = .ok (.putfield 75, 3) := by decide +kernel
theorem px_d7_123 : decode prog_1_method_1_code 123 = .ok (.aload_n 0, 1) := by decide +kernel
theorem px_d7_124 : decode prog_1_method_1_code 124 = .ok (.new 79, 3) := by decide +kernel
theorem px_d7_127 : decode prog_1_method_1_code 127 = .ok (.dup, 1) := by decide +kernel
theorem px_d7_128 : decode prog_1_method_1_code 128 = .ok (.invokespecial 81, 3) := by decide +kernel
theorem px_d7_131 : decode prog_1_method_1_code 131 = .ok (.putfield 82, 3) := by decide +kernel
theorem px_d7_134 : decode prog_1_method_1_code 134 = .ok (.return_, 1) := by decide +kernel
theorem px_d8_0 : decode prog_16_method_1_code 0 = .ok (.aload_n 0, 1) := by decide +kernel
theorem px_d8_1 : decode prog_16_method_1_code 1 = .ok (.invokespecial 1, 3) := by decide +kernel
theorem px_d8_4 : decode prog_16_method_1_code 4 = .ok (.aload_n 0, 1) := by decide +kernel
theorem px_d8_5 : decode prog_16_method_1_code 5 = .ok (.sipush 160, 3) := by decide +kernel
theorem px_d8_8 : decode prog_16_method_1_code 8 = .ok (.newarray .int, 2) := by decide +kernel
theorem px_d8_10 : decode prog_16_method_1_code 10 = .ok (.putfield 7, 3) := by decide +kernel
theorem px_d8_13 : decode prog_16_method_1_code 13 = .ok (.return_, 1) := by decide +kernel
theorem px_d9_0 : decode prog_15_method_18_code 0 = .ok (.iload_n 1, 1) := by decide +kernel
theorem px_d9_1 : decode prog_15_method_18_code 1 = .ok (.ifCond .ne 16, 3) := by decide +kernel
theorem px_d9_4 : decode prog_15_method_18_code 4 = .ok (.aload_n 0, 1) := by decide +kernel
theorem px_d9_5 : decode prog_15_method_18_code 5 = .ok (.getfield 184, 3) := by decide +kernel
theorem px_d9_8 : decode prog_15_method_18_code 8 = .ok (.iload 4, 2) := by decide +kernel
theorem px_d9_10 : decode prog_15_method_18_code 10 = .ok (.iload_n 3, 1) := by decide +kernel
theorem px_d9_11 : decode prog_15_method_18_code 11 = .ok (.iastore, 1) := by decide +kernel
theorem px_d9_12 : decode prog_15_method_18_code 12 = .ok (.iload 4, 2) := by decide +kernel
theorem px_d9_14 : decode prog_15_method_18_code 14 = .ok (.iconst 1, 1) := by decide +kernel
theorem px_d9_15 : decode prog_15_method_18_code 15 = .ok (.iadd, 1) := by decide +kernel
theorem px_d9_16 : decode prog_15_method_18_code 16 = .ok (.ireturn, 1) := by decide +kernel
theorem px_d9_17 : decode prog_15_method_18_code 17 = .ok (.iload 4, 2) := by decide +kernel
theorem px_d9_19 : decode prog_15_method_18_code 19 = .ok (.istore 5, 2) := by decide +kernel
theorem px_d9_21 : decode prog_15_method_18_code 21 = .ok (.iload_n 2, 1) := by decide +kernel
theorem px_d9_22 : decode prog_15_method_18_code 22 = .ok (.istore 6, 2) := by decide +kernel
theorem px_d9_24 : decode prog_15_method_18_code 24 = .ok (.iload 6, 2) := by decide +kernel
theorem px_d9_26 : decode prog_15_method_18_code 26 = .ok (.iload_n 1, 1) := by decide +kernel
theorem px_d9_27 : decode prog_15_method_18_code 27 = .ok (.iadd, 1) := by decide +kernel
theorem px_d9_28 : decode prog_15_method_18_code 28 = .ok (.bipush 12, 2) := by decide +kernel
theorem px_d9_30 : decode prog_15_method_18_code 30 = .ok (.if_icmp .gt 30, 3) := by decide +kernel
theorem px_d9_33 : decode prog_15_method_18_code 33 = .ok (.aload_n 0, 1) := by decide +kernel
theorem px_d9_34 : decode prog_15_method_18_code 34 = .ok (.iload_n 1, 1) := by decide +kernel
theorem px_d9_35 : decode prog_15_method_18_code 35 = .ok (.iconst 1, 1) := by decide +kernel
theorem px_d9_36 : decode prog_15_method_18_code 36 = .ok (.isub, 1) := by decide +kernel
theorem px_d9_37 : decode prog_15_method_18_code 37 = .ok (.iload 6, 2) := by decide +kernel
theorem px_d9_39 : decode prog_15_method_18_code 39 = .ok (.iconst 1, 1) := by decide +kernel
theorem px_d9_40 : decode prog_15_method_18_code 40 = .ok (.iadd, 1) := by decide +kernel
theorem px_d9_41 : decode prog_15_method_18_code 41 = .ok (.iload_n 3, 1) := by decide +kernel
theorem px_d9_42 : decode prog_15_method_18_code 42 = .ok (.iconst 1, 1) := by decide +kernel
theorem px_d9_43 : decode prog_15_method_18_code 43 = .ok (.iload 6, 2) := by decide +kernel
theorem px_d9_45 : decode prog_15_method_18_code 45 = .ok (.ishl, 1) := by decide +kernel
theorem px_d9_46 : decode prog_15_method_18_code 46 = .ok (.ior, 1) := by decide +kernel
theorem px_d9_47 : decode prog_15_method_18_code 47 = .ok (.iload 5, 2) := by decide +kernel
theorem px_d9_49 : decode prog_15_method_18_code 49 = .ok (.invokevirtual 228, 3) := by decide +kernel
theorem px_d9_52 : decode prog_15_method_18_code 52 = .ok (.istore 5, 2) := by decide +kernel
theorem px_d9_54 : decode prog_15_method_18_code 54 = .ok (.iinc 6 1, 3) := by decide +kernel
theorem px_d9_57 : decode prog_15_method_18_code 57 = .ok (.goto (-33), 3) := by decide +kernel
theorem px_d9_60 : decode prog_15_method_18_code 60 = .ok (.iload_n 3, 1) := by decide +kernel
theorem px_d9_61 : decode prog_15_method_18_code 61 = .ok (.ifCond .ne 33, 3) := by decide +kernel
theorem px_d9_64 : decode prog_15_method_18_code 64 = .ok (.iload 4, 2) := by decide +kernel
theorem px_d9_66 : decode prog_15_method_18_code 66 = .ok (.istore 6, 2) := by decide +kernel
theorem px_d9_68 : decode prog_15_method_18_code 68 = .ok (.iload 6, 2) := by decide +kernel
theorem px_d9_70 : decode prog_15_method_18_code 70 = .ok (.iload 5, 2) := by decide +kernel
theorem px_d9_72 : decode prog_15_method_18_code 72 = .ok (.if_icmp .ge 22, 3) := by decide +kernel
theorem px_d9_75 : decode prog_15_method_18_code 75 = .ok (.aload_n 0, 1) := by decide +kernel
theorem px_d9_76 : decode prog_15_method_18_code 76 = .ok (.getfield 187, 3) := by decide +kernel
theorem px_d9_79 : decode prog_15_method_18_code 79 = .ok (.aload_n 0, 1) := by decide +kernel
theorem px_d9_80 : decode prog_15_method_18_code 80 = .ok (.getfield 184, 3) := by decide +kernel
theorem px_d9_83 : decode prog_15_method_18_code 83 = .ok (.iload 6, 2) := by decide +kernel
theorem px_d9_85 : decode prog_15_method_18_code 85 = .ok (.iaload, 1) := by decide +kernel
theorem px_d9_86 : decode prog_15_method_18_code 86 = .ok (.iload_n 1, 1) := by decide +kernel
theorem px_d9_87 : decode prog_15_method_18_code 87 = .ok (.iastore, 1) := by decide +kernel
theorem px_d9_88 : decode prog_15_method_18_code 88 = .ok (.iinc 6 1, 3) := by decide +kernel
theorem px_d9_91 : decode prog_15_method_18_code 91 = .ok (.goto (-23), 3) := by decide +kernel
theorem px_d9_94 : decode prog_15_method_18_code 94 = .ok (.iload 5, 2) := by decide +kernel
theorem px_d9_96 : decode prog_15_method_18_code 96 = .ok (.ireturn, 1) := by decide +kernel
theorem px_d10_0 : decode prog_15_method_17_code 0 = .ok (.aload_n 0, 1) := by decide +kernel
theorem px_d10_1 : decode prog_15_method_17_code 1 = .ok (.invokespecial 147, 3) := by decide +kernel
theorem px_d10_4 : decode prog_15_method_17_code 4 = .ok (.aload_n 0, 1) := by decide +kernel
theorem px_d10_5 : decode prog_15_method_17_code 5 = .ok (.new 8, 3) := by decide +kernel
theorem px_d10_8 : decode prog_15_method_17_code 8 = .ok (.dup, 1) := by decide +kernel
theorem px_d10_9 : decode prog_15_method_17_code 9 = .ok (.invokespecial 152, 3) := by decide +kernel
theorem px_d10_12 : decode prog_15_method_17_code 12 = .ok (.putfield 58, 3) := by decide +kernel
theorem px_d10_15 : decode prog_15_method_17_code 15 = .ok (.aload_n 0, 1) := by decide +kernel
theorem px_d10_16 : decode prog_15_method_17_code 16 = .ok (.new 8, 3) := by decide +kernel
theorem px_d10_19 : decode prog_15_method_17_code 19 = .ok (.dup, 1) := by decide +kernel
theorem px_d10_20 : decode prog_15_method_17_code 20 = .ok (.invokespecial 152, 3) := by decide +kernel
theorem px_d10_23 : decode prog_15_method_17_code 23 = .ok (.putfield 27, 3) := by decide +kernel
theorem px_d10_26 : decode prog_15_method_17_code 26 = .ok (.aload_n 0, 1) := by decide +kernel
theorem px_d10_27 : decode prog_15_method_17_code 27 = .ok (.new 8, 3) := by decide +kernel
theorem px_d10_30 : decode prog_15_method_17_code 30 = .ok (.dup, 1) := by decide +kernel
theorem px_d10_31 : decode prog_15_method_17_code 31 = .ok (.invokespecial 152, 3) := by decide +kernel
theorem px_d10_34 : decode prog_15_method_17_code 34 = .ok (.putfield 24, 3) := by decide +kernel
theorem px_d10_37 : decode prog_15_method_17_code 37 = .ok (.aload_n 0, 1) := by decide +kernel
theorem px_d10_38 : decode prog_15_method_17_code 38 = .ok (.new 8, 3) := by decide +kernel
theorem px_d10_41 : decode prog_15_method_17_code 41 = .ok (.dup, 1) := by decide +kernel
theorem px_d10_42 : decode prog_15_method_17_code 42 = .ok (.invokespecial 152, 3) := by decide +kernel
theorem px_d10_45 : decode prog_15_method_17_code 45 = .ok (.putfield 17, 3) := by decide +kernel
theorem px_d10_48 : decode prog_15_method_17_code 48 = .ok (.aload_n 0, 1) := by decide +kernel
theorem px_d10_49 : decode prog_15_method_17_code 49 = .ok (.new 8, 3) := by decide +kernel
theorem px_d10_52 : decode prog_15_method_17_code 52 = .ok (.dup, 1) := by decide +kernel
theorem px_d10_53 : decode prog_15_method_17_code 53 = .ok (.invokespecial 152, 3) := by decide +kernel
theorem px_d10_56 : decode prog_15_method_17_code 56 = .ok (.putfield 1, 3) := by decide +kernel
theorem px_d10_59 : decode prog_15_method_17_code 59 = .ok (.aload_n 0, 1) := by decide +kernel
theorem px_d10_60 : decode prog_15_method_17_code 60 = .ok (.new 8, 3) := by decide +kernel
theorem px_d10_63 : decode prog_15_method_17_code 63 = .ok (.dup, 1) := by decide +kernel
theorem px_d10_64 : decode prog_15_method_17_code 64 = .ok (.invokespecial 152, 3) := by decide +kernel
theorem px_d10_67 : decode prog_15_method_17_code 67 = .ok (.putfield 65, 3) := by decide +kernel
theorem px_d10_70 : decode prog_15_method_17_code 70 = .ok (.aload_n 0, 1) := by decide +kernel
end
section
theorem px_d10_71 : decode prog_15_method_17_code 71 = .ok (.new 8, 3) := by decide +kernel
theorem px_d10_74 : decode prog_15_method_17_code 74 = .ok (.dup, 1) := by decide +kernel
theorem px_d10_75 : decode prog_15_method_17_code 75 = .ok (.invokespecial 152, 3) := by decide +kernel
theorem px_d10_78 : decode prog_15_method_17_code 78 = .ok (.putfield 68, 3) := by decide +kernel
theorem px_d10_81 : decode prog_15_method_17_code 81 = .ok (.aload_n 0, 1) := by decide +kernel
theorem px_d10_82 : decode prog_15_method_17_code 82 = .ok (.new 8, 3) := by decide +kernel
theorem px_d10_85 : decode prog_15_method_17_code 85 = .ok (.dup, 1) := by decide +kernel
theorem px_d10_86 : decode prog_15_method_17_code 86 = .ok (.invokespecial 152, 3) := by decide +kernel
theorem px_d10_89 : decode prog_15_method_17_code 89 = .ok (.putfield 82, 3) := by decide +kernel
theorem px_d10_92 : decode prog_15_method_17_code 92 = .ok (.aload_n 0, 1) := by decide +kernel
theorem px_d10_93 : decode prog_15_method_17_code 93 = .ok (.sipush 156, 3) := by decide +kernel
theorem px_d10_96 : decode prog_15_method_17_code 96 = .ok (.anewarray 8, 3) := by decide +kernel
theorem px_d10_99 : decode prog_15_method_17_code 99 = .ok (.putfield 34, 3) := by decide +kernel
theorem px_d10_102 : decode prog_15_method_17_code 102 = .ok (.aload_n 0, 1) := by decide +kernel
theorem px_d10_103 : decode prog_15_method_17_code 103 = .ok (.sipush 156, 3) := by decide +kernel
theorem px_d10_106 : decode prog_15_method_17_code 106 = .ok (.newarray .int, 2) := by decide +kernel
theorem px_d10_108 : decode prog_15_method_17_code 108 = .ok (.putfield 55, 3) := by decide +kernel
theorem px_d10_111 : decode prog_15_method_17_code 111 = .ok (.aload_n 0, 1) := by decide +kernel
theorem px_d10_112 : decode prog_15_method_17_code 112 = .ok (.bipush 13, 2) := by decide +kernel
theorem px_d10_114 : decode prog_15_method_17_code 114 = .ok (.newarray .int, 2) := by decide +kernel
theorem px_d10_116 : decode prog_15_method_17_code 116 = .ok (.putfield 108, 3) := by decide +kernel
theorem px_d10_119 : decode prog_15_method_17_code 119 = .ok (.aload_n 0, 1) := by decide +kernel
theorem px_d10_120 : decode prog_15_method_17_code 120 = .ok (.bipush 12, 2) := by decide +kernel
theorem px_d10_122 : decode prog_15_method_17_code 122 = .ok (.newarray .int, 2) := by decide +kernel
theorem px_d10_124 : decode prog_15_method_17_code 124 = .ok (.putfield 120, 3) := by decide +kernel
theorem px_d10_127 : decode prog_15_method_17_code 127 = .ok (.aload_n 0, 1) := by decide +kernel
theorem px_d10_128 : decode prog_15_method_17_code 128 = .ok (.bipush 12, 2) := by decide +kernel
theorem px_d10_130 : decode prog_15_method_17_code 130 = .ok (.newarray .int, 2) := by decide +kernel
theorem px_d10_132 : decode prog_15_method_17_code 132 = .ok (.putfield 117, 3) := by decide +kernel
theorem px_d10_135 : decode prog_15_method_17_code 135 = .ok (.aload_n 0, 1) := by decide +kernel
theorem px_d10_136 : decode prog_15_method_17_code 136 = .ok (.bipush 36, 2) := by decide +kernel
theorem px_d10_138 : decode prog_15_method_17_code 138 = .ok (.anewarray 8, 3) := by decide +kernel
theorem px_d10_141 : decode prog_15_method_17_code 141 = .ok (.putfield 140, 3) := by decide +kernel
theorem px_d10_144 : decode prog_15_method_17_code 144 = .ok (.aload_n 0, 1) := by decide +kernel
theorem px_d10_145 : decode prog_15_method_17_code 145 = .ok (.bipush 36, 2) := by decide +kernel
theorem px_d10_147 : decode prog_15_method_17_code 147 = .ok (.newarray .int, 2) := by decide +kernel
theorem px_d10_149 : decode prog_15_method_17_code 149 = .ok (.putfield 137, 3) := by decide +kernel
theorem px_d10_152 : decode prog_15_method_17_code 152 = .ok (.aload_n 0, 1) := by decide +kernel
theorem px_d10_153 : decode prog_15_method_17_code 153 = .ok (.bipush 26, 2) := by decide +kernel
theorem px_d10_155 : decode prog_15_method_17_code 155 = .ok (.newarray .boolean, 2) := by decide +kernel
theorem px_d10_157 : decode prog_15_method_17_code 157 = .ok (.putfield 153, 3) := by decide +kernel
theorem px_d10_160 : decode prog_15_method_17_code 160 = .ok (.aload_n 0, 1) := by decide +kernel
theorem px_d10_161 : decode prog_15_method_17_code 161 = .ok (.bipush 26, 2) := by decide +kernel
theorem px_d10_163 : decode prog_15_method_17_code 163 = .ok (.newarray .int, 2) := by decide +kernel
theorem px_d10_165 : decode prog_15_method_17_code 165 = .ok (.putfield 157, 3) := by decide +kernel
theorem px_d10_168 : decode prog_15_method_17_code 168 = .ok (.aload_n 0, 1) := by decide +kernel
theorem px_d10_169 : decode prog_15_method_17_code 169 = .ok (.bipush 26, 2) := by decide +kernel
theorem px_d10_171 : decode prog_15_method_17_code 171 = .ok (.newarray .int, 2) := by decide +kernel
theorem px_d10_173 : decode prog_15_method_17_code 173 = .ok (.putfield 160, 3) := by decide +kernel
theorem px_d10_176 : decode prog_15_method_17_code 176 = .ok (.aload_n 0, 1) := by decide +kernel
theorem px_d10_177 : decode prog_15_method_17_code 177 = .ok (.bipush 26, 2) := by decide +kernel
theorem px_d10_179 : decode prog_15_method_17_code 179 = .ok (.newarray .int, 2) := by decide +kernel
theorem px_d10_181 : decode prog_15_method_17_code 181 = .ok (.putfield 163, 3) := by decide +kernel
theorem px_d10_184 : decode prog_15_method_17_code 184 = .ok (.aload_n 0, 1) := by decide +kernel
theorem px_d10_185 : decode prog_15_method_17_code 185 = .ok (.ldc 166, 2) := by decide +kernel
theorem px_d10_187 : decode prog_15_method_17_code 187 = .ok (.newarray .int, 2) := by decide +kernel
theorem px_d10_189 : decode prog_15_method_17_code 189 = .ok (.putfield 167, 3) := by decide +kernel
theorem px_d10_192 : decode prog_15_method_17_code 192 = .ok (.aload_n 0, 1) := by decide +kernel
theorem px_d10_193 : decode prog_15_method_17_code 193 = .ok (.sipush 3744, 3) := by decide +kernel
theorem px_d10_196 : decode prog_15_method_17_code 196 = .ok (.newarray .int, 2) := by decide +kernel
theorem px_d10_198 : decode prog_15_method_17_code 198 = .ok (.putfield 170, 3) := by decide +kernel
theorem px_d10_201 : decode prog_15_method_17_code 201 = .ok (.aload_n 0, 1) := by decide +kernel
theorem px_d10_202 : decode prog_15_method_17_code 202 = .ok (.sipush 312, 3) := by decide +kernel
theorem px_d10_205 : decode prog_15_method_17_code 205 = .ok (.newarray .int, 2) := by decide +kernel
theorem px_d10_207 : decode prog_15_method_17_code 207 = .ok (.putfield 173, 3) := by decide +kernel
theorem px_d10_210 : decode prog_15_method_17_code 210 = .ok (.aload_n 0, 1) := by decide +kernel
theorem px_d10_211 : decode prog_15_method_17_code 211 = .ok (.ldc 176, 2) := by decide +kernel
theorem px_d10_213 : decode prog_15_method_17_code 213 = .ok (.newarray .byte, 2) := by decide +kernel
theorem px_d10_215 : decode prog_15_method_17_code 215 = .ok (.putfield 177, 3) := by decide +kernel
theorem px_d10_218 : decode prog_15_method_17_code 218 = .ok (.aload_n 0, 1) := by decide +kernel
theorem px_d10_219 : decode prog_15_method_17_code 219 = .ok (.ldc 176, 2) := by decide +kernel
theorem px_d10_221 : decode prog_15_method_17_code 221 = .ok (.newarray .byte, 2) := by decide +kernel
theorem px_d10_223 : decode prog_15_method_17_code 223 = .ok (.putfield 181, 3) := by decide +kernel
theorem px_d10_226 : decode prog_15_method_17_code 226 = .ok (.aload_n 0, 1) := by decide +kernel
theorem px_d10_227 : decode prog_15_method_17_code 227 = .ok (.sipush 4096, 3) := by decide +kernel
theorem px_d10_230 : decode prog_15_method_17_code 230 = .ok (.newarray .int, 2) := by decide +kernel
theorem px_d10_232 : decode prog_15_method_17_code 232 = .ok (.putfield 184, 3) := by decide +kernel
theorem px_d10_235 : decode prog_15_method_17_code 235 = .ok (.aload_n 0, 1) := by decide +kernel
theorem px_d10_236 : decode prog_15_method_17_code 236 = .ok (.sipush 4096, 3) := by decide +kernel
theorem px_d10_239 : decode prog_15_method_17_code 239 = .ok (.newarray .int, 2) := by decide +kernel
theorem px_d10_241 : decode prog_15_method_17_code 241 = .ok (.putfield 187, 3) := by decide +kernel
theorem px_d10_244 : decode prog_15_method_17_code 244 = .ok (.aload_n 0, 1) := by decide +kernel
theorem px_d10_245 : decode prog_15_method_17_code 245 = .ok (.sipush 169, 3) := by decide +kernel
theorem px_d10_248 : decode prog_15_method_17_code 248 = .ok (.newarray .long, 2) := by decide +kernel
theorem px_d10_250 : decode prog_15_method_17_code 250 = .ok (.putfield 190, 3) := by decide +kernel
theorem px_d10_253 : decode prog_15_method_17_code 253 = .ok (.aload_n 0, 1) := by decide +kernel
theorem px_d10_254 : decode prog_15_method_17_code 254 = .ok (.sipush 169, 3) := by decide +kernel
theorem px_d10_257 : decode prog_15_method_17_code 257 = .ok (.newarray .long, 2) := by decide +kernel
theorem px_d10_259 : decode prog_15_method_17_code 259 = .ok (.putfield 194, 3) := by decide +kernel
theorem px_d10_262 : decode prog_15_method_17_code 262 = .ok (.aload_n 0, 1) := by decide +kernel
theorem px_d10_263 : decode prog_15_method_17_code 263 = .ok (.bipush 13, 2) := by decide +kernel
theorem px_d10_265 : decode prog_15_method_17_code 265 = .ok (.newarray .int, 2) := by decide +kernel
theorem px_d10_267 : decode prog_15_method_17_code 267 = .ok (.putfield 197, 3) := by decide +kernel
theorem px_d10_270 : decode prog_15_method_17_code 270 = .ok (.aload_n 0, 1) := by decide +kernel
theorem px_d10_271 : decode prog_15_method_17_code 271 = .ok (.bipush 12, 2) := by decide +kernel
theorem px_d10_273 : decode prog_15_method_17_code 273 = .ok (.newarray .int, 2) := by decide +kernel
theorem px_d10_275 : decode prog_15_method_17_code 275 = .ok (.putfield 200, 3) := by decide +kernel
theorem px_d10_278 : decode prog_15_method_17_code 278 = .ok (.aload_n 0, 1) := by decide +kernel
theorem px_d10_279 : decode prog_15_method_17_code 279 = .ok (.sipush 169, 3) := by decide +kernel
theorem px_d10_282 : decode prog_15_method_17_code 282 = .ok (.newarray .int, 2) := by decide +kernel
theorem px_d10_284 : decode prog_15_method_17_code 284 = .ok (.putfield 203, 3) := by decide +kernel
theorem px_d10_287 : decode prog_15_method_17_code 287 = .ok (.aload_n 0, 1) := by decide +kernel
theorem px_d10_288 : decode prog_15_method_17_code 288 = .ok (.sipush 16384, 3) := by decide +kernel
theorem px_d10_291 : decode prog_15_method_17_code 291 = .ok (.newarray .byte, 2) := by decide +kernel
theorem px_d10_293 : decode prog_15_method_17_code 293 = .ok (.putfield 206, 3) := by decide +kernel
theorem px_d10_296 : decode prog_15_method_17_code 296 = .ok (.aload_n 0, 1) := by decide +kernel
theorem px_d10_297 : decode prog_15_method_17_code 297 = .ok (.iconst (-1), 1) := by decide +kernel
theorem px_d10_298 : decode prog_15_method_17_code 298 = .ok (.putfield 209, 3) := by decide +kernel
theorem px_d10_301 : decode prog_15_method_17_code 301 = .ok (.aload_n 0, 1) := by decide +kernel
theorem px_d10_302 : decode prog_15_method_17_code 302 = .ok (.sipush 256, 3) := by decide +kernel
theorem px_d10_305 : decode prog_15_method_17_code 305 = .ok (.newarray .int, 2) := by decide +kernel
theorem px_d10_307 : decode prog_15_method_17_code 307 = .ok (.putfield 212, 3) := by decide +kernel
theorem px_d10_310 : decode prog_15_method_17_code 310 = .ok (.aload_n 0, 1) := by decide +kernel
theorem px_d10_311 : decode prog_15_method_17_code 311 = .ok (.bipush 12, 2) := by decide +kernel
theorem px_d10_313 : decode prog_15_method_17_code 313 = .ok (.newarray .int, 2) := by decide +kernel
theorem px_d10_315 : decode prog_15_method_17_code 315 = .ok (.putfield 215, 3) := by decide +kernel
theorem px_d10_318 : decode prog_15_method_17_code 318 = .ok (.aload_n 0, 1) := by decide +kernel
theorem px_d10_319 : decode prog_15_method_17_code 319 = .ok (.ldc 218, 2) := by decide +kernel
theorem px_d10_321 : decode prog_15_method_17_code 321 = .ok (.newarray .byte, 2) := by decide +kernel
theorem px_d10_323 : decode prog_15_method_17_code 323 = .ok (.putfield 219, 3) := by decide +kernel
theorem px_d10_326 : decode prog_15_method_17_code 326 = .ok (.aload_n 0, 1) := by decide +kernel
theorem px_d10_327 : decode prog_15_method_17_code 327 = .ok (.sipush 200, 3) := by decide +kernel
theorem px_d10_330 : decode prog_15_method_17_code 330 = .ok (.newarray .byte, 2) := by decide +kernel
theorem px_d10_332 : decode prog_15_method_17_code 332 = .ok (.putfield 222, 3) := by decide +kernel
theorem px_d10_335 : decode prog_15_method_17_code 335 = .ok (.aload_n 0, 1) := by decide +kernel
theorem px_d10_336 : decode prog_15_method_17_code 336 = .ok (.sipush 16384, 3) := by decide +kernel
theorem px_d10_339 : decode prog_15_method_17_code 339 = .ok (.newarray .byte, 2) := by decide +kernel
theorem px_d10_341 : decode prog_15_method_17_code 341 = .ok (.putfield 225, 3) := by decide +kernel
theorem px_d10_344 : decode prog_15_method_17_code 344 = .ok (.iconst 0, 1) := by decide +kernel
theorem px_d10_345 : decode prog_15_method_17_code 345 = .ok (.istore_n 1, 1) := by decide +kernel
theorem px_d10_346 : decode prog_15_method_17_code 346 = .ok (.iload_n 1, 1) := by decide +kernel
theorem px_d10_347 : decode prog_15_method_17_code 347 = .ok (.sipush 156, 3) := by decide +kernel
theorem px_d10_350 : decode prog_15_method_17_code 350 = .ok (.if_icmp .ge 22, 3) := by decide +kernel
theorem px_d10_353 : decode prog_15_method_17_code 353 = .ok (.aload_n 0, 1) := by decide +kernel
theorem px_d10_354 : decode prog_15_method_17_code 354 = .ok (.getfield 34, 3) := by decide +kernel
theorem px_d10_357 : decode prog_15_method_17_code 357 = .ok (.iload_n 1, 1) := by decide +kernel
theorem px_d10_358 : decode prog_15_method_17_code 358 = .ok (.new 8, 3) := by decide +kernel
theorem px_d10_361 : decode prog_15_method_17_code 361 = .ok (.dup, 1) := by decide +kernel
theorem px_d10_362 : decode prog_15_method_17_code 362 = .ok (.invokespecial 152, 3) := by decide +kernel
theorem px_d10_365 : decode prog_15_method_17_code 365 = .ok (.aastore, 1) := by decide +kernel
theorem px_d10_366 : decode prog_15_method_17_code 366 = .ok (.iinc 1 1, 3) := by decide +kernel
theorem px_d10_369 : decode prog_15_method_17_code 369 = .ok (.goto (-23), 3) := by decide +kernel
theorem px_d10_372 : decode prog_15_method_17_code 372 = .ok (.iconst 0, 1) := by decide +kernel
theorem px_d10_373 : decode prog_15_method_17_code 373 = .ok (.istore_n 1, 1) := by decide +kernel
theorem px_d10_374 : decode prog_15_method_17_code 374 = .ok (.iload_n 1, 1) := by decide +kernel
theorem px_d10_375 : decode prog_15_method_17_code 375 = .ok (.bipush 36, 2) := by decide +kernel
theorem px_d10_377 : decode prog_15_method_17_code 377 = .ok (.if_icmp .ge 22, 3) := by decide +kernel
theorem px_d10_380 : decode prog_15_method_17_code 380 = .ok (.aload_n 0, 1) := by decide +kernel
theorem px_d10_381 : decode prog_15_method_17_code 381 = .ok (.getfield 140, 3) := by decide +kernel
theorem px_d10_384 : decode prog_15_method_17_code 384 = .ok (.iload_n 1, 1) := by decide +kernel
theorem px_d10_385 : decode prog_15_method_17_code 385 = .ok (.new 8, 3) := by decide +kernel
theorem px_d10_388 : decode prog_15_method_17_code 388 = .ok (.dup, 1) := by decide +kernel
theorem px_d10_389 : decode prog_15_method_17_code 389 = .ok (.invokespecial 152, 3) := by decide +kernel
theorem px_d10_392 : decode prog_15_method_17_code 392 = .ok (.aastore, 1) := by decide +kernel
theorem px_d10_393 : decode prog_15_method_17_code 393 = .ok (.iinc 1 1, 3) := by decide +kernel
theorem px_d10_396 : decode prog_15_method_17_code 396 = .ok (.goto (-22), 3) := by decide +kernel
theorem px_d10_399 : decode prog_15_method_17_code 399 = .ok (.iconst 0, 1) := by decide +kernel
theorem px_d10_400 : decode prog_15_method_17_code 400 = .ok (.istore_n 1, 1) := by decide +kernel
theorem px_d10_401 : decode prog_15_method_17_code 401 = .ok (.iconst 0, 1) := by decide +kernel
theorem px_d10_402 : decode prog_15_method_17_code 402 = .ok (.istore_n 2, 1) := by decide +kernel
theorem px_d10_403 : decode prog_15_method_17_code 403 = .ok (.iload_n 2, 1) := by decide +kernel
theorem px_d10_404 : decode prog_15_method_17_code 404 = .ok (.bipush 12, 2) := by decide +kernel
theorem px_d10_406 : decode prog_15_method_17_code 406 = .ok (.if_icmp .gt 18, 3) := by decide +kernel
theorem px_d10_409 : decode prog_15_method_17_code 409 = .ok (.aload_n 0, 1) := by decide +kernel
theorem px_d10_410 : decode prog_15_method_17_code 410 = .ok (.iload_n 2, 1) := by decide +kernel
theorem px_d10_411 : decode prog_15_method_17_code 411 = .ok (.iconst 0, 1) := by decide +kernel
theorem px_d10_412 : decode prog_15_method_17_code 412 = .ok (.iconst 0, 1) := by decide +kernel
theorem px_d10_413 : decode prog_15_method_17_code 413 = .ok (.iload_n 1, 1) := by decide +kernel
theorem px_d10_414 : decode prog_15_method_17_code 414 = .ok (.invokevirtual 228, 3) := by decide +kernel
theorem px_d10_417 : decode prog_15_method_17_code 417 = .ok (.istore_n 1, 1) := by decide +kernel
theorem px_d10_418 : decode prog_15_method_17_code 418 = .ok (.iinc 2 1, 3) := by decide +kernel
theorem px_d10_421 : decode prog_15_method_17_code 421 = .ok (.goto (-18), 3) := by decide +kernel
theorem px_d10_424 : decode prog_15_method_17_code 424 = .ok (.return_, 1) := by decide +kernel
theorem px_d11_0 : decode prog_1_method_26_code 0 = .ok (.bipush 24, 2) := by decide +kernel
theorem px_d11_2 : decode prog_1_method_26_code 2 = .ok (.istore_n 2, 1) := by decide +kernel
theorem px_d11_3 : decode prog_1_method_26_code 3 = .ok (.iload_n 2, 1) := by decide +kernel
theorem px_d11_4 : decode prog_1_method_26_code 4 = .ok (.ifCond .lt 32, 3) := by decide +kernel
theorem px_d11_7 : decode prog_1_method_26_code 7 = .ok (.aload_n 0, 1) := by decide +kernel
theorem px_d11_8 : decode prog_1_method_26_code 8 = .ok (.getfield 7, 3) := by decide +kernel
theorem px_d11_11 : decode prog_1_method_26_code 11 = .ok (.aload_n 0, 1) := by decide +kernel
theorem px_d11_12 : decode prog_1_method_26_code 12 = .ok (.getfield 13, 3) := by decide +kernel
theorem px_d11_15 : decode prog_1_method_26_code 15 = .ok (.iload_n 1, 1) := by decide +kernel
theorem px_d11_16 : decode prog_1_method_26_code 16 = .ok (.iload_n 2, 1) := by decide +kernel
theorem px_d11_17 : decode prog_1_method_26_code 17 = .ok (.ishr, 1) := by decide +kernel
theorem px_d11_18 : decode prog_1_method_26_code 18 = .ok (.i2b, 1) := by decide +kernel
theorem px_d11_19 : decode prog_1_method_26_code 19 = .ok (.bastore, 1) := by decide +kernel
theorem px_d11_20 : decode prog_1_method_26_code 20 = .ok (.aload_n 0, 1) := by decide +kernel
theorem px_d11_21 : decode prog_1_method_26_code 21 = .ok (.dup, 1) := by decide +kernel
theorem px_d11_22 : decode prog_1_method_26_code 22 = .ok (.getfield 13, 3) := by decide +kernel
theorem px_d11_25 : decode prog_1_method_26_code 25 = .ok (.iconst 1, 1) := by decide +kernel
theorem px_d11_26 : decode prog_1_method_26_code 26 = .ok (.iadd, 1) := by decide +kernel
theorem px_d11_27 : decode prog_1_method_26_code 27 = .ok (.putfield 13, 3) := by decide +kernel
theorem px_d11_30 : decode prog_1_method_26_code 30 = .ok (.iinc 2 (-8), 3) := by decide +kernel
theorem px_d11_33 : decode prog_1_method_26_code 33 = .ok (.goto (-30), 3) := by decide +kernel
theorem px_d11_36 : decode prog_1_method_26_code 36 = .ok (.return_, 1) := by decide +kernel
theorem px_d12_0 : decode prog_1_method_2_code 0 = .ok (.aload_n 0, 1) := by decide +kernel
theorem px_d12_1 : decode prog_1_method_2_code 1 = .ok (.getfield 13, 3) := by decide +kernel
theorem px_d12_4 : decode prog_1_method_2_code 4 = .ok (.bipush 20, 2) := by decide +kernel
theorem px_d12_6 : decode prog_1_method_2_code 6 = .ok (.iadd, 1) := by decide +kernel
theorem px_d12_7 : decode prog_1_method_2_code 7 = .ok (.sipush 16384, 3) := by decide +kernel
theorem px_d12_10 : decode prog_1_method_2_code 10 = .ok (.if_icmp .le 13, 3) := by decide +kernel
theorem px_d12_23 : decode prog_1_method_2_code 23 = .ok (.aload_n 0, 1) := by decide +kernel
theorem px_d12_24 : decode prog_1_method_2_code 24 = .ok (.getfield 13, 3) := by decide +kernel
theorem px_d12_27 : decode prog_1_method_2_code 27 = .ok (.bipush 20, 2) := by decide +kernel
theorem px_d12_29 : decode prog_1_method_2_code 29 = .ok (.iadd, 1) := by decide +kernel
theorem px_d12_30 : decode prog_1_method_2_code 30 = .ok (.aload_n 0, 1) := by decide +kernel
theorem px_d12_31 : decode prog_1_method_2_code 31 = .ok (.getfield 7, 3) := by decide +kernel
theorem px_d12_34 : decode prog_1_method_2_code 34 = .ok (.arraylength, 1) := by decide +kernel
theorem px_d12_35 : decode prog_1_method_2_code 35 = .ok (.if_icmp .le 21, 3) := by decide +kernel
theorem px_d12_56 : decode prog_1_method_2_code 56 = .ok (.aload_n 0, 1) := by decide +kernel
theorem px_d12_57 : decode prog_1_method_2_code 57 = .ok (.iload_n 1, 1) := by decide +kernel
theorem px_d12_58 : decode prog_1_method_2_code 58 = .ok (.invokevirtual 99, 3) := by decide +kernel
theorem px_d12_61 : decode prog_1_method_2_code 61 = .ok (.aload_n 0, 1) := by decide +kernel
theorem px_d12_62 : decode prog_1_method_2_code 62 = .ok (.iload_n 2, 1) := by decide +kernel
theorem px_d12_63 : decode prog_1_method_2_code 63 = .ok (.invokevirtual 99, 3) := by decide +kernel
theorem px_d12_66 : decode prog_1_method_2_code 66 = .ok (.aload_n 0, 1) := by decide +kernel
theorem px_d12_67 : decode prog_1_method_2_code 67 = .ok (.iload_n 3, 1) := by decide +kernel
theorem px_d12_68 : decode prog_1_method_2_code 68 = .ok (.invokevirtual 99, 3) := by decide +kernel
theorem px_d12_71 : decode prog_1_method_2_code 71 = .ok (.aload_n 0, 1) := by decide +kernel
theorem px_d12_72 : decode prog_1_method_2_code 72 = .ok (.iload 4, 2) := by decide +kernel
theorem px_d12_74 : decode prog_1_method_2_code 74 = .ok (.invokevirtual 99, 3) := by decide +kernel
theorem px_d12_77 : decode prog_1_method_2_code 77 = .ok (.aload_n 0, 1) := by decide +kernel
theorem px_d12_78 : decode prog_1_method_2_code 78 = .ok (.iload 5, 2) := by decide +kernel
theorem px_d12_80 : decode prog_1_method_2_code 80 = .ok (.invokevirtual 99, 3) := by decide +kernel
theorem px_d12_83 : decode prog_1_method_2_code 83 = .ok (.return_, 1) := by decide +kernel
theorem px_d13_0 : decode prog_1_method_3_code 0 = .ok (.iload_n 1, 1) := by decide +kernel
theorem px_d13_1 : decode prog_1_method_3_code 1 = .ok (.ifCond .lt 11, 3) := by decide +kernel
theorem px_d13_4 : decode prog_1_method_3_code 4 = .ok (.iload_n 1, 1) := by decide +kernel
theorem px_d13_5 : decode prog_1_method_3_code 5 = .ok (.aload_n 0, 1) := by decide +kernel
theorem px_d13_6 : decode prog_1_method_3_code 6 = .ok (.getfield 13, 3) := by decide +kernel
theorem px_d13_9 : decode prog_1_method_3_code 9 = .ok (.if_icmp .le 13, 3) := by decide +kernel
theorem px_d13_22 : decode prog_1_method_3_code 22 = .ok (.aload_n 0, 1) := by decide +kernel
theorem px_d13_23 : decode prog_1_method_3_code 23 = .ok (.getfield 13, 3) := by decide +kernel
theorem px_d13_26 : decode prog_1_method_3_code 26 = .ok (.istore_n 2, 1) := by decide +kernel
theorem px_d13_27 : decode prog_1_method_3_code 27 = .ok (.aload_n 0, 1) := by decide +kernel
theorem px_d13_28 : decode prog_1_method_3_code 28 = .ok (.iload_n 1, 1) := by decide +kernel
theorem px_d13_29 : decode prog_1_method_3_code 29 = .ok (.putfield 13, 3) := by decide +kernel
theorem px_d13_32 : decode prog_1_method_3_code 32 = .ok (.iload_n 2, 1) := by decide +kernel
theorem px_d13_33 : decode prog_1_method_3_code 33 = .ok (.ireturn, 1) := by decide +kernel
theorem px_d14_0 : decode prog_10_method_6_code 0 = .ok (.iconst 0, 1) := by decide +kernel
theorem px_d14_1 : decode prog_10_method_6_code 1 = .ok (.istore_n 1, 1) := by decide +kernel
theorem px_d14_2 : decode prog_10_method_6_code 2 = .ok (.aload_n 0, 1) := by decide +kernel
theorem px_d14_3 : decode prog_10_method_6_code 3 = .ok (.getfield 19, 3) := by decide +kernel
theorem px_d14_6 : decode prog_10_method_6_code 6 = .ok (.aload_n 0, 1) := by decide +kernel
theorem px_d14_7 : decode prog_10_method_6_code 7 = .ok (.getfield 15, 3) := by decide +kernel
theorem px_d14_10 : decode prog_10_method_6_code 10 = .ok (.if_icmp .ge 77, 3) := by decide +kernel
theorem px_d14_87 : decode prog_10_method_6_code 87 = .ok (.return_, 1) := by decide +kernel
theorem px_d15_0 : decode prog_10_method_3_code 0 = .ok (.aload_n 0, 1) := by decide +kernel
theorem px_d15_1 : decode prog_10_method_3_code 1 = .ok (.invokevirtual 25, 3) := by decide +kernel
theorem px_d15_4 : decode prog_10_method_3_code 4 = .ok (.aload_n 0, 1) := by decide +kernel
theorem px_d15_5 : decode prog_10_method_3_code 5 = .ok (.aload_n 0, 1) := by decide +kernel
theorem px_d15_6 : decode prog_10_method_3_code 6 = .ok (.getfield 19, 3) := by decide +kernel
theorem px_d15_9 : decode prog_10_method_3_code 9 = .ok (.putfield 28, 3) := by decide +kernel
theorem px_d15_12 : decode prog_10_method_3_code 12 = .ok (.aload_n 0, 1) := by decide +kernel
theorem px_d15_13 : decode prog_10_method_3_code 13 = .ok (.getfield 19, 3) := by decide +kernel
theorem px_d15_16 : decode prog_10_method_3_code 16 = .ok (.aload_n 0, 1) := by decide +kernel
theorem px_d15_17 : decode prog_10_method_3_code 17 = .ok (.getfield 15, 3) := by decide +kernel
theorem px_d15_20 : decode prog_10_method_3_code 20 = .ok (.if_icmp .lt 9, 3) := by decide +kernel
theorem px_d15_23 : decode prog_10_method_3_code 23 = .ok (.aload_n 0, 1) := by decide +kernel
theorem px_d15_24 : decode prog_10_method_3_code 24 = .ok (.iconst 0, 1) := by decide +kernel
theorem px_d15_25 : decode prog_10_method_3_code 25 = .ok (.putfield 31, 3) := by decide +kernel
theorem px_d15_28 : decode prog_10_method_3_code 28 = .ok (.return_, 1) := by decide +kernel
theorem px_d16_0 : decode prog_10_method_2_code 0 = .ok (.aload_n 0, 1) := by decide +kernel
theorem px_d16_1 : decode prog_10_method_2_code 1 = .ok (.aload_n 1, 1) := by decide +kernel
theorem px_d16_2 : decode prog_10_method_2_code 2 = .ok (.putfield 9, 3) := by decide +kernel
theorem px_d16_5 : decode prog_10_method_2_code 5 = .ok (.aload_n 0, 1) := by decide +kernel
theorem px_d16_6 : decode prog_10_method_2_code 6 = .ok (.iload_n 2, 1) := by decide +kernel
theorem px_d16_7 : decode prog_10_method_2_code 7 = .ok (.putfield 15, 3) := by decide +kernel
theorem px_d16_10 : decode prog_10_method_2_code 10 = .ok (.aload_n 0, 1) := by decide +kernel
theorem px_d16_11 : decode prog_10_method_2_code 11 = .ok (.iconst 0, 1) := by decide +kernel
theorem px_d16_12 : decode prog_10_method_2_code 12 = .ok (.putfield 19, 3) := by decide +kernel
theorem px_d16_15 : decode prog_10_method_2_code 15 = .ok (.aload_n 0, 1) := by decide +kernel
theorem px_d16_16 : decode prog_10_method_2_code 16 = .ok (.invokevirtual 22, 3) := by decide +kernel
theorem px_d16_19 : decode prog_10_method_2_code 19 = .ok (.return_, 1) := by decide +kernel
theorem px_d17_0 : decode prog_7_method_2_code 0 = .ok (.aload_n 0, 1) := by decide +kernel
theorem px_d17_1 : decode prog_7_method_2_code 1 = .ok (.iload_n 1, 1) := by decide +kernel
theorem px_d17_2 : decode prog_7_method_2_code 2 = .ok (.putfield 18, 3) := by decide +kernel
theorem px_d17_5 : decode prog_7_method_2_code 5 = .ok (.aload_n 0, 1) := by decide +kernel
theorem px_d17_6 : decode prog_7_method_2_code 6 = .ok (.iconst 0, 1) := by decide +kernel
theorem px_d17_7 : decode prog_7_method_2_code 7 = .ok (.putfield 22, 3) := by decide +kernel
theorem px_d17_10 : decode prog_7_method_2_code 10 = .ok (.return_, 1) := by decide +kernel
theorem px_d18_0 : decode prog_1_method_27_code 0 = .ok (.aload_n 0, 1) := by decide +kernel
theorem px_d18_1 : decode prog_1_method_27_code 1 = .ok (.getfield 66, 3) := by decide +kernel
theorem px_d18_4 : decode prog_1_method_27_code 4 = .ok (.aload_n 0, 1) := by decide +kernel
theorem px_d18_5 : decode prog_1_method_27_code 5 = .ok (.getfield 7, 3) := by decide +kernel
theorem px_d18_8 : decode prog_1_method_27_code 8 = .ok (.iload_n 1, 1) := by decide +kernel
theorem px_d18_9 : decode prog_1_method_27_code 9 = .ok (.invokevirtual 118, 3) := by decide +kernel
theorem px_d18_12 : decode prog_1_method_27_code 12 = .ok (.iconst 0, 1) := by decide +kernel
theorem px_d18_13 : decode prog_1_method_27_code 13 = .ok (.istore_n 2, 1) := by decide +kernel
theorem px_d18_14 : decode prog_1_method_27_code 14 = .ok (.iload_n 2, 1) := by decide +kernel
theorem px_d18_15 : decode prog_1_method_27_code 15 = .ok (.sipush 400, 3) := by decide +kernel
theorem px_d18_18 : decode prog_1_method_27_code 18 = .ok (.if_icmp .ge 31, 3) := by decide +kernel
theorem px_d18_21 : decode prog_1_method_27_code 21 = .ok (.aload_n 0, 1) := by decide +kernel
theorem px_d18_22 : decode prog_1_method_27_code 22 = .ok (.getfield 66, 3) := by decide +kernel
theorem px_d18_25 : decode prog_1_method_27_code 25 = .ok (.getfield 122, 3) := by decide +kernel
theorem px_d18_28 : decode prog_1_method_27_code 28 = .ok (.ifCond .eq 21, 3) := by decide +kernel
theorem px_d18_49 : decode prog_1_method_27_code 49 = .ok (.aload_n 0, 1) := by decide +kernel
theorem px_d18_50 : decode prog_1_method_27_code 50 = .ok (.getfield 66, 3) := by decide +kernel
theorem px_d18_53 : decode prog_1_method_27_code 53 = .ok (.getfield 122, 3) := by decide +kernel
theorem px_d18_56 : decode prog_1_method_27_code 56 = .ok (.ifCond .ne 7, 3) := by decide +kernel
end
section
theorem px_d18_59 : decode prog_1_method_27_code 59 = .ok (.iconst 1, 1) := by decide +kernel
theorem px_d18_60 : decode prog_1_method_27_code 60 = .ok (.goto 4, 3) := by decide +kernel
theorem px_d18_64 : decode prog_1_method_27_code 64 = .ok (.ireturn, 1) := by decide +kernel
theorem px_d19_0 : decode prog_1_method_4_code 0 = .ok (.aload_n 0, 1) := by decide +kernel
theorem px_d19_1 : decode prog_1_method_4_code 1 = .ok (.getfield 13, 3) := by decide +kernel
theorem px_d19_4 : decode prog_1_method_4_code 4 = .ok (.istore_n 1, 1) := by decide +kernel
theorem px_d19_5 : decode prog_1_method_4_code 5 = .ok (.aload_n 0, 1) := by decide +kernel
theorem px_d19_6 : decode prog_1_method_4_code 6 = .ok (.iconst 0, 1) := by decide +kernel
theorem px_d19_7 : decode prog_1_method_4_code 7 = .ok (.putfield 13, 3) := by decide +kernel
theorem px_d19_10 : decode prog_1_method_4_code 10 = .ok (.aload_n 0, 1) := by decide +kernel
theorem px_d19_11 : decode prog_1_method_4_code 11 = .ok (.iload_n 1, 1) := by decide +kernel
theorem px_d19_12 : decode prog_1_method_4_code 12 = .ok (.invokevirtual 108, 3) := by decide +kernel
theorem px_d19_15 : decode prog_1_method_4_code 15 = .ok (.ifCond .ne 16, 3) := by decide +kernel
theorem px_d19_31 : decode prog_1_method_4_code 31 = .ok (.aload_n 0, 1) := by decide +kernel
theorem px_d19_32 : decode prog_1_method_4_code 32 = .ok (.getfield 82, 3) := by decide +kernel
theorem px_d19_35 : decode prog_1_method_4_code 35 = .ok (.iconst 0, 1) := by decide +kernel
theorem px_d19_36 : decode prog_1_method_4_code 36 = .ok (.invokevirtual 115, 3) := by decide +kernel
theorem px_d19_39 : decode prog_1_method_4_code 39 = .ok (.aload_n 0, 1) := by decide +kernel
theorem px_d19_40 : decode prog_1_method_4_code 40 = .ok (.iconst 0, 1) := by decide +kernel
theorem px_d19_41 : decode prog_1_method_4_code 41 = .ok (.putfield 20, 3) := by decide +kernel
theorem px_d19_44 : decode prog_1_method_4_code 44 = .ok (.iconst 0, 1) := by decide +kernel
theorem px_d19_45 : decode prog_1_method_4_code 45 = .ok (.istore_n 2, 1) := by decide +kernel
theorem px_d19_46 : decode prog_1_method_4_code 46 = .ok (.aload_n 0, 1) := by decide +kernel
theorem px_d19_47 : decode prog_1_method_4_code 47 = .ok (.getfield 66, 3) := by decide +kernel
theorem px_d19_50 : decode prog_1_method_4_code 50 = .ok (.aload_n 0, 1) := by decide +kernel
theorem px_d19_51 : decode prog_1_method_4_code 51 = .ok (.getfield 7, 3) := by decide +kernel
theorem px_d19_54 : decode prog_1_method_4_code 54 = .ok (.iload_n 1, 1) := by decide +kernel
theorem px_d19_55 : decode prog_1_method_4_code 55 = .ok (.invokevirtual 118, 3) := by decide +kernel
theorem px_d19_58 : decode prog_1_method_4_code 58 = .ok (.iconst 0, 1) := by decide +kernel
theorem px_d19_59 : decode prog_1_method_4_code 59 = .ok (.istore_n 3, 1) := by decide +kernel
theorem px_d19_60 : decode prog_1_method_4_code 60 = .ok (.iload_n 3, 1) := by decide +kernel
theorem px_d19_61 : decode prog_1_method_4_code 61 = .ok (.sipush 400, 3) := by decide +kernel
theorem px_d19_64 : decode prog_1_method_4_code 64 = .ok (.if_icmp .ge 146, 3) := by decide +kernel
theorem px_d19_67 : decode prog_1_method_4_code 67 = .ok (.aload_n 0, 1) := by decide +kernel
theorem px_d19_68 : decode prog_1_method_4_code 68 = .ok (.getfield 20, 3) := by decide +kernel
theorem px_d19_71 : decode prog_1_method_4_code 71 = .ok (.ifCond .ne 139, 3) := by decide +kernel
theorem px_d19_74 : decode prog_1_method_4_code 74 = .ok (.aload_n 0, 1) := by decide +kernel
theorem px_d19_75 : decode prog_1_method_4_code 75 = .ok (.getfield 66, 3) := by decide +kernel
theorem px_d19_78 : decode prog_1_method_4_code 78 = .ok (.getfield 122, 3) := by decide +kernel
theorem px_d19_81 : decode prog_1_method_4_code 81 = .ok (.ifCond .eq 129, 3) := by decide +kernel
theorem px_d19_210 : decode prog_1_method_4_code 210 = .ok (.iload_n 2, 1) := by decide +kernel
theorem px_d19_211 : decode prog_1_method_4_code 211 = .ok (.ireturn, 1) := by decide +kernel
theorem px_d20_0 : decode prog_1_method_5_code 0 = .ok (.aload_n 0, 1) := by decide +kernel
theorem px_d20_1 : decode prog_1_method_5_code 1 = .ok (.getfield 17, 3) := by decide +kernel
theorem px_d20_4 : decode prog_1_method_5_code 4 = .ok (.ireturn, 1) := by decide +kernel
theorem px_d21_0 : decode prog_1_method_6_code 0 = .ok (.aload_n 0, 1) := by decide +kernel
theorem px_d21_1 : decode prog_1_method_6_code 1 = .ok (.getfield 20, 3) := by decide +kernel
theorem px_d21_4 : decode prog_1_method_6_code 4 = .ok (.ireturn, 1) := by decide +kernel
theorem px_d22_0 : decode prog_1_method_7_code 0 = .ok (.aload_n 0, 1) := by decide +kernel
theorem px_d22_1 : decode prog_1_method_7_code 1 = .ok (.getfield 82, 3) := by decide +kernel
theorem px_d22_4 : decode prog_1_method_7_code 4 = .ok (.getfield 125, 3) := by decide +kernel
theorem px_d22_7 : decode prog_1_method_7_code 7 = .ok (.ireturn, 1) := by decide +kernel
theorem px_d23_0 : decode prog_1_method_8_code 0 = .ok (.iload_n 1, 1) := by decide +kernel
theorem px_d23_1 : decode prog_1_method_8_code 1 = .ok (.ifCond .lt 14, 3) := by decide +kernel
theorem px_d23_4 : decode prog_1_method_8_code 4 = .ok (.iload_n 1, 1) := by decide +kernel
theorem px_d23_5 : decode prog_1_method_8_code 5 = .ok (.aload_n 0, 1) := by decide +kernel
theorem px_d23_6 : decode prog_1_method_8_code 6 = .ok (.getfield 82, 3) := by decide +kernel
theorem px_d23_9 : decode prog_1_method_8_code 9 = .ok (.getfield 125, 3) := by decide +kernel
theorem px_d23_12 : decode prog_1_method_8_code 12 = .ok (.if_icmp .lt 7, 3) := by decide +kernel
theorem px_d23_15 : decode prog_1_method_8_code 15 = .ok (.iconst (-1), 1) := by decide +kernel
theorem px_d23_16 : decode prog_1_method_8_code 16 = .ok (.goto 12, 3) := by decide +kernel
theorem px_d23_28 : decode prog_1_method_8_code 28 = .ok (.ireturn, 1) := by decide +kernel
theorem px_d24_0 : decode prog_1_method_25_code 0 = .ok (.iload_n 1, 1) := by decide +kernel
theorem px_d24_1 : decode prog_1_method_25_code 1 = .ok (.ifCond .lt 9, 3) := by decide +kernel
theorem px_d24_4 : decode prog_1_method_25_code 4 = .ok (.iload_n 1, 1) := by decide +kernel
theorem px_d24_5 : decode prog_1_method_25_code 5 = .ok (.bipush 26, 2) := by decide +kernel
theorem px_d24_7 : decode prog_1_method_25_code 7 = .ok (.if_icmp .lt 7, 3) := by decide +kernel
theorem px_d24_10 : decode prog_1_method_25_code 10 = .ok (.aconst_null, 1) := by decide +kernel
theorem px_d24_11 : decode prog_1_method_25_code 11 = .ok (.goto 9, 3) := by decide +kernel
theorem px_d24_14 : decode prog_1_method_25_code 14 = .ok (.aload_n 0, 1) := by decide +kernel
theorem px_d24_15 : decode prog_1_method_25_code 15 = .ok (.getfield 32, 3) := by decide +kernel
theorem px_d24_18 : decode prog_1_method_25_code 18 = .ok (.iload_n 1, 1) := by decide +kernel
theorem px_d24_19 : decode prog_1_method_25_code 19 = .ok (.aaload, 1) := by decide +kernel
theorem px_d24_20 : decode prog_1_method_25_code 20 = .ok (.areturn, 1) := by decide +kernel
theorem px_d25_0 : decode prog_1_method_9_code 0 = .ok (.aload_n 0, 1) := by decide +kernel
theorem px_d25_1 : decode prog_1_method_9_code 1 = .ok (.iload_n 1, 1) := by decide +kernel
theorem px_d25_2 : decode prog_1_method_9_code 2 = .ok (.invokevirtual 152, 3) := by decide +kernel
theorem px_d25_5 : decode prog_1_method_9_code 5 = .ok (.astore_n 2, 1) := by decide +kernel
theorem px_d25_6 : decode prog_1_method_9_code 6 = .ok (.aload_n 2, 1) := by decide +kernel
theorem px_d25_7 : decode prog_1_method_9_code 7 = .ok (.ifnonnull 7, 3) := by decide +kernel
theorem px_d25_10 : decode prog_1_method_9_code 10 = .ok (.iconst (-1), 1) := by decide +kernel
theorem px_d25_11 : decode prog_1_method_9_code 11 = .ok (.goto 7, 3) := by decide +kernel
theorem px_d25_18 : decode prog_1_method_9_code 18 = .ok (.ireturn, 1) := by decide +kernel
theorem px_d26_0 : decode prog_1_method_10_code 0 = .ok (.aload_n 0, 1) := by decide +kernel
theorem px_d26_1 : decode prog_1_method_10_code 1 = .ok (.iload_n 1, 1) := by decide +kernel
theorem px_d26_2 : decode prog_1_method_10_code 2 = .ok (.invokevirtual 152, 3) := by decide +kernel
theorem px_d26_5 : decode prog_1_method_10_code 5 = .ok (.astore_n 2, 1) := by decide +kernel
theorem px_d26_6 : decode prog_1_method_10_code 6 = .ok (.aload_n 2, 1) := by decide +kernel
theorem px_d26_7 : decode prog_1_method_10_code 7 = .ok (.ifnonnull 7, 3) := by decide +kernel
theorem px_d26_10 : decode prog_1_method_10_code 10 = .ok (.iconst (-1), 1) := by decide +kernel
theorem px_d26_11 : decode prog_1_method_10_code 11 = .ok (.goto 7, 3) := by decide +kernel
theorem px_d26_18 : decode prog_1_method_10_code 18 = .ok (.ireturn, 1) := by decide +kernel
theorem px_d27_0 : decode prog_1_method_11_code 0 = .ok (.aload_n 0, 1) := by decide +kernel
theorem px_d27_1 : decode prog_1_method_11_code 1 = .ok (.iload_n 1, 1) := by decide +kernel
theorem px_d27_2 : decode prog_1_method_11_code 2 = .ok (.invokevirtual 152, 3) := by decide +kernel
theorem px_d27_5 : decode prog_1_method_11_code 5 = .ok (.astore_n 3, 1) := by decide +kernel
theorem px_d27_6 : decode prog_1_method_11_code 6 = .ok (.aload_n 3, 1) := by decide +kernel
theorem px_d27_7 : decode prog_1_method_11_code 7 = .ok (.ifnull 11, 3) := by decide +kernel
theorem px_d27_18 : decode prog_1_method_11_code 18 = .ok (.iconst (-1), 1) := by decide +kernel
theorem px_d27_19 : decode prog_1_method_11_code 19 = .ok (.goto 8, 3) := by decide +kernel
theorem px_d27_27 : decode prog_1_method_11_code 27 = .ok (.ireturn, 1) := by decide +kernel
theorem px_d28_0 : decode prog_1_method_12_code 0 = .ok (.aload_n 0, 1) := by decide +kernel
theorem px_d28_1 : decode prog_1_method_12_code 1 = .ok (.iload_n 1, 1) := by decide +kernel
theorem px_d28_2 : decode prog_1_method_12_code 2 = .ok (.invokevirtual 152, 3) := by decide +kernel
theorem px_d28_5 : decode prog_1_method_12_code 5 = .ok (.astore_n 3, 1) := by decide +kernel
theorem px_d28_6 : decode prog_1_method_12_code 6 = .ok (.aload_n 3, 1) := by decide +kernel
theorem px_d28_7 : decode prog_1_method_12_code 7 = .ok (.ifnull 12, 3) := by decide +kernel
theorem px_d28_19 : decode prog_1_method_12_code 19 = .ok (.iconst (-1), 1) := by decide +kernel
theorem px_d28_20 : decode prog_1_method_12_code 20 = .ok (.goto 8, 3) := by decide +kernel
theorem px_d28_28 : decode prog_1_method_12_code 28 = .ok (.ireturn, 1) := by decide +kernel
theorem px_d29_0 : decode prog_1_method_13_code 0 = .ok (.aload_n 0, 1) := by decide +kernel
theorem px_d29_1 : decode prog_1_method_13_code 1 = .ok (.iload_n 1, 1) := by decide +kernel
theorem px_d29_2 : decode prog_1_method_13_code 2 = .ok (.invokevirtual 152, 3) := by decide +kernel
theorem px_d29_5 : decode prog_1_method_13_code 5 = .ok (.astore 4, 2) := by decide +kernel
theorem px_d29_7 : decode prog_1_method_13_code 7 = .ok (.aload 4, 2) := by decide +kernel
theorem px_d29_9 : decode prog_1_method_13_code 9 = .ok (.ifnull 26, 3) := by decide +kernel
theorem px_d29_35 : decode prog_1_method_13_code 35 = .ok (.iconst (-1), 1) := by decide +kernel
theorem px_d29_36 : decode prog_1_method_13_code 36 = .ok (.ireturn, 1) := by decide +kernel
theorem px_d30_0 : decode prog_1_method_14_code 0 = .ok (.aload_n 0, 1) := by decide +kernel
theorem px_d30_1 : decode prog_1_method_14_code 1 = .ok (.iload_n 1, 1) := by decide +kernel
theorem px_d30_2 : decode prog_1_method_14_code 2 = .ok (.invokevirtual 152, 3) := by decide +kernel
theorem px_d30_5 : decode prog_1_method_14_code 5 = .ok (.astore 4, 2) := by decide +kernel
theorem px_d30_7 : decode prog_1_method_14_code 7 = .ok (.aload 4, 2) := by decide +kernel
theorem px_d30_9 : decode prog_1_method_14_code 9 = .ok (.ifnonnull 7, 3) := by decide +kernel
theorem px_d30_12 : decode prog_1_method_14_code 12 = .ok (.lconst 0, 1) := by decide +kernel
theorem px_d30_13 : decode prog_1_method_14_code 13 = .ok (.goto 10, 3) := by decide +kernel
theorem px_d30_23 : decode prog_1_method_14_code 23 = .ok (.lreturn, 1) := by decide +kernel
theorem px_d31_0 : decode prog_1_method_15_code 0 = .ok (.aload_n 0, 1) := by decide +kernel
theorem px_d31_1 : decode prog_1_method_15_code 1 = .ok (.iload_n 1, 1) := by decide +kernel
theorem px_d31_2 : decode prog_1_method_15_code 2 = .ok (.invokevirtual 152, 3) := by decide +kernel
theorem px_d31_5 : decode prog_1_method_15_code 5 = .ok (.astore_n 3, 1) := by decide +kernel
theorem px_d31_6 : decode prog_1_method_15_code 6 = .ok (.aload_n 3, 1) := by decide +kernel
theorem px_d31_7 : decode prog_1_method_15_code 7 = .ok (.ifnull 15, 3) := by decide +kernel
theorem px_d31_22 : decode prog_1_method_15_code 22 = .ok (.iconst 0, 1) := by decide +kernel
theorem px_d31_23 : decode prog_1_method_15_code 23 = .ok (.goto 9, 3) := by decide +kernel
theorem px_d31_32 : decode prog_1_method_15_code 32 = .ok (.ireturn, 1) := by decide +kernel
theorem px_d32_0 : decode prog_1_method_16_code 0 = .ok (.aload_n 0, 1) := by decide +kernel
theorem px_d32_1 : decode prog_1_method_16_code 1 = .ok (.iload_n 1, 1) := by decide +kernel
theorem px_d32_2 : decode prog_1_method_16_code 2 = .ok (.invokevirtual 152, 3) := by decide +kernel
theorem px_d32_5 : decode prog_1_method_16_code 5 = .ok (.astore_n 2, 1) := by decide +kernel
theorem px_d32_6 : decode prog_1_method_16_code 6 = .ok (.aload_n 2, 1) := by decide +kernel
theorem px_d32_7 : decode prog_1_method_16_code 7 = .ok (.ifnonnull 7, 3) := by decide +kernel
theorem px_d32_10 : decode prog_1_method_16_code 10 = .ok (.iconst (-1), 1) := by decide +kernel
theorem px_d32_11 : decode prog_1_method_16_code 11 = .ok (.goto 7, 3) := by decide +kernel
theorem px_d32_18 : decode prog_1_method_16_code 18 = .ok (.ireturn, 1) := by decide +kernel
theorem px_d33_0 : decode prog_1_method_17_code 0 = .ok (.aload_n 0, 1) := by decide +kernel
theorem px_d33_1 : decode prog_1_method_17_code 1 = .ok (.iload_n 1, 1) := by decide +kernel
theorem px_d33_2 : decode prog_1_method_17_code 2 = .ok (.invokevirtual 152, 3) := by decide +kernel
theorem px_d33_5 : decode prog_1_method_17_code 5 = .ok (.astore_n 3, 1) := by decide +kernel
theorem px_d33_6 : decode prog_1_method_17_code 6 = .ok (.aload_n 0, 1) := by decide +kernel
theorem px_d33_7 : decode prog_1_method_17_code 7 = .ok (.iload_n 2, 1) := by decide +kernel
theorem px_d33_8 : decode prog_1_method_17_code 8 = .ok (.invokevirtual 152, 3) := by decide +kernel
theorem px_d33_11 : decode prog_1_method_17_code 11 = .ok (.astore 4, 2) := by decide +kernel
theorem px_d33_13 : decode prog_1_method_17_code 13 = .ok (.aload_n 3, 1) := by decide +kernel
theorem px_d33_14 : decode prog_1_method_17_code 14 = .ok (.ifnull 24, 3) := by decide +kernel
theorem px_d33_38 : decode prog_1_method_17_code 38 = .ok (.iconst 0, 1) := by decide +kernel
theorem px_d33_39 : decode prog_1_method_17_code 39 = .ok (.istore 5, 2) := by decide +kernel
theorem px_d33_41 : decode prog_1_method_17_code 41 = .ok (.iload 5, 2) := by decide +kernel
theorem px_d33_43 : decode prog_1_method_17_code 43 = .ok (.ifCond .eq 12, 3) := by decide +kernel
theorem px_d33_55 : decode prog_1_method_17_code 55 = .ok (.iconst (-1), 1) := by decide +kernel
theorem px_d33_56 : decode prog_1_method_17_code 56 = .ok (.ireturn, 1) := by decide +kernel
theorem px_d34_0 : decode prog_1_method_18_code 0 = .ok (.aload_n 0, 1) := by decide +kernel
theorem px_d34_1 : decode prog_1_method_18_code 1 = .ok (.iload_n 1, 1) := by decide +kernel
theorem px_d34_2 : decode prog_1_method_18_code 2 = .ok (.invokevirtual 152, 3) := by decide +kernel
theorem px_d34_5 : decode prog_1_method_18_code 5 = .ok (.astore_n 3, 1) := by decide +kernel
theorem px_d34_6 : decode prog_1_method_18_code 6 = .ok (.aload_n 0, 1) := by decide +kernel
theorem px_d34_7 : decode prog_1_method_18_code 7 = .ok (.iload_n 2, 1) := by decide +kernel
theorem px_d34_8 : decode prog_1_method_18_code 8 = .ok (.invokevirtual 152, 3) := by decide +kernel
theorem px_d34_11 : decode prog_1_method_18_code 11 = .ok (.astore 4, 2) := by decide +kernel
theorem px_d34_13 : decode prog_1_method_18_code 13 = .ok (.aload_n 3, 1) := by decide +kernel
theorem px_d34_14 : decode prog_1_method_18_code 14 = .ok (.ifnull 24, 3) := by decide +kernel
theorem px_d34_38 : decode prog_1_method_18_code 38 = .ok (.iconst 0, 1) := by decide +kernel
theorem px_d34_39 : decode prog_1_method_18_code 39 = .ok (.istore 5, 2) := by decide +kernel
theorem px_d34_41 : decode prog_1_method_18_code 41 = .ok (.iload 5, 2) := by decide +kernel
theorem px_d34_43 : decode prog_1_method_18_code 43 = .ok (.ifCond .eq 12, 3) := by decide +kernel
theorem px_d34_55 : decode prog_1_method_18_code 55 = .ok (.iconst (-1), 1) := by decide +kernel
theorem px_d34_56 : decode prog_1_method_18_code 56 = .ok (.ireturn, 1) := by decide +kernel
theorem px_d35_0 : decode prog_1_method_19_code 0 = .ok (.aload_n 0, 1) := by decide +kernel
theorem px_d35_1 : decode prog_1_method_19_code 1 = .ok (.iload_n 1, 1) := by decide +kernel
theorem px_d35_2 : decode prog_1_method_19_code 2 = .ok (.invokevirtual 152, 3) := by decide +kernel
theorem px_d35_5 : decode prog_1_method_19_code 5 = .ok (.astore_n 3, 1) := by decide +kernel
theorem px_d35_6 : decode prog_1_method_19_code 6 = .ok (.aload_n 3, 1) := by decide +kernel
theorem px_d35_7 : decode prog_1_method_19_code 7 = .ok (.ifnull 18, 3) := by decide +kernel
theorem px_d35_25 : decode prog_1_method_19_code 25 = .ok (.iconst 2, 1) := by decide +kernel
theorem px_d35_26 : decode prog_1_method_19_code 26 = .ok (.ireturn, 1) := by decide +kernel
theorem px_d36_0 : decode prog_1_method_20_code 0 = .ok (.aload_n 0, 1) := by decide +kernel
theorem px_d36_1 : decode prog_1_method_20_code 1 = .ok (.iload_n 1, 1) := by decide +kernel
theorem px_d36_2 : decode prog_1_method_20_code 2 = .ok (.invokevirtual 152, 3) := by decide +kernel
theorem px_d36_5 : decode prog_1_method_20_code 5 = .ok (.astore_n 3, 1) := by decide +kernel
theorem px_d36_6 : decode prog_1_method_20_code 6 = .ok (.aload_n 3, 1) := by decide +kernel
theorem px_d36_7 : decode prog_1_method_20_code 7 = .ok (.ifnull 23, 3) := by decide +kernel
theorem px_d36_30 : decode prog_1_method_20_code 30 = .ok (.iconst (-1), 1) := by decide +kernel
theorem px_d36_31 : decode prog_1_method_20_code 31 = .ok (.ireturn, 1) := by decide +kernel
theorem px_d37_0 : decode prog_1_method_24_code 0 = .ok (.aload_n 0, 1) := by decide +kernel
theorem px_d37_1 : decode prog_1_method_24_code 1 = .ok (.iload_n 1, 1) := by decide +kernel
theorem px_d37_2 : decode prog_1_method_24_code 2 = .ok (.invokevirtual 152, 3) := by decide +kernel
theorem px_d37_5 : decode prog_1_method_24_code 5 = .ok (.astore_n 3, 1) := by decide +kernel
theorem px_d37_6 : decode prog_1_method_24_code 6 = .ok (.aload_n 0, 1) := by decide +kernel
theorem px_d37_7 : decode prog_1_method_24_code 7 = .ok (.iload_n 2, 1) := by decide +kernel
theorem px_d37_8 : decode prog_1_method_24_code 8 = .ok (.invokevirtual 152, 3) := by decide +kernel
theorem px_d37_11 : decode prog_1_method_24_code 11 = .ok (.astore 4, 2) := by decide +kernel
theorem px_d37_13 : decode prog_1_method_24_code 13 = .ok (.aload_n 3, 1) := by decide +kernel
theorem px_d37_14 : decode prog_1_method_24_code 14 = .ok (.ifnull 25, 3) := by decide +kernel
theorem px_d37_39 : decode prog_1_method_24_code 39 = .ok (.iconst 0, 1) := by decide +kernel
theorem px_d37_40 : decode prog_1_method_24_code 40 = .ok (.ireturn, 1) := by decide +kernel
theorem px_d38_0 : decode prog_1_method_21_code 0 = .ok (.aload_n 0, 1) := by decide +kernel
theorem px_d38_1 : decode prog_1_method_21_code 1 = .ok (.iload_n 1, 1) := by decide +kernel
theorem px_d38_2 : decode prog_1_method_21_code 2 = .ok (.iload_n 2, 1) := by decide +kernel
theorem px_d38_3 : decode prog_1_method_21_code 3 = .ok (.invokevirtual 215, 3) := by decide +kernel
theorem px_d38_6 : decode prog_1_method_21_code 6 = .ok (.ifCond .eq 13, 3) := by decide +kernel
theorem px_d38_19 : decode prog_1_method_21_code 19 = .ok (.iconst (-1), 1) := by decide +kernel
theorem px_d38_20 : decode prog_1_method_21_code 20 = .ok (.ireturn, 1) := by decide +kernel
theorem px_d39_0 : decode prog_1_method_22_code 0 = .ok (.aload_n 0, 1) := by decide +kernel
theorem px_d39_1 : decode prog_1_method_22_code 1 = .ok (.iload_n 1, 1) := by decide +kernel
theorem px_d39_2 : decode prog_1_method_22_code 2 = .ok (.iload_n 2, 1) := by decide +kernel
theorem px_d39_3 : decode prog_1_method_22_code 3 = .ok (.invokevirtual 215, 3) := by decide +kernel
theorem px_d39_6 : decode prog_1_method_22_code 6 = .ok (.ifCond .eq 13, 3) := by decide +kernel
theorem px_d39_19 : decode prog_1_method_22_code 19 = .ok (.iconst (-1), 1) := by decide +kernel
theorem px_d39_20 : decode prog_1_method_22_code 20 = .ok (.ireturn, 1) := by decide +kernel
theorem px_d40_0 : decode prog_1_method_23_code 0 = .ok (.aload_n 0, 1) := by decide +kernel
theorem px_d40_1 : decode prog_1_method_23_code 1 = .ok (.iload_n 2, 1) := by decide +kernel
theorem px_d40_2 : decode prog_1_method_23_code 2 = .ok (.invokevirtual 152, 3) := by decide +kernel
theorem px_d40_5 : decode prog_1_method_23_code 5 = .ok (.astore 4, 2) := by decide +kernel
theorem px_d40_7 : decode prog_1_method_23_code 7 = .ok (.aload 4, 2) := by decide +kernel
theorem px_d40_9 : decode prog_1_method_23_code 9 = .ok (.ifnull 20, 3) := by decide +kernel
theorem px_d40_29 : decode prog_1_method_23_code 29 = .ok (.iconst 0, 1) := by decide +kernel
theorem px_d40_30 : decode prog_1_method_23_code 30 = .ok (.istore 5, 2) := by decide +kernel
theorem px_d40_32 : decode prog_1_method_23_code 32 = .ok (.iload 5, 2) := by decide +kernel
theorem px_d40_34 : decode prog_1_method_23_code 34 = .ok (.ifCond .eq 23, 3) := by decide +kernel
theorem px_d40_57 : decode prog_1_method_23_code 57 = .ok (.iconst (-1), 1) := by decide +kernel
theorem px_d40_58 : decode prog_1_method_23_code 58 = .ok (.ireturn, 1) := by decide +kernel
theorem px_d41_0 : decode prog_15_method_89_code 0 = .ok (.bipush 24, 2) := by decide +kernel
theorem px_d41_2 : decode prog_15_method_89_code 2 = .ok (.istore_n 2, 1) := by decide +kernel
theorem px_d41_3 : decode prog_15_method_89_code 3 = .ok (.iload_n 2, 1) := by decide +kernel
theorem px_d41_4 : decode prog_15_method_89_code 4 = .ok (.ifCond .lt 32, 3) := by decide +kernel
theorem px_d41_7 : decode prog_15_method_89_code 7 = .ok (.aload_n 0, 1) := by decide +kernel
theorem px_d41_8 : decode prog_15_method_89_code 8 = .ok (.getfield 225, 3) := by decide +kernel
theorem px_d41_11 : decode prog_15_method_89_code 11 = .ok (.aload_n 0, 1) := by decide +kernel
theorem px_d41_12 : decode prog_15_method_89_code 12 = .ok (.getfield 508, 3) := by decide +kernel
theorem px_d41_15 : decode prog_15_method_89_code 15 = .ok (.iload_n 1, 1) := by decide +kernel
theorem px_d41_16 : decode prog_15_method_89_code 16 = .ok (.iload_n 2, 1) := by decide +kernel
theorem px_d41_17 : decode prog_15_method_89_code 17 = .ok (.ishr, 1) := by decide +kernel
theorem px_d41_18 : decode prog_15_method_89_code 18 = .ok (.i2b, 1) := by decide +kernel
theorem px_d41_19 : decode prog_15_method_89_code 19 = .ok (.bastore, 1) := by decide +kernel
theorem px_d41_20 : decode prog_15_method_89_code 20 = .ok (.aload_n 0, 1) := by decide +kernel
theorem px_d41_21 : decode prog_15_method_89_code 21 = .ok (.dup, 1) := by decide +kernel
theorem px_d41_22 : decode prog_15_method_89_code 22 = .ok (.getfield 508, 3) := by decide +kernel
theorem px_d41_25 : decode prog_15_method_89_code 25 = .ok (.iconst 1, 1) := by decide +kernel
theorem px_d41_26 : decode prog_15_method_89_code 26 = .ok (.iadd, 1) := by decide +kernel
theorem px_d41_27 : decode prog_15_method_89_code 27 = .ok (.putfield 508, 3) := by decide +kernel
theorem px_d41_30 : decode prog_15_method_89_code 30 = .ok (.iinc 2 (-8), 3) := by decide +kernel
theorem px_d41_33 : decode prog_15_method_89_code 33 = .ok (.goto (-30), 3) := by decide +kernel
theorem px_d41_36 : decode prog_15_method_89_code 36 = .ok (.return_, 1) := by decide +kernel
theorem px_d42_0 : decode prog_15_method_90_code 0 = .ok (.aload_n 0, 1) := by decide +kernel
theorem px_d42_1 : decode prog_15_method_90_code 1 = .ok (.aload_n 0, 1) := by decide +kernel
theorem px_d42_2 : decode prog_15_method_90_code 2 = .ok (.getfield 508, 3) := by decide +kernel
theorem px_d42_5 : decode prog_15_method_90_code 5 = .ok (.bipush 20, 2) := by decide +kernel
theorem px_d42_7 : decode prog_15_method_90_code 7 = .ok (.iadd, 1) := by decide +kernel
theorem px_d42_8 : decode prog_15_method_90_code 8 = .ok (.sipush 16384, 3) := by decide +kernel
theorem px_d42_11 : decode prog_15_method_90_code 11 = .ok (.if_icmp .le 7, 3) := by decide +kernel
theorem px_d42_18 : decode prog_15_method_90_code 18 = .ok (.iconst 0, 1) := by decide +kernel
theorem px_d42_19 : decode prog_15_method_90_code 19 = .ok (.putfield 505, 3) := by decide +kernel
theorem px_d42_22 : decode prog_15_method_90_code 22 = .ok (.aload_n 0, 1) := by decide +kernel
theorem px_d42_23 : decode prog_15_method_90_code 23 = .ok (.getfield 505, 3) := by decide +kernel
theorem px_d42_26 : decode prog_15_method_90_code 26 = .ok (.ifCond .ne 30, 3) := by decide +kernel
theorem px_d42_29 : decode prog_15_method_90_code 29 = .ok (.aload_n 0, 1) := by decide +kernel
theorem px_d42_30 : decode prog_15_method_90_code 30 = .ok (.iload_n 1, 1) := by decide +kernel
theorem px_d42_31 : decode prog_15_method_90_code 31 = .ok (.invokevirtual 511, 3) := by decide +kernel
theorem px_d42_34 : decode prog_15_method_90_code 34 = .ok (.aload_n 0, 1) := by decide +kernel
theorem px_d42_35 : decode prog_15_method_90_code 35 = .ok (.iload_n 2, 1) := by decide +kernel
theorem px_d42_36 : decode prog_15_method_90_code 36 = .ok (.invokevirtual 511, 3) := by decide +kernel
theorem px_d42_39 : decode prog_15_method_90_code 39 = .ok (.aload_n 0, 1) := by decide +kernel
theorem px_d42_40 : decode prog_15_method_90_code 40 = .ok (.iload_n 3, 1) := by decide +kernel
theorem px_d42_41 : decode prog_15_method_90_code 41 = .ok (.invokevirtual 511, 3) := by decide +kernel
theorem px_d42_44 : decode prog_15_method_90_code 44 = .ok (.aload_n 0, 1) := by decide +kernel
theorem px_d42_45 : decode prog_15_method_90_code 45 = .ok (.iload 4, 2) := by decide +kernel
theorem px_d42_47 : decode prog_15_method_90_code 47 = .ok (.invokevirtual 511, 3) := by decide +kernel
theorem px_d42_50 : decode prog_15_method_90_code 50 = .ok (.aload_n 0, 1) := by decide +kernel
theorem px_d42_51 : decode prog_15_method_90_code 51 = .ok (.iload 5, 2) := by decide +kernel
theorem px_d42_53 : decode prog_15_method_90_code 53 = .ok (.invokevirtual 511, 3) := by decide +kernel
theorem px_d42_56 : decode prog_15_method_90_code 56 = .ok (.return_, 1) := by decide +kernel
theorem px_d43_0 : decode prog_15_method_91_code 0 = .ok (.aload_n 0, 1) := by decide +kernel
theorem px_d43_1 : decode prog_15_method_91_code 1 = .ok (.iload_n 1, 1) := by decide +kernel
theorem px_d43_2 : decode prog_15_method_91_code 2 = .ok (.ifCond .lt 11, 3) := by decide +kernel
theorem px_d43_5 : decode prog_15_method_91_code 5 = .ok (.iload_n 1, 1) := by decide +kernel
theorem px_d43_6 : decode prog_15_method_91_code 6 = .ok (.aload_n 0, 1) := by decide +kernel
theorem px_d43_7 : decode prog_15_method_91_code 7 = .ok (.getfield 508, 3) := by decide +kernel
theorem px_d43_10 : decode prog_15_method_91_code 10 = .ok (.if_icmp .le 7, 3) := by decide +kernel
theorem px_d43_17 : decode prog_15_method_91_code 17 = .ok (.iconst 0, 1) := by decide +kernel
theorem px_d43_18 : decode prog_15_method_91_code 18 = .ok (.putfield 505, 3) := by decide +kernel
theorem px_d43_21 : decode prog_15_method_91_code 21 = .ok (.aload_n 0, 1) := by decide +kernel
theorem px_d43_22 : decode prog_15_method_91_code 22 = .ok (.getfield 505, 3) := by decide +kernel
theorem px_d43_25 : decode prog_15_method_91_code 25 = .ok (.ifCond .le 5, 3) := by decide +kernel
theorem px_d43_30 : decode prog_15_method_91_code 30 = .ok (.aload_n 0, 1) := by decide +kernel
theorem px_d43_31 : decode prog_15_method_91_code 31 = .ok (.getfield 508, 3) := by decide +kernel
theorem px_d43_34 : decode prog_15_method_91_code 34 = .ok (.istore_n 2, 1) := by decide +kernel
theorem px_d43_35 : decode prog_15_method_91_code 35 = .ok (.aload_n 0, 1) := by decide +kernel
theorem px_d43_36 : decode prog_15_method_91_code 36 = .ok (.iload_n 1, 1) := by decide +kernel
theorem px_d43_37 : decode prog_15_method_91_code 37 = .ok (.putfield 508, 3) := by decide +kernel
theorem px_d43_40 : decode prog_15_method_91_code 40 = .ok (.iload_n 2, 1) := by decide +kernel
end
section
theorem px_d43_41 : decode prog_15_method_91_code 41 = .ok (.ireturn, 1) := by decide +kernel
theorem px_d44_0 : decode prog_15_method_88_code 0 = .ok (.aload_n 0, 1) := by decide +kernel
theorem px_d44_1 : decode prog_15_method_88_code 1 = .ok (.getfield 505, 3) := by decide +kernel
theorem px_d44_4 : decode prog_15_method_88_code 4 = .ok (.ireturn, 1) := by decide +kernel
theorem px_d45_0 : decode prog_15_method_50_code 0 = .ok (.iload_n 1, 1) := by decide +kernel
theorem px_d45_1 : decode prog_15_method_50_code 1 = .ok (.aload_n 0, 1) := by decide +kernel
theorem px_d45_2 : decode prog_15_method_50_code 2 = .ok (.getfield 326, 3) := by decide +kernel
theorem px_d45_5 : decode prog_15_method_50_code 5 = .ok (.if_icmp .ge 12, 3) := by decide +kernel
theorem px_d45_17 : decode prog_15_method_50_code 17 = .ok (.iconst (-1), 1) := by decide +kernel
theorem px_d45_18 : decode prog_15_method_50_code 18 = .ok (.ireturn, 1) := by decide +kernel
theorem px_d46_0 : decode prog_15_method_53_code 0 = .ok (.aload_n 0, 1) := by decide +kernel
theorem px_d46_1 : decode prog_15_method_53_code 1 = .ok (.getfield 329, 3) := by decide +kernel
theorem px_d46_4 : decode prog_15_method_53_code 4 = .ok (.istore_n 1, 1) := by decide +kernel
theorem px_d46_5 : decode prog_15_method_53_code 5 = .ok (.aload_n 0, 1) := by decide +kernel
theorem px_d46_6 : decode prog_15_method_53_code 6 = .ok (.iload_n 1, 1) := by decide +kernel
theorem px_d46_7 : decode prog_15_method_53_code 7 = .ok (.invokevirtual 332, 3) := by decide +kernel
theorem px_d46_10 : decode prog_15_method_53_code 10 = .ok (.istore_n 2, 1) := by decide +kernel
theorem px_d46_11 : decode prog_15_method_53_code 11 = .ok (.iload_n 2, 1) := by decide +kernel
theorem px_d46_12 : decode prog_15_method_53_code 12 = .ok (.bipush 32, 2) := by decide +kernel
theorem px_d46_14 : decode prog_15_method_53_code 14 = .ok (.if_icmp .eq 27, 3) := by decide +kernel
theorem px_d46_17 : decode prog_15_method_53_code 17 = .ok (.iload_n 2, 1) := by decide +kernel
theorem px_d46_18 : decode prog_15_method_53_code 18 = .ok (.bipush 10, 2) := by decide +kernel
theorem px_d46_20 : decode prog_15_method_53_code 20 = .ok (.if_icmp .eq 21, 3) := by decide +kernel
theorem px_d46_23 : decode prog_15_method_53_code 23 = .ok (.iload_n 2, 1) := by decide +kernel
theorem px_d46_24 : decode prog_15_method_53_code 24 = .ok (.bipush 13, 2) := by decide +kernel
theorem px_d46_26 : decode prog_15_method_53_code 26 = .ok (.if_icmp .eq 15, 3) := by decide +kernel
theorem px_d46_29 : decode prog_15_method_53_code 29 = .ok (.iload_n 2, 1) := by decide +kernel
theorem px_d46_30 : decode prog_15_method_53_code 30 = .ok (.bipush 9, 2) := by decide +kernel
theorem px_d46_32 : decode prog_15_method_53_code 32 = .ok (.if_icmp .eq 9, 3) := by decide +kernel
theorem px_d46_35 : decode prog_15_method_53_code 35 = .ok (.iload_n 2, 1) := by decide +kernel
theorem px_d46_36 : decode prog_15_method_53_code 36 = .ok (.bipush 35, 2) := by decide +kernel
theorem px_d46_38 : decode prog_15_method_53_code 38 = .ok (.if_icmp .ne 46, 3) := by decide +kernel
theorem px_d46_84 : decode prog_15_method_53_code 84 = .ok (.aload_n 0, 1) := by decide +kernel
theorem px_d46_85 : decode prog_15_method_53_code 85 = .ok (.iload_n 1, 1) := by decide +kernel
theorem px_d46_86 : decode prog_15_method_53_code 86 = .ok (.putfield 335, 3) := by decide +kernel
theorem px_d46_89 : decode prog_15_method_53_code 89 = .ok (.aload_n 0, 1) := by decide +kernel
theorem px_d46_90 : decode prog_15_method_53_code 90 = .ok (.iload_n 1, 1) := by decide +kernel
theorem px_d46_91 : decode prog_15_method_53_code 91 = .ok (.iconst 1, 1) := by decide +kernel
theorem px_d46_92 : decode prog_15_method_53_code 92 = .ok (.iadd, 1) := by decide +kernel
theorem px_d46_93 : decode prog_15_method_53_code 93 = .ok (.putfield 329, 3) := by decide +kernel
theorem px_d46_96 : decode prog_15_method_53_code 96 = .ok (.iload_n 1, 1) := by decide +kernel
theorem px_d46_97 : decode prog_15_method_53_code 97 = .ok (.aload_n 0, 1) := by decide +kernel
theorem px_d46_98 : decode prog_15_method_53_code 98 = .ok (.getfield 326, 3) := by decide +kernel
theorem px_d46_101 : decode prog_15_method_53_code 101 = .ok (.if_icmp .lt 16, 3) := by decide +kernel
theorem px_d46_104 : decode prog_15_method_53_code 104 = .ok (.aload_n 0, 1) := by decide +kernel
theorem px_d46_105 : decode prog_15_method_53_code 105 = .ok (.iconst 0, 1) := by decide +kernel
theorem px_d46_106 : decode prog_15_method_53_code 106 = .ok (.putfield 338, 3) := by decide +kernel
theorem px_d46_109 : decode prog_15_method_53_code 109 = .ok (.aload_n 0, 1) := by decide +kernel
theorem px_d46_110 : decode prog_15_method_53_code 110 = .ok (.iload_n 1, 1) := by decide +kernel
theorem px_d46_111 : decode prog_15_method_53_code 111 = .ok (.putfield 329, 3) := by decide +kernel
theorem px_d46_114 : decode prog_15_method_53_code 114 = .ok (.goto 162, 3) := by decide +kernel
theorem px_d46_276 : decode prog_15_method_53_code 276 = .ok (.return_, 1) := by decide +kernel
theorem px_d47_0 : decode prog_15_method_63_code 0 = .ok (.aload_n 0, 1) := by decide +kernel
theorem px_d47_1 : decode prog_15_method_63_code 1 = .ok (.iconst 0, 1) := by decide +kernel
theorem px_d47_2 : decode prog_15_method_63_code 2 = .ok (.putfield 356, 3) := by decide +kernel
theorem px_d47_5 : decode prog_15_method_63_code 5 = .ok (.aload_n 0, 1) := by decide +kernel
theorem px_d47_6 : decode prog_15_method_63_code 6 = .ok (.iconst 0, 1) := by decide +kernel
theorem px_d47_7 : decode prog_15_method_63_code 7 = .ok (.putfield 329, 3) := by decide +kernel
theorem px_d47_10 : decode prog_15_method_63_code 10 = .ok (.aload_n 0, 1) := by decide +kernel
theorem px_d47_11 : decode prog_15_method_63_code 11 = .ok (.invokevirtual 359, 3) := by decide +kernel
theorem px_d47_14 : decode prog_15_method_63_code 14 = .ok (.iconst 0, 1) := by decide +kernel
theorem px_d47_15 : decode prog_15_method_63_code 15 = .ok (.istore_n 1, 1) := by decide +kernel
theorem px_d47_16 : decode prog_15_method_63_code 16 = .ok (.aload_n 0, 1) := by decide +kernel
theorem px_d47_17 : decode prog_15_method_63_code 17 = .ok (.getfield 356, 3) := by decide +kernel
theorem px_d47_20 : decode prog_15_method_63_code 20 = .ok (.ifCond .ne 138, 3) := by decide +kernel
theorem px_d47_23 : decode prog_15_method_63_code 23 = .ok (.aload_n 0, 1) := by decide +kernel
theorem px_d47_24 : decode prog_15_method_63_code 24 = .ok (.getfield 338, 3) := by decide +kernel
theorem px_d47_27 : decode prog_15_method_63_code 27 = .ok (.ifCond .eq 131, 3) := by decide +kernel
theorem px_d47_158 : decode prog_15_method_63_code 158 = .ok (.aload_n 0, 1) := by decide +kernel
theorem px_d47_159 : decode prog_15_method_63_code 159 = .ok (.getfield 356, 3) := by decide +kernel
theorem px_d47_162 : decode prog_15_method_63_code 162 = .ok (.ifCond .ne 7, 3) := by decide +kernel
theorem px_d47_165 : decode prog_15_method_63_code 165 = .ok (.iconst 1, 1) := by decide +kernel
theorem px_d47_166 : decode prog_15_method_63_code 166 = .ok (.goto 4, 3) := by decide +kernel
theorem px_d47_170 : decode prog_15_method_63_code 170 = .ok (.ireturn, 1) := by decide +kernel
theorem px_d48_0 : decode prog_15_method_92_code 0 = .ok (.aload_n 0, 1) := by decide +kernel
theorem px_d48_1 : decode prog_15_method_92_code 1 = .ok (.iconst 0, 1) := by decide +kernel
theorem px_d48_2 : decode prog_15_method_92_code 2 = .ok (.putfield 505, 3) := by decide +kernel
theorem px_d48_5 : decode prog_15_method_92_code 5 = .ok (.iconst 0, 1) := by decide +kernel
theorem px_d48_6 : decode prog_15_method_92_code 6 = .ok (.istore_n 1, 1) := by decide +kernel
theorem px_d48_7 : decode prog_15_method_92_code 7 = .ok (.iload_n 1, 1) := by decide +kernel
theorem px_d48_8 : decode prog_15_method_92_code 8 = .ok (.aload_n 0, 1) := by decide +kernel
theorem px_d48_9 : decode prog_15_method_92_code 9 = .ok (.getfield 508, 3) := by decide +kernel
theorem px_d48_12 : decode prog_15_method_92_code 12 = .ok (.if_icmp .ge 21, 3) := by decide +kernel
theorem px_d48_33 : decode prog_15_method_92_code 33 = .ok (.aload_n 0, 1) := by decide +kernel
theorem px_d48_34 : decode prog_15_method_92_code 34 = .ok (.aload_n 0, 1) := by decide +kernel
theorem px_d48_35 : decode prog_15_method_92_code 35 = .ok (.getfield 508, 3) := by decide +kernel
theorem px_d48_38 : decode prog_15_method_92_code 38 = .ok (.putfield 326, 3) := by decide +kernel
theorem px_d48_41 : decode prog_15_method_92_code 41 = .ok (.aload_n 0, 1) := by decide +kernel
theorem px_d48_42 : decode prog_15_method_92_code 42 = .ok (.iconst 0, 1) := by decide +kernel
theorem px_d48_43 : decode prog_15_method_92_code 43 = .ok (.putfield 508, 3) := by decide +kernel
theorem px_d48_46 : decode prog_15_method_92_code 46 = .ok (.aload_n 0, 1) := by decide +kernel
theorem px_d48_47 : decode prog_15_method_92_code 47 = .ok (.invokevirtual 513, 3) := by decide +kernel
theorem px_d48_50 : decode prog_15_method_92_code 50 = .ok (.ifCond .ne 5, 3) := by decide +kernel
theorem px_d48_55 : decode prog_15_method_92_code 55 = .ok (.aload_n 0, 1) := by decide +kernel
theorem px_d48_56 : decode prog_15_method_92_code 56 = .ok (.iconst 0, 1) := by decide +kernel
theorem px_d48_57 : decode prog_15_method_92_code 57 = .ok (.putfield 443, 3) := by decide +kernel
theorem px_d48_60 : decode prog_15_method_92_code 60 = .ok (.aload_n 0, 1) := by decide +kernel
theorem px_d48_61 : decode prog_15_method_92_code 61 = .ok (.iconst 0, 1) := by decide +kernel
theorem px_d48_62 : decode prog_15_method_92_code 62 = .ok (.putfield 395, 3) := by decide +kernel
theorem px_d48_65 : decode prog_15_method_92_code 65 = .ok (.iconst 0, 1) := by decide +kernel
theorem px_d48_66 : decode prog_15_method_92_code 66 = .ok (.istore_n 1, 1) := by decide +kernel
theorem px_d48_67 : decode prog_15_method_92_code 67 = .ok (.aload_n 0, 1) := by decide +kernel
theorem px_d48_68 : decode prog_15_method_92_code 68 = .ok (.iconst 0, 1) := by decide +kernel
theorem px_d48_69 : decode prog_15_method_92_code 69 = .ok (.putfield 329, 3) := by decide +kernel
theorem px_d48_72 : decode prog_15_method_92_code 72 = .ok (.aload_n 0, 1) := by decide +kernel
theorem px_d48_73 : decode prog_15_method_92_code 73 = .ok (.invokevirtual 359, 3) := by decide +kernel
theorem px_d48_76 : decode prog_15_method_92_code 76 = .ok (.aload_n 0, 1) := by decide +kernel
theorem px_d48_77 : decode prog_15_method_92_code 77 = .ok (.getfield 338, 3) := by decide +kernel
theorem px_d48_80 : decode prog_15_method_92_code 80 = .ok (.ifCond .eq 31, 3) := by decide +kernel
theorem px_d48_111 : decode prog_15_method_92_code 111 = .ok (.aload_n 0, 1) := by decide +kernel
theorem px_d48_112 : decode prog_15_method_92_code 112 = .ok (.aload_n 0, 1) := by decide +kernel
theorem px_d48_113 : decode prog_15_method_92_code 113 = .ok (.getfield 395, 3) := by decide +kernel
theorem px_d48_116 : decode prog_15_method_92_code 116 = .ok (.putfield 519, 3) := by decide +kernel
theorem px_d48_119 : decode prog_15_method_92_code 119 = .ok (.iload_n 1, 1) := by decide +kernel
theorem px_d48_120 : decode prog_15_method_92_code 120 = .ok (.ireturn, 1) := by decide +kernel
theorem px_d49_0 : decode prog_15_method_93_code 0 = .ok (.aload_n 0, 1) := by decide +kernel
theorem px_d49_1 : decode prog_15_method_93_code 1 = .ok (.iconst 0, 1) := by decide +kernel
theorem px_d49_2 : decode prog_15_method_93_code 2 = .ok (.putfield 505, 3) := by decide +kernel
theorem px_d49_5 : decode prog_15_method_93_code 5 = .ok (.aload_n 0, 1) := by decide +kernel
theorem px_d49_6 : decode prog_15_method_93_code 6 = .ok (.getfield 209, 3) := by decide +kernel
theorem px_d49_9 : decode prog_15_method_93_code 9 = .ok (.ireturn, 1) := by decide +kernel
theorem px_d50_0 : decode prog_15_method_94_code 0 = .ok (.aload_n 0, 1) := by decide +kernel
theorem px_d50_1 : decode prog_15_method_94_code 1 = .ok (.iconst 0, 1) := by decide +kernel
theorem px_d50_2 : decode prog_15_method_94_code 2 = .ok (.putfield 505, 3) := by decide +kernel
theorem px_d50_5 : decode prog_15_method_94_code 5 = .ok (.aload_n 0, 1) := by decide +kernel
theorem px_d50_6 : decode prog_15_method_94_code 6 = .ok (.getfield 519, 3) := by decide +kernel
theorem px_d50_9 : decode prog_15_method_94_code 9 = .ok (.ireturn, 1) := by decide +kernel
theorem px_d51_0 : decode prog_15_method_95_code 0 = .ok (.aload_n 0, 1) := by decide +kernel
theorem px_d51_1 : decode prog_15_method_95_code 1 = .ok (.iconst 0, 1) := by decide +kernel
theorem px_d51_2 : decode prog_15_method_95_code 2 = .ok (.putfield 505, 3) := by decide +kernel
theorem px_d51_5 : decode prog_15_method_95_code 5 = .ok (.aload_n 0, 1) := by decide +kernel
theorem px_d51_6 : decode prog_15_method_95_code 6 = .ok (.getfield 443, 3) := by decide +kernel
theorem px_d51_9 : decode prog_15_method_95_code 9 = .ok (.ireturn, 1) := by decide +kernel
theorem px_d52_0 : decode prog_15_method_96_code 0 = .ok (.aload_n 0, 1) := by decide +kernel
theorem px_d52_1 : decode prog_15_method_96_code 1 = .ok (.iconst 0, 1) := by decide +kernel
theorem px_d52_2 : decode prog_15_method_96_code 2 = .ok (.putfield 505, 3) := by decide +kernel
theorem px_d52_5 : decode prog_15_method_96_code 5 = .ok (.iload_n 1, 1) := by decide +kernel
theorem px_d52_6 : decode prog_15_method_96_code 6 = .ok (.ifCond .lt 20, 3) := by decide +kernel
theorem px_d52_9 : decode prog_15_method_96_code 9 = .ok (.iload_n 1, 1) := by decide +kernel
theorem px_d52_10 : decode prog_15_method_96_code 10 = .ok (.aload_n 0, 1) := by decide +kernel
theorem px_d52_11 : decode prog_15_method_96_code 11 = .ok (.getfield 443, 3) := by decide +kernel
theorem px_d52_14 : decode prog_15_method_96_code 14 = .ok (.if_icmp .ge 12, 3) := by decide +kernel
theorem px_d52_26 : decode prog_15_method_96_code 26 = .ok (.iconst (-1), 1) := by decide +kernel
theorem px_d52_27 : decode prog_15_method_96_code 27 = .ok (.ireturn, 1) := by decide +kernel
theorem px_d53_0 : decode prog_15_method_97_code 0 = .ok (.aload_n 0, 1) := by decide +kernel
theorem px_d53_1 : decode prog_15_method_97_code 1 = .ok (.iconst 0, 1) := by decide +kernel
theorem px_d53_2 : decode prog_15_method_97_code 2 = .ok (.putfield 505, 3) := by decide +kernel
theorem px_d53_5 : decode prog_15_method_97_code 5 = .ok (.iload_n 1, 1) := by decide +kernel
theorem px_d53_6 : decode prog_15_method_97_code 6 = .ok (.ifCond .lt 22, 3) := by decide +kernel
theorem px_d53_9 : decode prog_15_method_97_code 9 = .ok (.iload_n 1, 1) := by decide +kernel
theorem px_d53_10 : decode prog_15_method_97_code 10 = .ok (.bipush 26, 2) := by decide +kernel
theorem px_d53_12 : decode prog_15_method_97_code 12 = .ok (.if_icmp .ge 16, 3) := by decide +kernel
theorem px_d53_15 : decode prog_15_method_97_code 15 = .ok (.aload_n 0, 1) := by decide +kernel
theorem px_d53_16 : decode prog_15_method_97_code 16 = .ok (.getfield 153, 3) := by decide +kernel
theorem px_d53_19 : decode prog_15_method_97_code 19 = .ok (.iload_n 1, 1) := by decide +kernel
theorem px_d53_20 : decode prog_15_method_97_code 20 = .ok (.baload, 1) := by decide +kernel
theorem px_d53_21 : decode prog_15_method_97_code 21 = .ok (.ifCond .eq 7, 3) := by decide +kernel
theorem px_d53_28 : decode prog_15_method_97_code 28 = .ok (.iconst 0, 1) := by decide +kernel
theorem px_d53_29 : decode prog_15_method_97_code 29 = .ok (.ireturn, 1) := by decide +kernel
theorem px_d54_0 : decode prog_15_method_98_code 0 = .ok (.aload_n 0, 1) := by decide +kernel
theorem px_d54_1 : decode prog_15_method_98_code 1 = .ok (.iload_n 1, 1) := by decide +kernel
theorem px_d54_2 : decode prog_15_method_98_code 2 = .ok (.invokevirtual 522, 3) := by decide +kernel
theorem px_d54_5 : decode prog_15_method_98_code 5 = .ok (.ifCond .eq 12, 3) := by decide +kernel
theorem px_d54_17 : decode prog_15_method_98_code 17 = .ok (.iconst (-1), 1) := by decide +kernel
theorem px_d54_18 : decode prog_15_method_98_code 18 = .ok (.ireturn, 1) := by decide +kernel
theorem px_d55_0 : decode prog_15_method_99_code 0 = .ok (.aload_n 0, 1) := by decide +kernel
theorem px_d55_1 : decode prog_15_method_99_code 1 = .ok (.iload_n 1, 1) := by decide +kernel
theorem px_d55_2 : decode prog_15_method_99_code 2 = .ok (.invokevirtual 522, 3) := by decide +kernel
theorem px_d55_5 : decode prog_15_method_99_code 5 = .ok (.ifCond .eq 12, 3) := by decide +kernel
theorem px_d55_17 : decode prog_15_method_99_code 17 = .ok (.iconst (-1), 1) := by decide +kernel
theorem px_d55_18 : decode prog_15_method_99_code 18 = .ok (.ireturn, 1) := by decide +kernel
theorem px_d56_0 : decode prog_15_method_100_code 0 = .ok (.aload_n 0, 1) := by decide +kernel
theorem px_d56_1 : decode prog_15_method_100_code 1 = .ok (.iload_n 1, 1) := by decide +kernel
theorem px_d56_2 : decode prog_15_method_100_code 2 = .ok (.invokevirtual 522, 3) := by decide +kernel
theorem px_d56_5 : decode prog_15_method_100_code 5 = .ok (.ifCond .eq 25, 3) := by decide +kernel
theorem px_d56_30 : decode prog_15_method_100_code 30 = .ok (.iconst (-1), 1) := by decide +kernel
theorem px_d56_31 : decode prog_15_method_100_code 31 = .ok (.ireturn, 1) := by decide +kernel
theorem px_d57_0 : decode prog_15_method_101_code 0 = .ok (.aload_n 0, 1) := by decide +kernel
theorem px_d57_1 : decode prog_15_method_101_code 1 = .ok (.iload_n 1, 1) := by decide +kernel
theorem px_d57_2 : decode prog_15_method_101_code 2 = .ok (.invokevirtual 522, 3) := by decide +kernel
theorem px_d57_5 : decode prog_15_method_101_code 5 = .ok (.ifCond .eq 21, 3) := by decide +kernel
theorem px_d57_26 : decode prog_15_method_101_code 26 = .ok (.iconst (-1), 1) := by decide +kernel
theorem px_d57_27 : decode prog_15_method_101_code 27 = .ok (.ireturn, 1) := by decide +kernel
theorem px_d58_0 : decode prog_15_method_102_code 0 = .ok (.aload_n 0, 1) := by decide +kernel
theorem px_d58_1 : decode prog_15_method_102_code 1 = .ok (.iload_n 1, 1) := by decide +kernel
theorem px_d58_2 : decode prog_15_method_102_code 2 = .ok (.invokevirtual 522, 3) := by decide +kernel
theorem px_d58_5 : decode prog_15_method_102_code 5 = .ok (.ifCond .eq 22, 3) := by decide +kernel
theorem px_d58_27 : decode prog_15_method_102_code 27 = .ok (.iconst (-1), 1) := by decide +kernel
theorem px_d58_28 : decode prog_15_method_102_code 28 = .ok (.ireturn, 1) := by decide +kernel
theorem px_d59_0 : decode prog_15_method_103_code 0 = .ok (.aload_n 0, 1) := by decide +kernel
theorem px_d59_1 : decode prog_15_method_103_code 1 = .ok (.iload_n 1, 1) := by decide +kernel
theorem px_d59_2 : decode prog_15_method_103_code 2 = .ok (.invokevirtual 522, 3) := by decide +kernel
theorem px_d59_5 : decode prog_15_method_103_code 5 = .ok (.ifCond .eq 23, 3) := by decide +kernel
theorem px_d59_28 : decode prog_15_method_103_code 28 = .ok (.lconst 0, 1) := by decide +kernel
theorem px_d59_29 : decode prog_15_method_103_code 29 = .ok (.lreturn, 1) := by decide +kernel
theorem px_d60_0 : decode prog_15_method_104_code 0 = .ok (.aload_n 0, 1) := by decide +kernel
theorem px_d60_1 : decode prog_15_method_104_code 1 = .ok (.iload_n 1, 1) := by decide +kernel
theorem px_d60_2 : decode prog_15_method_104_code 2 = .ok (.invokevirtual 522, 3) := by decide +kernel
theorem px_d60_5 : decode prog_15_method_104_code 5 = .ok (.ifCond .eq 31, 3) := by decide +kernel
theorem px_d60_36 : decode prog_15_method_104_code 36 = .ok (.iconst 0, 1) := by decide +kernel
theorem px_d60_37 : decode prog_15_method_104_code 37 = .ok (.ireturn, 1) := by decide +kernel
theorem px_d61_0 : decode prog_15_method_105_code 0 = .ok (.aload_n 0, 1) := by decide +kernel
theorem px_d61_1 : decode prog_15_method_105_code 1 = .ok (.iload_n 1, 1) := by decide +kernel
theorem px_d61_2 : decode prog_15_method_105_code 2 = .ok (.invokevirtual 522, 3) := by decide +kernel
theorem px_d61_5 : decode prog_15_method_105_code 5 = .ok (.ifCond .eq 11, 3) := by decide +kernel
theorem px_d61_16 : decode prog_15_method_105_code 16 = .ok (.iconst (-1), 1) := by decide +kernel
theorem px_d61_17 : decode prog_15_method_105_code 17 = .ok (.ireturn, 1) := by decide +kernel
theorem px_d62_0 : decode prog_15_method_106_code 0 = .ok (.aload_n 0, 1) := by decide +kernel
theorem px_d62_1 : decode prog_15_method_106_code 1 = .ok (.iload_n 1, 1) := by decide +kernel
theorem px_d62_2 : decode prog_15_method_106_code 2 = .ok (.invokevirtual 522, 3) := by decide +kernel
theorem px_d62_5 : decode prog_15_method_106_code 5 = .ok (.ifCond .eq 35, 3) := by decide +kernel
theorem px_d62_40 : decode prog_15_method_106_code 40 = .ok (.iconst (-1), 1) := by decide +kernel
theorem px_d62_41 : decode prog_15_method_106_code 41 = .ok (.ireturn, 1) := by decide +kernel
theorem px_d63_0 : decode prog_15_method_107_code 0 = .ok (.aload_n 0, 1) := by decide +kernel
theorem px_d63_1 : decode prog_15_method_107_code 1 = .ok (.iload_n 1, 1) := by decide +kernel
theorem px_d63_2 : decode prog_15_method_107_code 2 = .ok (.invokevirtual 522, 3) := by decide +kernel
theorem px_d63_5 : decode prog_15_method_107_code 5 = .ok (.ifCond .eq 35, 3) := by decide +kernel
theorem px_d63_40 : decode prog_15_method_107_code 40 = .ok (.iconst (-1), 1) := by decide +kernel
theorem px_d63_41 : decode prog_15_method_107_code 41 = .ok (.ireturn, 1) := by decide +kernel
theorem px_d64_0 : decode prog_15_method_108_code 0 = .ok (.aload_n 0, 1) := by decide +kernel
theorem px_d64_1 : decode prog_15_method_108_code 1 = .ok (.iload_n 1, 1) := by decide +kernel
theorem px_d64_2 : decode prog_15_method_108_code 2 = .ok (.invokevirtual 522, 3) := by decide +kernel
theorem px_d64_5 : decode prog_15_method_108_code 5 = .ok (.ifCond .eq 44, 3) := by decide +kernel
theorem px_d64_49 : decode prog_15_method_108_code 49 = .ok (.iconst 0, 1) := by decide +kernel
theorem px_d64_50 : decode prog_15_method_108_code 50 = .ok (.istore_n 3, 1) := by decide +kernel
theorem px_d64_51 : decode prog_15_method_108_code 51 = .ok (.iload_n 3, 1) := by decide +kernel
theorem px_d64_52 : decode prog_15_method_108_code 52 = .ok (.ifCond .eq 18, 3) := by decide +kernel
theorem px_d64_70 : decode prog_15_method_108_code 70 = .ok (.iconst 2, 1) := by decide +kernel
theorem px_d64_71 : decode prog_15_method_108_code 71 = .ok (.ireturn, 1) := by decide +kernel
theorem px_d65_0 : decode prog_15_method_109_code 0 = .ok (.aload_n 0, 1) := by decide +kernel
theorem px_d65_1 : decode prog_15_method_109_code 1 = .ok (.iload_n 1, 1) := by decide +kernel
theorem px_d65_2 : decode prog_15_method_109_code 2 = .ok (.invokevirtual 522, 3) := by decide +kernel
theorem px_d65_5 : decode prog_15_method_109_code 5 = .ok (.ifCond .eq 22, 3) := by decide +kernel
theorem px_d65_27 : decode prog_15_method_109_code 27 = .ok (.iconst (-1), 1) := by decide +kernel
theorem px_d65_28 : decode prog_15_method_109_code 28 = .ok (.istore_n 3, 1) := by decide +kernel
theorem px_d65_29 : decode prog_15_method_109_code 29 = .ok (.iload_n 3, 1) := by decide +kernel
theorem px_d65_30 : decode prog_15_method_109_code 30 = .ok (.ifCond .ge 7, 3) := by decide +kernel
theorem px_d65_33 : decode prog_15_method_109_code 33 = .ok (.iconst (-1), 1) := by decide +kernel
theorem px_d65_34 : decode prog_15_method_109_code 34 = .ok (.goto 9, 3) := by decide +kernel
theorem px_d65_43 : decode prog_15_method_109_code 43 = .ok (.ireturn, 1) := by decide +kernel
theorem px_d66_0 : decode prog_15_method_110_code 0 = .ok (.aload_n 0, 1) := by decide +kernel
theorem px_d66_1 : decode prog_15_method_110_code 1 = .ok (.iload_n 1, 1) := by decide +kernel
theorem px_d66_2 : decode prog_15_method_110_code 2 = .ok (.invokevirtual 522, 3) := by decide +kernel
theorem px_d66_5 : decode prog_15_method_110_code 5 = .ok (.ifCond .eq 27, 3) := by decide +kernel
theorem px_d66_32 : decode prog_15_method_110_code 32 = .ok (.iconst (-1), 1) := by decide +kernel
theorem px_d66_33 : decode prog_15_method_110_code 33 = .ok (.ireturn, 1) := by decide +kernel
theorem px_d67_0 : decode prog_15_method_111_code 0 = .ok (.aload_n 0, 1) := by decide +kernel
theorem px_d67_1 : decode prog_15_method_111_code 1 = .ok (.iload_n 1, 1) := by decide +kernel
theorem px_d67_2 : decode prog_15_method_111_code 2 = .ok (.invokevirtual 522, 3) := by decide +kernel
theorem px_d67_5 : decode prog_15_method_111_code 5 = .ok (.ifCond .eq 42, 3) := by decide +kernel
theorem px_d67_47 : decode prog_15_method_111_code 47 = .ok (.iconst (-1), 1) := by decide +kernel
theorem px_d67_48 : decode prog_15_method_111_code 48 = .ok (.ireturn, 1) := by decide +kernel
theorem px_d68_0 : decode prog_15_method_112_code 0 = .ok (.aload_n 0, 1) := by decide +kernel
theorem px_d68_1 : decode prog_15_method_112_code 1 = .ok (.iload_n 1, 1) := by decide +kernel
theorem px_d68_2 : decode prog_15_method_112_code 2 = .ok (.invokevirtual 522, 3) := by decide +kernel
theorem px_d68_5 : decode prog_15_method_112_code 5 = .ok (.ifCond .eq 43, 3) := by decide +kernel
theorem px_d68_48 : decode prog_15_method_112_code 48 = .ok (.iconst (-1), 1) := by decide +kernel
theorem px_d68_49 : decode prog_15_method_112_code 49 = .ok (.ireturn, 1) := by decide +kernel
end
section
/-- how many sets of k out of n -/
def px_bn : Nat → Nat → Nat
  | _, 0 => 1
  | 0, _ + 1 => 0
  | n + 1, k + 1 => px_bn n k + px_bn n (k + 1)
theorem px_bn0 (n : Nat) : px_bn n 0 = 1 := by cases n <;> rfl
theorem px_bnS (n k : Nat) : px_bn (n + 1) (k + 1) = px_bn n k + px_bn n (k + 1) := rfl
theorem px_bnZ : ∀ (n k : Nat), n < k → px_bn n k = 0 := by
  intro n
  induction n with
  | zero =>
    intro k h
    cases k with
    | zero => exact absurd h (Nat.not_lt_zero 0)
    | succ k => rfl
  | succ n ih =>
    intro k h
    cases k with
    | zero => exact absurd h (Nat.not_lt_zero _)
    | succ k => rw [px_bnS, ih k (by omega), ih (k + 1) (by omega)]
/-- how many sets of fewer than k of 12 -/
def px_sm : Nat → Nat
  | 0 => 0
  | k + 1 => px_sm k + px_bn 12 k
theorem px_sm_le : ∀ k, k < 13 → px_sm k + px_bn 12 k ≤ 4096 := by decide +kernel
theorem px_bit : ∀ k, k < 12 → (1 : Int32) <<< (nI k &&& 31) = nI (2 ^ k) := by decide +kernel
theorem px_or (a b : Nat) : nI a ||| nI b = nI (a ||| b) := by
  apply Int32.toBitVec_inj.1
  show BitVec.ofNat 32 a ||| BitVec.ofNat 32 b = BitVec.ofNat 32 (a ||| b)
  apply BitVec.eq_of_getLsbD_eq
  intro i hi
  simp [hi]
/-- the first n of f are numbers below 4096 -/
def px_ok (f : Nat → Int32) (n : Nat) : Prop := ∀ k, k < n → ∃ v : Nat, v < 4096 ∧ f k = nI v
theorem px_ok_add {f : Nat → Int32} {n v : Nat} (h : px_ok f n) (hn : n < 4096) (hv : v < 4096) : px_ok (upd f (nI n).toNatClampNeg (nI v)) (n + 1) := by
  intro k hk
  rw [nI_clamp (by omega)]
  rcases Nat.lt_or_ge k n with h1 | h1
  · obtain ⟨u, hu, eu⟩ := h k h1
    exact ⟨u, hu, by rw [pk_un (by omega)]; exact eu⟩
  · have e1 : k = n := by omega
    exact ⟨v, hv, by rw [e1, pk_us]⟩
theorem px_stlt {st fr e : Nat} (h : st < 2 ^ fr) (h1 : fr ≤ e) : st ||| 2 ^ e < 2 ^ (e + 1) := by
  apply Nat.or_lt_two_pow
  · exact Nat.lt_of_lt_of_le h (Nat.pow_le_pow_right (by omega) (by omega))
  · exact Nat.pow_lt_pow_right (by omega) (by omega)
theorem px_st4 {st fr : Nat} (h : st < 2 ^ fr) (h1 : fr ≤ 12) : st < 4096 :=
  Nat.lt_of_lt_of_le h (Nat.le_trans (Nat.pow_le_pow_right (by omega) h1) (by decide))
theorem px_ss {fs : List Value} {k n : Nat} {v : Value} (h : fs.length = n) (hk : k < n) : (fs.set k v)[k]? = some v := by
  rw [List.getElem?_set_self (by omega)]
theorem px_sn {fs : List Value} {k j : Nat} {v : Value} (h : k ≠ j) : (fs.set k v)[j]? = fs[j]? := by
  rw [List.getElem?_set_ne h]
theorem px_sl {fs : List Value} {k n : Nat} {v : Value} (h : fs.length = n) : (fs.set k v).length = n := by
  rw [List.length_set, h]
end
section
theorem px_vin {x : Int32} {n : Nat} (hn : n < 2 ^ 31) (h0 : ¬ x < 0) (h : x < nI n) : vp_in x n := by
  rw [vp_in_iff]
  rw [Int32.lt_iff_toInt_lt, Int32.toInt_zero] at h0
  rw [Int32.lt_iff_toInt_lt, nI_toInt hn] at h
  omega
theorem px_vin2 {x : Int32} {n : Nat} (hn : n < 2 ^ 31) (h0 : ¬ x < 0) (h : ¬ nI n ≤ x) : vp_in x n := by
  rw [vp_in_iff]
  rw [Int32.lt_iff_toInt_lt, Int32.toInt_zero] at h0
  rw [Int32.le_iff_toInt_le, nI_toInt hn] at h
  omega
theorem px_nn {x : Int32} (h0 : ¬ x < 0) : (0 : Int32) ≤ x := by
  rw [Int32.lt_iff_toInt_lt, Int32.toInt_zero] at h0
  rw [Int32.le_iff_toInt_le, Int32.toInt_zero]
  omega
theorem px_nlt {x : Int32} (h0 : ¬ x < 0) : ¬ x < (0 : Int32) := h0
end
section
set_option maxHeartbeats 4000000 in
set_option maxRecDepth 100000 in
/-- Tokens() -/
theorem px_Tokens_init (l : Launch) (dC : Nat → ClassId) (dI : Nat → Nat → Nat) (sz : Nat) (h0 : Nat) : Met l px_y0 px_s0 ({ frames := 1, cells := 1, slots := 0, locals := 12 }) (va_Pc [.ref h0] (fun U => U.heap.size = sz ∧ va_P (dC, dI) vwCl [(h0, .inr (5, [.null, .int 0, .int 0, .int 0, .int 0, .int 0]))] U.heap ∧ va_K (dC, dI) vwCl [] U ∧ va_D (fun _ => True) [(h0, .inr (5, [.null, .int 0, .int 0, .int 0, .int 0, .int 0]))] ∧ px_N U)) (va_Qv (fun (_ : Unit) => True) (fun (_ : Unit) (t : State) => ∃ (q : Nat) (cA : ClassId), va_P (dC, dI) vwCl [(h0, .inr (5, [.ref q, .int 0, .int 0, .int 0, .int 0, .int 0])), (q, .inl (cA, 0, .inl (fun _ => 0)))] t.heap ∧ va_K (dC, dI) vwCl [(cA, .byte)] t ∧ va_D (va_A [(h0, .inr (5, [.null, .int 0, .int 0, .int 0, .int 0, .int 0]))] sz) [(h0, .inr (5, [.ref q, .int 0, .int 0, .int 0, .int 0, .int 0])), (q, .inl (cA, 0, .inl (fun _ => 0)))]) (va_A [(h0, .inr (5, [.null, .int 0, .int 0, .int 0, .int 0, .int 0]))] sz)) 1 0 (va_A [(h0, .inr (5, [.null, .int 0, .int 0, .int 0, .int 0, .int 0]))] sz) := by
  refine Met.ofW (cc := prog_10_method_1_code) (maxL := 1) (ret := none) (by decide) rfl ?_
  intro p e s m args below meth c s₁ B hml hv
  obtain ⟨rfl, hsz, hP, hK, hD0, hN⟩ := hv
  have hx := B.exec
  have hb := B.bytes
  have hr := B.returns
  have htw : ∀ w ∈ px_all, w.before _ s = true := fun w h => atoms_spec (ws := px_s0) B.pre w (List.mem_cons_of_mem _ h)
  have hown : s.vm.findClass "MatroidDesk$Tokens" = some m.cls := findClass_of_methodNamed B.named
  have hlocks := B.notSynchronized
  have hin : meth.name = "<init>" := (name_of_methodNamed B.named B.method).1
  subst hsz
  have hD := hD0.self (sz := s.heap.size)
  generalize hAe : va_A [(h0, .inr (5, [.null, .int 0, .int 0, .int 0, .int 0, .int 0]))] s.heap.size = A at hD ⊢
  have hA : ∀ q : Nat, s.heap.size ≤ q → A q := fun q h => by rw [← hAe]; exact Or.inr h
  have hS : va_S A s.heap s.heap [] := va_S.rf
  have hP : va_P (dC, dI) vwCl [(h0, .inr (5, [.null, .int 0, .int 0, .int 0, .int 0, .int 0]))] s.heap := hP
  have hl := lv_entry ([.ref h0]) (n := 1) (Nat.le_of_ble_eq_true rfl)
  rw [lg_entry_eq]
  generalize (lg_sl ([.ref h0]) ++ List.replicate (1 - (lg_sl ([.ref h0])).length) Slot.unset).toArray = ls at hl ⊢
  have hl : lv_has ls 1 [(0, .ref h0)] := hl
  refine lv_aload_n hx hb px_d0_0 rfl (lv_at hl 0 rfl) ?_
  refine W.objInit hx hb hown (htw _ px_w157) (htw _ px_w1) (htw _ px_w0) rfl (by rw [hml]; exact hl.1) rfl px_d0_1 (Nat.le_of_ble_eq_true rfl) (Nat.le_of_ble_eq_true rfl) ?_
  refine W.eq (g2 := F0 m 4 ls []) rfl ?_
  refine lv_aload_n hx hb px_d0_4 rfl (lv_at hl 0 rfl) ?_
  refine lv_iconst (v := 0) hx hb px_d0_5 (by decide) ?_
  refine va_newa (atype := .byte) (ty := .byte) (n := 0) (N' := 0) (a0 := (0, .inl (fun _ => 0))) hx hb (htw _ px_w3) rfl hK hP hD hS hA (fun _ => rfl) (by decide +kernel) (by decide +kernel) (by decide +kernel) (Nat.le_of_ble_eq_true rfl) (Nat.le_of_ble_eq_true rfl) px_d0_6 (fun q cA H hK hP hD hS => ?_)
  have hP : va_P (dC, dI) vwCl [(h0, .inr (5, [.null, .int 0, .int 0, .int 0, .int 0, .int 0])), (q, .inl (cA, 0, .inl (fun _ => 0)))] H := hP
  have hD : va_D A [(h0, .inr (5, [.null, .int 0, .int 0, .int 0, .int 0, .int 0])), (q, .inl (cA, 0, .inl (fun _ => 0)))] := hD
  have hK : va_K (dC, dI) vwCl [(cA, .byte)] s := hK
  refine W.widen (k := 1) (n := 0) (Nat.le_of_ble_eq_true rfl) (Nat.le_of_ble_eq_true rfl) ?_
  refine va_put (D := (dC, dI)) (ci := 5) (v := .ref q) (ty := (.array .byte)) (C := "MatroidDesk$Tokens") (T := px_T5) (N := 6) hx hb htw px_in5 px_ty5 px_tyok5 px_nm5 hown hK hP hD hS 0 rfl rfl 0 (by decide) (htw _ px_w158) (fun _ h9 => h9) rfl (by decide +kernel) rfl rfl (Nat.le_of_ble_eq_true rfl) px_d0_8 (fun H locs hP hD hS => ?_)
  have hP : va_P (dC, dI) vwCl [(h0, .inr (5, [.ref q, .int 0, .int 0, .int 0, .int 0, .int 0])), (q, .inl (cA, 0, .inl (fun _ => 0)))] H := hP
  have hD : va_D A [(h0, .inr (5, [.ref q, .int 0, .int 0, .int 0, .int 0, .int 0])), (q, .inl (cA, 0, .inl (fun _ => 0)))] := hD
  have hP9 := hP.sub (ws' := [(h0, .inr (5, [.ref q, .int 0, .int 0, .int 0, .int 0, .int 0])), (q, .inl (cA, 0, .inl (fun _ => 0)))]) [0, 1] rfl
  have hD9 := hD.sub (ws' := [(h0, .inr (5, [.ref q, .int 0, .int 0, .int 0, .int 0, .int 0])), (q, .inl (cA, 0, .inl (fun _ => 0)))]) [0, 1] (by decide) rfl
  have hK9 := hK.sub (tys' := [(cA, .byte)]) [0] rfl
  refine W.widen (k := 1) (n := 0) (Nat.le_of_ble_eq_true rfl) (Nat.le_of_ble_eq_true rfl) ?_
  exact W.vret hx hb hr (fun t ht hW => ⟨⟨(), rfl, trivial, q, cA, by rw [ht]; exact hP9, va_K.moved hW.alike hK9, hD9⟩, hS.F ht⟩) hS.2.2 px_d0_11
set_option maxHeartbeats 4000000 in
set_option maxRecDepth 100000 in
/-- Orders() -/
theorem px_Orders_init (l : Launch) (dC : Nat → ClassId) (dI : Nat → Nat → Nat) (sz : Nat) (h0 : Nat) : Met l px_y1 px_s1 ({ frames := 1, cells := 2, slots := 246, locals := 12 }) (va_Pc [.ref h0] (fun U => U.heap.size = sz ∧ va_P (dC, dI) vwCl [(h0, .inr (1, [.null, .null, .int 0]))] U.heap ∧ va_K (dC, dI) vwCl [] U ∧ va_D (fun _ => True) [(h0, .inr (1, [.null, .null, .int 0]))] ∧ px_N U)) (va_Qv (fun (_ : Unit) => True) (fun (_ : Unit) (t : State) => va_P (dC, dI) vwCl [] t.heap ∧ va_K (dC, dI) vwCl [] t ∧ va_D (va_A [(h0, .inr (1, [.null, .null, .int 0]))] sz) []) (va_A [(h0, .inr (1, [.null, .null, .int 0]))] sz)) 2 246 (va_A [(h0, .inr (1, [.null, .null, .int 0]))] sz) := by
  refine Met.ofW (cc := prog_5_method_1_code) (maxL := 1) (ret := none) (by decide) rfl ?_
  intro p e s m args below meth c s₁ B hml hv
  obtain ⟨rfl, hsz, hP, hK, hD0, hN⟩ := hv
  have hx := B.exec
  have hb := B.bytes
  have hr := B.returns
  have htw : ∀ w ∈ px_all, w.before _ s = true := fun w h => atoms_spec (ws := px_s1) B.pre w (List.mem_cons_of_mem _ h)
  have hown : s.vm.findClass "MatroidDesk$Orders" = some m.cls := findClass_of_methodNamed B.named
  have hlocks := B.notSynchronized
  have hin : meth.name = "<init>" := (name_of_methodNamed B.named B.method).1
  subst hsz
  have hD := hD0.self (sz := s.heap.size)
  generalize hAe : va_A [(h0, .inr (1, [.null, .null, .int 0]))] s.heap.size = A at hD ⊢
  have hA : ∀ q : Nat, s.heap.size ≤ q → A q := fun q h => by rw [← hAe]; exact Or.inr h
  have hS : va_S A s.heap s.heap [] := va_S.rf
  have hP : va_P (dC, dI) vwCl [(h0, .inr (1, [.null, .null, .int 0]))] s.heap := hP
  have hl := lv_entry ([.ref h0]) (n := 1) (Nat.le_of_ble_eq_true rfl)
  rw [lg_entry_eq]
  generalize (lg_sl ([.ref h0]) ++ List.replicate (1 - (lg_sl ([.ref h0])).length) Slot.unset).toArray = ls at hl ⊢
  have hl : lv_has ls 1 [(0, .ref h0)] := hl
  refine lv_aload_n hx hb px_d1_0 rfl (lv_at hl 0 rfl) ?_
  refine W.objInit hx hb hown (htw _ px_w161) (htw _ px_w1) (htw _ px_w0) rfl (by rw [hml]; exact hl.1) rfl px_d1_1 (Nat.le_of_ble_eq_true rfl) (Nat.le_of_ble_eq_true rfl) ?_
  refine W.eq (g2 := F0 m 4 ls []) rfl ?_
  refine lv_aload_n hx hb px_d1_4 rfl (lv_at hl 0 rfl) ?_
  refine lv_bipush (v := 64) hx hb px_d1_5 (by decide) ?_
  refine va_newa (atype := .int) (ty := .int) (n := 64) (N' := 64) (a0 := (64, .inl (fun _ => 0))) hx hb (htw _ px_w2) rfl hK hP hD hS hA (fun _ => rfl) (by decide +kernel) (by decide +kernel) (by decide +kernel) (Nat.le_of_ble_eq_true rfl) (Nat.le_of_ble_eq_true rfl) px_d1_7 (fun q cA H hK hP hD hS => ?_)
  have hP : va_P (dC, dI) vwCl [(h0, .inr (1, [.null, .null, .int 0])), (q, .inl (cA, 64, .inl (fun _ => 0)))] H := hP
  have hD : va_D A [(h0, .inr (1, [.null, .null, .int 0])), (q, .inl (cA, 64, .inl (fun _ => 0)))] := hD
  have hK : va_K (dC, dI) vwCl [(cA, .int)] s := hK
  refine W.widen (k := 1) (n := 64) (Nat.le_of_ble_eq_true rfl) (Nat.le_of_ble_eq_true rfl) ?_
  refine va_put (D := (dC, dI)) (ci := 1) (v := .ref q) (ty := (.array .int)) (C := "MatroidDesk$Orders") (T := px_T1) (N := 3) hx hb htw px_in1 px_ty1 px_tyok1 px_nm1 hown hK hP hD hS 0 rfl rfl 0 (by decide) (htw _ px_w162) (fun _ h9 => h9) rfl (by decide +kernel) rfl rfl (Nat.le_of_ble_eq_true rfl) px_d1_9 (fun H locs hP hD hS => ?_)
  have hP : va_P (dC, dI) vwCl [(h0, .inr (1, [.ref q, .null, .int 0])), (q, .inl (cA, 64, .inl (fun _ => 0)))] H := hP
  have hD : va_D A [(h0, .inr (1, [.ref q, .null, .int 0])), (q, .inl (cA, 64, .inl (fun _ => 0)))] := hD
  refine lv_aload_n hx hb px_d1_12 rfl (lv_at hl 0 rfl) ?_
  refine lv_sipush (v := 182) hx hb px_d1_13 (by decide) ?_
  refine va_newa (atype := .int) (ty := .int) (n := 182) (N' := 182) (a0 := (182, .inl (fun _ => 0))) hx hb (htw _ px_w2) rfl hK hP hD hS hA (fun _ => rfl) (by decide +kernel) (by decide +kernel) (by decide +kernel) (Nat.le_of_ble_eq_true rfl) (Nat.le_of_ble_eq_true rfl) px_d1_16 (fun q_1 cA_1 H hK hP hD hS => ?_)
  have hP : va_P (dC, dI) vwCl [(h0, .inr (1, [.ref q, .null, .int 0])), (q, .inl (cA, 64, .inl (fun _ => 0))), (q_1, .inl (cA_1, 182, .inl (fun _ => 0)))] H := hP
  have hD : va_D A [(h0, .inr (1, [.ref q, .null, .int 0])), (q, .inl (cA, 64, .inl (fun _ => 0))), (q_1, .inl (cA_1, 182, .inl (fun _ => 0)))] := hD
  have hK : va_K (dC, dI) vwCl [(cA, .int), (cA_1, .int)] s := hK
  refine W.widen (k := 2) (n := 246) (Nat.le_of_ble_eq_true rfl) (Nat.le_of_ble_eq_true rfl) ?_
  refine va_putF (D := (dC, dI)) (ci := 1) (v := .ref q_1) (ty := (.array .int)) (C := "MatroidDesk$Orders") (T := px_T1) (N := 3) hx hb htw px_in1 px_ty1 px_tyok1 px_nm1 hown hK hP hD hS 0 rfl rfl 1 (by decide) (htw _ px_w163) (fun _ h9 => h9) rfl hin rfl (by decide +kernel) rfl rfl (Nat.le_of_ble_eq_true rfl) px_d1_18 (fun H locs hP hD hS => ?_)
  have hP : va_P (dC, dI) vwCl [(h0, .inr (1, [.ref q, .ref q_1, .int 0])), (q, .inl (cA, 64, .inl (fun _ => 0))), (q_1, .inl (cA_1, 182, .inl (fun _ => 0)))] H := hP
  have hD : va_D A [(h0, .inr (1, [.ref q, .ref q_1, .int 0])), (q, .inl (cA, 64, .inl (fun _ => 0))), (q_1, .inl (cA_1, 182, .inl (fun _ => 0)))] := hD
  refine lv_aload_n hx hb px_d1_21 rfl (lv_at hl 0 rfl) ?_
  refine va_get (D := (dC, dI)) (ci := 1) (v := .ref q) (C := "MatroidDesk$Orders") (T := px_T1) (N := 3) hx hb htw px_in1 hown hK hP 0 rfl rfl 0 (by decide) (htw _ px_w162) (fun _ h9 => h9) rfl px_d1_22 ?_
  refine lv_iconst (v := 1) hx hb px_d1_25 (by decide) ?_
  refine lv_iconst (v := 0) hx hb px_d1_26 (by decide) ?_
  refine va_iast hx hb hK hP hD hS 1 0 rfl rfl (show vp_in (nI 1) 64 from vp_in_nI (by decide) (by decide)) px_d1_27 (fun H locs hP hD hS => ?_)
  have hP : va_P (dC, dI) vwCl [(h0, .inr (1, [.ref q, .ref q_1, .int 0])), (q, .inl (cA, 64, .inl (upd (fun _ => 0) (Int32.toNatClampNeg 1) 0))), (q_1, .inl (cA_1, 182, .inl (fun _ => 0)))] H := hP
  have hD : va_D A [(h0, .inr (1, [.ref q, .ref q_1, .int 0])), (q, .inl (cA, 64, .inl (upd (fun _ => 0) (Int32.toNatClampNeg 1) 0))), (q_1, .inl (cA_1, 182, .inl (fun _ => 0)))] := hD
  refine lv_aload_n hx hb px_d1_28 rfl (lv_at hl 0 rfl) ?_
  refine va_get (D := (dC, dI)) (ci := 1) (v := .ref q_1) (C := "MatroidDesk$Orders") (T := px_T1) (N := 3) hx hb htw px_in1 hown hK hP 0 rfl rfl 1 (by decide) (htw _ px_w163) (fun _ h9 => h9) rfl px_d1_29 ?_
  refine lv_iconst (v := 1) hx hb px_d1_32 (by decide) ?_
  refine lv_iconst (v := 1) hx hb px_d1_33 (by decide) ?_
  refine va_iast hx hb hK hP hD hS 2 1 rfl rfl (show vp_in (nI 1) 182 from vp_in_nI (by decide) (by decide)) px_d1_34 (fun H locs hP hD hS => ?_)
  have hP : va_P (dC, dI) vwCl [(h0, .inr (1, [.ref q, .ref q_1, .int 0])), (q, .inl (cA, 64, .inl (upd (fun _ => 0) (Int32.toNatClampNeg 1) 0))), (q_1, .inl (cA_1, 182, .inl (upd (fun _ => 0) (Int32.toNatClampNeg 1) 1)))] H := hP
  have hD : va_D A [(h0, .inr (1, [.ref q, .ref q_1, .int 0])), (q, .inl (cA, 64, .inl (upd (fun _ => 0) (Int32.toNatClampNeg 1) 0))), (q_1, .inl (cA_1, 182, .inl (upd (fun _ => 0) (Int32.toNatClampNeg 1) 1)))] := hD
  refine lv_aload_n hx hb px_d1_35 rfl (lv_at hl 0 rfl) ?_
  refine lv_iconst (v := 0) hx hb px_d1_36 (by decide) ?_
  refine va_put (D := (dC, dI)) (ci := 1) (v := .int 0) (ty := .int) (C := "MatroidDesk$Orders") (T := px_T1) (N := 3) hx hb htw px_in1 px_ty1 px_tyok1 px_nm1 hown hK hP hD hS 0 rfl rfl 2 (by decide) (htw _ px_w164) (fun _ h9 => h9) rfl (by decide +kernel) rfl rfl (Nat.le_of_ble_eq_true rfl) px_d1_37 (fun H locs hP hD hS => ?_)
  have hP : va_P (dC, dI) vwCl [(h0, .inr (1, [.ref q, .ref q_1, .int 0])), (q, .inl (cA, 64, .inl (upd (fun _ => 0) (Int32.toNatClampNeg 1) 0))), (q_1, .inl (cA_1, 182, .inl (upd (fun _ => 0) (Int32.toNatClampNeg 1) 1)))] H := hP
  have hD : va_D A [(h0, .inr (1, [.ref q, .ref q_1, .int 0])), (q, .inl (cA, 64, .inl (upd (fun _ => 0) (Int32.toNatClampNeg 1) 0))), (q_1, .inl (cA_1, 182, .inl (upd (fun _ => 0) (Int32.toNatClampNeg 1) 1)))] := hD
  have hP9 := hP.sub (ws' := []) [] rfl
  have hD9 := hD.sub (ws' := []) [] (by decide) rfl
  have hK9 := hK.sub (tys' := []) [] rfl
  refine W.widen (k := 2) (n := 246) (Nat.le_of_ble_eq_true rfl) (Nat.le_of_ble_eq_true rfl) ?_
  exact W.vret hx hb hr (fun t ht hW => ⟨⟨(), rfl, trivial, by rw [ht]; exact hP9, va_K.moved hW.alike hK9, hD9⟩, hS.F ht⟩) hS.2.2 px_d1_40
set_option maxHeartbeats 4000000 in
set_option maxRecDepth 100000 in
/-- Wide() -/
theorem px_Wide_init (l : Launch) (dC : Nat → ClassId) (dI : Nat → Nat → Nat) (sz : Nat) (h0 : Nat) : Met l px_y2 px_s2 ({ frames := 1, cells := 0, slots := 0, locals := 12 }) (va_Pc [.ref h0] (fun U => U.heap.size = sz ∧ va_P (dC, dI) vwCl [(h0, .inr (3, [.long 0, .long 0, .long 0]))] U.heap ∧ va_K (dC, dI) vwCl [] U ∧ va_D (fun _ => True) [(h0, .inr (3, [.long 0, .long 0, .long 0]))] ∧ px_N U)) (va_Qv (fun (_ : Unit) => True) (fun (_ : Unit) (t : State) => va_P (dC, dI) vwCl [(h0, .inr (3, [.long 0, .long 0, .long 0]))] t.heap ∧ va_K (dC, dI) vwCl [] t ∧ va_D (va_A [(h0, .inr (3, [.long 0, .long 0, .long 0]))] sz) [(h0, .inr (3, [.long 0, .long 0, .long 0]))]) (va_A [(h0, .inr (3, [.long 0, .long 0, .long 0]))] sz)) 0 0 (va_A [(h0, .inr (3, [.long 0, .long 0, .long 0]))] sz) := by
  refine Met.ofW (cc := prog_12_method_1_code) (maxL := 1) (ret := none) (by decide) rfl ?_
  intro p e s m args below meth c s₁ B hml hv
  obtain ⟨rfl, hsz, hP, hK, hD0, hN⟩ := hv
  have hx := B.exec
  have hb := B.bytes
  have hr := B.returns
  have htw : ∀ w ∈ px_all, w.before _ s = true := fun w h => atoms_spec (ws := px_s2) B.pre w (List.mem_cons_of_mem _ h)
  have hown : s.vm.findClass "MatroidDesk$Wide" = some m.cls := findClass_of_methodNamed B.named
  have hlocks := B.notSynchronized
  have hin : meth.name = "<init>" := (name_of_methodNamed B.named B.method).1
  subst hsz
  have hD := hD0.self (sz := s.heap.size)
  generalize hAe : va_A [(h0, .inr (3, [.long 0, .long 0, .long 0]))] s.heap.size = A at hD ⊢
  have hA : ∀ q : Nat, s.heap.size ≤ q → A q := fun q h => by rw [← hAe]; exact Or.inr h
  have hS : va_S A s.heap s.heap [] := va_S.rf
  have hP : va_P (dC, dI) vwCl [(h0, .inr (3, [.long 0, .long 0, .long 0]))] s.heap := hP
  have hl := lv_entry ([.ref h0]) (n := 1) (Nat.le_of_ble_eq_true rfl)
  rw [lg_entry_eq]
  generalize (lg_sl ([.ref h0]) ++ List.replicate (1 - (lg_sl ([.ref h0])).length) Slot.unset).toArray = ls at hl ⊢
  have hl : lv_has ls 1 [(0, .ref h0)] := hl
  refine lv_aload_n hx hb px_d2_0 rfl (lv_at hl 0 rfl) ?_
  refine W.objInit hx hb hown (htw _ px_w167) (htw _ px_w1) (htw _ px_w0) rfl (by rw [hml]; exact hl.1) rfl px_d2_1 (Nat.le_of_ble_eq_true rfl) (Nat.le_of_ble_eq_true rfl) ?_
  refine W.eq (g2 := F0 m 4 ls []) rfl ?_
  have hP9 := hP.sub (ws' := [(h0, .inr (3, [.long 0, .long 0, .long 0]))]) [0] rfl
  have hD9 := hD.sub (ws' := [(h0, .inr (3, [.long 0, .long 0, .long 0]))]) [0] (by decide) rfl
  have hK9 := hK.sub (tys' := []) [] rfl
  refine W.widen (k := 0) (n := 0) (Nat.le_of_ble_eq_true rfl) (Nat.le_of_ble_eq_true rfl) ?_
  exact W.vret hx hb hr (fun t ht hW => ⟨⟨(), rfl, trivial, by rw [ht]; exact hP9, va_K.moved hW.alike hK9, hD9⟩, hS.F ht⟩) hS.2.2 px_d2_4
set_option maxHeartbeats 4000000 in
set_option maxRecDepth 100000 in
/-- Minors(orders) -/
theorem px_Minors_init (l : Launch) (dC : Nat → ClassId) (dI : Nat → Nat → Nat) (sz : Nat) (h0 : Nat) (o : Nat) : Met l px_y3 px_s3 ({ frames := 2, cells := 7, slots := 108, locals := 32 }) (va_Pc [.ref h0, .ref o] (fun U => U.heap.size = sz ∧ va_P (dC, dI) vwCl [(h0, .inr (2, [.null, .null, .null, .null, .null, .null, .null, .null, .int 0, .int 0, .int 0, .null]))] U.heap ∧ va_K (dC, dI) vwCl [] U ∧ va_D (fun _ => True) [(h0, .inr (2, [.null, .null, .null, .null, .null, .null, .null, .null, .int 0, .int 0, .int 0, .null]))] ∧ px_N U)) (va_Qv (fun (_ : Unit) => True) (fun (_ : Unit) (t : State) => va_P (dC, dI) vwCl [] t.heap ∧ va_K (dC, dI) vwCl [] t ∧ va_D (va_A [(h0, .inr (2, [.null, .null, .null, .null, .null, .null, .null, .null, .int 0, .int 0, .int 0, .null]))] sz) []) (va_A [(h0, .inr (2, [.null, .null, .null, .null, .null, .null, .null, .null, .int 0, .int 0, .int 0, .null]))] sz)) 7 108 (va_A [(h0, .inr (2, [.null, .null, .null, .null, .null, .null, .null, .null, .int 0, .int 0, .int 0, .null]))] sz) := by
  refine Met.ofW (cc := prog_4_method_1_code) (maxL := 2) (ret := none) (by decide) rfl ?_
  intro p e s m args below meth c s₁ B hml hv
  obtain ⟨rfl, hsz, hP, hK, hD0, hN⟩ := hv
  have hx := B.exec
  have hb := B.bytes
  have hr := B.returns
  have htw : ∀ w ∈ px_all, w.before _ s = true := fun w h => atoms_spec (ws := px_s3) B.pre w (List.mem_cons_of_mem _ h)
  have hown : s.vm.findClass "MatroidDesk$Minors" = some m.cls := findClass_of_methodNamed B.named
  have hlocks := B.notSynchronized
  have hin : meth.name = "<init>" := (name_of_methodNamed B.named B.method).1
  subst hsz
  have hD := hD0.self (sz := s.heap.size)
  generalize hAe : va_A [(h0, .inr (2, [.null, .null, .null, .null, .null, .null, .null, .null, .int 0, .int 0, .int 0, .null]))] s.heap.size = A at hD ⊢
  have hA : ∀ q : Nat, s.heap.size ≤ q → A q := fun q h => by rw [← hAe]; exact Or.inr h
  have hS : va_S A s.heap s.heap [] := va_S.rf
  have hP : va_P (dC, dI) vwCl [(h0, .inr (2, [.null, .null, .null, .null, .null, .null, .null, .null, .int 0, .int 0, .int 0, .null]))] s.heap := hP
  have hl := lv_entry ([.ref h0, .ref o]) (n := 2) (Nat.le_of_ble_eq_true rfl)
  rw [lg_entry_eq]
  generalize (lg_sl ([.ref h0, .ref o]) ++ List.replicate (2 - (lg_sl ([.ref h0, .ref o])).length) Slot.unset).toArray = ls at hl ⊢
  have hl : lv_has ls 2 [(0, .ref h0), (1, .ref o)] := hl
  refine lv_aload_n hx hb px_d3_0 rfl (lv_at hl 0 rfl) ?_
  refine W.objInit hx hb hown (htw _ px_w170) (htw _ px_w1) (htw _ px_w0) rfl (by rw [hml]; exact hl.1) rfl px_d3_1 (Nat.le_of_ble_eq_true rfl) (Nat.le_of_ble_eq_true rfl) ?_
  refine W.eq (g2 := F0 m 4 ls []) rfl ?_
  refine lv_aload_n hx hb px_d3_4 rfl (lv_at hl 0 rfl) ?_
  refine lv_aload_n hx hb px_d3_5 rfl (lv_at hl 1 rfl) ?_
  refine va_putF (D := (dC, dI)) (ci := 2) (v := .ref o) (ty := (.object "MatroidDesk$Orders")) (C := "MatroidDesk$Minors") (T := px_T2) (N := 12) hx hb htw px_in2 px_ty2 px_tyok2 px_nm2 hown hK hP hD hS 0 rfl rfl 0 (by decide) (htw _ px_w171) (fun _ h9 => h9) rfl hin rfl (by decide +kernel) rfl rfl (Nat.le_of_ble_eq_true rfl) px_d3_6 (fun H locs hP hD hS => ?_)
  have hP : va_P (dC, dI) vwCl [(h0, .inr (2, [.ref o, .null, .null, .null, .null, .null, .null, .null, .int 0, .int 0, .int 0, .null]))] H := hP
  have hD : va_D A [(h0, .inr (2, [.ref o, .null, .null, .null, .null, .null, .null, .null, .int 0, .int 0, .int 0, .null]))] := hD
  refine lv_aload_n hx hb px_d3_9 rfl (lv_at hl 0 rfl) ?_
  refine va_new (ci := 3) (fs := [.long 0, .long 0, .long 0]) (C := "MatroidDesk$Wide") (T := px_T3) (N := 3) hx hb htw px_in3 px_ty3 px_tyok3 hown (htw _ px_w172) (htw _ px_w42) (htw _ px_w41) hK hP hD hS hA rfl px_df3 (Nat.le_of_ble_eq_true rfl) (Nat.le_of_ble_eq_true rfl) px_d3_10 (fun q H hP hD hS => ?_)
  have hP : va_P (dC, dI) vwCl [(h0, .inr (2, [.ref o, .null, .null, .null, .null, .null, .null, .null, .int 0, .int 0, .int 0, .null])), (q, .inr (3, [.long 0, .long 0, .long 0]))] H := hP
  have hD : va_D A [(h0, .inr (2, [.ref o, .null, .null, .null, .null, .null, .null, .null, .int 0, .int 0, .int 0, .null])), (q, .inr (3, [.long 0, .long 0, .long 0]))] := hD
  refine W.widen (k := 1) (n := 3) (Nat.le_of_ble_eq_true rfl) (Nat.le_of_ble_eq_true rfl) ?_
  refine lv_dup hx hb px_d3_13 rfl ?_
  have hPc := hP.sub (ws' := [(q, .inr (3, [.long 0, .long 0, .long 0]))]) [1] rfl
  have hDc := hD.sub (ws' := [(q, .inr (3, [.long 0, .long 0, .long 0]))]) [1] (by decide) rfl
  have hKc := hK.sub (tys' := []) [] rfl
  have hFc := va_free (wc := [(q, .inr (3, [.long 0, .long 0, .long 0]))]) hD hS hA [1] rfl
  refine va_callv (va_runIN (As := []) (rest := [.ref q, .ref h0]) ⟨hx, hb, hml, hown, htw⟩ (px_Wide_init l dC dI H.size q) ⟨(va_cnB 0 htw px_g2 rfl rfl rfl (hN.2.1 ("MatroidDesk$Minors", 15, px_y2, "MatroidDesk") (by decide)) (htw _ px_w41) (by decide +kernel) ⟨Nat.le_of_ble_eq_true rfl, Nat.le_of_ble_eq_true rfl⟩), rfl, (htw _ px_w166)⟩ ⟨fun a U g mk q => by obtain ⟨q0, q1, qP, qK, qD, qN⟩ := q; exact ⟨q0, q1, qP, va_K.moved (u := U) (U := U.calling g mk a) (Vm.Alike.refl U.vm) qK, qD, qN.same rfl⟩, fun U hU hW => ⟨rfl, by rw [hU], by rw [hU]; exact hPc, va_K.moved hW.alike hKc, hDc.weaken (fun _ _ _ _ => trivial), hN.warm hW⟩⟩ rfl rfl hl.1 rfl (lv_room (Nat.le_of_ble_eq_true rfl)) px_d3_14 ⟨(Nat.le_of_ble_eq_true rfl), (Nat.le_of_ble_eq_true rfl)⟩) hS (fun q _ h => hFc q h) hFc (fun u t H1 locs ht hvm hw_14 hB hz1 hk1 hS => ?_)
  obtain ⟨hP1, hK1, hD1⟩ := hB
  rw [ht] at hP1
  have hK1 := va_K.moved hvm.symm hK1
  obtain ⟨hP, hD⟩ := va_join (wr := [(h0, .inr (2, [.ref o, .null, .null, .null, .null, .null, .null, .null, .int 0, .int 0, .int 0, .null]))]) (w1 := [(q, .inr (3, [.long 0, .long 0, .long 0]))]) hP hD [1] [0] rfl rfl (by decide) (by decide) hk1 hFc hP1 hD1
  generalize H1 = H at hP hS ⊢
  have hP : va_P (dC, dI) vwCl [(h0, .inr (2, [.ref o, .null, .null, .null, .null, .null, .null, .null, .int 0, .int 0, .int 0, .null])), (q, .inr (3, [.long 0, .long 0, .long 0]))] H := hP
  have hD : va_D A [(h0, .inr (2, [.ref o, .null, .null, .null, .null, .null, .null, .null, .int 0, .int 0, .int 0, .null])), (q, .inr (3, [.long 0, .long 0, .long 0]))] := hD
  refine va_putF (D := (dC, dI)) (ci := 2) (v := .ref q) (ty := (.object "MatroidDesk$Wide")) (C := "MatroidDesk$Minors") (T := px_T2) (N := 12) hx hb htw px_in2 px_ty2 px_tyok2 px_nm2 hown hK hP hD hS 0 rfl rfl 1 (by decide) (htw _ px_w173) (fun _ h9 => h9) rfl hin rfl (by decide +kernel) rfl rfl (Nat.le_of_ble_eq_true rfl) px_d3_17 (fun H locs hP hD hS => ?_)
  have hP : va_P (dC, dI) vwCl [(h0, .inr (2, [.ref o, .ref q, .null, .null, .null, .null, .null, .null, .int 0, .int 0, .int 0, .null])), (q, .inr (3, [.long 0, .long 0, .long 0]))] H := hP
  have hD : va_D A [(h0, .inr (2, [.ref o, .ref q, .null, .null, .null, .null, .null, .null, .int 0, .int 0, .int 0, .null])), (q, .inr (3, [.long 0, .long 0, .long 0]))] := hD
  refine lv_aload_n hx hb px_d3_20 rfl (lv_at hl 0 rfl) ?_
  refine va_new (ci := 3) (fs := [.long 0, .long 0, .long 0]) (C := "MatroidDesk$Wide") (T := px_T3) (N := 3) hx hb htw px_in3 px_ty3 px_tyok3 hown (htw _ px_w172) (htw _ px_w42) (htw _ px_w41) hK hP hD hS hA rfl px_df3 (Nat.le_of_ble_eq_true rfl) (Nat.le_of_ble_eq_true rfl) px_d3_21 (fun q_1 H hP hD hS => ?_)
  have hP : va_P (dC, dI) vwCl [(h0, .inr (2, [.ref o, .ref q, .null, .null, .null, .null, .null, .null, .int 0, .int 0, .int 0, .null])), (q, .inr (3, [.long 0, .long 0, .long 0])), (q_1, .inr (3, [.long 0, .long 0, .long 0]))] H := hP
  have hD : va_D A [(h0, .inr (2, [.ref o, .ref q, .null, .null, .null, .null, .null, .null, .int 0, .int 0, .int 0, .null])), (q, .inr (3, [.long 0, .long 0, .long 0])), (q_1, .inr (3, [.long 0, .long 0, .long 0]))] := hD
  refine W.widen (k := 2) (n := 6) (Nat.le_of_ble_eq_true rfl) (Nat.le_of_ble_eq_true rfl) ?_
  refine lv_dup hx hb px_d3_24 rfl ?_
  have hPc := hP.sub (ws' := [(q_1, .inr (3, [.long 0, .long 0, .long 0]))]) [2] rfl
  have hDc := hD.sub (ws' := [(q_1, .inr (3, [.long 0, .long 0, .long 0]))]) [2] (by decide) rfl
  have hKc := hK.sub (tys' := []) [] rfl
  have hFc := va_free (wc := [(q_1, .inr (3, [.long 0, .long 0, .long 0]))]) hD hS hA [2] rfl
  refine va_callv (va_runIN (As := []) (rest := [.ref q_1, .ref h0]) ⟨hx, hb, hml, hown, htw⟩ (px_Wide_init l dC dI H.size q_1) ⟨(va_cnB 0 htw px_g2 rfl rfl rfl (hN.2.1 ("MatroidDesk$Minors", 15, px_y2, "MatroidDesk") (by decide)) (htw _ px_w41) (by decide +kernel) ⟨Nat.le_of_ble_eq_true rfl, Nat.le_of_ble_eq_true rfl⟩), rfl, (htw _ px_w166)⟩ ⟨fun a U g mk q => by obtain ⟨q0, q1, qP, qK, qD, qN⟩ := q; exact ⟨q0, q1, qP, va_K.moved (u := U) (U := U.calling g mk a) (Vm.Alike.refl U.vm) qK, qD, qN.same rfl⟩, fun U hU hW => ⟨rfl, by rw [hU], by rw [hU]; exact hPc, va_K.moved hW.alike hKc, hDc.weaken (fun _ _ _ _ => trivial), hN.warm hW⟩⟩ rfl rfl hl.1 rfl (lv_room (Nat.le_of_ble_eq_true rfl)) px_d3_25 ⟨(Nat.le_of_ble_eq_true rfl), (Nat.le_of_ble_eq_true rfl)⟩) hS (fun q _ h => hFc q h) hFc (fun u t H1 locs ht hvm hw_25 hB hz1 hk1 hS => ?_)
  obtain ⟨hP1, hK1, hD1⟩ := hB
  rw [ht] at hP1
  have hK1 := va_K.moved hvm.symm hK1
  obtain ⟨hP, hD⟩ := va_join (wr := [(h0, .inr (2, [.ref o, .ref q, .null, .null, .null, .null, .null, .null, .int 0, .int 0, .int 0, .null])), (q, .inr (3, [.long 0, .long 0, .long 0]))]) (w1 := [(q_1, .inr (3, [.long 0, .long 0, .long 0]))]) hP hD [2] [0, 1] rfl rfl (by decide) (by decide) hk1 hFc hP1 hD1
  generalize H1 = H at hP hS ⊢
  have hP : va_P (dC, dI) vwCl [(h0, .inr (2, [.ref o, .ref q, .null, .null, .null, .null, .null, .null, .int 0, .int 0, .int 0, .null])), (q, .inr (3, [.long 0, .long 0, .long 0])), (q_1, .inr (3, [.long 0, .long 0, .long 0]))] H := hP
  have hD : va_D A [(h0, .inr (2, [.ref o, .ref q, .null, .null, .null, .null, .null, .null, .int 0, .int 0, .int 0, .null])), (q, .inr (3, [.long 0, .long 0, .long 0])), (q_1, .inr (3, [.long 0, .long 0, .long 0]))] := hD
  refine va_putF (D := (dC, dI)) (ci := 2) (v := .ref q_1) (ty := (.object "MatroidDesk$Wide")) (C := "MatroidDesk$Minors") (T := px_T2) (N := 12) hx hb htw px_in2 px_ty2 px_tyok2 px_nm2 hown hK hP hD hS 0 rfl rfl 2 (by decide) (htw _ px_w174) (fun _ h9 => h9) rfl hin rfl (by decide +kernel) rfl rfl (Nat.le_of_ble_eq_true rfl) px_d3_28 (fun H locs hP hD hS => ?_)
  have hP : va_P (dC, dI) vwCl [(h0, .inr (2, [.ref o, .ref q, .ref q_1, .null, .null, .null, .null, .null, .int 0, .int 0, .int 0, .null])), (q, .inr (3, [.long 0, .long 0, .long 0])), (q_1, .inr (3, [.long 0, .long 0, .long 0]))] H := hP
  have hD : va_D A [(h0, .inr (2, [.ref o, .ref q, .ref q_1, .null, .null, .null, .null, .null, .int 0, .int 0, .int 0, .null])), (q, .inr (3, [.long 0, .long 0, .long 0])), (q_1, .inr (3, [.long 0, .long 0, .long 0]))] := hD
  refine lv_aload_n hx hb px_d3_31 rfl (lv_at hl 0 rfl) ?_
  refine va_new (ci := 3) (fs := [.long 0, .long 0, .long 0]) (C := "MatroidDesk$Wide") (T := px_T3) (N := 3) hx hb htw px_in3 px_ty3 px_tyok3 hown (htw _ px_w172) (htw _ px_w42) (htw _ px_w41) hK hP hD hS hA rfl px_df3 (Nat.le_of_ble_eq_true rfl) (Nat.le_of_ble_eq_true rfl) px_d3_32 (fun q_2 H hP hD hS => ?_)
  have hP : va_P (dC, dI) vwCl [(h0, .inr (2, [.ref o, .ref q, .ref q_1, .null, .null, .null, .null, .null, .int 0, .int 0, .int 0, .null])), (q, .inr (3, [.long 0, .long 0, .long 0])), (q_1, .inr (3, [.long 0, .long 0, .long 0])), (q_2, .inr (3, [.long 0, .long 0, .long 0]))] H := hP
  have hD : va_D A [(h0, .inr (2, [.ref o, .ref q, .ref q_1, .null, .null, .null, .null, .null, .int 0, .int 0, .int 0, .null])), (q, .inr (3, [.long 0, .long 0, .long 0])), (q_1, .inr (3, [.long 0, .long 0, .long 0])), (q_2, .inr (3, [.long 0, .long 0, .long 0]))] := hD
  refine W.widen (k := 3) (n := 9) (Nat.le_of_ble_eq_true rfl) (Nat.le_of_ble_eq_true rfl) ?_
  refine lv_dup hx hb px_d3_35 rfl ?_
  have hPc := hP.sub (ws' := [(q_2, .inr (3, [.long 0, .long 0, .long 0]))]) [3] rfl
  have hDc := hD.sub (ws' := [(q_2, .inr (3, [.long 0, .long 0, .long 0]))]) [3] (by decide) rfl
  have hKc := hK.sub (tys' := []) [] rfl
  have hFc := va_free (wc := [(q_2, .inr (3, [.long 0, .long 0, .long 0]))]) hD hS hA [3] rfl
  refine va_callv (va_runIN (As := []) (rest := [.ref q_2, .ref h0]) ⟨hx, hb, hml, hown, htw⟩ (px_Wide_init l dC dI H.size q_2) ⟨(va_cnB 0 htw px_g2 rfl rfl rfl (hN.2.1 ("MatroidDesk$Minors", 15, px_y2, "MatroidDesk") (by decide)) (htw _ px_w41) (by decide +kernel) ⟨Nat.le_of_ble_eq_true rfl, Nat.le_of_ble_eq_true rfl⟩), rfl, (htw _ px_w166)⟩ ⟨fun a U g mk q => by obtain ⟨q0, q1, qP, qK, qD, qN⟩ := q; exact ⟨q0, q1, qP, va_K.moved (u := U) (U := U.calling g mk a) (Vm.Alike.refl U.vm) qK, qD, qN.same rfl⟩, fun U hU hW => ⟨rfl, by rw [hU], by rw [hU]; exact hPc, va_K.moved hW.alike hKc, hDc.weaken (fun _ _ _ _ => trivial), hN.warm hW⟩⟩ rfl rfl hl.1 rfl (lv_room (Nat.le_of_ble_eq_true rfl)) px_d3_36 ⟨(Nat.le_of_ble_eq_true rfl), (Nat.le_of_ble_eq_true rfl)⟩) hS (fun q _ h => hFc q h) hFc (fun u t H1 locs ht hvm hw_36 hB hz1 hk1 hS => ?_)
  obtain ⟨hP1, hK1, hD1⟩ := hB
  rw [ht] at hP1
  have hK1 := va_K.moved hvm.symm hK1
  obtain ⟨hP, hD⟩ := va_join (wr := [(h0, .inr (2, [.ref o, .ref q, .ref q_1, .null, .null, .null, .null, .null, .int 0, .int 0, .int 0, .null])), (q, .inr (3, [.long 0, .long 0, .long 0])), (q_1, .inr (3, [.long 0, .long 0, .long 0]))]) (w1 := [(q_2, .inr (3, [.long 0, .long 0, .long 0]))]) hP hD [3] [0, 1, 2] rfl rfl (by decide) (by decide) hk1 hFc hP1 hD1
  generalize H1 = H at hP hS ⊢
  have hP : va_P (dC, dI) vwCl [(h0, .inr (2, [.ref o, .ref q, .ref q_1, .null, .null, .null, .null, .null, .int 0, .int 0, .int 0, .null])), (q, .inr (3, [.long 0, .long 0, .long 0])), (q_1, .inr (3, [.long 0, .long 0, .long 0])), (q_2, .inr (3, [.long 0, .long 0, .long 0]))] H := hP
  have hD : va_D A [(h0, .inr (2, [.ref o, .ref q, .ref q_1, .null, .null, .null, .null, .null, .int 0, .int 0, .int 0, .null])), (q, .inr (3, [.long 0, .long 0, .long 0])), (q_1, .inr (3, [.long 0, .long 0, .long 0])), (q_2, .inr (3, [.long 0, .long 0, .long 0]))] := hD
  refine va_putF (D := (dC, dI)) (ci := 2) (v := .ref q_2) (ty := (.object "MatroidDesk$Wide")) (C := "MatroidDesk$Minors") (T := px_T2) (N := 12) hx hb htw px_in2 px_ty2 px_tyok2 px_nm2 hown hK hP hD hS 0 rfl rfl 3 (by decide) (htw _ px_w175) (fun _ h9 => h9) rfl hin rfl (by decide +kernel) rfl rfl (Nat.le_of_ble_eq_true rfl) px_d3_39 (fun H locs hP hD hS => ?_)
  have hP : va_P (dC, dI) vwCl [(h0, .inr (2, [.ref o, .ref q, .ref q_1, .ref q_2, .null, .null, .null, .null, .int 0, .int 0, .int 0, .null])), (q, .inr (3, [.long 0, .long 0, .long 0])), (q_1, .inr (3, [.long 0, .long 0, .long 0])), (q_2, .inr (3, [.long 0, .long 0, .long 0]))] H := hP
  have hD : va_D A [(h0, .inr (2, [.ref o, .ref q, .ref q_1, .ref q_2, .null, .null, .null, .null, .int 0, .int 0, .int 0, .null])), (q, .inr (3, [.long 0, .long 0, .long 0])), (q_1, .inr (3, [.long 0, .long 0, .long 0])), (q_2, .inr (3, [.long 0, .long 0, .long 0]))] := hD
  refine lv_aload_n hx hb px_d3_42 rfl (lv_at hl 0 rfl) ?_
  refine va_new (ci := 3) (fs := [.long 0, .long 0, .long 0]) (C := "MatroidDesk$Wide") (T := px_T3) (N := 3) hx hb htw px_in3 px_ty3 px_tyok3 hown (htw _ px_w172) (htw _ px_w42) (htw _ px_w41) hK hP hD hS hA rfl px_df3 (Nat.le_of_ble_eq_true rfl) (Nat.le_of_ble_eq_true rfl) px_d3_43 (fun q_3 H hP hD hS => ?_)
  have hP : va_P (dC, dI) vwCl [(h0, .inr (2, [.ref o, .ref q, .ref q_1, .ref q_2, .null, .null, .null, .null, .int 0, .int 0, .int 0, .null])), (q, .inr (3, [.long 0, .long 0, .long 0])), (q_1, .inr (3, [.long 0, .long 0, .long 0])), (q_2, .inr (3, [.long 0, .long 0, .long 0])), (q_3, .inr (3, [.long 0, .long 0, .long 0]))] H := hP
  have hD : va_D A [(h0, .inr (2, [.ref o, .ref q, .ref q_1, .ref q_2, .null, .null, .null, .null, .int 0, .int 0, .int 0, .null])), (q, .inr (3, [.long 0, .long 0, .long 0])), (q_1, .inr (3, [.long 0, .long 0, .long 0])), (q_2, .inr (3, [.long 0, .long 0, .long 0])), (q_3, .inr (3, [.long 0, .long 0, .long 0]))] := hD
  refine W.widen (k := 4) (n := 12) (Nat.le_of_ble_eq_true rfl) (Nat.le_of_ble_eq_true rfl) ?_
  refine lv_dup hx hb px_d3_46 rfl ?_
  have hPc := hP.sub (ws' := [(q_3, .inr (3, [.long 0, .long 0, .long 0]))]) [4] rfl
  have hDc := hD.sub (ws' := [(q_3, .inr (3, [.long 0, .long 0, .long 0]))]) [4] (by decide) rfl
  have hKc := hK.sub (tys' := []) [] rfl
  have hFc := va_free (wc := [(q_3, .inr (3, [.long 0, .long 0, .long 0]))]) hD hS hA [4] rfl
  refine va_callv (va_runIN (As := []) (rest := [.ref q_3, .ref h0]) ⟨hx, hb, hml, hown, htw⟩ (px_Wide_init l dC dI H.size q_3) ⟨(va_cnB 0 htw px_g2 rfl rfl rfl (hN.2.1 ("MatroidDesk$Minors", 15, px_y2, "MatroidDesk") (by decide)) (htw _ px_w41) (by decide +kernel) ⟨Nat.le_of_ble_eq_true rfl, Nat.le_of_ble_eq_true rfl⟩), rfl, (htw _ px_w166)⟩ ⟨fun a U g mk q => by obtain ⟨q0, q1, qP, qK, qD, qN⟩ := q; exact ⟨q0, q1, qP, va_K.moved (u := U) (U := U.calling g mk a) (Vm.Alike.refl U.vm) qK, qD, qN.same rfl⟩, fun U hU hW => ⟨rfl, by rw [hU], by rw [hU]; exact hPc, va_K.moved hW.alike hKc, hDc.weaken (fun _ _ _ _ => trivial), hN.warm hW⟩⟩ rfl rfl hl.1 rfl (lv_room (Nat.le_of_ble_eq_true rfl)) px_d3_47 ⟨(Nat.le_of_ble_eq_true rfl), (Nat.le_of_ble_eq_true rfl)⟩) hS (fun q _ h => hFc q h) hFc (fun u t H1 locs ht hvm hw_47 hB hz1 hk1 hS => ?_)
  obtain ⟨hP1, hK1, hD1⟩ := hB
  rw [ht] at hP1
  have hK1 := va_K.moved hvm.symm hK1
  obtain ⟨hP, hD⟩ := va_join (wr := [(h0, .inr (2, [.ref o, .ref q, .ref q_1, .ref q_2, .null, .null, .null, .null, .int 0, .int 0, .int 0, .null])), (q, .inr (3, [.long 0, .long 0, .long 0])), (q_1, .inr (3, [.long 0, .long 0, .long 0])), (q_2, .inr (3, [.long 0, .long 0, .long 0]))]) (w1 := [(q_3, .inr (3, [.long 0, .long 0, .long 0]))]) hP hD [4] [0, 1, 2, 3] rfl rfl (by decide) (by decide) hk1 hFc hP1 hD1
  generalize H1 = H at hP hS ⊢
  have hP : va_P (dC, dI) vwCl [(h0, .inr (2, [.ref o, .ref q, .ref q_1, .ref q_2, .null, .null, .null, .null, .int 0, .int 0, .int 0, .null])), (q, .inr (3, [.long 0, .long 0, .long 0])), (q_1, .inr (3, [.long 0, .long 0, .long 0])), (q_2, .inr (3, [.long 0, .long 0, .long 0])), (q_3, .inr (3, [.long 0, .long 0, .long 0]))] H := hP
  have hD : va_D A [(h0, .inr (2, [.ref o, .ref q, .ref q_1, .ref q_2, .null, .null, .null, .null, .int 0, .int 0, .int 0, .null])), (q, .inr (3, [.long 0, .long 0, .long 0])), (q_1, .inr (3, [.long 0, .long 0, .long 0])), (q_2, .inr (3, [.long 0, .long 0, .long 0])), (q_3, .inr (3, [.long 0, .long 0, .long 0]))] := hD
  refine va_putF (D := (dC, dI)) (ci := 2) (v := .ref q_3) (ty := (.object "MatroidDesk$Wide")) (C := "MatroidDesk$Minors") (T := px_T2) (N := 12) hx hb htw px_in2 px_ty2 px_tyok2 px_nm2 hown hK hP hD hS 0 rfl rfl 4 (by decide) (htw _ px_w176) (fun _ h9 => h9) rfl hin rfl (by decide +kernel) rfl rfl (Nat.le_of_ble_eq_true rfl) px_d3_50 (fun H locs hP hD hS => ?_)
  have hP : va_P (dC, dI) vwCl [(h0, .inr (2, [.ref o, .ref q, .ref q_1, .ref q_2, .ref q_3, .null, .null, .null, .int 0, .int 0, .int 0, .null])), (q, .inr (3, [.long 0, .long 0, .long 0])), (q_1, .inr (3, [.long 0, .long 0, .long 0])), (q_2, .inr (3, [.long 0, .long 0, .long 0])), (q_3, .inr (3, [.long 0, .long 0, .long 0]))] H := hP
  have hD : va_D A [(h0, .inr (2, [.ref o, .ref q, .ref q_1, .ref q_2, .ref q_3, .null, .null, .null, .int 0, .int 0, .int 0, .null])), (q, .inr (3, [.long 0, .long 0, .long 0])), (q_1, .inr (3, [.long 0, .long 0, .long 0])), (q_2, .inr (3, [.long 0, .long 0, .long 0])), (q_3, .inr (3, [.long 0, .long 0, .long 0]))] := hD
  refine lv_aload_n hx hb px_d3_53 rfl (lv_at hl 0 rfl) ?_
  refine lv_bipush (v := 32) hx hb px_d3_54 (by decide) ?_
  refine va_newa (atype := .long) (ty := .long) (n := 32) (N' := 32) (a0 := (32, .inr (.inl (fun _ => 0)))) hx hb (htw _ px_w4) rfl hK hP hD hS hA (fun _ => rfl) (by decide +kernel) (by decide +kernel) (by decide +kernel) (Nat.le_of_ble_eq_true rfl) (Nat.le_of_ble_eq_true rfl) px_d3_56 (fun q_4 cA H hK hP hD hS => ?_)
  have hP : va_P (dC, dI) vwCl [(h0, .inr (2, [.ref o, .ref q, .ref q_1, .ref q_2, .ref q_3, .null, .null, .null, .int 0, .int 0, .int 0, .null])), (q, .inr (3, [.long 0, .long 0, .long 0])), (q_1, .inr (3, [.long 0, .long 0, .long 0])), (q_2, .inr (3, [.long 0, .long 0, .long 0])), (q_3, .inr (3, [.long 0, .long 0, .long 0])), (q_4, .inl (cA, 32, .inr (.inl (fun _ => 0))))] H := hP
  have hD : va_D A [(h0, .inr (2, [.ref o, .ref q, .ref q_1, .ref q_2, .ref q_3, .null, .null, .null, .int 0, .int 0, .int 0, .null])), (q, .inr (3, [.long 0, .long 0, .long 0])), (q_1, .inr (3, [.long 0, .long 0, .long 0])), (q_2, .inr (3, [.long 0, .long 0, .long 0])), (q_3, .inr (3, [.long 0, .long 0, .long 0])), (q_4, .inl (cA, 32, .inr (.inl (fun _ => 0))))] := hD
  have hK : va_K (dC, dI) vwCl [(cA, .long)] s := hK
  refine W.widen (k := 5) (n := 44) (Nat.le_of_ble_eq_true rfl) (Nat.le_of_ble_eq_true rfl) ?_
  refine va_put (D := (dC, dI)) (ci := 2) (v := .ref q_4) (ty := (.array .long)) (C := "MatroidDesk$Minors") (T := px_T2) (N := 12) hx hb htw px_in2 px_ty2 px_tyok2 px_nm2 hown hK hP hD hS 0 rfl rfl 5 (by decide) (htw _ px_w177) (fun _ h9 => h9) rfl (by decide +kernel) rfl rfl (Nat.le_of_ble_eq_true rfl) px_d3_58 (fun H locs hP hD hS => ?_)
  have hP : va_P (dC, dI) vwCl [(h0, .inr (2, [.ref o, .ref q, .ref q_1, .ref q_2, .ref q_3, .ref q_4, .null, .null, .int 0, .int 0, .int 0, .null])), (q, .inr (3, [.long 0, .long 0, .long 0])), (q_1, .inr (3, [.long 0, .long 0, .long 0])), (q_2, .inr (3, [.long 0, .long 0, .long 0])), (q_3, .inr (3, [.long 0, .long 0, .long 0])), (q_4, .inl (cA, 32, .inr (.inl (fun _ => 0))))] H := hP
  have hD : va_D A [(h0, .inr (2, [.ref o, .ref q, .ref q_1, .ref q_2, .ref q_3, .ref q_4, .null, .null, .int 0, .int 0, .int 0, .null])), (q, .inr (3, [.long 0, .long 0, .long 0])), (q_1, .inr (3, [.long 0, .long 0, .long 0])), (q_2, .inr (3, [.long 0, .long 0, .long 0])), (q_3, .inr (3, [.long 0, .long 0, .long 0])), (q_4, .inl (cA, 32, .inr (.inl (fun _ => 0))))] := hD
  refine lv_aload_n hx hb px_d3_61 rfl (lv_at hl 0 rfl) ?_
  refine lv_bipush (v := 32) hx hb px_d3_62 (by decide) ?_
  refine va_newa (atype := .long) (ty := .long) (n := 32) (N' := 32) (a0 := (32, .inr (.inl (fun _ => 0)))) hx hb (htw _ px_w4) rfl hK hP hD hS hA (fun _ => rfl) (by decide +kernel) (by decide +kernel) (by decide +kernel) (Nat.le_of_ble_eq_true rfl) (Nat.le_of_ble_eq_true rfl) px_d3_64 (fun q_5 cA_1 H hK hP hD hS => ?_)
  have hP : va_P (dC, dI) vwCl [(h0, .inr (2, [.ref o, .ref q, .ref q_1, .ref q_2, .ref q_3, .ref q_4, .null, .null, .int 0, .int 0, .int 0, .null])), (q, .inr (3, [.long 0, .long 0, .long 0])), (q_1, .inr (3, [.long 0, .long 0, .long 0])), (q_2, .inr (3, [.long 0, .long 0, .long 0])), (q_3, .inr (3, [.long 0, .long 0, .long 0])), (q_4, .inl (cA, 32, .inr (.inl (fun _ => 0)))), (q_5, .inl (cA_1, 32, .inr (.inl (fun _ => 0))))] H := hP
  have hD : va_D A [(h0, .inr (2, [.ref o, .ref q, .ref q_1, .ref q_2, .ref q_3, .ref q_4, .null, .null, .int 0, .int 0, .int 0, .null])), (q, .inr (3, [.long 0, .long 0, .long 0])), (q_1, .inr (3, [.long 0, .long 0, .long 0])), (q_2, .inr (3, [.long 0, .long 0, .long 0])), (q_3, .inr (3, [.long 0, .long 0, .long 0])), (q_4, .inl (cA, 32, .inr (.inl (fun _ => 0)))), (q_5, .inl (cA_1, 32, .inr (.inl (fun _ => 0))))] := hD
  have hK : va_K (dC, dI) vwCl [(cA, .long), (cA_1, .long)] s := hK
  refine W.widen (k := 6) (n := 76) (Nat.le_of_ble_eq_true rfl) (Nat.le_of_ble_eq_true rfl) ?_
  refine va_put (D := (dC, dI)) (ci := 2) (v := .ref q_5) (ty := (.array .long)) (C := "MatroidDesk$Minors") (T := px_T2) (N := 12) hx hb htw px_in2 px_ty2 px_tyok2 px_nm2 hown hK hP hD hS 0 rfl rfl 6 (by decide) (htw _ px_w178) (fun _ h9 => h9) rfl (by decide +kernel) rfl rfl (Nat.le_of_ble_eq_true rfl) px_d3_66 (fun H locs hP hD hS => ?_)
  have hP : va_P (dC, dI) vwCl [(h0, .inr (2, [.ref o, .ref q, .ref q_1, .ref q_2, .ref q_3, .ref q_4, .ref q_5, .null, .int 0, .int 0, .int 0, .null])), (q, .inr (3, [.long 0, .long 0, .long 0])), (q_1, .inr (3, [.long 0, .long 0, .long 0])), (q_2, .inr (3, [.long 0, .long 0, .long 0])), (q_3, .inr (3, [.long 0, .long 0, .long 0])), (q_4, .inl (cA, 32, .inr (.inl (fun _ => 0)))), (q_5, .inl (cA_1, 32, .inr (.inl (fun _ => 0))))] H := hP
  have hD : va_D A [(h0, .inr (2, [.ref o, .ref q, .ref q_1, .ref q_2, .ref q_3, .ref q_4, .ref q_5, .null, .int 0, .int 0, .int 0, .null])), (q, .inr (3, [.long 0, .long 0, .long 0])), (q_1, .inr (3, [.long 0, .long 0, .long 0])), (q_2, .inr (3, [.long 0, .long 0, .long 0])), (q_3, .inr (3, [.long 0, .long 0, .long 0])), (q_4, .inl (cA, 32, .inr (.inl (fun _ => 0)))), (q_5, .inl (cA_1, 32, .inr (.inl (fun _ => 0))))] := hD
  refine lv_aload_n hx hb px_d3_69 rfl (lv_at hl 0 rfl) ?_
  refine lv_bipush (v := 32) hx hb px_d3_70 (by decide) ?_
  refine va_newa (atype := .long) (ty := .long) (n := 32) (N' := 32) (a0 := (32, .inr (.inl (fun _ => 0)))) hx hb (htw _ px_w4) rfl hK hP hD hS hA (fun _ => rfl) (by decide +kernel) (by decide +kernel) (by decide +kernel) (Nat.le_of_ble_eq_true rfl) (Nat.le_of_ble_eq_true rfl) px_d3_72 (fun q_6 cA_2 H hK hP hD hS => ?_)
  have hP : va_P (dC, dI) vwCl [(h0, .inr (2, [.ref o, .ref q, .ref q_1, .ref q_2, .ref q_3, .ref q_4, .ref q_5, .null, .int 0, .int 0, .int 0, .null])), (q, .inr (3, [.long 0, .long 0, .long 0])), (q_1, .inr (3, [.long 0, .long 0, .long 0])), (q_2, .inr (3, [.long 0, .long 0, .long 0])), (q_3, .inr (3, [.long 0, .long 0, .long 0])), (q_4, .inl (cA, 32, .inr (.inl (fun _ => 0)))), (q_5, .inl (cA_1, 32, .inr (.inl (fun _ => 0)))), (q_6, .inl (cA_2, 32, .inr (.inl (fun _ => 0))))] H := hP
  have hD : va_D A [(h0, .inr (2, [.ref o, .ref q, .ref q_1, .ref q_2, .ref q_3, .ref q_4, .ref q_5, .null, .int 0, .int 0, .int 0, .null])), (q, .inr (3, [.long 0, .long 0, .long 0])), (q_1, .inr (3, [.long 0, .long 0, .long 0])), (q_2, .inr (3, [.long 0, .long 0, .long 0])), (q_3, .inr (3, [.long 0, .long 0, .long 0])), (q_4, .inl (cA, 32, .inr (.inl (fun _ => 0)))), (q_5, .inl (cA_1, 32, .inr (.inl (fun _ => 0)))), (q_6, .inl (cA_2, 32, .inr (.inl (fun _ => 0))))] := hD
  have hK : va_K (dC, dI) vwCl [(cA, .long), (cA_1, .long), (cA_2, .long)] s := hK
  refine W.widen (k := 7) (n := 108) (Nat.le_of_ble_eq_true rfl) (Nat.le_of_ble_eq_true rfl) ?_
  refine va_put (D := (dC, dI)) (ci := 2) (v := .ref q_6) (ty := (.array .long)) (C := "MatroidDesk$Minors") (T := px_T2) (N := 12) hx hb htw px_in2 px_ty2 px_tyok2 px_nm2 hown hK hP hD hS 0 rfl rfl 7 (by decide) (htw _ px_w179) (fun _ h9 => h9) rfl (by decide +kernel) rfl rfl (Nat.le_of_ble_eq_true rfl) px_d3_74 (fun H locs hP hD hS => ?_)
  have hP : va_P (dC, dI) vwCl [(h0, .inr (2, [.ref o, .ref q, .ref q_1, .ref q_2, .ref q_3, .ref q_4, .ref q_5, .ref q_6, .int 0, .int 0, .int 0, .null])), (q, .inr (3, [.long 0, .long 0, .long 0])), (q_1, .inr (3, [.long 0, .long 0, .long 0])), (q_2, .inr (3, [.long 0, .long 0, .long 0])), (q_3, .inr (3, [.long 0, .long 0, .long 0])), (q_4, .inl (cA, 32, .inr (.inl (fun _ => 0)))), (q_5, .inl (cA_1, 32, .inr (.inl (fun _ => 0)))), (q_6, .inl (cA_2, 32, .inr (.inl (fun _ => 0))))] H := hP
  have hD : va_D A [(h0, .inr (2, [.ref o, .ref q, .ref q_1, .ref q_2, .ref q_3, .ref q_4, .ref q_5, .ref q_6, .int 0, .int 0, .int 0, .null])), (q, .inr (3, [.long 0, .long 0, .long 0])), (q_1, .inr (3, [.long 0, .long 0, .long 0])), (q_2, .inr (3, [.long 0, .long 0, .long 0])), (q_3, .inr (3, [.long 0, .long 0, .long 0])), (q_4, .inl (cA, 32, .inr (.inl (fun _ => 0)))), (q_5, .inl (cA_1, 32, .inr (.inl (fun _ => 0)))), (q_6, .inl (cA_2, 32, .inr (.inl (fun _ => 0))))] := hD
  have hP9 := hP.sub (ws' := []) [] rfl
  have hD9 := hD.sub (ws' := []) [] (by decide) rfl
  have hK9 := hK.sub (tys' := []) [] rfl
  refine W.widen (k := 7) (n := 108) (Nat.le_of_ble_eq_true rfl) (Nat.le_of_ble_eq_true rfl) ?_
  exact W.vret hx hb hr (fun t ht hW => ⟨⟨(), rfl, trivial, by rw [ht]; exact hP9, va_K.moved hW.alike hK9, hD9⟩, hS.F ht⟩) hS.2.2 px_d3_77
set_option maxHeartbeats 4000000 in
set_option maxRecDepth 100000 in
/-- Witness(orders) -/
theorem px_Witness_init (l : Launch) (dC : Nat → ClassId) (dI : Nat → Nat → Nat) (sz : Nat) (h0 : Nat) (o : Nat) : Met l px_y4 px_s4 ({ frames := 1, cells := 6, slots := 348, locals := 12 }) (va_Pc [.ref h0, .ref o] (fun U => U.heap.size = sz ∧ va_P (dC, dI) vwCl [(h0, .inr (4, [.null, .null, .null, .null, .null, .null, .null, .null, .null, .int 0, .int 0, .int 0, .int 0, .int 0, .int 0, .int 0, .int 0, .int 0]))] U.heap ∧ va_K (dC, dI) vwCl [] U ∧ va_D (fun _ => True) [(h0, .inr (4, [.null, .null, .null, .null, .null, .null, .null, .null, .null, .int 0, .int 0, .int 0, .int 0, .int 0, .int 0, .int 0, .int 0, .int 0]))] ∧ px_N U)) (va_Qv (fun (_ : Unit) => True) (fun (_ : Unit) (t : State) => va_P (dC, dI) vwCl [] t.heap ∧ va_K (dC, dI) vwCl [] t ∧ va_D (va_A [(h0, .inr (4, [.null, .null, .null, .null, .null, .null, .null, .null, .null, .int 0, .int 0, .int 0, .int 0, .int 0, .int 0, .int 0, .int 0, .int 0]))] sz) []) (va_A [(h0, .inr (4, [.null, .null, .null, .null, .null, .null, .null, .null, .null, .int 0, .int 0, .int 0, .int 0, .int 0, .int 0, .int 0, .int 0, .int 0]))] sz)) 6 348 (va_A [(h0, .inr (4, [.null, .null, .null, .null, .null, .null, .null, .null, .null, .int 0, .int 0, .int 0, .int 0, .int 0, .int 0, .int 0, .int 0, .int 0]))] sz) := by
  refine Met.ofW (cc := prog_13_method_1_code) (maxL := 2) (ret := none) (by decide) rfl ?_
  intro p e s m args below meth c s₁ B hml hv
  obtain ⟨rfl, hsz, hP, hK, hD0, hN⟩ := hv
  have hx := B.exec
  have hb := B.bytes
  have hr := B.returns
  have htw : ∀ w ∈ px_all, w.before _ s = true := fun w h => atoms_spec (ws := px_s4) B.pre w (List.mem_cons_of_mem _ h)
  have hown : s.vm.findClass "MatroidDesk$Witness" = some m.cls := findClass_of_methodNamed B.named
  have hlocks := B.notSynchronized
  have hin : meth.name = "<init>" := (name_of_methodNamed B.named B.method).1
  subst hsz
  have hD := hD0.self (sz := s.heap.size)
  generalize hAe : va_A [(h0, .inr (4, [.null, .null, .null, .null, .null, .null, .null, .null, .null, .int 0, .int 0, .int 0, .int 0, .int 0, .int 0, .int 0, .int 0, .int 0]))] s.heap.size = A at hD ⊢
  have hA : ∀ q : Nat, s.heap.size ≤ q → A q := fun q h => by rw [← hAe]; exact Or.inr h
  have hS : va_S A s.heap s.heap [] := va_S.rf
  have hP : va_P (dC, dI) vwCl [(h0, .inr (4, [.null, .null, .null, .null, .null, .null, .null, .null, .null, .int 0, .int 0, .int 0, .int 0, .int 0, .int 0, .int 0, .int 0, .int 0]))] s.heap := hP
  have hl := lv_entry ([.ref h0, .ref o]) (n := 2) (Nat.le_of_ble_eq_true rfl)
  rw [lg_entry_eq]
  generalize (lg_sl ([.ref h0, .ref o]) ++ List.replicate (2 - (lg_sl ([.ref h0, .ref o])).length) Slot.unset).toArray = ls at hl ⊢
  have hl : lv_has ls 2 [(0, .ref h0), (1, .ref o)] := hl
  refine lv_aload_n hx hb px_d4_0 rfl (lv_at hl 0 rfl) ?_
  refine W.objInit hx hb hown (htw _ px_w182) (htw _ px_w1) (htw _ px_w0) rfl (by rw [hml]; exact hl.1) rfl px_d4_1 (Nat.le_of_ble_eq_true rfl) (Nat.le_of_ble_eq_true rfl) ?_
  refine W.eq (g2 := F0 m 4 ls []) rfl ?_
  refine lv_aload_n hx hb px_d4_4 rfl (lv_at hl 0 rfl) ?_
  refine lv_aload_n hx hb px_d4_5 rfl (lv_at hl 1 rfl) ?_
  refine va_putF (D := (dC, dI)) (ci := 4) (v := .ref o) (ty := (.object "MatroidDesk$Orders")) (C := "MatroidDesk$Witness") (T := px_T4) (N := 18) hx hb htw px_in4 px_ty4 px_tyok4 px_nm4 hown hK hP hD hS 0 rfl rfl 0 (by decide) (htw _ px_w183) (fun _ h9 => h9) rfl hin rfl (by decide +kernel) rfl rfl (Nat.le_of_ble_eq_true rfl) px_d4_6 (fun H locs hP hD hS => ?_)
  have hP : va_P (dC, dI) vwCl [(h0, .inr (4, [.ref o, .null, .null, .null, .null, .null, .null, .null, .null, .int 0, .int 0, .int 0, .int 0, .int 0, .int 0, .int 0, .int 0, .int 0]))] H := hP
  have hD : va_D A [(h0, .inr (4, [.ref o, .null, .null, .null, .null, .null, .null, .null, .null, .int 0, .int 0, .int 0, .int 0, .int 0, .int 0, .int 0, .int 0, .int 0]))] := hD
  refine lv_aload_n hx hb px_d4_9 rfl (lv_at hl 0 rfl) ?_
  refine lv_bipush (v := 12) hx hb px_d4_10 (by decide) ?_
  refine va_newa (atype := .int) (ty := .int) (n := 12) (N' := 12) (a0 := (12, .inl (fun _ => 0))) hx hb (htw _ px_w2) rfl hK hP hD hS hA (fun _ => rfl) (by decide +kernel) (by decide +kernel) (by decide +kernel) (Nat.le_of_ble_eq_true rfl) (Nat.le_of_ble_eq_true rfl) px_d4_12 (fun q cA H hK hP hD hS => ?_)
  have hP : va_P (dC, dI) vwCl [(h0, .inr (4, [.ref o, .null, .null, .null, .null, .null, .null, .null, .null, .int 0, .int 0, .int 0, .int 0, .int 0, .int 0, .int 0, .int 0, .int 0])), (q, .inl (cA, 12, .inl (fun _ => 0)))] H := hP
  have hD : va_D A [(h0, .inr (4, [.ref o, .null, .null, .null, .null, .null, .null, .null, .null, .int 0, .int 0, .int 0, .int 0, .int 0, .int 0, .int 0, .int 0, .int 0])), (q, .inl (cA, 12, .inl (fun _ => 0)))] := hD
  have hK : va_K (dC, dI) vwCl [(cA, .int)] s := hK
  refine W.widen (k := 1) (n := 12) (Nat.le_of_ble_eq_true rfl) (Nat.le_of_ble_eq_true rfl) ?_
  refine va_putF (D := (dC, dI)) (ci := 4) (v := .ref q) (ty := (.array .int)) (C := "MatroidDesk$Witness") (T := px_T4) (N := 18) hx hb htw px_in4 px_ty4 px_tyok4 px_nm4 hown hK hP hD hS 0 rfl rfl 1 (by decide) (htw _ px_w184) (fun _ h9 => h9) rfl hin rfl (by decide +kernel) rfl rfl (Nat.le_of_ble_eq_true rfl) px_d4_14 (fun H locs hP hD hS => ?_)
  have hP : va_P (dC, dI) vwCl [(h0, .inr (4, [.ref o, .ref q, .null, .null, .null, .null, .null, .null, .null, .int 0, .int 0, .int 0, .int 0, .int 0, .int 0, .int 0, .int 0, .int 0])), (q, .inl (cA, 12, .inl (fun _ => 0)))] H := hP
  have hD : va_D A [(h0, .inr (4, [.ref o, .ref q, .null, .null, .null, .null, .null, .null, .null, .int 0, .int 0, .int 0, .int 0, .int 0, .int 0, .int 0, .int 0, .int 0])), (q, .inl (cA, 12, .inl (fun _ => 0)))] := hD
  refine lv_aload_n hx hb px_d4_17 rfl (lv_at hl 0 rfl) ?_
  refine lv_sipush (v := 144) hx hb px_d4_18 (by decide) ?_
  refine va_newa (atype := .int) (ty := .int) (n := 144) (N' := 144) (a0 := (144, .inl (fun _ => 0))) hx hb (htw _ px_w2) rfl hK hP hD hS hA (fun _ => rfl) (by decide +kernel) (by decide +kernel) (by decide +kernel) (Nat.le_of_ble_eq_true rfl) (Nat.le_of_ble_eq_true rfl) px_d4_21 (fun q_1 cA_1 H hK hP hD hS => ?_)
  have hP : va_P (dC, dI) vwCl [(h0, .inr (4, [.ref o, .ref q, .null, .null, .null, .null, .null, .null, .null, .int 0, .int 0, .int 0, .int 0, .int 0, .int 0, .int 0, .int 0, .int 0])), (q, .inl (cA, 12, .inl (fun _ => 0))), (q_1, .inl (cA_1, 144, .inl (fun _ => 0)))] H := hP
  have hD : va_D A [(h0, .inr (4, [.ref o, .ref q, .null, .null, .null, .null, .null, .null, .null, .int 0, .int 0, .int 0, .int 0, .int 0, .int 0, .int 0, .int 0, .int 0])), (q, .inl (cA, 12, .inl (fun _ => 0))), (q_1, .inl (cA_1, 144, .inl (fun _ => 0)))] := hD
  have hK : va_K (dC, dI) vwCl [(cA, .int), (cA_1, .int)] s := hK
  refine W.widen (k := 2) (n := 156) (Nat.le_of_ble_eq_true rfl) (Nat.le_of_ble_eq_true rfl) ?_
  refine va_putF (D := (dC, dI)) (ci := 4) (v := .ref q_1) (ty := (.array .int)) (C := "MatroidDesk$Witness") (T := px_T4) (N := 18) hx hb htw px_in4 px_ty4 px_tyok4 px_nm4 hown hK hP hD hS 0 rfl rfl 2 (by decide) (htw _ px_w185) (fun _ h9 => h9) rfl hin rfl (by decide +kernel) rfl rfl (Nat.le_of_ble_eq_true rfl) px_d4_23 (fun H locs hP hD hS => ?_)
  have hP : va_P (dC, dI) vwCl [(h0, .inr (4, [.ref o, .ref q, .ref q_1, .null, .null, .null, .null, .null, .null, .int 0, .int 0, .int 0, .int 0, .int 0, .int 0, .int 0, .int 0, .int 0])), (q, .inl (cA, 12, .inl (fun _ => 0))), (q_1, .inl (cA_1, 144, .inl (fun _ => 0)))] H := hP
  have hD : va_D A [(h0, .inr (4, [.ref o, .ref q, .ref q_1, .null, .null, .null, .null, .null, .null, .int 0, .int 0, .int 0, .int 0, .int 0, .int 0, .int 0, .int 0, .int 0])), (q, .inl (cA, 12, .inl (fun _ => 0))), (q_1, .inl (cA_1, 144, .inl (fun _ => 0)))] := hD
  refine lv_aload_n hx hb px_d4_26 rfl (lv_at hl 0 rfl) ?_
  refine lv_sipush (v := 144) hx hb px_d4_27 (by decide) ?_
  refine va_newa (atype := .int) (ty := .int) (n := 144) (N' := 144) (a0 := (144, .inl (fun _ => 0))) hx hb (htw _ px_w2) rfl hK hP hD hS hA (fun _ => rfl) (by decide +kernel) (by decide +kernel) (by decide +kernel) (Nat.le_of_ble_eq_true rfl) (Nat.le_of_ble_eq_true rfl) px_d4_30 (fun q_2 cA_2 H hK hP hD hS => ?_)
  have hP : va_P (dC, dI) vwCl [(h0, .inr (4, [.ref o, .ref q, .ref q_1, .null, .null, .null, .null, .null, .null, .int 0, .int 0, .int 0, .int 0, .int 0, .int 0, .int 0, .int 0, .int 0])), (q, .inl (cA, 12, .inl (fun _ => 0))), (q_1, .inl (cA_1, 144, .inl (fun _ => 0))), (q_2, .inl (cA_2, 144, .inl (fun _ => 0)))] H := hP
  have hD : va_D A [(h0, .inr (4, [.ref o, .ref q, .ref q_1, .null, .null, .null, .null, .null, .null, .int 0, .int 0, .int 0, .int 0, .int 0, .int 0, .int 0, .int 0, .int 0])), (q, .inl (cA, 12, .inl (fun _ => 0))), (q_1, .inl (cA_1, 144, .inl (fun _ => 0))), (q_2, .inl (cA_2, 144, .inl (fun _ => 0)))] := hD
  have hK : va_K (dC, dI) vwCl [(cA, .int), (cA_1, .int), (cA_2, .int)] s := hK
  refine W.widen (k := 3) (n := 300) (Nat.le_of_ble_eq_true rfl) (Nat.le_of_ble_eq_true rfl) ?_
  refine va_putF (D := (dC, dI)) (ci := 4) (v := .ref q_2) (ty := (.array .int)) (C := "MatroidDesk$Witness") (T := px_T4) (N := 18) hx hb htw px_in4 px_ty4 px_tyok4 px_nm4 hown hK hP hD hS 0 rfl rfl 3 (by decide) (htw _ px_w186) (fun _ h9 => h9) rfl hin rfl (by decide +kernel) rfl rfl (Nat.le_of_ble_eq_true rfl) px_d4_32 (fun H locs hP hD hS => ?_)
  have hP : va_P (dC, dI) vwCl [(h0, .inr (4, [.ref o, .ref q, .ref q_1, .ref q_2, .null, .null, .null, .null, .null, .int 0, .int 0, .int 0, .int 0, .int 0, .int 0, .int 0, .int 0, .int 0])), (q, .inl (cA, 12, .inl (fun _ => 0))), (q_1, .inl (cA_1, 144, .inl (fun _ => 0))), (q_2, .inl (cA_2, 144, .inl (fun _ => 0)))] H := hP
  have hD : va_D A [(h0, .inr (4, [.ref o, .ref q, .ref q_1, .ref q_2, .null, .null, .null, .null, .null, .int 0, .int 0, .int 0, .int 0, .int 0, .int 0, .int 0, .int 0, .int 0])), (q, .inl (cA, 12, .inl (fun _ => 0))), (q_1, .inl (cA_1, 144, .inl (fun _ => 0))), (q_2, .inl (cA_2, 144, .inl (fun _ => 0)))] := hD
  refine lv_aload_n hx hb px_d4_35 rfl (lv_at hl 0 rfl) ?_
  refine lv_bipush (v := 16) hx hb px_d4_36 (by decide) ?_
  refine va_newa (atype := .int) (ty := .int) (n := 16) (N' := 16) (a0 := (16, .inl (fun _ => 0))) hx hb (htw _ px_w2) rfl hK hP hD hS hA (fun _ => rfl) (by decide +kernel) (by decide +kernel) (by decide +kernel) (Nat.le_of_ble_eq_true rfl) (Nat.le_of_ble_eq_true rfl) px_d4_38 (fun q_3 cA_3 H hK hP hD hS => ?_)
  have hP : va_P (dC, dI) vwCl [(h0, .inr (4, [.ref o, .ref q, .ref q_1, .ref q_2, .null, .null, .null, .null, .null, .int 0, .int 0, .int 0, .int 0, .int 0, .int 0, .int 0, .int 0, .int 0])), (q, .inl (cA, 12, .inl (fun _ => 0))), (q_1, .inl (cA_1, 144, .inl (fun _ => 0))), (q_2, .inl (cA_2, 144, .inl (fun _ => 0))), (q_3, .inl (cA_3, 16, .inl (fun _ => 0)))] H := hP
  have hD : va_D A [(h0, .inr (4, [.ref o, .ref q, .ref q_1, .ref q_2, .null, .null, .null, .null, .null, .int 0, .int 0, .int 0, .int 0, .int 0, .int 0, .int 0, .int 0, .int 0])), (q, .inl (cA, 12, .inl (fun _ => 0))), (q_1, .inl (cA_1, 144, .inl (fun _ => 0))), (q_2, .inl (cA_2, 144, .inl (fun _ => 0))), (q_3, .inl (cA_3, 16, .inl (fun _ => 0)))] := hD
  have hK : va_K (dC, dI) vwCl [(cA, .int), (cA_1, .int), (cA_2, .int), (cA_3, .int)] s := hK
  refine W.widen (k := 4) (n := 316) (Nat.le_of_ble_eq_true rfl) (Nat.le_of_ble_eq_true rfl) ?_
  refine va_put (D := (dC, dI)) (ci := 4) (v := .ref q_3) (ty := (.array .int)) (C := "MatroidDesk$Witness") (T := px_T4) (N := 18) hx hb htw px_in4 px_ty4 px_tyok4 px_nm4 hown hK hP hD hS 0 rfl rfl 4 (by decide) (htw _ px_w187) (fun _ h9 => h9) rfl (by decide +kernel) rfl rfl (Nat.le_of_ble_eq_true rfl) px_d4_40 (fun H locs hP hD hS => ?_)
  have hP : va_P (dC, dI) vwCl [(h0, .inr (4, [.ref o, .ref q, .ref q_1, .ref q_2, .ref q_3, .null, .null, .null, .null, .int 0, .int 0, .int 0, .int 0, .int 0, .int 0, .int 0, .int 0, .int 0])), (q, .inl (cA, 12, .inl (fun _ => 0))), (q_1, .inl (cA_1, 144, .inl (fun _ => 0))), (q_2, .inl (cA_2, 144, .inl (fun _ => 0))), (q_3, .inl (cA_3, 16, .inl (fun _ => 0)))] H := hP
  have hD : va_D A [(h0, .inr (4, [.ref o, .ref q, .ref q_1, .ref q_2, .ref q_3, .null, .null, .null, .null, .int 0, .int 0, .int 0, .int 0, .int 0, .int 0, .int 0, .int 0, .int 0])), (q, .inl (cA, 12, .inl (fun _ => 0))), (q_1, .inl (cA_1, 144, .inl (fun _ => 0))), (q_2, .inl (cA_2, 144, .inl (fun _ => 0))), (q_3, .inl (cA_3, 16, .inl (fun _ => 0)))] := hD
  refine lv_aload_n hx hb px_d4_43 rfl (lv_at hl 0 rfl) ?_
  refine lv_bipush (v := 16) hx hb px_d4_44 (by decide) ?_
  refine va_newa (atype := .int) (ty := .int) (n := 16) (N' := 16) (a0 := (16, .inl (fun _ => 0))) hx hb (htw _ px_w2) rfl hK hP hD hS hA (fun _ => rfl) (by decide +kernel) (by decide +kernel) (by decide +kernel) (Nat.le_of_ble_eq_true rfl) (Nat.le_of_ble_eq_true rfl) px_d4_46 (fun q_4 cA_4 H hK hP hD hS => ?_)
  have hP : va_P (dC, dI) vwCl [(h0, .inr (4, [.ref o, .ref q, .ref q_1, .ref q_2, .ref q_3, .null, .null, .null, .null, .int 0, .int 0, .int 0, .int 0, .int 0, .int 0, .int 0, .int 0, .int 0])), (q, .inl (cA, 12, .inl (fun _ => 0))), (q_1, .inl (cA_1, 144, .inl (fun _ => 0))), (q_2, .inl (cA_2, 144, .inl (fun _ => 0))), (q_3, .inl (cA_3, 16, .inl (fun _ => 0))), (q_4, .inl (cA_4, 16, .inl (fun _ => 0)))] H := hP
  have hD : va_D A [(h0, .inr (4, [.ref o, .ref q, .ref q_1, .ref q_2, .ref q_3, .null, .null, .null, .null, .int 0, .int 0, .int 0, .int 0, .int 0, .int 0, .int 0, .int 0, .int 0])), (q, .inl (cA, 12, .inl (fun _ => 0))), (q_1, .inl (cA_1, 144, .inl (fun _ => 0))), (q_2, .inl (cA_2, 144, .inl (fun _ => 0))), (q_3, .inl (cA_3, 16, .inl (fun _ => 0))), (q_4, .inl (cA_4, 16, .inl (fun _ => 0)))] := hD
  have hK : va_K (dC, dI) vwCl [(cA, .int), (cA_1, .int), (cA_2, .int), (cA_3, .int), (cA_4, .int)] s := hK
  refine W.widen (k := 5) (n := 332) (Nat.le_of_ble_eq_true rfl) (Nat.le_of_ble_eq_true rfl) ?_
  refine va_put (D := (dC, dI)) (ci := 4) (v := .ref q_4) (ty := (.array .int)) (C := "MatroidDesk$Witness") (T := px_T4) (N := 18) hx hb htw px_in4 px_ty4 px_tyok4 px_nm4 hown hK hP hD hS 0 rfl rfl 5 (by decide) (htw _ px_w188) (fun _ h9 => h9) rfl (by decide +kernel) rfl rfl (Nat.le_of_ble_eq_true rfl) px_d4_48 (fun H locs hP hD hS => ?_)
  have hP : va_P (dC, dI) vwCl [(h0, .inr (4, [.ref o, .ref q, .ref q_1, .ref q_2, .ref q_3, .ref q_4, .null, .null, .null, .int 0, .int 0, .int 0, .int 0, .int 0, .int 0, .int 0, .int 0, .int 0])), (q, .inl (cA, 12, .inl (fun _ => 0))), (q_1, .inl (cA_1, 144, .inl (fun _ => 0))), (q_2, .inl (cA_2, 144, .inl (fun _ => 0))), (q_3, .inl (cA_3, 16, .inl (fun _ => 0))), (q_4, .inl (cA_4, 16, .inl (fun _ => 0)))] H := hP
  have hD : va_D A [(h0, .inr (4, [.ref o, .ref q, .ref q_1, .ref q_2, .ref q_3, .ref q_4, .null, .null, .null, .int 0, .int 0, .int 0, .int 0, .int 0, .int 0, .int 0, .int 0, .int 0])), (q, .inl (cA, 12, .inl (fun _ => 0))), (q_1, .inl (cA_1, 144, .inl (fun _ => 0))), (q_2, .inl (cA_2, 144, .inl (fun _ => 0))), (q_3, .inl (cA_3, 16, .inl (fun _ => 0))), (q_4, .inl (cA_4, 16, .inl (fun _ => 0)))] := hD
  refine lv_aload_n hx hb px_d4_51 rfl (lv_at hl 0 rfl) ?_
  refine lv_bipush (v := 16) hx hb px_d4_52 (by decide) ?_
  refine va_newa (atype := .int) (ty := .int) (n := 16) (N' := 16) (a0 := (16, .inl (fun _ => 0))) hx hb (htw _ px_w2) rfl hK hP hD hS hA (fun _ => rfl) (by decide +kernel) (by decide +kernel) (by decide +kernel) (Nat.le_of_ble_eq_true rfl) (Nat.le_of_ble_eq_true rfl) px_d4_54 (fun q_5 cA_5 H hK hP hD hS => ?_)
  have hP : va_P (dC, dI) vwCl [(h0, .inr (4, [.ref o, .ref q, .ref q_1, .ref q_2, .ref q_3, .ref q_4, .null, .null, .null, .int 0, .int 0, .int 0, .int 0, .int 0, .int 0, .int 0, .int 0, .int 0])), (q, .inl (cA, 12, .inl (fun _ => 0))), (q_1, .inl (cA_1, 144, .inl (fun _ => 0))), (q_2, .inl (cA_2, 144, .inl (fun _ => 0))), (q_3, .inl (cA_3, 16, .inl (fun _ => 0))), (q_4, .inl (cA_4, 16, .inl (fun _ => 0))), (q_5, .inl (cA_5, 16, .inl (fun _ => 0)))] H := hP
  have hD : va_D A [(h0, .inr (4, [.ref o, .ref q, .ref q_1, .ref q_2, .ref q_3, .ref q_4, .null, .null, .null, .int 0, .int 0, .int 0, .int 0, .int 0, .int 0, .int 0, .int 0, .int 0])), (q, .inl (cA, 12, .inl (fun _ => 0))), (q_1, .inl (cA_1, 144, .inl (fun _ => 0))), (q_2, .inl (cA_2, 144, .inl (fun _ => 0))), (q_3, .inl (cA_3, 16, .inl (fun _ => 0))), (q_4, .inl (cA_4, 16, .inl (fun _ => 0))), (q_5, .inl (cA_5, 16, .inl (fun _ => 0)))] := hD
  have hK : va_K (dC, dI) vwCl [(cA, .int), (cA_1, .int), (cA_2, .int), (cA_3, .int), (cA_4, .int), (cA_5, .int)] s := hK
  refine W.widen (k := 6) (n := 348) (Nat.le_of_ble_eq_true rfl) (Nat.le_of_ble_eq_true rfl) ?_
  refine va_put (D := (dC, dI)) (ci := 4) (v := .ref q_5) (ty := (.array .int)) (C := "MatroidDesk$Witness") (T := px_T4) (N := 18) hx hb htw px_in4 px_ty4 px_tyok4 px_nm4 hown hK hP hD hS 0 rfl rfl 6 (by decide) (htw _ px_w189) (fun _ h9 => h9) rfl (by decide +kernel) rfl rfl (Nat.le_of_ble_eq_true rfl) px_d4_56 (fun H locs hP hD hS => ?_)
  have hP : va_P (dC, dI) vwCl [(h0, .inr (4, [.ref o, .ref q, .ref q_1, .ref q_2, .ref q_3, .ref q_4, .ref q_5, .null, .null, .int 0, .int 0, .int 0, .int 0, .int 0, .int 0, .int 0, .int 0, .int 0])), (q, .inl (cA, 12, .inl (fun _ => 0))), (q_1, .inl (cA_1, 144, .inl (fun _ => 0))), (q_2, .inl (cA_2, 144, .inl (fun _ => 0))), (q_3, .inl (cA_3, 16, .inl (fun _ => 0))), (q_4, .inl (cA_4, 16, .inl (fun _ => 0))), (q_5, .inl (cA_5, 16, .inl (fun _ => 0)))] H := hP
  have hD : va_D A [(h0, .inr (4, [.ref o, .ref q, .ref q_1, .ref q_2, .ref q_3, .ref q_4, .ref q_5, .null, .null, .int 0, .int 0, .int 0, .int 0, .int 0, .int 0, .int 0, .int 0, .int 0])), (q, .inl (cA, 12, .inl (fun _ => 0))), (q_1, .inl (cA_1, 144, .inl (fun _ => 0))), (q_2, .inl (cA_2, 144, .inl (fun _ => 0))), (q_3, .inl (cA_3, 16, .inl (fun _ => 0))), (q_4, .inl (cA_4, 16, .inl (fun _ => 0))), (q_5, .inl (cA_5, 16, .inl (fun _ => 0)))] := hD
  refine lv_aload_n hx hb px_d4_59 rfl (lv_at hl 0 rfl) ?_
  refine lv_null hx hb px_d4_60 ?_
  refine va_put (D := (dC, dI)) (ci := 4) (v := .null) (ty := (.object "MatroidDesk$Matroid")) (C := "MatroidDesk$Witness") (T := px_T4) (N := 18) hx hb htw px_in4 px_ty4 px_tyok4 px_nm4 hown hK hP hD hS 0 rfl rfl 7 (by decide) (htw _ px_w190) (fun _ h9 => h9) rfl (by decide +kernel) rfl rfl (Nat.le_of_ble_eq_true rfl) px_d4_61 (fun H locs hP hD hS => ?_)
  have hP : va_P (dC, dI) vwCl [(h0, .inr (4, [.ref o, .ref q, .ref q_1, .ref q_2, .ref q_3, .ref q_4, .ref q_5, .null, .null, .int 0, .int 0, .int 0, .int 0, .int 0, .int 0, .int 0, .int 0, .int 0])), (q, .inl (cA, 12, .inl (fun _ => 0))), (q_1, .inl (cA_1, 144, .inl (fun _ => 0))), (q_2, .inl (cA_2, 144, .inl (fun _ => 0))), (q_3, .inl (cA_3, 16, .inl (fun _ => 0))), (q_4, .inl (cA_4, 16, .inl (fun _ => 0))), (q_5, .inl (cA_5, 16, .inl (fun _ => 0)))] H := hP
  have hD : va_D A [(h0, .inr (4, [.ref o, .ref q, .ref q_1, .ref q_2, .ref q_3, .ref q_4, .ref q_5, .null, .null, .int 0, .int 0, .int 0, .int 0, .int 0, .int 0, .int 0, .int 0, .int 0])), (q, .inl (cA, 12, .inl (fun _ => 0))), (q_1, .inl (cA_1, 144, .inl (fun _ => 0))), (q_2, .inl (cA_2, 144, .inl (fun _ => 0))), (q_3, .inl (cA_3, 16, .inl (fun _ => 0))), (q_4, .inl (cA_4, 16, .inl (fun _ => 0))), (q_5, .inl (cA_5, 16, .inl (fun _ => 0)))] := hD
  refine lv_aload_n hx hb px_d4_64 rfl (lv_at hl 0 rfl) ?_
  refine lv_null hx hb px_d4_65 ?_
  refine va_put (D := (dC, dI)) (ci := 4) (v := .null) (ty := (.object "MatroidDesk$Matroid")) (C := "MatroidDesk$Witness") (T := px_T4) (N := 18) hx hb htw px_in4 px_ty4 px_tyok4 px_nm4 hown hK hP hD hS 0 rfl rfl 8 (by decide) (htw _ px_w191) (fun _ h9 => h9) rfl (by decide +kernel) rfl rfl (Nat.le_of_ble_eq_true rfl) px_d4_66 (fun H locs hP hD hS => ?_)
  have hP : va_P (dC, dI) vwCl [(h0, .inr (4, [.ref o, .ref q, .ref q_1, .ref q_2, .ref q_3, .ref q_4, .ref q_5, .null, .null, .int 0, .int 0, .int 0, .int 0, .int 0, .int 0, .int 0, .int 0, .int 0])), (q, .inl (cA, 12, .inl (fun _ => 0))), (q_1, .inl (cA_1, 144, .inl (fun _ => 0))), (q_2, .inl (cA_2, 144, .inl (fun _ => 0))), (q_3, .inl (cA_3, 16, .inl (fun _ => 0))), (q_4, .inl (cA_4, 16, .inl (fun _ => 0))), (q_5, .inl (cA_5, 16, .inl (fun _ => 0)))] H := hP
  have hD : va_D A [(h0, .inr (4, [.ref o, .ref q, .ref q_1, .ref q_2, .ref q_3, .ref q_4, .ref q_5, .null, .null, .int 0, .int 0, .int 0, .int 0, .int 0, .int 0, .int 0, .int 0, .int 0])), (q, .inl (cA, 12, .inl (fun _ => 0))), (q_1, .inl (cA_1, 144, .inl (fun _ => 0))), (q_2, .inl (cA_2, 144, .inl (fun _ => 0))), (q_3, .inl (cA_3, 16, .inl (fun _ => 0))), (q_4, .inl (cA_4, 16, .inl (fun _ => 0))), (q_5, .inl (cA_5, 16, .inl (fun _ => 0)))] := hD
  refine lv_aload_n hx hb px_d4_69 rfl (lv_at hl 0 rfl) ?_
  refine lv_iconst (v := (-1)) hx hb px_d4_70 (by decide) ?_
  refine va_put (D := (dC, dI)) (ci := 4) (v := .int (-1)) (ty := .int) (C := "MatroidDesk$Witness") (T := px_T4) (N := 18) hx hb htw px_in4 px_ty4 px_tyok4 px_nm4 hown hK hP hD hS 0 rfl rfl 9 (by decide) (htw _ px_w192) (fun _ h9 => h9) rfl (by decide +kernel) rfl rfl (Nat.le_of_ble_eq_true rfl) px_d4_71 (fun H locs hP hD hS => ?_)
  have hP : va_P (dC, dI) vwCl [(h0, .inr (4, [.ref o, .ref q, .ref q_1, .ref q_2, .ref q_3, .ref q_4, .ref q_5, .null, .null, .int (-1), .int 0, .int 0, .int 0, .int 0, .int 0, .int 0, .int 0, .int 0])), (q, .inl (cA, 12, .inl (fun _ => 0))), (q_1, .inl (cA_1, 144, .inl (fun _ => 0))), (q_2, .inl (cA_2, 144, .inl (fun _ => 0))), (q_3, .inl (cA_3, 16, .inl (fun _ => 0))), (q_4, .inl (cA_4, 16, .inl (fun _ => 0))), (q_5, .inl (cA_5, 16, .inl (fun _ => 0)))] H := hP
  have hD : va_D A [(h0, .inr (4, [.ref o, .ref q, .ref q_1, .ref q_2, .ref q_3, .ref q_4, .ref q_5, .null, .null, .int (-1), .int 0, .int 0, .int 0, .int 0, .int 0, .int 0, .int 0, .int 0])), (q, .inl (cA, 12, .inl (fun _ => 0))), (q_1, .inl (cA_1, 144, .inl (fun _ => 0))), (q_2, .inl (cA_2, 144, .inl (fun _ => 0))), (q_3, .inl (cA_3, 16, .inl (fun _ => 0))), (q_4, .inl (cA_4, 16, .inl (fun _ => 0))), (q_5, .inl (cA_5, 16, .inl (fun _ => 0)))] := hD
  refine lv_aload_n hx hb px_d4_74 rfl (lv_at hl 0 rfl) ?_
  refine lv_iconst (v := (-1)) hx hb px_d4_75 (by decide) ?_
  refine va_put (D := (dC, dI)) (ci := 4) (v := .int (-1)) (ty := .int) (C := "MatroidDesk$Witness") (T := px_T4) (N := 18) hx hb htw px_in4 px_ty4 px_tyok4 px_nm4 hown hK hP hD hS 0 rfl rfl 10 (by decide) (htw _ px_w193) (fun _ h9 => h9) rfl (by decide +kernel) rfl rfl (Nat.le_of_ble_eq_true rfl) px_d4_76 (fun H locs hP hD hS => ?_)
  have hP : va_P (dC, dI) vwCl [(h0, .inr (4, [.ref o, .ref q, .ref q_1, .ref q_2, .ref q_3, .ref q_4, .ref q_5, .null, .null, .int (-1), .int (-1), .int 0, .int 0, .int 0, .int 0, .int 0, .int 0, .int 0])), (q, .inl (cA, 12, .inl (fun _ => 0))), (q_1, .inl (cA_1, 144, .inl (fun _ => 0))), (q_2, .inl (cA_2, 144, .inl (fun _ => 0))), (q_3, .inl (cA_3, 16, .inl (fun _ => 0))), (q_4, .inl (cA_4, 16, .inl (fun _ => 0))), (q_5, .inl (cA_5, 16, .inl (fun _ => 0)))] H := hP
  have hD : va_D A [(h0, .inr (4, [.ref o, .ref q, .ref q_1, .ref q_2, .ref q_3, .ref q_4, .ref q_5, .null, .null, .int (-1), .int (-1), .int 0, .int 0, .int 0, .int 0, .int 0, .int 0, .int 0])), (q, .inl (cA, 12, .inl (fun _ => 0))), (q_1, .inl (cA_1, 144, .inl (fun _ => 0))), (q_2, .inl (cA_2, 144, .inl (fun _ => 0))), (q_3, .inl (cA_3, 16, .inl (fun _ => 0))), (q_4, .inl (cA_4, 16, .inl (fun _ => 0))), (q_5, .inl (cA_5, 16, .inl (fun _ => 0)))] := hD
  have hP9 := hP.sub (ws' := []) [] rfl
  have hD9 := hD.sub (ws' := []) [] (by decide) rfl
  have hK9 := hK.sub (tys' := []) [] rfl
  refine W.widen (k := 6) (n := 348) (Nat.le_of_ble_eq_true rfl) (Nat.le_of_ble_eq_true rfl) ?_
  exact W.vret hx hb hr (fun t ht hW => ⟨⟨(), rfl, trivial, by rw [ht]; exact hP9, va_K.moved hW.alike hK9, hD9⟩, hS.F ht⟩) hS.2.2 px_d4_79
set_option maxHeartbeats 4000000 in
set_option maxRecDepth 100000 in
/-- Statement(tokens) -/
theorem px_Statement_init (l : Launch) (dC : Nat → ClassId) (dI : Nat → Nat → Nat) (sz : Nat) (h0 : Nat) (t : Nat) (vS : Nat) : Met l px_y5 px_s5 ({ frames := 1, cells := 1, slots := 160, locals := 12 }) (va_Pc [.ref h0, .ref t] (fun U => U.heap.size = sz ∧ va_P (dC, dI) vwCl [(h0, .inr (6, [.null, .null, .null, .int 0, .int 0, .int 0, .int 0, .int 0, .int 0, .int 0, .int 0, .int 0]))] U.heap ∧ va_K (dC, dI) vwCl [] U ∧ va_D (fun _ => True) [(h0, .inr (6, [.null, .null, .null, .int 0, .int 0, .int 0, .int 0, .int 0, .int 0, .int 0, .int 0, .int 0]))] ∧ px_N U ∧ va_Z "MatroidDesk$Verb" "SHOW" "LMatroidDesk$Verb;" (.ref vS) (va_A [(h0, .inr (6, [.null, .null, .null, .int 0, .int 0, .int 0, .int 0, .int 0, .int 0, .int 0, .int 0, .int 0]))] sz) U U.heap)) (va_Qv (fun (_ : Unit) => True) (fun (_ : Unit) (t : State) => va_P (dC, dI) vwCl [] t.heap ∧ va_K (dC, dI) vwCl [] t ∧ va_D (va_A [(h0, .inr (6, [.null, .null, .null, .int 0, .int 0, .int 0, .int 0, .int 0, .int 0, .int 0, .int 0, .int 0]))] sz) []) (va_A [(h0, .inr (6, [.null, .null, .null, .int 0, .int 0, .int 0, .int 0, .int 0, .int 0, .int 0, .int 0, .int 0]))] sz)) 1 160 (va_A [(h0, .inr (6, [.null, .null, .null, .int 0, .int 0, .int 0, .int 0, .int 0, .int 0, .int 0, .int 0, .int 0]))] sz) := by
  refine Met.ofW (cc := prog_9_method_1_code) (maxL := 2) (ret := none) (by decide) rfl ?_
  intro p e s m args below meth c s₁ B hml hv
  obtain ⟨rfl, hsz, hP, hK, hD0, hN, hE0⟩ := hv
  have hx := B.exec
  have hb := B.bytes
  have hr := B.returns
  have htw : ∀ w ∈ px_all, w.before _ s = true := fun w h => atoms_spec (ws := px_s5) B.pre w (List.mem_cons_of_mem _ h)
  have hown : s.vm.findClass "MatroidDesk$Statement" = some m.cls := findClass_of_methodNamed B.named
  have hlocks := B.notSynchronized
  have hin : meth.name = "<init>" := (name_of_methodNamed B.named B.method).1
  subst hsz
  have hD := hD0.self (sz := s.heap.size)
  generalize hAe : va_A [(h0, .inr (6, [.null, .null, .null, .int 0, .int 0, .int 0, .int 0, .int 0, .int 0, .int 0, .int 0, .int 0]))] s.heap.size = A at hD hE0 ⊢
  have hA : ∀ q : Nat, s.heap.size ≤ q → A q := fun q h => by rw [← hAe]; exact Or.inr h
  have hS : va_S A s.heap s.heap [] := va_S.rf
  have hP : va_P (dC, dI) vwCl [(h0, .inr (6, [.null, .null, .null, .int 0, .int 0, .int 0, .int 0, .int 0, .int 0, .int 0, .int 0, .int 0]))] s.heap := hP
  have hl := lv_entry ([.ref h0, .ref t]) (n := 2) (Nat.le_of_ble_eq_true rfl)
  rw [lg_entry_eq]
  generalize (lg_sl ([.ref h0, .ref t]) ++ List.replicate (2 - (lg_sl ([.ref h0, .ref t])).length) Slot.unset).toArray = ls at hl ⊢
  have hl : lv_has ls 2 [(0, .ref h0), (1, .ref t)] := hl
  refine lv_aload_n hx hb px_d5_0 rfl (lv_at hl 0 rfl) ?_
  refine W.objInit hx hb hown (htw _ px_w196) (htw _ px_w1) (htw _ px_w0) rfl (by rw [hml]; exact hl.1) rfl px_d5_1 (Nat.le_of_ble_eq_true rfl) (Nat.le_of_ble_eq_true rfl) ?_
  refine W.eq (g2 := F0 m 4 ls []) rfl ?_
  refine lv_aload_n hx hb px_d5_4 rfl (lv_at hl 0 rfl) ?_
  refine lv_aload_n hx hb px_d5_5 rfl (lv_at hl 1 rfl) ?_
  refine va_putF (D := (dC, dI)) (ci := 6) (v := .ref t) (ty := (.object "MatroidDesk$Tokens")) (C := "MatroidDesk$Statement") (T := px_T6) (N := 12) hx hb htw px_in6 px_ty6 px_tyok6 px_nm6 hown hK hP hD hS 0 rfl rfl 0 (by decide) (htw _ px_w197) (fun _ h9 => h9) rfl hin rfl (by decide +kernel) rfl rfl (Nat.le_of_ble_eq_true rfl) px_d5_6 (fun H locs hP hD hS => ?_)
  have hP : va_P (dC, dI) vwCl [(h0, .inr (6, [.ref t, .null, .null, .int 0, .int 0, .int 0, .int 0, .int 0, .int 0, .int 0, .int 0, .int 0]))] H := hP
  have hD : va_D A [(h0, .inr (6, [.ref t, .null, .null, .int 0, .int 0, .int 0, .int 0, .int 0, .int 0, .int 0, .int 0, .int 0]))] := hD
  refine lv_aload_n hx hb px_d5_9 rfl (lv_at hl 0 rfl) ?_
  refine lv_sipush (v := 160) hx hb px_d5_10 (by decide) ?_
  refine va_newa (atype := .int) (ty := .int) (n := 160) (N' := 160) (a0 := (160, .inl (fun _ => 0))) hx hb (htw _ px_w2) rfl hK hP hD hS hA (fun _ => rfl) (by decide +kernel) (by decide +kernel) (by decide +kernel) (Nat.le_of_ble_eq_true rfl) (Nat.le_of_ble_eq_true rfl) px_d5_13 (fun q cA H hK hP hD hS => ?_)
  have hP : va_P (dC, dI) vwCl [(h0, .inr (6, [.ref t, .null, .null, .int 0, .int 0, .int 0, .int 0, .int 0, .int 0, .int 0, .int 0, .int 0])), (q, .inl (cA, 160, .inl (fun _ => 0)))] H := hP
  have hD : va_D A [(h0, .inr (6, [.ref t, .null, .null, .int 0, .int 0, .int 0, .int 0, .int 0, .int 0, .int 0, .int 0, .int 0])), (q, .inl (cA, 160, .inl (fun _ => 0)))] := hD
  have hK : va_K (dC, dI) vwCl [(cA, .int)] s := hK
  refine W.widen (k := 1) (n := 160) (Nat.le_of_ble_eq_true rfl) (Nat.le_of_ble_eq_true rfl) ?_
  refine va_putF (D := (dC, dI)) (ci := 6) (v := .ref q) (ty := (.array .int)) (C := "MatroidDesk$Statement") (T := px_T6) (N := 12) hx hb htw px_in6 px_ty6 px_tyok6 px_nm6 hown hK hP hD hS 0 rfl rfl 1 (by decide) (htw _ px_w198) (fun _ h9 => h9) rfl hin rfl (by decide +kernel) rfl rfl (Nat.le_of_ble_eq_true rfl) px_d5_15 (fun H locs hP hD hS => ?_)
  have hP : va_P (dC, dI) vwCl [(h0, .inr (6, [.ref t, .ref q, .null, .int 0, .int 0, .int 0, .int 0, .int 0, .int 0, .int 0, .int 0, .int 0])), (q, .inl (cA, 160, .inl (fun _ => 0)))] H := hP
  have hD : va_D A [(h0, .inr (6, [.ref t, .ref q, .null, .int 0, .int 0, .int 0, .int 0, .int 0, .int 0, .int 0, .int 0, .int 0])), (q, .inl (cA, 160, .inl (fun _ => 0)))] := hD
  refine lv_aload_n hx hb px_d5_18 rfl (lv_at hl 0 rfl) ?_
  refine va_gets (v := .ref vS) hx hb hE0 hS hown (htw _ px_w199) (fun _ h9 => h9) px_d5_19 ?_
  refine va_put (D := (dC, dI)) (ci := 6) (v := .ref vS) (ty := (.object "MatroidDesk$Verb")) (C := "MatroidDesk$Statement") (T := px_T6) (N := 12) hx hb htw px_in6 px_ty6 px_tyok6 px_nm6 hown hK hP hD hS 0 rfl rfl 2 (by decide) (htw _ px_w200) (fun _ h9 => h9) rfl (by decide +kernel) rfl rfl (Nat.le_of_ble_eq_true rfl) px_d5_22 (fun H locs hP hD hS => ?_)
  have hP : va_P (dC, dI) vwCl [(h0, .inr (6, [.ref t, .ref q, .ref vS, .int 0, .int 0, .int 0, .int 0, .int 0, .int 0, .int 0, .int 0, .int 0])), (q, .inl (cA, 160, .inl (fun _ => 0)))] H := hP
  have hD : va_D A [(h0, .inr (6, [.ref t, .ref q, .ref vS, .int 0, .int 0, .int 0, .int 0, .int 0, .int 0, .int 0, .int 0, .int 0])), (q, .inl (cA, 160, .inl (fun _ => 0)))] := hD
  have hP9 := hP.sub (ws' := []) [] rfl
  have hD9 := hD.sub (ws' := []) [] (by decide) rfl
  have hK9 := hK.sub (tys' := []) [] rfl
  refine W.widen (k := 1) (n := 160) (Nat.le_of_ble_eq_true rfl) (Nat.le_of_ble_eq_true rfl) ?_
  exact W.vret hx hb hr (fun t ht hW => ⟨⟨(), rfl, trivial, by rw [ht]; exact hP9, va_K.moved hW.alike hK9, hD9⟩, hS.F ht⟩) hS.2.2 px_d5_25
set_option maxHeartbeats 4000000 in
set_option maxRecDepth 100000 in
/-- Product() -/
theorem px_Product_init (l : Launch) (dC : Nat → ClassId) (dI : Nat → Nat → Nat) (sz : Nat) (h0 : Nat) : Met l px_y6 px_s6 ({ frames := 1, cells := 2, slots := 304, locals := 12 }) (va_Pc [.ref h0] (fun U => U.heap.size = sz ∧ va_P (dC, dI) vwCl [(h0, .inr (7, [.null, .null, .int 0, .int 0]))] U.heap ∧ va_K (dC, dI) vwCl [] U ∧ va_D (fun _ => True) [(h0, .inr (7, [.null, .null, .int 0, .int 0]))] ∧ px_N U)) (va_Qv (fun (_ : Unit) => True) (fun (_ : Unit) (t : State) => ∃ (q : Nat) (q_1 : Nat), va_P (dC, dI) vwCl [(h0, .inr (7, [.ref q, .ref q_1, .int 0, .int 0]))] t.heap ∧ va_K (dC, dI) vwCl [] t ∧ va_D (va_A [(h0, .inr (7, [.null, .null, .int 0, .int 0]))] sz) [(h0, .inr (7, [.ref q, .ref q_1, .int 0, .int 0]))]) (va_A [(h0, .inr (7, [.null, .null, .int 0, .int 0]))] sz)) 2 304 (va_A [(h0, .inr (7, [.null, .null, .int 0, .int 0]))] sz) := by
  refine Met.ofW (cc := prog_7_method_1_code) (maxL := 1) (ret := none) (by decide) rfl ?_
  intro p e s m args below meth c s₁ B hml hv
  obtain ⟨rfl, hsz, hP, hK, hD0, hN⟩ := hv
  have hx := B.exec
  have hb := B.bytes
  have hr := B.returns
  have htw : ∀ w ∈ px_all, w.before _ s = true := fun w h => atoms_spec (ws := px_s6) B.pre w (List.mem_cons_of_mem _ h)
  have hown : s.vm.findClass "MatroidDesk$Product" = some m.cls := findClass_of_methodNamed B.named
  have hlocks := B.notSynchronized
  have hin : meth.name = "<init>" := (name_of_methodNamed B.named B.method).1
  subst hsz
  have hD := hD0.self (sz := s.heap.size)
  generalize hAe : va_A [(h0, .inr (7, [.null, .null, .int 0, .int 0]))] s.heap.size = A at hD ⊢
  have hA : ∀ q : Nat, s.heap.size ≤ q → A q := fun q h => by rw [← hAe]; exact Or.inr h
  have hS : va_S A s.heap s.heap [] := va_S.rf
  have hP : va_P (dC, dI) vwCl [(h0, .inr (7, [.null, .null, .int 0, .int 0]))] s.heap := hP
  have hl := lv_entry ([.ref h0]) (n := 1) (Nat.le_of_ble_eq_true rfl)
  rw [lg_entry_eq]
  generalize (lg_sl ([.ref h0]) ++ List.replicate (1 - (lg_sl ([.ref h0])).length) Slot.unset).toArray = ls at hl ⊢
  have hl : lv_has ls 1 [(0, .ref h0)] := hl
  refine lv_aload_n hx hb px_d6_0 rfl (lv_at hl 0 rfl) ?_
  refine W.objInit hx hb hown (htw _ px_w203) (htw _ px_w1) (htw _ px_w0) rfl (by rw [hml]; exact hl.1) rfl px_d6_1 (Nat.le_of_ble_eq_true rfl) (Nat.le_of_ble_eq_true rfl) ?_
  refine W.eq (g2 := F0 m 4 ls []) rfl ?_
  refine lv_aload_n hx hb px_d6_4 rfl (lv_at hl 0 rfl) ?_
  refine lv_sipush (v := 256) hx hb px_d6_5 (by decide) ?_
  refine va_newa (atype := .byte) (ty := .byte) (n := 256) (N' := 256) (a0 := (256, .inl (fun _ => 0))) hx hb (htw _ px_w3) rfl hK hP hD hS hA (fun _ => rfl) (by decide +kernel) (by decide +kernel) (by decide +kernel) (Nat.le_of_ble_eq_true rfl) (Nat.le_of_ble_eq_true rfl) px_d6_8 (fun q cA H hK hP hD hS => ?_)
  have hP : va_P (dC, dI) vwCl [(h0, .inr (7, [.null, .null, .int 0, .int 0])), (q, .inl (cA, 256, .inl (fun _ => 0)))] H := hP
  have hD : va_D A [(h0, .inr (7, [.null, .null, .int 0, .int 0])), (q, .inl (cA, 256, .inl (fun _ => 0)))] := hD
  have hK : va_K (dC, dI) vwCl [(cA, .byte)] s := hK
  refine W.widen (k := 1) (n := 256) (Nat.le_of_ble_eq_true rfl) (Nat.le_of_ble_eq_true rfl) ?_
  refine va_put (D := (dC, dI)) (ci := 7) (v := .ref q) (ty := (.array .byte)) (C := "MatroidDesk$Product") (T := px_T7) (N := 4) hx hb htw px_in7 px_ty7 px_tyok7 px_nm7 hown hK hP hD hS 0 rfl rfl 0 (by decide) (htw _ px_w204) (fun _ h9 => h9) rfl (by decide +kernel) rfl rfl (Nat.le_of_ble_eq_true rfl) px_d6_10 (fun H locs hP hD hS => ?_)
  have hP : va_P (dC, dI) vwCl [(h0, .inr (7, [.ref q, .null, .int 0, .int 0])), (q, .inl (cA, 256, .inl (fun _ => 0)))] H := hP
  have hD : va_D A [(h0, .inr (7, [.ref q, .null, .int 0, .int 0])), (q, .inl (cA, 256, .inl (fun _ => 0)))] := hD
  refine lv_aload_n hx hb px_d6_13 rfl (lv_at hl 0 rfl) ?_
  refine lv_bipush (v := 48) hx hb px_d6_14 (by decide) ?_
  refine va_newa (atype := .byte) (ty := .byte) (n := 48) (N' := 48) (a0 := (48, .inl (fun _ => 0))) hx hb (htw _ px_w3) rfl hK hP hD hS hA (fun _ => rfl) (by decide +kernel) (by decide +kernel) (by decide +kernel) (Nat.le_of_ble_eq_true rfl) (Nat.le_of_ble_eq_true rfl) px_d6_16 (fun q_1 cA_1 H hK hP hD hS => ?_)
  have hP : va_P (dC, dI) vwCl [(h0, .inr (7, [.ref q, .null, .int 0, .int 0])), (q, .inl (cA, 256, .inl (fun _ => 0))), (q_1, .inl (cA_1, 48, .inl (fun _ => 0)))] H := hP
  have hD : va_D A [(h0, .inr (7, [.ref q, .null, .int 0, .int 0])), (q, .inl (cA, 256, .inl (fun _ => 0))), (q_1, .inl (cA_1, 48, .inl (fun _ => 0)))] := hD
  have hK : va_K (dC, dI) vwCl [(cA, .byte), (cA_1, .byte)] s := hK
  refine W.widen (k := 2) (n := 304) (Nat.le_of_ble_eq_true rfl) (Nat.le_of_ble_eq_true rfl) ?_
  refine va_putF (D := (dC, dI)) (ci := 7) (v := .ref q_1) (ty := (.array .byte)) (C := "MatroidDesk$Product") (T := px_T7) (N := 4) hx hb htw px_in7 px_ty7 px_tyok7 px_nm7 hown hK hP hD hS 0 rfl rfl 1 (by decide) (htw _ px_w205) (fun _ h9 => h9) rfl hin rfl (by decide +kernel) rfl rfl (Nat.le_of_ble_eq_true rfl) px_d6_18 (fun H locs hP hD hS => ?_)
  have hP : va_P (dC, dI) vwCl [(h0, .inr (7, [.ref q, .ref q_1, .int 0, .int 0])), (q, .inl (cA, 256, .inl (fun _ => 0))), (q_1, .inl (cA_1, 48, .inl (fun _ => 0)))] H := hP
  have hD : va_D A [(h0, .inr (7, [.ref q, .ref q_1, .int 0, .int 0])), (q, .inl (cA, 256, .inl (fun _ => 0))), (q_1, .inl (cA_1, 48, .inl (fun _ => 0)))] := hD
  have hP9 := hP.sub (ws' := [(h0, .inr (7, [.ref q, .ref q_1, .int 0, .int 0]))]) [0] rfl
  have hD9 := hD.sub (ws' := [(h0, .inr (7, [.ref q, .ref q_1, .int 0, .int 0]))]) [0] (by decide) rfl
  have hK9 := hK.sub (tys' := []) [] rfl
  refine W.widen (k := 2) (n := 304) (Nat.le_of_ble_eq_true rfl) (Nat.le_of_ble_eq_true rfl) ?_
  exact W.vret hx hb hr (fun t ht hW => ⟨⟨(), rfl, trivial, q, q_1, by rw [ht]; exact hP9, va_K.moved hW.alike hK9, hD9⟩, hS.F ht⟩) hS.2.2 px_d6_21
end
section
set_option maxHeartbeats 4000000 in
set_option maxRecDepth 100000 in
/-- MatroidDesk() -/
theorem px_Desk_init (l : Launch) (dC : Nat → ClassId) (dI : Nat → Nat → Nat) (sz : Nat) (h0 : Nat) (vS : Nat) : Met l px_y7 px_s7 ({ frames := 3, cells := 28, slots := 1915, locals := 53 }) (va_Pc [.ref h0] (fun U => U.heap.size = sz ∧ va_P (dC, dI) vwCl [(h0, .inr (0, [.null, .int 0, .int 0, .int 0, .int 0, .null, .null, .null, .null, .null, .null, .null, .null, .null]))] U.heap ∧ va_K (dC, dI) vwCl [] U ∧ va_D (fun _ => True) [(h0, .inr (0, [.null, .int 0, .int 0, .int 0, .int 0, .null, .null, .null, .null, .null, .null, .null, .null, .null]))] ∧ px_N U ∧ va_Z "MatroidDesk$Verb" "SHOW" "LMatroidDesk$Verb;" (.ref vS) (va_A [(h0, .inr (0, [.null, .int 0, .int 0, .int 0, .int 0, .null, .null, .null, .null, .null, .null, .null, .null, .null]))] sz) U U.heap)) (va_Qv (fun (_ : Unit) => True) (fun (_ : Unit) (t : State) => ∃ (q : Nat) (q_1 : Nat) (q_6 : Nat) (q_9 : Nat) (q_2 : Nat) (q_3 : Nat) (q_4 : Nat) (q_5 : Nat) (q_8 : Nat) (q_7 : Nat) (q_10 : Nat) (q_11 : Nat) (cA : ClassId) (cA_1 : ClassId), va_P (dC, dI) vwCl [(h0, .inr (0, [.ref q, .int 0, .int (-1), .int 0, .int 0, .null, .ref q_1, .ref q_2, .ref q_3, .ref q_4, .ref q_5, .ref q_6, .ref q_8, .ref q_9])), (q, .inl (cA, 512, .inl (fun _ => 0))), (q_1, .inl (cA_1, 26, .inr (.inr (.inr (.inr (fun _ => none)))))), (q_6, .inr (5, [.ref q_7, .int 0, .int 0, .int 0, .int 0, .int 0])), (q_9, .inr (7, [.ref q_10, .ref q_11, .int 0, .int 0]))] t.heap ∧ va_K (dC, dI) vwCl [(cA, .byte), (cA_1, .object "MatroidDesk$Matroid")] t ∧ va_D (va_A [(h0, .inr (0, [.null, .int 0, .int 0, .int 0, .int 0, .null, .null, .null, .null, .null, .null, .null, .null, .null]))] sz) [(h0, .inr (0, [.ref q, .int 0, .int (-1), .int 0, .int 0, .null, .ref q_1, .ref q_2, .ref q_3, .ref q_4, .ref q_5, .ref q_6, .ref q_8, .ref q_9])), (q, .inl (cA, 512, .inl (fun _ => 0))), (q_1, .inl (cA_1, 26, .inr (.inr (.inr (.inr (fun _ => none)))))), (q_6, .inr (5, [.ref q_7, .int 0, .int 0, .int 0, .int 0, .int 0])), (q_9, .inr (7, [.ref q_10, .ref q_11, .int 0, .int 0]))]) (va_A [(h0, .inr (0, [.null, .int 0, .int 0, .int 0, .int 0, .null, .null, .null, .null, .null, .null, .null, .null, .null]))] sz)) 28 1915 (va_A [(h0, .inr (0, [.null, .int 0, .int 0, .int 0, .int 0, .null, .null, .null, .null, .null, .null, .null, .null, .null]))] sz) := by
  refine Met.ofW (cc := prog_1_method_1_code) (maxL := 1) (ret := none) (by decide) rfl ?_
  intro p e s m args below meth c s₁ B hml hv
  obtain ⟨rfl, hsz, hP, hK, hD0, hN, hE0⟩ := hv
  have hx := B.exec
  have hb := B.bytes
  have hr := B.returns
  have htw : ∀ w ∈ px_all, w.before _ s = true := fun w h => atoms_spec (ws := px_s7) B.pre w (List.mem_cons_of_mem _ h)
  have hown : s.vm.findClass "MatroidDesk" = some m.cls := findClass_of_methodNamed B.named
  have hlocks := B.notSynchronized
  have hin : meth.name = "<init>" := (name_of_methodNamed B.named B.method).1
  subst hsz
  have hD := hD0.self (sz := s.heap.size)
  generalize hAe : va_A [(h0, .inr (0, [.null, .int 0, .int 0, .int 0, .int 0, .null, .null, .null, .null, .null, .null, .null, .null, .null]))] s.heap.size = A at hD hE0 ⊢
  have hA : ∀ q : Nat, s.heap.size ≤ q → A q := fun q h => by rw [← hAe]; exact Or.inr h
  have hS : va_S A s.heap s.heap [] := va_S.rf
  have hP : va_P (dC, dI) vwCl [(h0, .inr (0, [.null, .int 0, .int 0, .int 0, .int 0, .null, .null, .null, .null, .null, .null, .null, .null, .null]))] s.heap := hP
  have hl := lv_entry ([.ref h0]) (n := 1) (Nat.le_of_ble_eq_true rfl)
  rw [lg_entry_eq]
  generalize (lg_sl ([.ref h0]) ++ List.replicate (1 - (lg_sl ([.ref h0])).length) Slot.unset).toArray = ls at hl ⊢
  have hl : lv_has ls 1 [(0, .ref h0)] := hl
  refine lv_aload_n hx hb px_d7_0 rfl (lv_at hl 0 rfl) ?_
  refine W.objInit hx hb hown (htw _ px_w208) (htw _ px_w1) (htw _ px_w0) rfl (by rw [hml]; exact hl.1) rfl px_d7_1 (Nat.le_of_ble_eq_true rfl) (Nat.le_of_ble_eq_true rfl) ?_
  refine W.eq (g2 := F0 m 4 ls []) rfl ?_
  refine lv_aload_n hx hb px_d7_4 rfl (lv_at hl 0 rfl) ?_
  refine lv_sipush (v := 512) hx hb px_d7_5 (by decide) ?_
  refine va_newa (atype := .byte) (ty := .byte) (n := 512) (N' := 512) (a0 := (512, .inl (fun _ => 0))) hx hb (htw _ px_w3) rfl hK hP hD hS hA (fun _ => rfl) (by decide +kernel) (by decide +kernel) (by decide +kernel) (Nat.le_of_ble_eq_true rfl) (Nat.le_of_ble_eq_true rfl) px_d7_8 (fun q cA H hK hP hD hS => ?_)
  have hP : va_P (dC, dI) vwCl [(h0, .inr (0, [.null, .int 0, .int 0, .int 0, .int 0, .null, .null, .null, .null, .null, .null, .null, .null, .null])), (q, .inl (cA, 512, .inl (fun _ => 0)))] H := hP
  have hD : va_D A [(h0, .inr (0, [.null, .int 0, .int 0, .int 0, .int 0, .null, .null, .null, .null, .null, .null, .null, .null, .null])), (q, .inl (cA, 512, .inl (fun _ => 0)))] := hD
  have hK : va_K (dC, dI) vwCl [(cA, .byte)] s := hK
  refine W.widen (k := 1) (n := 512) (Nat.le_of_ble_eq_true rfl) (Nat.le_of_ble_eq_true rfl) ?_
  refine va_put (D := (dC, dI)) (ci := 0) (v := .ref q) (ty := (.array .byte)) (C := "MatroidDesk") (T := px_T0) (N := 14) hx hb htw px_in0 px_ty0 px_tyok0 px_nm0 hown hK hP hD hS 0 rfl rfl 0 (by decide) (htw _ px_w209) (fun _ h9 => h9) rfl (by decide +kernel) rfl rfl (Nat.le_of_ble_eq_true rfl) px_d7_10 (fun H locs hP hD hS => ?_)
  have hP : va_P (dC, dI) vwCl [(h0, .inr (0, [.ref q, .int 0, .int 0, .int 0, .int 0, .null, .null, .null, .null, .null, .null, .null, .null, .null])), (q, .inl (cA, 512, .inl (fun _ => 0)))] H := hP
  have hD : va_D A [(h0, .inr (0, [.ref q, .int 0, .int 0, .int 0, .int 0, .null, .null, .null, .null, .null, .null, .null, .null, .null])), (q, .inl (cA, 512, .inl (fun _ => 0)))] := hD
  refine lv_aload_n hx hb px_d7_13 rfl (lv_at hl 0 rfl) ?_
  refine lv_iconst (v := 0) hx hb px_d7_14 (by decide) ?_
  refine va_put (D := (dC, dI)) (ci := 0) (v := .int 0) (ty := .int) (C := "MatroidDesk") (T := px_T0) (N := 14) hx hb htw px_in0 px_ty0 px_tyok0 px_nm0 hown hK hP hD hS 0 rfl rfl 1 (by decide) (htw _ px_w210) (fun _ h9 => h9) rfl (by decide +kernel) rfl rfl (Nat.le_of_ble_eq_true rfl) px_d7_15 (fun H locs hP hD hS => ?_)
  have hP : va_P (dC, dI) vwCl [(h0, .inr (0, [.ref q, .int 0, .int 0, .int 0, .int 0, .null, .null, .null, .null, .null, .null, .null, .null, .null])), (q, .inl (cA, 512, .inl (fun _ => 0)))] H := hP
  have hD : va_D A [(h0, .inr (0, [.ref q, .int 0, .int 0, .int 0, .int 0, .null, .null, .null, .null, .null, .null, .null, .null, .null])), (q, .inl (cA, 512, .inl (fun _ => 0)))] := hD
  refine lv_aload_n hx hb px_d7_18 rfl (lv_at hl 0 rfl) ?_
  refine lv_iconst (v := (-1)) hx hb px_d7_19 (by decide) ?_
  refine va_put (D := (dC, dI)) (ci := 0) (v := .int (-1)) (ty := .int) (C := "MatroidDesk") (T := px_T0) (N := 14) hx hb htw px_in0 px_ty0 px_tyok0 px_nm0 hown hK hP hD hS 0 rfl rfl 2 (by decide) (htw _ px_w211) (fun _ h9 => h9) rfl (by decide +kernel) rfl rfl (Nat.le_of_ble_eq_true rfl) px_d7_20 (fun H locs hP hD hS => ?_)
  have hP : va_P (dC, dI) vwCl [(h0, .inr (0, [.ref q, .int 0, .int (-1), .int 0, .int 0, .null, .null, .null, .null, .null, .null, .null, .null, .null])), (q, .inl (cA, 512, .inl (fun _ => 0)))] H := hP
  have hD : va_D A [(h0, .inr (0, [.ref q, .int 0, .int (-1), .int 0, .int 0, .null, .null, .null, .null, .null, .null, .null, .null, .null])), (q, .inl (cA, 512, .inl (fun _ => 0)))] := hD
  refine lv_aload_n hx hb px_d7_23 rfl (lv_at hl 0 rfl) ?_
  refine lv_iconst (v := 0) hx hb px_d7_24 (by decide) ?_
  refine va_put (D := (dC, dI)) (ci := 0) (v := .int 0) (ty := .int) (C := "MatroidDesk") (T := px_T0) (N := 14) hx hb htw px_in0 px_ty0 px_tyok0 px_nm0 hown hK hP hD hS 0 rfl rfl 3 (by decide) (htw _ px_w212) (fun _ h9 => h9) rfl (by decide +kernel) rfl rfl (Nat.le_of_ble_eq_true rfl) px_d7_25 (fun H locs hP hD hS => ?_)
  have hP : va_P (dC, dI) vwCl [(h0, .inr (0, [.ref q, .int 0, .int (-1), .int 0, .int 0, .null, .null, .null, .null, .null, .null, .null, .null, .null])), (q, .inl (cA, 512, .inl (fun _ => 0)))] H := hP
  have hD : va_D A [(h0, .inr (0, [.ref q, .int 0, .int (-1), .int 0, .int 0, .null, .null, .null, .null, .null, .null, .null, .null, .null])), (q, .inl (cA, 512, .inl (fun _ => 0)))] := hD
  refine lv_aload_n hx hb px_d7_28 rfl (lv_at hl 0 rfl) ?_
  refine lv_iconst (v := 0) hx hb px_d7_29 (by decide) ?_
  refine va_put (D := (dC, dI)) (ci := 0) (v := .int 0) (ty := .int) (C := "MatroidDesk") (T := px_T0) (N := 14) hx hb htw px_in0 px_ty0 px_tyok0 px_nm0 hown hK hP hD hS 0 rfl rfl 4 (by decide) (htw _ px_w213) (fun _ h9 => h9) rfl (by decide +kernel) rfl rfl (Nat.le_of_ble_eq_true rfl) px_d7_30 (fun H locs hP hD hS => ?_)
  have hP : va_P (dC, dI) vwCl [(h0, .inr (0, [.ref q, .int 0, .int (-1), .int 0, .int 0, .null, .null, .null, .null, .null, .null, .null, .null, .null])), (q, .inl (cA, 512, .inl (fun _ => 0)))] H := hP
  have hD : va_D A [(h0, .inr (0, [.ref q, .int 0, .int (-1), .int 0, .int 0, .null, .null, .null, .null, .null, .null, .null, .null, .null])), (q, .inl (cA, 512, .inl (fun _ => 0)))] := hD
  refine lv_aload_n hx hb px_d7_33 rfl (lv_at hl 0 rfl) ?_
  refine lv_null hx hb px_d7_34 ?_
  refine va_put (D := (dC, dI)) (ci := 0) (v := .null) (ty := (.object "MatroidDesk$Matroid")) (C := "MatroidDesk") (T := px_T0) (N := 14) hx hb htw px_in0 px_ty0 px_tyok0 px_nm0 hown hK hP hD hS 0 rfl rfl 5 (by decide) (htw _ px_w214) (fun _ h9 => h9) rfl (by decide +kernel) rfl rfl (Nat.le_of_ble_eq_true rfl) px_d7_35 (fun H locs hP hD hS => ?_)
  have hP : va_P (dC, dI) vwCl [(h0, .inr (0, [.ref q, .int 0, .int (-1), .int 0, .int 0, .null, .null, .null, .null, .null, .null, .null, .null, .null])), (q, .inl (cA, 512, .inl (fun _ => 0)))] H := hP
  have hD : va_D A [(h0, .inr (0, [.ref q, .int 0, .int (-1), .int 0, .int 0, .null, .null, .null, .null, .null, .null, .null, .null, .null])), (q, .inl (cA, 512, .inl (fun _ => 0)))] := hD
  refine lv_aload_n hx hb px_d7_38 rfl (lv_at hl 0 rfl) ?_
  refine lv_bipush (v := 26) hx hb px_d7_39 (by decide) ?_
  refine va_newq (n := 26) (N' := 26) hx hb hown (htw _ px_w215) (hN.2.2 "MatroidDesk$Matroid" (by decide)) hK hP hD hS hA (by decide +kernel) (by decide +kernel) (by decide +kernel) (Nat.le_of_ble_eq_true rfl) (Nat.le_of_ble_eq_true rfl) px_d7_41 (fun q_1 cA_1 H hK hP hD hS => ?_)
  have hP : va_P (dC, dI) vwCl [(h0, .inr (0, [.ref q, .int 0, .int (-1), .int 0, .int 0, .null, .null, .null, .null, .null, .null, .null, .null, .null])), (q, .inl (cA, 512, .inl (fun _ => 0))), (q_1, .inl (cA_1, 26, .inr (.inr (.inr (.inr (fun _ => none))))))] H := hP
  have hD : va_D A [(h0, .inr (0, [.ref q, .int 0, .int (-1), .int 0, .int 0, .null, .null, .null, .null, .null, .null, .null, .null, .null])), (q, .inl (cA, 512, .inl (fun _ => 0))), (q_1, .inl (cA_1, 26, .inr (.inr (.inr (.inr (fun _ => none))))))] := hD
  have hK : va_K (dC, dI) vwCl [(cA, .byte), (cA_1, .object "MatroidDesk$Matroid")] s := hK
  refine W.widen (k := 2) (n := 538) (Nat.le_of_ble_eq_true rfl) (Nat.le_of_ble_eq_true rfl) ?_
  refine va_putF (D := (dC, dI)) (ci := 0) (v := .ref q_1) (ty := (.array (.object "MatroidDesk$Matroid"))) (C := "MatroidDesk") (T := px_T0) (N := 14) hx hb htw px_in0 px_ty0 px_tyok0 px_nm0 hown hK hP hD hS 0 rfl rfl 6 (by decide) (htw _ px_w216) (fun _ h9 => h9) rfl hin rfl (by decide +kernel) rfl rfl (Nat.le_of_ble_eq_true rfl) px_d7_44 (fun H locs hP hD hS => ?_)
  have hP : va_P (dC, dI) vwCl [(h0, .inr (0, [.ref q, .int 0, .int (-1), .int 0, .int 0, .null, .ref q_1, .null, .null, .null, .null, .null, .null, .null])), (q, .inl (cA, 512, .inl (fun _ => 0))), (q_1, .inl (cA_1, 26, .inr (.inr (.inr (.inr (fun _ => none))))))] H := hP
  have hD : va_D A [(h0, .inr (0, [.ref q, .int 0, .int (-1), .int 0, .int 0, .null, .ref q_1, .null, .null, .null, .null, .null, .null, .null])), (q, .inl (cA, 512, .inl (fun _ => 0))), (q_1, .inl (cA_1, 26, .inr (.inr (.inr (.inr (fun _ => none))))))] := hD
  refine lv_aload_n hx hb px_d7_47 rfl (lv_at hl 0 rfl) ?_
  refine lv_sipush (v := 156) hx hb px_d7_48 (by decide) ?_
  refine va_newa (atype := .int) (ty := .int) (n := 156) (N' := 156) (a0 := (156, .inl (fun _ => 0))) hx hb (htw _ px_w2) rfl hK hP hD hS hA (fun _ => rfl) (by decide +kernel) (by decide +kernel) (by decide +kernel) (Nat.le_of_ble_eq_true rfl) (Nat.le_of_ble_eq_true rfl) px_d7_51 (fun q_2 cA_2 H hK hP hD hS => ?_)
  have hP : va_P (dC, dI) vwCl [(h0, .inr (0, [.ref q, .int 0, .int (-1), .int 0, .int 0, .null, .ref q_1, .null, .null, .null, .null, .null, .null, .null])), (q, .inl (cA, 512, .inl (fun _ => 0))), (q_1, .inl (cA_1, 26, .inr (.inr (.inr (.inr (fun _ => none)))))), (q_2, .inl (cA_2, 156, .inl (fun _ => 0)))] H := hP
  have hD : va_D A [(h0, .inr (0, [.ref q, .int 0, .int (-1), .int 0, .int 0, .null, .ref q_1, .null, .null, .null, .null, .null, .null, .null])), (q, .inl (cA, 512, .inl (fun _ => 0))), (q_1, .inl (cA_1, 26, .inr (.inr (.inr (.inr (fun _ => none)))))), (q_2, .inl (cA_2, 156, .inl (fun _ => 0)))] := hD
  have hK : va_K (dC, dI) vwCl [(cA, .byte), (cA_1, .object "MatroidDesk$Matroid"), (cA_2, .int)] s := hK
  refine W.widen (k := 3) (n := 694) (Nat.le_of_ble_eq_true rfl) (Nat.le_of_ble_eq_true rfl) ?_
  refine va_putF (D := (dC, dI)) (ci := 0) (v := .ref q_2) (ty := (.array .int)) (C := "MatroidDesk") (T := px_T0) (N := 14) hx hb htw px_in0 px_ty0 px_tyok0 px_nm0 hown hK hP hD hS 0 rfl rfl 7 (by decide) (htw _ px_w217) (fun _ h9 => h9) rfl hin rfl (by decide +kernel) rfl rfl (Nat.le_of_ble_eq_true rfl) px_d7_53 (fun H locs hP hD hS => ?_)
  have hP : va_P (dC, dI) vwCl [(h0, .inr (0, [.ref q, .int 0, .int (-1), .int 0, .int 0, .null, .ref q_1, .ref q_2, .null, .null, .null, .null, .null, .null])), (q, .inl (cA, 512, .inl (fun _ => 0))), (q_1, .inl (cA_1, 26, .inr (.inr (.inr (.inr (fun _ => none)))))), (q_2, .inl (cA_2, 156, .inl (fun _ => 0)))] H := hP
  have hD : va_D A [(h0, .inr (0, [.ref q, .int 0, .int (-1), .int 0, .int 0, .null, .ref q_1, .ref q_2, .null, .null, .null, .null, .null, .null])), (q, .inl (cA, 512, .inl (fun _ => 0))), (q_1, .inl (cA_1, 26, .inr (.inr (.inr (.inr (fun _ => none)))))), (q_2, .inl (cA_2, 156, .inl (fun _ => 0)))] := hD
  refine lv_aload_n hx hb px_d7_56 rfl (lv_at hl 0 rfl) ?_
  refine va_new (ci := 1) (fs := [.null, .null, .int 0]) (C := "MatroidDesk$Orders") (T := px_T1) (N := 3) hx hb htw px_in1 px_ty1 px_tyok1 hown (htw _ px_w218) (htw _ px_w23) (htw _ px_w22) hK hP hD hS hA rfl px_df1 (Nat.le_of_ble_eq_true rfl) (Nat.le_of_ble_eq_true rfl) px_d7_57 (fun q_3 H hP hD hS => ?_)
  have hP : va_P (dC, dI) vwCl [(h0, .inr (0, [.ref q, .int 0, .int (-1), .int 0, .int 0, .null, .ref q_1, .ref q_2, .null, .null, .null, .null, .null, .null])), (q, .inl (cA, 512, .inl (fun _ => 0))), (q_1, .inl (cA_1, 26, .inr (.inr (.inr (.inr (fun _ => none)))))), (q_2, .inl (cA_2, 156, .inl (fun _ => 0))), (q_3, .inr (1, [.null, .null, .int 0]))] H := hP
  have hD : va_D A [(h0, .inr (0, [.ref q, .int 0, .int (-1), .int 0, .int 0, .null, .ref q_1, .ref q_2, .null, .null, .null, .null, .null, .null])), (q, .inl (cA, 512, .inl (fun _ => 0))), (q_1, .inl (cA_1, 26, .inr (.inr (.inr (.inr (fun _ => none)))))), (q_2, .inl (cA_2, 156, .inl (fun _ => 0))), (q_3, .inr (1, [.null, .null, .int 0]))] := hD
  refine W.widen (k := 4) (n := 697) (Nat.le_of_ble_eq_true rfl) (Nat.le_of_ble_eq_true rfl) ?_
  refine lv_dup hx hb px_d7_60 rfl ?_
  have hPc := hP.sub (ws' := [(q_3, .inr (1, [.null, .null, .int 0]))]) [4] rfl
  have hDc := hD.sub (ws' := [(q_3, .inr (1, [.null, .null, .int 0]))]) [4] (by decide) rfl
  have hKc := hK.sub (tys' := []) [] rfl
  have hFc := va_free (wc := [(q_3, .inr (1, [.null, .null, .int 0]))]) hD hS hA [4] rfl
  refine va_callv (va_runI (As := []) (rest := [.ref q_3, .ref h0]) ⟨hx, hb, hml, hown, htw⟩ (px_Orders_init l dC dI H.size q_3) (cwI 0 htw px_g1 rfl rfl rfl (htw _ px_w22) (htw _ px_w219) (htw _ px_w160) rfl (by decide +kernel) ⟨Nat.le_of_ble_eq_true rfl, Nat.le_of_ble_eq_true rfl⟩) ⟨fun a U g mk q => by obtain ⟨q0, q1, qP, qK, qD, qN⟩ := q; exact ⟨q0, q1, qP, va_K.moved (u := U) (U := U.calling g mk a) (Vm.Alike.refl U.vm) qK, qD, qN.same rfl⟩, fun U hU hW => ⟨rfl, by rw [hU], by rw [hU]; exact hPc, va_K.moved hW.alike hKc, hDc.weaken (fun _ _ _ _ => trivial), hN.warm hW⟩⟩ rfl rfl hl.1 rfl (lv_room (Nat.le_of_ble_eq_true rfl)) px_d7_61 ⟨(Nat.le_of_ble_eq_true rfl), (Nat.le_of_ble_eq_true rfl)⟩) hS (fun q _ h => hFc q h) hFc (fun u t H1 locs ht hvm hw_61 hB hz1 hk1 hS => ?_)
  obtain ⟨hP1, hK1, hD1⟩ := hB
  rw [ht] at hP1
  have hK1 := va_K.moved hvm.symm hK1
  obtain ⟨hP, hD⟩ := va_join (wr := [(h0, .inr (0, [.ref q, .int 0, .int (-1), .int 0, .int 0, .null, .ref q_1, .ref q_2, .null, .null, .null, .null, .null, .null])), (q, .inl (cA, 512, .inl (fun _ => 0))), (q_1, .inl (cA_1, 26, .inr (.inr (.inr (.inr (fun _ => none)))))), (q_2, .inl (cA_2, 156, .inl (fun _ => 0)))]) (w1 := []) hP hD [4] [0, 1, 2, 3] rfl rfl (by decide) (by decide) hk1 hFc hP1 hD1
  generalize H1 = H at hP hS ⊢
  have hP : va_P (dC, dI) vwCl [(h0, .inr (0, [.ref q, .int 0, .int (-1), .int 0, .int 0, .null, .ref q_1, .ref q_2, .null, .null, .null, .null, .null, .null])), (q, .inl (cA, 512, .inl (fun _ => 0))), (q_1, .inl (cA_1, 26, .inr (.inr (.inr (.inr (fun _ => none)))))), (q_2, .inl (cA_2, 156, .inl (fun _ => 0)))] H := hP
  have hD : va_D A [(h0, .inr (0, [.ref q, .int 0, .int (-1), .int 0, .int 0, .null, .ref q_1, .ref q_2, .null, .null, .null, .null, .null, .null])), (q, .inl (cA, 512, .inl (fun _ => 0))), (q_1, .inl (cA_1, 26, .inr (.inr (.inr (.inr (fun _ => none)))))), (q_2, .inl (cA_2, 156, .inl (fun _ => 0)))] := hD
  refine W.widen (k := 6) (n := 943) (Nat.le_of_ble_eq_true rfl) (Nat.le_of_ble_eq_true rfl) ?_
  refine va_putF (D := (dC, dI)) (ci := 0) (v := .ref q_3) (ty := (.object "MatroidDesk$Orders")) (C := "MatroidDesk") (T := px_T0) (N := 14) hx hb htw px_in0 px_ty0 px_tyok0 px_nm0 hown hK hP hD hS 0 rfl rfl 8 (by decide) (htw _ px_w220) (fun _ h9 => h9) rfl hin rfl (by decide +kernel) rfl rfl (Nat.le_of_ble_eq_true rfl) px_d7_64 (fun H locs hP hD hS => ?_)
  have hP : va_P (dC, dI) vwCl [(h0, .inr (0, [.ref q, .int 0, .int (-1), .int 0, .int 0, .null, .ref q_1, .ref q_2, .ref q_3, .null, .null, .null, .null, .null])), (q, .inl (cA, 512, .inl (fun _ => 0))), (q_1, .inl (cA_1, 26, .inr (.inr (.inr (.inr (fun _ => none)))))), (q_2, .inl (cA_2, 156, .inl (fun _ => 0)))] H := hP
  have hD : va_D A [(h0, .inr (0, [.ref q, .int 0, .int (-1), .int 0, .int 0, .null, .ref q_1, .ref q_2, .ref q_3, .null, .null, .null, .null, .null])), (q, .inl (cA, 512, .inl (fun _ => 0))), (q_1, .inl (cA_1, 26, .inr (.inr (.inr (.inr (fun _ => none)))))), (q_2, .inl (cA_2, 156, .inl (fun _ => 0)))] := hD
  refine lv_aload_n hx hb px_d7_67 rfl (lv_at hl 0 rfl) ?_
  refine va_new (ci := 2) (fs := [.null, .null, .null, .null, .null, .null, .null, .null, .int 0, .int 0, .int 0, .null]) (C := "MatroidDesk$Minors") (T := px_T2) (N := 12) hx hb htw px_in2 px_ty2 px_tyok2 hown (htw _ px_w221) (htw _ px_w28) (htw _ px_w27) hK hP hD hS hA rfl px_df2 (Nat.le_of_ble_eq_true rfl) (Nat.le_of_ble_eq_true rfl) px_d7_68 (fun q_4 H hP hD hS => ?_)
  have hP : va_P (dC, dI) vwCl [(h0, .inr (0, [.ref q, .int 0, .int (-1), .int 0, .int 0, .null, .ref q_1, .ref q_2, .ref q_3, .null, .null, .null, .null, .null])), (q, .inl (cA, 512, .inl (fun _ => 0))), (q_1, .inl (cA_1, 26, .inr (.inr (.inr (.inr (fun _ => none)))))), (q_2, .inl (cA_2, 156, .inl (fun _ => 0))), (q_4, .inr (2, [.null, .null, .null, .null, .null, .null, .null, .null, .int 0, .int 0, .int 0, .null]))] H := hP
  have hD : va_D A [(h0, .inr (0, [.ref q, .int 0, .int (-1), .int 0, .int 0, .null, .ref q_1, .ref q_2, .ref q_3, .null, .null, .null, .null, .null])), (q, .inl (cA, 512, .inl (fun _ => 0))), (q_1, .inl (cA_1, 26, .inr (.inr (.inr (.inr (fun _ => none)))))), (q_2, .inl (cA_2, 156, .inl (fun _ => 0))), (q_4, .inr (2, [.null, .null, .null, .null, .null, .null, .null, .null, .int 0, .int 0, .int 0, .null]))] := hD
  refine W.widen (k := 7) (n := 955) (Nat.le_of_ble_eq_true rfl) (Nat.le_of_ble_eq_true rfl) ?_
  refine lv_dup hx hb px_d7_71 rfl ?_
  refine lv_aload_n hx hb px_d7_72 rfl (lv_at hl 0 rfl) ?_
  refine va_get (D := (dC, dI)) (ci := 0) (v := .ref q_3) (C := "MatroidDesk") (T := px_T0) (N := 14) hx hb htw px_in0 hown hK hP 0 rfl rfl 8 (by decide) (htw _ px_w220) (fun _ h9 => h9) rfl px_d7_73 ?_
  have hPc := hP.sub (ws' := [(q_4, .inr (2, [.null, .null, .null, .null, .null, .null, .null, .null, .int 0, .int 0, .int 0, .null]))]) [4] rfl
  have hDc := hD.sub (ws' := [(q_4, .inr (2, [.null, .null, .null, .null, .null, .null, .null, .null, .int 0, .int 0, .int 0, .null]))]) [4] (by decide) rfl
  have hKc := hK.sub (tys' := []) [] rfl
  have hFc := va_free (wc := [(q_4, .inr (2, [.null, .null, .null, .null, .null, .null, .null, .null, .int 0, .int 0, .int 0, .null]))]) hD hS hA [4] rfl
  refine va_callv (va_runI (As := [.ref q_3]) (rest := [.ref q_4, .ref h0]) ⟨hx, hb, hml, hown, htw⟩ (px_Minors_init l dC dI H.size q_4 q_3) (cwI 1 htw px_g3 rfl rfl rfl (htw _ px_w27) (htw _ px_w222) (htw _ px_w169) rfl (by decide +kernel) ⟨Nat.le_of_ble_eq_true rfl, Nat.le_of_ble_eq_true rfl⟩) ⟨fun a U g mk q => by obtain ⟨q0, q1, qP, qK, qD, qN⟩ := q; exact ⟨q0, q1, qP, va_K.moved (u := U) (U := U.calling g mk a) (Vm.Alike.refl U.vm) qK, qD, qN.same rfl⟩, fun U hU hW => ⟨rfl, by rw [hU], by rw [hU]; exact hPc, va_K.moved hW.alike hKc, hDc.weaken (fun _ _ _ _ => trivial), hN.warm hW⟩⟩ rfl rfl hl.1 rfl (lv_room (Nat.le_of_ble_eq_true rfl)) px_d7_76 ⟨(Nat.le_of_ble_eq_true rfl), (Nat.le_of_ble_eq_true rfl)⟩) hS (fun q _ h => hFc q h) hFc (fun u t H1 locs ht hvm hw_76 hB hz1 hk1 hS => ?_)
  obtain ⟨hP1, hK1, hD1⟩ := hB
  rw [ht] at hP1
  have hK1 := va_K.moved hvm.symm hK1
  obtain ⟨hP, hD⟩ := va_join (wr := [(h0, .inr (0, [.ref q, .int 0, .int (-1), .int 0, .int 0, .null, .ref q_1, .ref q_2, .ref q_3, .null, .null, .null, .null, .null])), (q, .inl (cA, 512, .inl (fun _ => 0))), (q_1, .inl (cA_1, 26, .inr (.inr (.inr (.inr (fun _ => none)))))), (q_2, .inl (cA_2, 156, .inl (fun _ => 0)))]) (w1 := []) hP hD [4] [0, 1, 2, 3] rfl rfl (by decide) (by decide) hk1 hFc hP1 hD1
  generalize H1 = H at hP hS ⊢
  have hP : va_P (dC, dI) vwCl [(h0, .inr (0, [.ref q, .int 0, .int (-1), .int 0, .int 0, .null, .ref q_1, .ref q_2, .ref q_3, .null, .null, .null, .null, .null])), (q, .inl (cA, 512, .inl (fun _ => 0))), (q_1, .inl (cA_1, 26, .inr (.inr (.inr (.inr (fun _ => none)))))), (q_2, .inl (cA_2, 156, .inl (fun _ => 0)))] H := hP
  have hD : va_D A [(h0, .inr (0, [.ref q, .int 0, .int (-1), .int 0, .int 0, .null, .ref q_1, .ref q_2, .ref q_3, .null, .null, .null, .null, .null])), (q, .inl (cA, 512, .inl (fun _ => 0))), (q_1, .inl (cA_1, 26, .inr (.inr (.inr (.inr (fun _ => none)))))), (q_2, .inl (cA_2, 156, .inl (fun _ => 0)))] := hD
  refine W.widen (k := 14) (n := 1063) (Nat.le_of_ble_eq_true rfl) (Nat.le_of_ble_eq_true rfl) ?_
  refine va_putF (D := (dC, dI)) (ci := 0) (v := .ref q_4) (ty := (.object "MatroidDesk$Minors")) (C := "MatroidDesk") (T := px_T0) (N := 14) hx hb htw px_in0 px_ty0 px_tyok0 px_nm0 hown hK hP hD hS 0 rfl rfl 9 (by decide) (htw _ px_w223) (fun _ h9 => h9) rfl hin rfl (by decide +kernel) rfl rfl (Nat.le_of_ble_eq_true rfl) px_d7_79 (fun H locs hP hD hS => ?_)
  have hP : va_P (dC, dI) vwCl [(h0, .inr (0, [.ref q, .int 0, .int (-1), .int 0, .int 0, .null, .ref q_1, .ref q_2, .ref q_3, .ref q_4, .null, .null, .null, .null])), (q, .inl (cA, 512, .inl (fun _ => 0))), (q_1, .inl (cA_1, 26, .inr (.inr (.inr (.inr (fun _ => none)))))), (q_2, .inl (cA_2, 156, .inl (fun _ => 0)))] H := hP
  have hD : va_D A [(h0, .inr (0, [.ref q, .int 0, .int (-1), .int 0, .int 0, .null, .ref q_1, .ref q_2, .ref q_3, .ref q_4, .null, .null, .null, .null])), (q, .inl (cA, 512, .inl (fun _ => 0))), (q_1, .inl (cA_1, 26, .inr (.inr (.inr (.inr (fun _ => none)))))), (q_2, .inl (cA_2, 156, .inl (fun _ => 0)))] := hD
  refine lv_aload_n hx hb px_d7_82 rfl (lv_at hl 0 rfl) ?_
  refine va_new (ci := 4) (fs := [.null, .null, .null, .null, .null, .null, .null, .null, .null, .int 0, .int 0, .int 0, .int 0, .int 0, .int 0, .int 0, .int 0, .int 0]) (C := "MatroidDesk$Witness") (T := px_T4) (N := 18) hx hb htw px_in4 px_ty4 px_tyok4 hown (htw _ px_w224) (htw _ px_w47) (htw _ px_w46) hK hP hD hS hA rfl px_df4 (Nat.le_of_ble_eq_true rfl) (Nat.le_of_ble_eq_true rfl) px_d7_83 (fun q_5 H hP hD hS => ?_)
  have hP : va_P (dC, dI) vwCl [(h0, .inr (0, [.ref q, .int 0, .int (-1), .int 0, .int 0, .null, .ref q_1, .ref q_2, .ref q_3, .ref q_4, .null, .null, .null, .null])), (q, .inl (cA, 512, .inl (fun _ => 0))), (q_1, .inl (cA_1, 26, .inr (.inr (.inr (.inr (fun _ => none)))))), (q_2, .inl (cA_2, 156, .inl (fun _ => 0))), (q_5, .inr (4, [.null, .null, .null, .null, .null, .null, .null, .null, .null, .int 0, .int 0, .int 0, .int 0, .int 0, .int 0, .int 0, .int 0, .int 0]))] H := hP
  have hD : va_D A [(h0, .inr (0, [.ref q, .int 0, .int (-1), .int 0, .int 0, .null, .ref q_1, .ref q_2, .ref q_3, .ref q_4, .null, .null, .null, .null])), (q, .inl (cA, 512, .inl (fun _ => 0))), (q_1, .inl (cA_1, 26, .inr (.inr (.inr (.inr (fun _ => none)))))), (q_2, .inl (cA_2, 156, .inl (fun _ => 0))), (q_5, .inr (4, [.null, .null, .null, .null, .null, .null, .null, .null, .null, .int 0, .int 0, .int 0, .int 0, .int 0, .int 0, .int 0, .int 0, .int 0]))] := hD
  refine W.widen (k := 15) (n := 1081) (Nat.le_of_ble_eq_true rfl) (Nat.le_of_ble_eq_true rfl) ?_
  refine lv_dup hx hb px_d7_86 rfl ?_
  refine lv_aload_n hx hb px_d7_87 rfl (lv_at hl 0 rfl) ?_
  refine va_get (D := (dC, dI)) (ci := 0) (v := .ref q_3) (C := "MatroidDesk") (T := px_T0) (N := 14) hx hb htw px_in0 hown hK hP 0 rfl rfl 8 (by decide) (htw _ px_w220) (fun _ h9 => h9) rfl px_d7_88 ?_
  have hPc := hP.sub (ws' := [(q_5, .inr (4, [.null, .null, .null, .null, .null, .null, .null, .null, .null, .int 0, .int 0, .int 0, .int 0, .int 0, .int 0, .int 0, .int 0, .int 0]))]) [4] rfl
  have hDc := hD.sub (ws' := [(q_5, .inr (4, [.null, .null, .null, .null, .null, .null, .null, .null, .null, .int 0, .int 0, .int 0, .int 0, .int 0, .int 0, .int 0, .int 0, .int 0]))]) [4] (by decide) rfl
  have hKc := hK.sub (tys' := []) [] rfl
  have hFc := va_free (wc := [(q_5, .inr (4, [.null, .null, .null, .null, .null, .null, .null, .null, .null, .int 0, .int 0, .int 0, .int 0, .int 0, .int 0, .int 0, .int 0, .int 0]))]) hD hS hA [4] rfl
  refine va_callv (va_runI (As := [.ref q_3]) (rest := [.ref q_5, .ref h0]) ⟨hx, hb, hml, hown, htw⟩ (px_Witness_init l dC dI H.size q_5 q_3) (cwI 1 htw px_g4 rfl rfl rfl (htw _ px_w46) (htw _ px_w225) (htw _ px_w181) rfl (by decide +kernel) ⟨Nat.le_of_ble_eq_true rfl, Nat.le_of_ble_eq_true rfl⟩) ⟨fun a U g mk q => by obtain ⟨q0, q1, qP, qK, qD, qN⟩ := q; exact ⟨q0, q1, qP, va_K.moved (u := U) (U := U.calling g mk a) (Vm.Alike.refl U.vm) qK, qD, qN.same rfl⟩, fun U hU hW => ⟨rfl, by rw [hU], by rw [hU]; exact hPc, va_K.moved hW.alike hKc, hDc.weaken (fun _ _ _ _ => trivial), hN.warm hW⟩⟩ rfl rfl hl.1 rfl (lv_room (Nat.le_of_ble_eq_true rfl)) px_d7_91 ⟨(Nat.le_of_ble_eq_true rfl), (Nat.le_of_ble_eq_true rfl)⟩) hS (fun q _ h => hFc q h) hFc (fun u t H1 locs ht hvm hw_91 hB hz1 hk1 hS => ?_)
  obtain ⟨hP1, hK1, hD1⟩ := hB
  rw [ht] at hP1
  have hK1 := va_K.moved hvm.symm hK1
  obtain ⟨hP, hD⟩ := va_join (wr := [(h0, .inr (0, [.ref q, .int 0, .int (-1), .int 0, .int 0, .null, .ref q_1, .ref q_2, .ref q_3, .ref q_4, .null, .null, .null, .null])), (q, .inl (cA, 512, .inl (fun _ => 0))), (q_1, .inl (cA_1, 26, .inr (.inr (.inr (.inr (fun _ => none)))))), (q_2, .inl (cA_2, 156, .inl (fun _ => 0)))]) (w1 := []) hP hD [4] [0, 1, 2, 3] rfl rfl (by decide) (by decide) hk1 hFc hP1 hD1
  generalize H1 = H at hP hS ⊢
  have hP : va_P (dC, dI) vwCl [(h0, .inr (0, [.ref q, .int 0, .int (-1), .int 0, .int 0, .null, .ref q_1, .ref q_2, .ref q_3, .ref q_4, .null, .null, .null, .null])), (q, .inl (cA, 512, .inl (fun _ => 0))), (q_1, .inl (cA_1, 26, .inr (.inr (.inr (.inr (fun _ => none)))))), (q_2, .inl (cA_2, 156, .inl (fun _ => 0)))] H := hP
  have hD : va_D A [(h0, .inr (0, [.ref q, .int 0, .int (-1), .int 0, .int 0, .null, .ref q_1, .ref q_2, .ref q_3, .ref q_4, .null, .null, .null, .null])), (q, .inl (cA, 512, .inl (fun _ => 0))), (q_1, .inl (cA_1, 26, .inr (.inr (.inr (.inr (fun _ => none)))))), (q_2, .inl (cA_2, 156, .inl (fun _ => 0)))] := hD
  refine W.widen (k := 21) (n := 1429) (Nat.le_of_ble_eq_true rfl) (Nat.le_of_ble_eq_true rfl) ?_
  refine va_putF (D := (dC, dI)) (ci := 0) (v := .ref q_5) (ty := (.object "MatroidDesk$Witness")) (C := "MatroidDesk") (T := px_T0) (N := 14) hx hb htw px_in0 px_ty0 px_tyok0 px_nm0 hown hK hP hD hS 0 rfl rfl 10 (by decide) (htw _ px_w226) (fun _ h9 => h9) rfl hin rfl (by decide +kernel) rfl rfl (Nat.le_of_ble_eq_true rfl) px_d7_94 (fun H locs hP hD hS => ?_)
  have hP : va_P (dC, dI) vwCl [(h0, .inr (0, [.ref q, .int 0, .int (-1), .int 0, .int 0, .null, .ref q_1, .ref q_2, .ref q_3, .ref q_4, .ref q_5, .null, .null, .null])), (q, .inl (cA, 512, .inl (fun _ => 0))), (q_1, .inl (cA_1, 26, .inr (.inr (.inr (.inr (fun _ => none)))))), (q_2, .inl (cA_2, 156, .inl (fun _ => 0)))] H := hP
  have hD : va_D A [(h0, .inr (0, [.ref q, .int 0, .int (-1), .int 0, .int 0, .null, .ref q_1, .ref q_2, .ref q_3, .ref q_4, .ref q_5, .null, .null, .null])), (q, .inl (cA, 512, .inl (fun _ => 0))), (q_1, .inl (cA_1, 26, .inr (.inr (.inr (.inr (fun _ => none)))))), (q_2, .inl (cA_2, 156, .inl (fun _ => 0)))] := hD
  refine lv_aload_n hx hb px_d7_97 rfl (lv_at hl 0 rfl) ?_
  refine va_new (ci := 5) (fs := [.null, .int 0, .int 0, .int 0, .int 0, .int 0]) (C := "MatroidDesk$Tokens") (T := px_T5) (N := 6) hx hb htw px_in5 px_ty5 px_tyok5 hown (htw _ px_w227) (htw _ px_w67) (htw _ px_w66) hK hP hD hS hA rfl px_df5 (Nat.le_of_ble_eq_true rfl) (Nat.le_of_ble_eq_true rfl) px_d7_98 (fun q_6 H hP hD hS => ?_)
  have hP : va_P (dC, dI) vwCl [(h0, .inr (0, [.ref q, .int 0, .int (-1), .int 0, .int 0, .null, .ref q_1, .ref q_2, .ref q_3, .ref q_4, .ref q_5, .null, .null, .null])), (q, .inl (cA, 512, .inl (fun _ => 0))), (q_1, .inl (cA_1, 26, .inr (.inr (.inr (.inr (fun _ => none)))))), (q_2, .inl (cA_2, 156, .inl (fun _ => 0))), (q_6, .inr (5, [.null, .int 0, .int 0, .int 0, .int 0, .int 0]))] H := hP
  have hD : va_D A [(h0, .inr (0, [.ref q, .int 0, .int (-1), .int 0, .int 0, .null, .ref q_1, .ref q_2, .ref q_3, .ref q_4, .ref q_5, .null, .null, .null])), (q, .inl (cA, 512, .inl (fun _ => 0))), (q_1, .inl (cA_1, 26, .inr (.inr (.inr (.inr (fun _ => none)))))), (q_2, .inl (cA_2, 156, .inl (fun _ => 0))), (q_6, .inr (5, [.null, .int 0, .int 0, .int 0, .int 0, .int 0]))] := hD
  refine W.widen (k := 22) (n := 1435) (Nat.le_of_ble_eq_true rfl) (Nat.le_of_ble_eq_true rfl) ?_
  refine lv_dup hx hb px_d7_101 rfl ?_
  have hPc := hP.sub (ws' := [(q_6, .inr (5, [.null, .int 0, .int 0, .int 0, .int 0, .int 0]))]) [4] rfl
  have hDc := hD.sub (ws' := [(q_6, .inr (5, [.null, .int 0, .int 0, .int 0, .int 0, .int 0]))]) [4] (by decide) rfl
  have hKc := hK.sub (tys' := []) [] rfl
  have hFc := va_free (wc := [(q_6, .inr (5, [.null, .int 0, .int 0, .int 0, .int 0, .int 0]))]) hD hS hA [4] rfl
  refine va_callv (va_runI (As := []) (rest := [.ref q_6, .ref h0]) ⟨hx, hb, hml, hown, htw⟩ (px_Tokens_init l dC dI H.size q_6) (cwI 0 htw px_g0 rfl rfl rfl (htw _ px_w66) (htw _ px_w228) (htw _ px_w156) rfl (by decide +kernel) ⟨Nat.le_of_ble_eq_true rfl, Nat.le_of_ble_eq_true rfl⟩) ⟨fun a U g mk q => by obtain ⟨q0, q1, qP, qK, qD, qN⟩ := q; exact ⟨q0, q1, qP, va_K.moved (u := U) (U := U.calling g mk a) (Vm.Alike.refl U.vm) qK, qD, qN.same rfl⟩, fun U hU hW => ⟨rfl, by rw [hU], by rw [hU]; exact hPc, va_K.moved hW.alike hKc, hDc.weaken (fun _ _ _ _ => trivial), hN.warm hW⟩⟩ rfl rfl hl.1 rfl (lv_room (Nat.le_of_ble_eq_true rfl)) px_d7_102 ⟨(Nat.le_of_ble_eq_true rfl), (Nat.le_of_ble_eq_true rfl)⟩) hS (fun q _ h => hFc q h) hFc (fun u t H1 locs ht hvm hw_102 hB hz1 hk1 hS => ?_)
  obtain ⟨q_7, cA_3, hP1, hK1, hD1⟩ := hB
  rw [ht] at hP1
  have hK1 := va_K.moved hvm.symm hK1
  obtain ⟨hP, hD⟩ := va_join (wr := [(h0, .inr (0, [.ref q, .int 0, .int (-1), .int 0, .int 0, .null, .ref q_1, .ref q_2, .ref q_3, .ref q_4, .ref q_5, .null, .null, .null])), (q, .inl (cA, 512, .inl (fun _ => 0))), (q_1, .inl (cA_1, 26, .inr (.inr (.inr (.inr (fun _ => none)))))), (q_2, .inl (cA_2, 156, .inl (fun _ => 0)))]) (w1 := [(q_6, .inr (5, [.ref q_7, .int 0, .int 0, .int 0, .int 0, .int 0])), (q_7, .inl (cA_3, 0, .inl (fun _ => 0)))]) hP hD [4] [0, 1, 2, 3] rfl rfl (by decide) (by decide) hk1 hFc hP1 hD1
  have hK := hK.app (hK1.sub (tys' := [(cA_3, .byte)]) [0] rfl)
  generalize H1 = H at hP hS ⊢
  have hP : va_P (dC, dI) vwCl [(h0, .inr (0, [.ref q, .int 0, .int (-1), .int 0, .int 0, .null, .ref q_1, .ref q_2, .ref q_3, .ref q_4, .ref q_5, .null, .null, .null])), (q, .inl (cA, 512, .inl (fun _ => 0))), (q_1, .inl (cA_1, 26, .inr (.inr (.inr (.inr (fun _ => none)))))), (q_2, .inl (cA_2, 156, .inl (fun _ => 0))), (q_6, .inr (5, [.ref q_7, .int 0, .int 0, .int 0, .int 0, .int 0])), (q_7, .inl (cA_3, 0, .inl (fun _ => 0)))] H := hP
  have hD : va_D A [(h0, .inr (0, [.ref q, .int 0, .int (-1), .int 0, .int 0, .null, .ref q_1, .ref q_2, .ref q_3, .ref q_4, .ref q_5, .null, .null, .null])), (q, .inl (cA, 512, .inl (fun _ => 0))), (q_1, .inl (cA_1, 26, .inr (.inr (.inr (.inr (fun _ => none)))))), (q_2, .inl (cA_2, 156, .inl (fun _ => 0))), (q_6, .inr (5, [.ref q_7, .int 0, .int 0, .int 0, .int 0, .int 0])), (q_7, .inl (cA_3, 0, .inl (fun _ => 0)))] := hD
  have hK : va_K (dC, dI) vwCl [(cA, .byte), (cA_1, .object "MatroidDesk$Matroid"), (cA_2, .int), (cA_3, .byte)] s := hK
  refine W.widen (k := 23) (n := 1435) (Nat.le_of_ble_eq_true rfl) (Nat.le_of_ble_eq_true rfl) ?_
  refine va_putF (D := (dC, dI)) (ci := 0) (v := .ref q_6) (ty := (.object "MatroidDesk$Tokens")) (C := "MatroidDesk") (T := px_T0) (N := 14) hx hb htw px_in0 px_ty0 px_tyok0 px_nm0 hown hK hP hD hS 0 rfl rfl 11 (by decide) (htw _ px_w229) (fun _ h9 => h9) rfl hin rfl (by decide +kernel) rfl rfl (Nat.le_of_ble_eq_true rfl) px_d7_105 (fun H locs hP hD hS => ?_)
  have hP : va_P (dC, dI) vwCl [(h0, .inr (0, [.ref q, .int 0, .int (-1), .int 0, .int 0, .null, .ref q_1, .ref q_2, .ref q_3, .ref q_4, .ref q_5, .ref q_6, .null, .null])), (q, .inl (cA, 512, .inl (fun _ => 0))), (q_1, .inl (cA_1, 26, .inr (.inr (.inr (.inr (fun _ => none)))))), (q_2, .inl (cA_2, 156, .inl (fun _ => 0))), (q_6, .inr (5, [.ref q_7, .int 0, .int 0, .int 0, .int 0, .int 0])), (q_7, .inl (cA_3, 0, .inl (fun _ => 0)))] H := hP
  have hD : va_D A [(h0, .inr (0, [.ref q, .int 0, .int (-1), .int 0, .int 0, .null, .ref q_1, .ref q_2, .ref q_3, .ref q_4, .ref q_5, .ref q_6, .null, .null])), (q, .inl (cA, 512, .inl (fun _ => 0))), (q_1, .inl (cA_1, 26, .inr (.inr (.inr (.inr (fun _ => none)))))), (q_2, .inl (cA_2, 156, .inl (fun _ => 0))), (q_6, .inr (5, [.ref q_7, .int 0, .int 0, .int 0, .int 0, .int 0])), (q_7, .inl (cA_3, 0, .inl (fun _ => 0)))] := hD
  refine lv_aload_n hx hb px_d7_108 rfl (lv_at hl 0 rfl) ?_
  refine va_new (ci := 6) (fs := [.null, .null, .null, .int 0, .int 0, .int 0, .int 0, .int 0, .int 0, .int 0, .int 0, .int 0]) (C := "MatroidDesk$Statement") (T := px_T6) (N := 12) hx hb htw px_in6 px_ty6 px_tyok6 hown (htw _ px_w230) (htw _ px_w75) (htw _ px_w74) hK hP hD hS hA rfl px_df6 (Nat.le_of_ble_eq_true rfl) (Nat.le_of_ble_eq_true rfl) px_d7_109 (fun q_8 H hP hD hS => ?_)
  have hP : va_P (dC, dI) vwCl [(h0, .inr (0, [.ref q, .int 0, .int (-1), .int 0, .int 0, .null, .ref q_1, .ref q_2, .ref q_3, .ref q_4, .ref q_5, .ref q_6, .null, .null])), (q, .inl (cA, 512, .inl (fun _ => 0))), (q_1, .inl (cA_1, 26, .inr (.inr (.inr (.inr (fun _ => none)))))), (q_2, .inl (cA_2, 156, .inl (fun _ => 0))), (q_6, .inr (5, [.ref q_7, .int 0, .int 0, .int 0, .int 0, .int 0])), (q_7, .inl (cA_3, 0, .inl (fun _ => 0))), (q_8, .inr (6, [.null, .null, .null, .int 0, .int 0, .int 0, .int 0, .int 0, .int 0, .int 0, .int 0, .int 0]))] H := hP
  have hD : va_D A [(h0, .inr (0, [.ref q, .int 0, .int (-1), .int 0, .int 0, .null, .ref q_1, .ref q_2, .ref q_3, .ref q_4, .ref q_5, .ref q_6, .null, .null])), (q, .inl (cA, 512, .inl (fun _ => 0))), (q_1, .inl (cA_1, 26, .inr (.inr (.inr (.inr (fun _ => none)))))), (q_2, .inl (cA_2, 156, .inl (fun _ => 0))), (q_6, .inr (5, [.ref q_7, .int 0, .int 0, .int 0, .int 0, .int 0])), (q_7, .inl (cA_3, 0, .inl (fun _ => 0))), (q_8, .inr (6, [.null, .null, .null, .int 0, .int 0, .int 0, .int 0, .int 0, .int 0, .int 0, .int 0, .int 0]))] := hD
  refine W.widen (k := 24) (n := 1447) (Nat.le_of_ble_eq_true rfl) (Nat.le_of_ble_eq_true rfl) ?_
  refine lv_dup hx hb px_d7_112 rfl ?_
  refine lv_aload_n hx hb px_d7_113 rfl (lv_at hl 0 rfl) ?_
  refine va_get (D := (dC, dI)) (ci := 0) (v := .ref q_6) (C := "MatroidDesk") (T := px_T0) (N := 14) hx hb htw px_in0 hown hK hP 0 rfl rfl 11 (by decide) (htw _ px_w229) (fun _ h9 => h9) rfl px_d7_114 ?_
  have hPc := hP.sub (ws' := [(q_8, .inr (6, [.null, .null, .null, .int 0, .int 0, .int 0, .int 0, .int 0, .int 0, .int 0, .int 0, .int 0]))]) [6] rfl
  have hDc := hD.sub (ws' := [(q_8, .inr (6, [.null, .null, .null, .int 0, .int 0, .int 0, .int 0, .int 0, .int 0, .int 0, .int 0, .int 0]))]) [6] (by decide) rfl
  have hKc := hK.sub (tys' := []) [] rfl
  have hFc := va_free (wc := [(q_8, .inr (6, [.null, .null, .null, .int 0, .int 0, .int 0, .int 0, .int 0, .int 0, .int 0, .int 0, .int 0]))]) hD hS hA [6] rfl
  refine va_callv (va_runI (As := [.ref q_6]) (rest := [.ref q_8, .ref h0]) ⟨hx, hb, hml, hown, htw⟩ (px_Statement_init l dC dI H.size q_8 q_6 vS) (cwI 1 htw px_g5 rfl rfl rfl (htw _ px_w74) (htw _ px_w231) (htw _ px_w195) rfl (by decide +kernel) ⟨Nat.le_of_ble_eq_true rfl, Nat.le_of_ble_eq_true rfl⟩) ⟨fun a U g mk q => by obtain ⟨q0, q1, qP, qK, qD, qN, qE0⟩ := q; exact ⟨q0, q1, qP, va_K.moved (u := U) (U := U.calling g mk a) (Vm.Alike.refl U.vm) qK, qD, qN.same rfl, qE0.moved (U := U.calling g mk a) (Vm.Alike.refl U.vm)⟩, fun U hU hW => ⟨rfl, by rw [hU], by rw [hU]; exact hPc, va_K.moved hW.alike hKc, hDc.weaken (fun _ _ _ _ => trivial), hN.warm hW, by rw [hU]; exact ((hE0.kept (fun a h1 h2 => hS.2.1 a h1 h2)).narrow hFc).moved hW.alike⟩⟩ rfl rfl hl.1 rfl (lv_room (Nat.le_of_ble_eq_true rfl)) px_d7_117 ⟨(Nat.le_of_ble_eq_true rfl), (Nat.le_of_ble_eq_true rfl)⟩) hS (fun q _ h => hFc q h) hFc (fun u t H1 locs ht hvm hw_117 hB hz1 hk1 hS => ?_)
  obtain ⟨hP1, hK1, hD1⟩ := hB
  rw [ht] at hP1
  have hK1 := va_K.moved hvm.symm hK1
  obtain ⟨hP, hD⟩ := va_join (wr := [(h0, .inr (0, [.ref q, .int 0, .int (-1), .int 0, .int 0, .null, .ref q_1, .ref q_2, .ref q_3, .ref q_4, .ref q_5, .ref q_6, .null, .null])), (q, .inl (cA, 512, .inl (fun _ => 0))), (q_1, .inl (cA_1, 26, .inr (.inr (.inr (.inr (fun _ => none)))))), (q_2, .inl (cA_2, 156, .inl (fun _ => 0))), (q_6, .inr (5, [.ref q_7, .int 0, .int 0, .int 0, .int 0, .int 0])), (q_7, .inl (cA_3, 0, .inl (fun _ => 0)))]) (w1 := []) hP hD [6] [0, 1, 2, 3, 4, 5] rfl rfl (by decide) (by decide) hk1 hFc hP1 hD1
  generalize H1 = H at hP hS ⊢
  have hP : va_P (dC, dI) vwCl [(h0, .inr (0, [.ref q, .int 0, .int (-1), .int 0, .int 0, .null, .ref q_1, .ref q_2, .ref q_3, .ref q_4, .ref q_5, .ref q_6, .null, .null])), (q, .inl (cA, 512, .inl (fun _ => 0))), (q_1, .inl (cA_1, 26, .inr (.inr (.inr (.inr (fun _ => none)))))), (q_2, .inl (cA_2, 156, .inl (fun _ => 0))), (q_6, .inr (5, [.ref q_7, .int 0, .int 0, .int 0, .int 0, .int 0])), (q_7, .inl (cA_3, 0, .inl (fun _ => 0)))] H := hP
  have hD : va_D A [(h0, .inr (0, [.ref q, .int 0, .int (-1), .int 0, .int 0, .null, .ref q_1, .ref q_2, .ref q_3, .ref q_4, .ref q_5, .ref q_6, .null, .null])), (q, .inl (cA, 512, .inl (fun _ => 0))), (q_1, .inl (cA_1, 26, .inr (.inr (.inr (.inr (fun _ => none)))))), (q_2, .inl (cA_2, 156, .inl (fun _ => 0))), (q_6, .inr (5, [.ref q_7, .int 0, .int 0, .int 0, .int 0, .int 0])), (q_7, .inl (cA_3, 0, .inl (fun _ => 0)))] := hD
  refine W.widen (k := 25) (n := 1607) (Nat.le_of_ble_eq_true rfl) (Nat.le_of_ble_eq_true rfl) ?_
  refine va_putF (D := (dC, dI)) (ci := 0) (v := .ref q_8) (ty := (.object "MatroidDesk$Statement")) (C := "MatroidDesk") (T := px_T0) (N := 14) hx hb htw px_in0 px_ty0 px_tyok0 px_nm0 hown hK hP hD hS 0 rfl rfl 12 (by decide) (htw _ px_w232) (fun _ h9 => h9) rfl hin rfl (by decide +kernel) rfl rfl (Nat.le_of_ble_eq_true rfl) px_d7_120 (fun H locs hP hD hS => ?_)
  have hP : va_P (dC, dI) vwCl [(h0, .inr (0, [.ref q, .int 0, .int (-1), .int 0, .int 0, .null, .ref q_1, .ref q_2, .ref q_3, .ref q_4, .ref q_5, .ref q_6, .ref q_8, .null])), (q, .inl (cA, 512, .inl (fun _ => 0))), (q_1, .inl (cA_1, 26, .inr (.inr (.inr (.inr (fun _ => none)))))), (q_2, .inl (cA_2, 156, .inl (fun _ => 0))), (q_6, .inr (5, [.ref q_7, .int 0, .int 0, .int 0, .int 0, .int 0])), (q_7, .inl (cA_3, 0, .inl (fun _ => 0)))] H := hP
  have hD : va_D A [(h0, .inr (0, [.ref q, .int 0, .int (-1), .int 0, .int 0, .null, .ref q_1, .ref q_2, .ref q_3, .ref q_4, .ref q_5, .ref q_6, .ref q_8, .null])), (q, .inl (cA, 512, .inl (fun _ => 0))), (q_1, .inl (cA_1, 26, .inr (.inr (.inr (.inr (fun _ => none)))))), (q_2, .inl (cA_2, 156, .inl (fun _ => 0))), (q_6, .inr (5, [.ref q_7, .int 0, .int 0, .int 0, .int 0, .int 0])), (q_7, .inl (cA_3, 0, .inl (fun _ => 0)))] := hD
  refine lv_aload_n hx hb px_d7_123 rfl (lv_at hl 0 rfl) ?_
  refine va_new (ci := 7) (fs := [.null, .null, .int 0, .int 0]) (C := "MatroidDesk$Product") (T := px_T7) (N := 4) hx hb htw px_in7 px_ty7 px_tyok7 hown (htw _ px_w233) (htw _ px_w89) (htw _ px_w88) hK hP hD hS hA rfl px_df7 (Nat.le_of_ble_eq_true rfl) (Nat.le_of_ble_eq_true rfl) px_d7_124 (fun q_9 H hP hD hS => ?_)
  have hP : va_P (dC, dI) vwCl [(h0, .inr (0, [.ref q, .int 0, .int (-1), .int 0, .int 0, .null, .ref q_1, .ref q_2, .ref q_3, .ref q_4, .ref q_5, .ref q_6, .ref q_8, .null])), (q, .inl (cA, 512, .inl (fun _ => 0))), (q_1, .inl (cA_1, 26, .inr (.inr (.inr (.inr (fun _ => none)))))), (q_2, .inl (cA_2, 156, .inl (fun _ => 0))), (q_6, .inr (5, [.ref q_7, .int 0, .int 0, .int 0, .int 0, .int 0])), (q_7, .inl (cA_3, 0, .inl (fun _ => 0))), (q_9, .inr (7, [.null, .null, .int 0, .int 0]))] H := hP
  have hD : va_D A [(h0, .inr (0, [.ref q, .int 0, .int (-1), .int 0, .int 0, .null, .ref q_1, .ref q_2, .ref q_3, .ref q_4, .ref q_5, .ref q_6, .ref q_8, .null])), (q, .inl (cA, 512, .inl (fun _ => 0))), (q_1, .inl (cA_1, 26, .inr (.inr (.inr (.inr (fun _ => none)))))), (q_2, .inl (cA_2, 156, .inl (fun _ => 0))), (q_6, .inr (5, [.ref q_7, .int 0, .int 0, .int 0, .int 0, .int 0])), (q_7, .inl (cA_3, 0, .inl (fun _ => 0))), (q_9, .inr (7, [.null, .null, .int 0, .int 0]))] := hD
  refine W.widen (k := 26) (n := 1611) (Nat.le_of_ble_eq_true rfl) (Nat.le_of_ble_eq_true rfl) ?_
  refine lv_dup hx hb px_d7_127 rfl ?_
  have hPc := hP.sub (ws' := [(q_9, .inr (7, [.null, .null, .int 0, .int 0]))]) [6] rfl
  have hDc := hD.sub (ws' := [(q_9, .inr (7, [.null, .null, .int 0, .int 0]))]) [6] (by decide) rfl
  have hKc := hK.sub (tys' := []) [] rfl
  have hFc := va_free (wc := [(q_9, .inr (7, [.null, .null, .int 0, .int 0]))]) hD hS hA [6] rfl
  refine va_callv (va_runI (As := []) (rest := [.ref q_9, .ref h0]) ⟨hx, hb, hml, hown, htw⟩ (px_Product_init l dC dI H.size q_9) (cwI 0 htw px_g6 rfl rfl rfl (htw _ px_w88) (htw _ px_w234) (htw _ px_w202) rfl (by decide +kernel) ⟨Nat.le_of_ble_eq_true rfl, Nat.le_of_ble_eq_true rfl⟩) ⟨fun a U g mk q => by obtain ⟨q0, q1, qP, qK, qD, qN⟩ := q; exact ⟨q0, q1, qP, va_K.moved (u := U) (U := U.calling g mk a) (Vm.Alike.refl U.vm) qK, qD, qN.same rfl⟩, fun U hU hW => ⟨rfl, by rw [hU], by rw [hU]; exact hPc, va_K.moved hW.alike hKc, hDc.weaken (fun _ _ _ _ => trivial), hN.warm hW⟩⟩ rfl rfl hl.1 rfl (lv_room (Nat.le_of_ble_eq_true rfl)) px_d7_128 ⟨(Nat.le_of_ble_eq_true rfl), (Nat.le_of_ble_eq_true rfl)⟩) hS (fun q _ h => hFc q h) hFc (fun u t H1 locs ht hvm hw_128 hB hz1 hk1 hS => ?_)
  obtain ⟨q_10, q_11, hP1, hK1, hD1⟩ := hB
  rw [ht] at hP1
  have hK1 := va_K.moved hvm.symm hK1
  obtain ⟨hP, hD⟩ := va_join (wr := [(h0, .inr (0, [.ref q, .int 0, .int (-1), .int 0, .int 0, .null, .ref q_1, .ref q_2, .ref q_3, .ref q_4, .ref q_5, .ref q_6, .ref q_8, .null])), (q, .inl (cA, 512, .inl (fun _ => 0))), (q_1, .inl (cA_1, 26, .inr (.inr (.inr (.inr (fun _ => none)))))), (q_2, .inl (cA_2, 156, .inl (fun _ => 0))), (q_6, .inr (5, [.ref q_7, .int 0, .int 0, .int 0, .int 0, .int 0])), (q_7, .inl (cA_3, 0, .inl (fun _ => 0)))]) (w1 := [(q_9, .inr (7, [.ref q_10, .ref q_11, .int 0, .int 0]))]) hP hD [6] [0, 1, 2, 3, 4, 5] rfl rfl (by decide) (by decide) hk1 hFc hP1 hD1
  generalize H1 = H at hP hS ⊢
  have hP : va_P (dC, dI) vwCl [(h0, .inr (0, [.ref q, .int 0, .int (-1), .int 0, .int 0, .null, .ref q_1, .ref q_2, .ref q_3, .ref q_4, .ref q_5, .ref q_6, .ref q_8, .null])), (q, .inl (cA, 512, .inl (fun _ => 0))), (q_1, .inl (cA_1, 26, .inr (.inr (.inr (.inr (fun _ => none)))))), (q_2, .inl (cA_2, 156, .inl (fun _ => 0))), (q_6, .inr (5, [.ref q_7, .int 0, .int 0, .int 0, .int 0, .int 0])), (q_7, .inl (cA_3, 0, .inl (fun _ => 0))), (q_9, .inr (7, [.ref q_10, .ref q_11, .int 0, .int 0]))] H := hP
  have hD : va_D A [(h0, .inr (0, [.ref q, .int 0, .int (-1), .int 0, .int 0, .null, .ref q_1, .ref q_2, .ref q_3, .ref q_4, .ref q_5, .ref q_6, .ref q_8, .null])), (q, .inl (cA, 512, .inl (fun _ => 0))), (q_1, .inl (cA_1, 26, .inr (.inr (.inr (.inr (fun _ => none)))))), (q_2, .inl (cA_2, 156, .inl (fun _ => 0))), (q_6, .inr (5, [.ref q_7, .int 0, .int 0, .int 0, .int 0, .int 0])), (q_7, .inl (cA_3, 0, .inl (fun _ => 0))), (q_9, .inr (7, [.ref q_10, .ref q_11, .int 0, .int 0]))] := hD
  refine W.widen (k := 28) (n := 1915) (Nat.le_of_ble_eq_true rfl) (Nat.le_of_ble_eq_true rfl) ?_
  refine va_putF (D := (dC, dI)) (ci := 0) (v := .ref q_9) (ty := (.object "MatroidDesk$Product")) (C := "MatroidDesk") (T := px_T0) (N := 14) hx hb htw px_in0 px_ty0 px_tyok0 px_nm0 hown hK hP hD hS 0 rfl rfl 13 (by decide) (htw _ px_w235) (fun _ h9 => h9) rfl hin rfl (by decide +kernel) rfl rfl (Nat.le_of_ble_eq_true rfl) px_d7_131 (fun H locs hP hD hS => ?_)
  have hP : va_P (dC, dI) vwCl [(h0, .inr (0, [.ref q, .int 0, .int (-1), .int 0, .int 0, .null, .ref q_1, .ref q_2, .ref q_3, .ref q_4, .ref q_5, .ref q_6, .ref q_8, .ref q_9])), (q, .inl (cA, 512, .inl (fun _ => 0))), (q_1, .inl (cA_1, 26, .inr (.inr (.inr (.inr (fun _ => none)))))), (q_2, .inl (cA_2, 156, .inl (fun _ => 0))), (q_6, .inr (5, [.ref q_7, .int 0, .int 0, .int 0, .int 0, .int 0])), (q_7, .inl (cA_3, 0, .inl (fun _ => 0))), (q_9, .inr (7, [.ref q_10, .ref q_11, .int 0, .int 0]))] H := hP
  have hD : va_D A [(h0, .inr (0, [.ref q, .int 0, .int (-1), .int 0, .int 0, .null, .ref q_1, .ref q_2, .ref q_3, .ref q_4, .ref q_5, .ref q_6, .ref q_8, .ref q_9])), (q, .inl (cA, 512, .inl (fun _ => 0))), (q_1, .inl (cA_1, 26, .inr (.inr (.inr (.inr (fun _ => none)))))), (q_2, .inl (cA_2, 156, .inl (fun _ => 0))), (q_6, .inr (5, [.ref q_7, .int 0, .int 0, .int 0, .int 0, .int 0])), (q_7, .inl (cA_3, 0, .inl (fun _ => 0))), (q_9, .inr (7, [.ref q_10, .ref q_11, .int 0, .int 0]))] := hD
  have hP9 := hP.sub (ws' := [(h0, .inr (0, [.ref q, .int 0, .int (-1), .int 0, .int 0, .null, .ref q_1, .ref q_2, .ref q_3, .ref q_4, .ref q_5, .ref q_6, .ref q_8, .ref q_9])), (q, .inl (cA, 512, .inl (fun _ => 0))), (q_1, .inl (cA_1, 26, .inr (.inr (.inr (.inr (fun _ => none)))))), (q_6, .inr (5, [.ref q_7, .int 0, .int 0, .int 0, .int 0, .int 0])), (q_9, .inr (7, [.ref q_10, .ref q_11, .int 0, .int 0]))]) [0, 1, 2, 4, 6] rfl
  have hD9 := hD.sub (ws' := [(h0, .inr (0, [.ref q, .int 0, .int (-1), .int 0, .int 0, .null, .ref q_1, .ref q_2, .ref q_3, .ref q_4, .ref q_5, .ref q_6, .ref q_8, .ref q_9])), (q, .inl (cA, 512, .inl (fun _ => 0))), (q_1, .inl (cA_1, 26, .inr (.inr (.inr (.inr (fun _ => none)))))), (q_6, .inr (5, [.ref q_7, .int 0, .int 0, .int 0, .int 0, .int 0])), (q_9, .inr (7, [.ref q_10, .ref q_11, .int 0, .int 0]))]) [0, 1, 2, 4, 6] (by decide) rfl
  have hK9 := hK.sub (tys' := [(cA, .byte), (cA_1, .object "MatroidDesk$Matroid")]) [0, 1] rfl
  refine W.widen (k := 28) (n := 1915) (Nat.le_of_ble_eq_true rfl) (Nat.le_of_ble_eq_true rfl) ?_
  exact W.vret hx hb hr (fun t ht hW => ⟨⟨(), rfl, trivial, q, q_1, q_6, q_9, q_2, q_3, q_4, q_5, q_8, q_7, q_10, q_11, cA, cA_1, by rw [ht]; exact hP9, va_K.moved hW.alike hK9, hD9⟩, hS.F ht⟩) hS.2.2 px_d7_134
end
section
set_option maxHeartbeats 4000000 in
set_option maxRecDepth 100000 in
/-- matroidAt(x): none -/
theorem px_matroidAt (l : Launch) (dC : Nat → ClassId) (dI : Nat → Nat → Nat) (sz : Nat) (h0 : Nat) (qb : Nat) (qm : Nat) (qe : Nat) (qo : Nat) (qi : Nat) (qw : Nat) (qt : Nat) (qs : Nat) (qp : Nat) (cm : ClassId) (x : Int32) : Met l px_y24 px_s24 ({ frames := 0, cells := 0, slots := 0, locals := 0 }) (va_Pc [.ref h0, .int x] (fun U => U.heap.size = sz ∧ va_P (dC, dI) vwCl [(h0, .inr (0, [.ref qb, .int 0, .int (-1), .int 0, .int 0, .null, .ref qm, .ref qe, .ref qo, .ref qi, .ref qw, .ref qt, .ref qs, .ref qp])), (qm, .inl (cm, 26, .inr (.inr (.inr (.inr (fun _ => none))))))] U.heap ∧ va_K (dC, dI) vwCl [(cm, .object "MatroidDesk$Matroid")] U ∧ va_D (fun _ => True) [(h0, .inr (0, [.ref qb, .int 0, .int (-1), .int 0, .int 0, .null, .ref qm, .ref qe, .ref qo, .ref qi, .ref qw, .ref qt, .ref qs, .ref qp])), (qm, .inl (cm, 26, .inr (.inr (.inr (.inr (fun _ => none))))))] ∧ px_N U)) (va_Qq (fun (r : Option Nat) (_ : Unit) => r = none) (fun (_ : Unit) (t : State) => va_P (dC, dI) vwCl [(h0, .inr (0, [.ref qb, .int 0, .int (-1), .int 0, .int 0, .null, .ref qm, .ref qe, .ref qo, .ref qi, .ref qw, .ref qt, .ref qs, .ref qp])), (qm, .inl (cm, 26, .inr (.inr (.inr (.inr (fun _ => none))))))] t.heap ∧ va_K (dC, dI) vwCl [(cm, .object "MatroidDesk$Matroid")] t ∧ va_D (va_A [(h0, .inr (0, [.ref qb, .int 0, .int (-1), .int 0, .int 0, .null, .ref qm, .ref qe, .ref qo, .ref qi, .ref qw, .ref qt, .ref qs, .ref qp])), (qm, .inl (cm, 26, .inr (.inr (.inr (.inr (fun _ => none))))))] sz) [(h0, .inr (0, [.ref qb, .int 0, .int (-1), .int 0, .int 0, .null, .ref qm, .ref qe, .ref qo, .ref qi, .ref qw, .ref qt, .ref qs, .ref qp])), (qm, .inl (cm, 26, .inr (.inr (.inr (.inr (fun _ => none))))))]) (va_A [(h0, .inr (0, [.ref qb, .int 0, .int (-1), .int 0, .int 0, .null, .ref qm, .ref qe, .ref qo, .ref qi, .ref qw, .ref qt, .ref qs, .ref qp])), (qm, .inl (cm, 26, .inr (.inr (.inr (.inr (fun _ => none))))))] sz)) 0 0 (va_A [(h0, .inr (0, [.ref qb, .int 0, .int (-1), .int 0, .int 0, .null, .ref qm, .ref qe, .ref qo, .ref qi, .ref qw, .ref qt, .ref qs, .ref qp])), (qm, .inl (cm, 26, .inr (.inr (.inr (.inr (fun _ => none))))))] sz) := by
  refine Met.ofW (cc := prog_1_method_25_code) (maxL := 2) (ret := (some (.object "MatroidDesk$Matroid"))) (by decide) rfl ?_
  intro p e s m args below meth c s₁ B hml hv
  obtain ⟨rfl, hsz, hP, hK, hD0, hN⟩ := hv
  have hx := B.exec
  have hb := B.bytes
  have hr := B.returns
  have htw : ∀ w ∈ px_all, w.before _ s = true := fun w h => atoms_spec (ws := px_s24) B.pre w (List.mem_cons_of_mem _ h)
  have hown : s.vm.findClass "MatroidDesk" = some m.cls := findClass_of_methodNamed B.named
  have hlocks := B.notSynchronized
  subst hsz
  have hD := hD0.self (sz := s.heap.size)
  generalize hAe : va_A [(h0, .inr (0, [.ref qb, .int 0, .int (-1), .int 0, .int 0, .null, .ref qm, .ref qe, .ref qo, .ref qi, .ref qw, .ref qt, .ref qs, .ref qp])), (qm, .inl (cm, 26, .inr (.inr (.inr (.inr (fun _ => none))))))] s.heap.size = A at hD ⊢
  have hA : ∀ q : Nat, s.heap.size ≤ q → A q := fun q h => by rw [← hAe]; exact Or.inr h
  have hS : va_S A s.heap s.heap [] := va_S.rf
  have hP : va_P (dC, dI) vwCl [(h0, .inr (0, [.ref qb, .int 0, .int (-1), .int 0, .int 0, .null, .ref qm, .ref qe, .ref qo, .ref qi, .ref qw, .ref qt, .ref qs, .ref qp])), (qm, .inl (cm, 26, .inr (.inr (.inr (.inr (fun _ => none))))))] s.heap := hP
  have hl := lv_entry ([.ref h0, .int x]) (n := 2) (Nat.le_of_ble_eq_true rfl)
  rw [lg_entry_eq]
  generalize (lg_sl ([.ref h0, .int x]) ++ List.replicate (2 - (lg_sl ([.ref h0, .int x])).length) Slot.unset).toArray = ls at hl ⊢
  have hl : lv_has ls 2 [(0, .ref h0), (1, .int x)] := hl
  refine lv_iload_n hx hb px_d24_0 rfl (lv_at hl 1 rfl) ?_
  refine lv_if_lt (tgt := 10) hx hb px_d24_1 (by decide) (fun c_1 => ?_) (fun c_1 => ?_)
  · refine lv_null hx hb px_d24_10 ?_
    refine lv_goto (tgt := 20) hx hb px_d24_11 (by decide) ?_
    have hP9 := hP.sub (ws' := [(h0, .inr (0, [.ref qb, .int 0, .int (-1), .int 0, .int 0, .null, .ref qm, .ref qe, .ref qo, .ref qi, .ref qw, .ref qt, .ref qs, .ref qp])), (qm, .inl (cm, 26, .inr (.inr (.inr (.inr (fun _ => none))))))]) [0, 1] rfl
    have hD9 := hD.sub (ws' := [(h0, .inr (0, [.ref qb, .int 0, .int (-1), .int 0, .int 0, .null, .ref qm, .ref qe, .ref qo, .ref qi, .ref qw, .ref qt, .ref qs, .ref qp])), (qm, .inl (cm, 26, .inr (.inr (.inr (.inr (fun _ => none))))))]) [0, 1] (by decide) rfl
    have hK9 := hK.sub (tys' := [(cm, .object "MatroidDesk$Matroid")]) [0] rfl
    refine W.widen (k := 0) (n := 0) (Nat.le_of_ble_eq_true rfl) (Nat.le_of_ble_eq_true rfl) ?_
    exact W.aret hx hb hr (Or.inl ⟨_, rfl⟩) (Or.inl rfl) (fun t ht hW => ⟨⟨none, (), rfl, rfl, by rw [ht]; exact hP9, va_K.moved hW.alike hK9, hD9⟩, hS.F ht⟩) hS.2.2 px_d24_20
  · refine lv_iload_n hx hb px_d24_4 rfl (lv_at hl 1 rfl) ?_
    refine lv_bipush (v := 26) hx hb px_d24_5 (by decide) ?_
    refine lv_icmp_lt (tgt := 14) hx hb px_d24_7 (by decide) (fun c_7 => ?_) (fun c_7 => ?_)
    · refine lv_aload_n hx hb px_d24_14 rfl (lv_at hl 0 rfl) ?_
      refine va_get (D := (dC, dI)) (ci := 0) (v := .ref qm) (C := "MatroidDesk") (T := px_T0) (N := 14) hx hb htw px_in0 hown hK hP 0 rfl rfl 6 (by decide) (htw _ px_w216) (fun _ h9 => h9) rfl px_d24_15 ?_
      refine lv_iload_n hx hb px_d24_18 rfl (lv_at hl 1 rfl) ?_
      refine va_aldq hx hb hK hP 1 0 rfl rfl (px_vin (by decide) c_1 (show x < nI 26 from c_7)) px_d24_19 ?_
      refine W.eq (g2 := F0 m 20 ls (.null :: [])) rfl ?_
      have hP9 := hP.sub (ws' := [(h0, .inr (0, [.ref qb, .int 0, .int (-1), .int 0, .int 0, .null, .ref qm, .ref qe, .ref qo, .ref qi, .ref qw, .ref qt, .ref qs, .ref qp])), (qm, .inl (cm, 26, .inr (.inr (.inr (.inr (fun _ => none))))))]) [0, 1] rfl
      have hD9 := hD.sub (ws' := [(h0, .inr (0, [.ref qb, .int 0, .int (-1), .int 0, .int 0, .null, .ref qm, .ref qe, .ref qo, .ref qi, .ref qw, .ref qt, .ref qs, .ref qp])), (qm, .inl (cm, 26, .inr (.inr (.inr (.inr (fun _ => none))))))]) [0, 1] (by decide) rfl
      have hK9 := hK.sub (tys' := [(cm, .object "MatroidDesk$Matroid")]) [0] rfl
      refine W.widen (k := 0) (n := 0) (Nat.le_of_ble_eq_true rfl) (Nat.le_of_ble_eq_true rfl) ?_
      exact W.aret hx hb hr (Or.inl ⟨_, rfl⟩) (Or.inl rfl) (fun t ht hW => ⟨⟨none, (), rfl, rfl, by rw [ht]; exact hP9, va_K.moved hW.alike hK9, hD9⟩, hS.F ht⟩) hS.2.2 px_d24_20
    · refine lv_null hx hb px_d24_10 ?_
      refine lv_goto (tgt := 20) hx hb px_d24_11 (by decide) ?_
      have hP9 := hP.sub (ws' := [(h0, .inr (0, [.ref qb, .int 0, .int (-1), .int 0, .int 0, .null, .ref qm, .ref qe, .ref qo, .ref qi, .ref qw, .ref qt, .ref qs, .ref qp])), (qm, .inl (cm, 26, .inr (.inr (.inr (.inr (fun _ => none))))))]) [0, 1] rfl
      have hD9 := hD.sub (ws' := [(h0, .inr (0, [.ref qb, .int 0, .int (-1), .int 0, .int 0, .null, .ref qm, .ref qe, .ref qo, .ref qi, .ref qw, .ref qt, .ref qs, .ref qp])), (qm, .inl (cm, 26, .inr (.inr (.inr (.inr (fun _ => none))))))]) [0, 1] (by decide) rfl
      have hK9 := hK.sub (tys' := [(cm, .object "MatroidDesk$Matroid")]) [0] rfl
      refine W.widen (k := 0) (n := 0) (Nat.le_of_ble_eq_true rfl) (Nat.le_of_ble_eq_true rfl) ?_
      exact W.aret hx hb hr (Or.inl ⟨_, rfl⟩) (Or.inl rfl) (fun t ht hW => ⟨⟨none, (), rfl, rfl, by rw [ht]; exact hP9, va_K.moved hW.alike hK9, hD9⟩, hS.F ht⟩) hS.2.2 px_d24_20
set_option maxHeartbeats 4000000 in
set_option maxRecDepth 100000 in
/-- place -/
theorem px_D_place (l : Launch) (dC : Nat → ClassId) (dI : Nat → Nat → Nat) (sz : Nat) (h0 : Nat) (qb : Nat) (qm : Nat) (qe : Nat) (qo : Nat) (qi : Nat) (qw : Nat) (qt : Nat) (qs : Nat) (qp : Nat) : Met l px_y20 px_s20 ({ frames := 0, cells := 0, slots := 0, locals := 0 }) (va_Pc [.ref h0] (fun U => U.heap.size = sz ∧ va_P (dC, dI) vwCl [(h0, .inr (0, [.ref qb, .int 0, .int (-1), .int 0, .int 0, .null, .ref qm, .ref qe, .ref qo, .ref qi, .ref qw, .ref qt, .ref qs, .ref qp]))] U.heap ∧ va_K (dC, dI) vwCl [] U ∧ va_D (fun _ => True) [(h0, .inr (0, [.ref qb, .int 0, .int (-1), .int 0, .int 0, .null, .ref qm, .ref qe, .ref qo, .ref qi, .ref qw, .ref qt, .ref qs, .ref qp]))] ∧ px_N U)) (va_Qi (fun (r : Int32) (_ : Unit) => r = (-1)) (fun (_ : Unit) (t : State) => va_P (dC, dI) vwCl [(h0, .inr (0, [.ref qb, .int 0, .int (-1), .int 0, .int 0, .null, .ref qm, .ref qe, .ref qo, .ref qi, .ref qw, .ref qt, .ref qs, .ref qp]))] t.heap ∧ va_K (dC, dI) vwCl [] t ∧ va_D (va_A [(h0, .inr (0, [.ref qb, .int 0, .int (-1), .int 0, .int 0, .null, .ref qm, .ref qe, .ref qo, .ref qi, .ref qw, .ref qt, .ref qs, .ref qp]))] sz) [(h0, .inr (0, [.ref qb, .int 0, .int (-1), .int 0, .int 0, .null, .ref qm, .ref qe, .ref qo, .ref qi, .ref qw, .ref qt, .ref qs, .ref qp]))]) (va_A [(h0, .inr (0, [.ref qb, .int 0, .int (-1), .int 0, .int 0, .null, .ref qm, .ref qe, .ref qo, .ref qi, .ref qw, .ref qt, .ref qs, .ref qp]))] sz)) 0 0 (va_A [(h0, .inr (0, [.ref qb, .int 0, .int (-1), .int 0, .int 0, .null, .ref qm, .ref qe, .ref qo, .ref qi, .ref qw, .ref qt, .ref qs, .ref qp]))] sz) := by
  refine Met.ofW (cc := prog_1_method_5_code) (maxL := 1) (ret := (some .int)) (by decide) rfl ?_
  intro p e s m args below meth c s₁ B hml hv
  obtain ⟨rfl, hsz, hP, hK, hD0, hN⟩ := hv
  have hx := B.exec
  have hb := B.bytes
  have hr := B.returns
  have htw : ∀ w ∈ px_all, w.before _ s = true := fun w h => atoms_spec (ws := px_s20) B.pre w (List.mem_cons_of_mem _ h)
  have hown : s.vm.findClass "MatroidDesk" = some m.cls := findClass_of_methodNamed B.named
  have hlocks := B.notSynchronized
  subst hsz
  have hD := hD0.self (sz := s.heap.size)
  generalize hAe : va_A [(h0, .inr (0, [.ref qb, .int 0, .int (-1), .int 0, .int 0, .null, .ref qm, .ref qe, .ref qo, .ref qi, .ref qw, .ref qt, .ref qs, .ref qp]))] s.heap.size = A at hD ⊢
  have hA : ∀ q : Nat, s.heap.size ≤ q → A q := fun q h => by rw [← hAe]; exact Or.inr h
  have hS : va_S A s.heap s.heap [] := va_S.rf
  have hP : va_P (dC, dI) vwCl [(h0, .inr (0, [.ref qb, .int 0, .int (-1), .int 0, .int 0, .null, .ref qm, .ref qe, .ref qo, .ref qi, .ref qw, .ref qt, .ref qs, .ref qp]))] s.heap := hP
  have hl := lv_entry ([.ref h0]) (n := 1) (Nat.le_of_ble_eq_true rfl)
  rw [lg_entry_eq]
  generalize (lg_sl ([.ref h0]) ++ List.replicate (1 - (lg_sl ([.ref h0])).length) Slot.unset).toArray = ls at hl ⊢
  have hl : lv_has ls 1 [(0, .ref h0)] := hl
  refine lv_aload_n hx hb px_d20_0 rfl (lv_at hl 0 rfl) ?_
  refine va_get (D := (dC, dI)) (ci := 0) (v := .int (-1)) (C := "MatroidDesk") (T := px_T0) (N := 14) hx hb htw px_in0 hown hK hP 0 rfl rfl 2 (by decide) (htw _ px_w211) (fun _ h9 => h9) rfl px_d20_1 ?_
  have hP9 := hP.sub (ws' := [(h0, .inr (0, [.ref qb, .int 0, .int (-1), .int 0, .int 0, .null, .ref qm, .ref qe, .ref qo, .ref qi, .ref qw, .ref qt, .ref qs, .ref qp]))]) [0] rfl
  have hD9 := hD.sub (ws' := [(h0, .inr (0, [.ref qb, .int 0, .int (-1), .int 0, .int 0, .null, .ref qm, .ref qe, .ref qo, .ref qi, .ref qw, .ref qt, .ref qs, .ref qp]))]) [0] (by decide) rfl
  have hK9 := hK.sub (tys' := []) [] rfl
  refine W.widen (k := 0) (n := 0) (Nat.le_of_ble_eq_true rfl) (Nat.le_of_ble_eq_true rfl) ?_
  exact W.iret (v := (-1)) hx hb hr (fun t ht hW => ⟨⟨(-1), (), rfl, rfl, by rw [ht]; exact hP9, va_K.moved hW.alike hK9, hD9⟩, hS.F ht⟩) hS.2.2 px_d20_4
set_option maxHeartbeats 4000000 in
set_option maxRecDepth 100000 in
/-- why -/
theorem px_D_why (l : Launch) (dC : Nat → ClassId) (dI : Nat → Nat → Nat) (sz : Nat) (h0 : Nat) (qb : Nat) (qm : Nat) (qe : Nat) (qo : Nat) (qi : Nat) (qw : Nat) (qt : Nat) (qs : Nat) (qp : Nat) : Met l px_y21 px_s21 ({ frames := 0, cells := 0, slots := 0, locals := 0 }) (va_Pc [.ref h0] (fun U => U.heap.size = sz ∧ va_P (dC, dI) vwCl [(h0, .inr (0, [.ref qb, .int 0, .int (-1), .int 0, .int 0, .null, .ref qm, .ref qe, .ref qo, .ref qi, .ref qw, .ref qt, .ref qs, .ref qp]))] U.heap ∧ va_K (dC, dI) vwCl [] U ∧ va_D (fun _ => True) [(h0, .inr (0, [.ref qb, .int 0, .int (-1), .int 0, .int 0, .null, .ref qm, .ref qe, .ref qo, .ref qi, .ref qw, .ref qt, .ref qs, .ref qp]))] ∧ px_N U)) (va_Qi (fun (r : Int32) (_ : Unit) => r = 0) (fun (_ : Unit) (t : State) => va_P (dC, dI) vwCl [(h0, .inr (0, [.ref qb, .int 0, .int (-1), .int 0, .int 0, .null, .ref qm, .ref qe, .ref qo, .ref qi, .ref qw, .ref qt, .ref qs, .ref qp]))] t.heap ∧ va_K (dC, dI) vwCl [] t ∧ va_D (va_A [(h0, .inr (0, [.ref qb, .int 0, .int (-1), .int 0, .int 0, .null, .ref qm, .ref qe, .ref qo, .ref qi, .ref qw, .ref qt, .ref qs, .ref qp]))] sz) [(h0, .inr (0, [.ref qb, .int 0, .int (-1), .int 0, .int 0, .null, .ref qm, .ref qe, .ref qo, .ref qi, .ref qw, .ref qt, .ref qs, .ref qp]))]) (va_A [(h0, .inr (0, [.ref qb, .int 0, .int (-1), .int 0, .int 0, .null, .ref qm, .ref qe, .ref qo, .ref qi, .ref qw, .ref qt, .ref qs, .ref qp]))] sz)) 0 0 (va_A [(h0, .inr (0, [.ref qb, .int 0, .int (-1), .int 0, .int 0, .null, .ref qm, .ref qe, .ref qo, .ref qi, .ref qw, .ref qt, .ref qs, .ref qp]))] sz) := by
  refine Met.ofW (cc := prog_1_method_6_code) (maxL := 1) (ret := (some .int)) (by decide) rfl ?_
  intro p e s m args below meth c s₁ B hml hv
  obtain ⟨rfl, hsz, hP, hK, hD0, hN⟩ := hv
  have hx := B.exec
  have hb := B.bytes
  have hr := B.returns
  have htw : ∀ w ∈ px_all, w.before _ s = true := fun w h => atoms_spec (ws := px_s21) B.pre w (List.mem_cons_of_mem _ h)
  have hown : s.vm.findClass "MatroidDesk" = some m.cls := findClass_of_methodNamed B.named
  have hlocks := B.notSynchronized
  subst hsz
  have hD := hD0.self (sz := s.heap.size)
  generalize hAe : va_A [(h0, .inr (0, [.ref qb, .int 0, .int (-1), .int 0, .int 0, .null, .ref qm, .ref qe, .ref qo, .ref qi, .ref qw, .ref qt, .ref qs, .ref qp]))] s.heap.size = A at hD ⊢
  have hA : ∀ q : Nat, s.heap.size ≤ q → A q := fun q h => by rw [← hAe]; exact Or.inr h
  have hS : va_S A s.heap s.heap [] := va_S.rf
  have hP : va_P (dC, dI) vwCl [(h0, .inr (0, [.ref qb, .int 0, .int (-1), .int 0, .int 0, .null, .ref qm, .ref qe, .ref qo, .ref qi, .ref qw, .ref qt, .ref qs, .ref qp]))] s.heap := hP
  have hl := lv_entry ([.ref h0]) (n := 1) (Nat.le_of_ble_eq_true rfl)
  rw [lg_entry_eq]
  generalize (lg_sl ([.ref h0]) ++ List.replicate (1 - (lg_sl ([.ref h0])).length) Slot.unset).toArray = ls at hl ⊢
  have hl : lv_has ls 1 [(0, .ref h0)] := hl
  refine lv_aload_n hx hb px_d21_0 rfl (lv_at hl 0 rfl) ?_
  refine va_get (D := (dC, dI)) (ci := 0) (v := .int 0) (C := "MatroidDesk") (T := px_T0) (N := 14) hx hb htw px_in0 hown hK hP 0 rfl rfl 3 (by decide) (htw _ px_w212) (fun _ h9 => h9) rfl px_d21_1 ?_
  have hP9 := hP.sub (ws' := [(h0, .inr (0, [.ref qb, .int 0, .int (-1), .int 0, .int 0, .null, .ref qm, .ref qe, .ref qo, .ref qi, .ref qw, .ref qt, .ref qs, .ref qp]))]) [0] rfl
  have hD9 := hD.sub (ws' := [(h0, .inr (0, [.ref qb, .int 0, .int (-1), .int 0, .int 0, .null, .ref qm, .ref qe, .ref qo, .ref qi, .ref qw, .ref qt, .ref qs, .ref qp]))]) [0] (by decide) rfl
  have hK9 := hK.sub (tys' := []) [] rfl
  refine W.widen (k := 0) (n := 0) (Nat.le_of_ble_eq_true rfl) (Nat.le_of_ble_eq_true rfl) ?_
  exact W.iret (v := 0) hx hb hr (fun t ht hW => ⟨⟨0, (), rfl, rfl, by rw [ht]; exact hP9, va_K.moved hW.alike hK9, hD9⟩, hS.F ht⟩) hS.2.2 px_d21_4
set_option maxHeartbeats 4000000 in
set_option maxRecDepth 100000 in
/-- printed -/
theorem px_D_printed (l : Launch) (dC : Nat → ClassId) (dI : Nat → Nat → Nat) (sz : Nat) (h0 : Nat) (qb : Nat) (qm : Nat) (qe : Nat) (qo : Nat) (qi : Nat) (qw : Nat) (qt : Nat) (qs : Nat) (qp : Nat) (q10 : Nat) (q11 : Nat) : Met l px_y22 px_s22 ({ frames := 0, cells := 0, slots := 0, locals := 0 }) (va_Pc [.ref h0] (fun U => U.heap.size = sz ∧ va_P (dC, dI) vwCl [(h0, .inr (0, [.ref qb, .int 0, .int (-1), .int 0, .int 0, .null, .ref qm, .ref qe, .ref qo, .ref qi, .ref qw, .ref qt, .ref qs, .ref qp])), (qp, .inr (7, [.ref q10, .ref q11, .int 0, .int 0]))] U.heap ∧ va_K (dC, dI) vwCl [] U ∧ va_D (fun _ => True) [(h0, .inr (0, [.ref qb, .int 0, .int (-1), .int 0, .int 0, .null, .ref qm, .ref qe, .ref qo, .ref qi, .ref qw, .ref qt, .ref qs, .ref qp])), (qp, .inr (7, [.ref q10, .ref q11, .int 0, .int 0]))] ∧ px_N U)) (va_Qi (fun (r : Int32) (_ : Unit) => r = 0) (fun (_ : Unit) (t : State) => va_P (dC, dI) vwCl [(h0, .inr (0, [.ref qb, .int 0, .int (-1), .int 0, .int 0, .null, .ref qm, .ref qe, .ref qo, .ref qi, .ref qw, .ref qt, .ref qs, .ref qp])), (qp, .inr (7, [.ref q10, .ref q11, .int 0, .int 0]))] t.heap ∧ va_K (dC, dI) vwCl [] t ∧ va_D (va_A [(h0, .inr (0, [.ref qb, .int 0, .int (-1), .int 0, .int 0, .null, .ref qm, .ref qe, .ref qo, .ref qi, .ref qw, .ref qt, .ref qs, .ref qp])), (qp, .inr (7, [.ref q10, .ref q11, .int 0, .int 0]))] sz) [(h0, .inr (0, [.ref qb, .int 0, .int (-1), .int 0, .int 0, .null, .ref qm, .ref qe, .ref qo, .ref qi, .ref qw, .ref qt, .ref qs, .ref qp])), (qp, .inr (7, [.ref q10, .ref q11, .int 0, .int 0]))]) (va_A [(h0, .inr (0, [.ref qb, .int 0, .int (-1), .int 0, .int 0, .null, .ref qm, .ref qe, .ref qo, .ref qi, .ref qw, .ref qt, .ref qs, .ref qp])), (qp, .inr (7, [.ref q10, .ref q11, .int 0, .int 0]))] sz)) 0 0 (va_A [(h0, .inr (0, [.ref qb, .int 0, .int (-1), .int 0, .int 0, .null, .ref qm, .ref qe, .ref qo, .ref qi, .ref qw, .ref qt, .ref qs, .ref qp])), (qp, .inr (7, [.ref q10, .ref q11, .int 0, .int 0]))] sz) := by
  refine Met.ofW (cc := prog_1_method_7_code) (maxL := 1) (ret := (some .int)) (by decide) rfl ?_
  intro p e s m args below meth c s₁ B hml hv
  obtain ⟨rfl, hsz, hP, hK, hD0, hN⟩ := hv
  have hx := B.exec
  have hb := B.bytes
  have hr := B.returns
  have htw : ∀ w ∈ px_all, w.before _ s = true := fun w h => atoms_spec (ws := px_s22) B.pre w (List.mem_cons_of_mem _ h)
  have hown : s.vm.findClass "MatroidDesk" = some m.cls := findClass_of_methodNamed B.named
  have hlocks := B.notSynchronized
  subst hsz
  have hD := hD0.self (sz := s.heap.size)
  generalize hAe : va_A [(h0, .inr (0, [.ref qb, .int 0, .int (-1), .int 0, .int 0, .null, .ref qm, .ref qe, .ref qo, .ref qi, .ref qw, .ref qt, .ref qs, .ref qp])), (qp, .inr (7, [.ref q10, .ref q11, .int 0, .int 0]))] s.heap.size = A at hD ⊢
  have hA : ∀ q : Nat, s.heap.size ≤ q → A q := fun q h => by rw [← hAe]; exact Or.inr h
  have hS : va_S A s.heap s.heap [] := va_S.rf
  have hP : va_P (dC, dI) vwCl [(h0, .inr (0, [.ref qb, .int 0, .int (-1), .int 0, .int 0, .null, .ref qm, .ref qe, .ref qo, .ref qi, .ref qw, .ref qt, .ref qs, .ref qp])), (qp, .inr (7, [.ref q10, .ref q11, .int 0, .int 0]))] s.heap := hP
  have hl := lv_entry ([.ref h0]) (n := 1) (Nat.le_of_ble_eq_true rfl)
  rw [lg_entry_eq]
  generalize (lg_sl ([.ref h0]) ++ List.replicate (1 - (lg_sl ([.ref h0])).length) Slot.unset).toArray = ls at hl ⊢
  have hl : lv_has ls 1 [(0, .ref h0)] := hl
  refine lv_aload_n hx hb px_d22_0 rfl (lv_at hl 0 rfl) ?_
  refine va_get (D := (dC, dI)) (ci := 0) (v := .ref qp) (C := "MatroidDesk") (T := px_T0) (N := 14) hx hb htw px_in0 hown hK hP 0 rfl rfl 13 (by decide) (htw _ px_w235) (fun _ h9 => h9) rfl px_d22_1 ?_
  refine va_getN (D := (dC, dI)) (ci := 7) (v := .int 0) (C := "MatroidDesk$Product") (T := px_T7) (N := 4) hx hb htw px_in7 hown hK hP 1 rfl rfl 2 (by decide) (va_Nw.use (w := .fieldLinkNest "MatroidDesk" 125 "MatroidDesk$Product" "length" "I" "MatroidDesk") rfl (hN.1 ("MatroidDesk", 125, "MatroidDesk$Product", "length", "I", "MatroidDesk") (by decide))) (fun _ h9 => h9) rfl px_d22_4 ?_
  have hP9 := hP.sub (ws' := [(h0, .inr (0, [.ref qb, .int 0, .int (-1), .int 0, .int 0, .null, .ref qm, .ref qe, .ref qo, .ref qi, .ref qw, .ref qt, .ref qs, .ref qp])), (qp, .inr (7, [.ref q10, .ref q11, .int 0, .int 0]))]) [0, 1] rfl
  have hD9 := hD.sub (ws' := [(h0, .inr (0, [.ref qb, .int 0, .int (-1), .int 0, .int 0, .null, .ref qm, .ref qe, .ref qo, .ref qi, .ref qw, .ref qt, .ref qs, .ref qp])), (qp, .inr (7, [.ref q10, .ref q11, .int 0, .int 0]))]) [0, 1] (by decide) rfl
  have hK9 := hK.sub (tys' := []) [] rfl
  refine W.widen (k := 0) (n := 0) (Nat.le_of_ble_eq_true rfl) (Nat.le_of_ble_eq_true rfl) ?_
  exact W.iret (v := 0) hx hb hr (fun t ht hW => ⟨⟨0, (), rfl, rfl, by rw [ht]; exact hP9, va_K.moved hW.alike hK9, hD9⟩, hS.F ht⟩) hS.2.2 px_d22_7
set_option maxHeartbeats 4000000 in
set_option maxRecDepth 100000 in
/-- out -/
theorem px_D_out (l : Launch) (dC : Nat → ClassId) (dI : Nat → Nat → Nat) (sz : Nat) (h0 : Nat) (qb : Nat) (qm : Nat) (qe : Nat) (qo : Nat) (qi : Nat) (qw : Nat) (qt : Nat) (qs : Nat) (qp : Nat) (q10 : Nat) (q11 : Nat) (x : Int32) : Met l px_y23 px_s23 ({ frames := 0, cells := 0, slots := 0, locals := 0 }) (va_Pc [.ref h0, .int x] (fun U => U.heap.size = sz ∧ va_P (dC, dI) vwCl [(h0, .inr (0, [.ref qb, .int 0, .int (-1), .int 0, .int 0, .null, .ref qm, .ref qe, .ref qo, .ref qi, .ref qw, .ref qt, .ref qs, .ref qp])), (qp, .inr (7, [.ref q10, .ref q11, .int 0, .int 0]))] U.heap ∧ va_K (dC, dI) vwCl [] U ∧ va_D (fun _ => True) [(h0, .inr (0, [.ref qb, .int 0, .int (-1), .int 0, .int 0, .null, .ref qm, .ref qe, .ref qo, .ref qi, .ref qw, .ref qt, .ref qs, .ref qp])), (qp, .inr (7, [.ref q10, .ref q11, .int 0, .int 0]))] ∧ px_N U)) (va_Qi (fun (r : Int32) (_ : Unit) => r = (-1)) (fun (_ : Unit) (t : State) => va_P (dC, dI) vwCl [(h0, .inr (0, [.ref qb, .int 0, .int (-1), .int 0, .int 0, .null, .ref qm, .ref qe, .ref qo, .ref qi, .ref qw, .ref qt, .ref qs, .ref qp])), (qp, .inr (7, [.ref q10, .ref q11, .int 0, .int 0]))] t.heap ∧ va_K (dC, dI) vwCl [] t ∧ va_D (va_A [(h0, .inr (0, [.ref qb, .int 0, .int (-1), .int 0, .int 0, .null, .ref qm, .ref qe, .ref qo, .ref qi, .ref qw, .ref qt, .ref qs, .ref qp])), (qp, .inr (7, [.ref q10, .ref q11, .int 0, .int 0]))] sz) [(h0, .inr (0, [.ref qb, .int 0, .int (-1), .int 0, .int 0, .null, .ref qm, .ref qe, .ref qo, .ref qi, .ref qw, .ref qt, .ref qs, .ref qp])), (qp, .inr (7, [.ref q10, .ref q11, .int 0, .int 0]))]) (va_A [(h0, .inr (0, [.ref qb, .int 0, .int (-1), .int 0, .int 0, .null, .ref qm, .ref qe, .ref qo, .ref qi, .ref qw, .ref qt, .ref qs, .ref qp])), (qp, .inr (7, [.ref q10, .ref q11, .int 0, .int 0]))] sz)) 0 0 (va_A [(h0, .inr (0, [.ref qb, .int 0, .int (-1), .int 0, .int 0, .null, .ref qm, .ref qe, .ref qo, .ref qi, .ref qw, .ref qt, .ref qs, .ref qp])), (qp, .inr (7, [.ref q10, .ref q11, .int 0, .int 0]))] sz) := by
  refine Met.ofW (cc := prog_1_method_8_code) (maxL := 2) (ret := (some .int)) (by decide) rfl ?_
  intro p e s m args below meth c s₁ B hml hv
  obtain ⟨rfl, hsz, hP, hK, hD0, hN⟩ := hv
  have hx := B.exec
  have hb := B.bytes
  have hr := B.returns
  have htw : ∀ w ∈ px_all, w.before _ s = true := fun w h => atoms_spec (ws := px_s23) B.pre w (List.mem_cons_of_mem _ h)
  have hown : s.vm.findClass "MatroidDesk" = some m.cls := findClass_of_methodNamed B.named
  have hlocks := B.notSynchronized
  subst hsz
  have hD := hD0.self (sz := s.heap.size)
  generalize hAe : va_A [(h0, .inr (0, [.ref qb, .int 0, .int (-1), .int 0, .int 0, .null, .ref qm, .ref qe, .ref qo, .ref qi, .ref qw, .ref qt, .ref qs, .ref qp])), (qp, .inr (7, [.ref q10, .ref q11, .int 0, .int 0]))] s.heap.size = A at hD ⊢
  have hA : ∀ q : Nat, s.heap.size ≤ q → A q := fun q h => by rw [← hAe]; exact Or.inr h
  have hS : va_S A s.heap s.heap [] := va_S.rf
  have hP : va_P (dC, dI) vwCl [(h0, .inr (0, [.ref qb, .int 0, .int (-1), .int 0, .int 0, .null, .ref qm, .ref qe, .ref qo, .ref qi, .ref qw, .ref qt, .ref qs, .ref qp])), (qp, .inr (7, [.ref q10, .ref q11, .int 0, .int 0]))] s.heap := hP
  have hl := lv_entry ([.ref h0, .int x]) (n := 2) (Nat.le_of_ble_eq_true rfl)
  rw [lg_entry_eq]
  generalize (lg_sl ([.ref h0, .int x]) ++ List.replicate (2 - (lg_sl ([.ref h0, .int x])).length) Slot.unset).toArray = ls at hl ⊢
  have hl : lv_has ls 2 [(0, .ref h0), (1, .int x)] := hl
  refine lv_iload_n hx hb px_d23_0 rfl (lv_at hl 1 rfl) ?_
  refine lv_if_lt (tgt := 15) hx hb px_d23_1 (by decide) (fun c_1 => ?_) (fun c_1 => ?_)
  · refine lv_iconst (v := (-1)) hx hb px_d23_15 (by decide) ?_
    refine lv_goto (tgt := 28) hx hb px_d23_16 (by decide) ?_
    have hP9 := hP.sub (ws' := [(h0, .inr (0, [.ref qb, .int 0, .int (-1), .int 0, .int 0, .null, .ref qm, .ref qe, .ref qo, .ref qi, .ref qw, .ref qt, .ref qs, .ref qp])), (qp, .inr (7, [.ref q10, .ref q11, .int 0, .int 0]))]) [0, 1] rfl
    have hD9 := hD.sub (ws' := [(h0, .inr (0, [.ref qb, .int 0, .int (-1), .int 0, .int 0, .null, .ref qm, .ref qe, .ref qo, .ref qi, .ref qw, .ref qt, .ref qs, .ref qp])), (qp, .inr (7, [.ref q10, .ref q11, .int 0, .int 0]))]) [0, 1] (by decide) rfl
    have hK9 := hK.sub (tys' := []) [] rfl
    refine W.widen (k := 0) (n := 0) (Nat.le_of_ble_eq_true rfl) (Nat.le_of_ble_eq_true rfl) ?_
    exact W.iret (v := (-1)) hx hb hr (fun t ht hW => ⟨⟨(-1), (), rfl, rfl, by rw [ht]; exact hP9, va_K.moved hW.alike hK9, hD9⟩, hS.F ht⟩) hS.2.2 px_d23_28
  · refine lv_iload_n hx hb px_d23_4 rfl (lv_at hl 1 rfl) ?_
    refine lv_aload_n hx hb px_d23_5 rfl (lv_at hl 0 rfl) ?_
    refine va_get (D := (dC, dI)) (ci := 0) (v := .ref qp) (C := "MatroidDesk") (T := px_T0) (N := 14) hx hb htw px_in0 hown hK hP 0 rfl rfl 13 (by decide) (htw _ px_w235) (fun _ h9 => h9) rfl px_d23_6 ?_
    refine va_getN (D := (dC, dI)) (ci := 7) (v := .int 0) (C := "MatroidDesk$Product") (T := px_T7) (N := 4) hx hb htw px_in7 hown hK hP 1 rfl rfl 2 (by decide) (va_Nw.use (w := .fieldLinkNest "MatroidDesk" 125 "MatroidDesk$Product" "length" "I" "MatroidDesk") rfl (hN.1 ("MatroidDesk", 125, "MatroidDesk$Product", "length", "I", "MatroidDesk") (by decide))) (fun _ h9 => h9) rfl px_d23_9 ?_
    refine lv_icmp_lt (tgt := 19) hx hb px_d23_12 (by decide) (fun h9 => absurd h9 (px_nlt c_1)) (fun _ => ?_)
    refine lv_iconst (v := (-1)) hx hb px_d23_15 (by decide) ?_
    refine lv_goto (tgt := 28) hx hb px_d23_16 (by decide) ?_
    have hP9 := hP.sub (ws' := [(h0, .inr (0, [.ref qb, .int 0, .int (-1), .int 0, .int 0, .null, .ref qm, .ref qe, .ref qo, .ref qi, .ref qw, .ref qt, .ref qs, .ref qp])), (qp, .inr (7, [.ref q10, .ref q11, .int 0, .int 0]))]) [0, 1] rfl
    have hD9 := hD.sub (ws' := [(h0, .inr (0, [.ref qb, .int 0, .int (-1), .int 0, .int 0, .null, .ref qm, .ref qe, .ref qo, .ref qi, .ref qw, .ref qt, .ref qs, .ref qp])), (qp, .inr (7, [.ref q10, .ref q11, .int 0, .int 0]))]) [0, 1] (by decide) rfl
    have hK9 := hK.sub (tys' := []) [] rfl
    refine W.widen (k := 0) (n := 0) (Nat.le_of_ble_eq_true rfl) (Nat.le_of_ble_eq_true rfl) ?_
    exact W.iret (v := (-1)) hx hb hr (fun t ht hW => ⟨⟨(-1), (), rfl, rfl, by rw [ht]; exact hP9, va_K.moved hW.alike hK9, hD9⟩, hS.F ht⟩) hS.2.2 px_d23_28
set_option maxHeartbeats 4000000 in
set_option maxRecDepth 100000 in
/-- elements -/
theorem px_D_elements (l : Launch) (dC : Nat → ClassId) (dI : Nat → Nat → Nat) (sz : Nat) (h0 : Nat) (qb : Nat) (qm : Nat) (qe : Nat) (qo : Nat) (qi : Nat) (qw : Nat) (qt : Nat) (qs : Nat) (qp : Nat) (cm : ClassId) (x : Int32) : Met l px_y25 px_s25 ({ frames := 1, cells := 0, slots := 0, locals := 21 }) (va_Pc [.ref h0, .int x] (fun U => U.heap.size = sz ∧ va_P (dC, dI) vwCl [(h0, .inr (0, [.ref qb, .int 0, .int (-1), .int 0, .int 0, .null, .ref qm, .ref qe, .ref qo, .ref qi, .ref qw, .ref qt, .ref qs, .ref qp])), (qm, .inl (cm, 26, .inr (.inr (.inr (.inr (fun _ => none))))))] U.heap ∧ va_K (dC, dI) vwCl [(cm, .object "MatroidDesk$Matroid")] U ∧ va_D (fun _ => True) [(h0, .inr (0, [.ref qb, .int 0, .int (-1), .int 0, .int 0, .null, .ref qm, .ref qe, .ref qo, .ref qi, .ref qw, .ref qt, .ref qs, .ref qp])), (qm, .inl (cm, 26, .inr (.inr (.inr (.inr (fun _ => none))))))] ∧ px_N U)) (va_Qi (fun (r : Int32) (_ : Unit) => r = (-1)) (fun (_ : Unit) (t : State) => va_P (dC, dI) vwCl [(h0, .inr (0, [.ref qb, .int 0, .int (-1), .int 0, .int 0, .null, .ref qm, .ref qe, .ref qo, .ref qi, .ref qw, .ref qt, .ref qs, .ref qp])), (qm, .inl (cm, 26, .inr (.inr (.inr (.inr (fun _ => none))))))] t.heap ∧ va_K (dC, dI) vwCl [(cm, .object "MatroidDesk$Matroid")] t ∧ va_D (va_A [(h0, .inr (0, [.ref qb, .int 0, .int (-1), .int 0, .int 0, .null, .ref qm, .ref qe, .ref qo, .ref qi, .ref qw, .ref qt, .ref qs, .ref qp])), (qm, .inl (cm, 26, .inr (.inr (.inr (.inr (fun _ => none))))))] sz) [(h0, .inr (0, [.ref qb, .int 0, .int (-1), .int 0, .int 0, .null, .ref qm, .ref qe, .ref qo, .ref qi, .ref qw, .ref qt, .ref qs, .ref qp])), (qm, .inl (cm, 26, .inr (.inr (.inr (.inr (fun _ => none))))))]) (va_A [(h0, .inr (0, [.ref qb, .int 0, .int (-1), .int 0, .int 0, .null, .ref qm, .ref qe, .ref qo, .ref qi, .ref qw, .ref qt, .ref qs, .ref qp])), (qm, .inl (cm, 26, .inr (.inr (.inr (.inr (fun _ => none))))))] sz)) 0 0 (va_A [(h0, .inr (0, [.ref qb, .int 0, .int (-1), .int 0, .int 0, .null, .ref qm, .ref qe, .ref qo, .ref qi, .ref qw, .ref qt, .ref qs, .ref qp])), (qm, .inl (cm, 26, .inr (.inr (.inr (.inr (fun _ => none))))))] sz) := by
  refine Met.ofW (cc := prog_1_method_9_code) (maxL := 3) (ret := (some .int)) (by decide) rfl ?_
  intro p e s m args below meth c s₁ B hml hv
  obtain ⟨rfl, hsz, hP, hK, hD0, hN⟩ := hv
  have hx := B.exec
  have hb := B.bytes
  have hr := B.returns
  have htw : ∀ w ∈ px_all, w.before _ s = true := fun w h => atoms_spec (ws := px_s25) B.pre w (List.mem_cons_of_mem _ h)
  have hown : s.vm.findClass "MatroidDesk" = some m.cls := findClass_of_methodNamed B.named
  have hlocks := B.notSynchronized
  subst hsz
  have hD := hD0.self (sz := s.heap.size)
  generalize hAe : va_A [(h0, .inr (0, [.ref qb, .int 0, .int (-1), .int 0, .int 0, .null, .ref qm, .ref qe, .ref qo, .ref qi, .ref qw, .ref qt, .ref qs, .ref qp])), (qm, .inl (cm, 26, .inr (.inr (.inr (.inr (fun _ => none))))))] s.heap.size = A at hD ⊢
  have hA : ∀ q : Nat, s.heap.size ≤ q → A q := fun q h => by rw [← hAe]; exact Or.inr h
  have hS : va_S A s.heap s.heap [] := va_S.rf
  have hP : va_P (dC, dI) vwCl [(h0, .inr (0, [.ref qb, .int 0, .int (-1), .int 0, .int 0, .null, .ref qm, .ref qe, .ref qo, .ref qi, .ref qw, .ref qt, .ref qs, .ref qp])), (qm, .inl (cm, 26, .inr (.inr (.inr (.inr (fun _ => none))))))] s.heap := hP
  have hl := lv_entry ([.ref h0, .int x]) (n := 3) (Nat.le_of_ble_eq_true rfl)
  rw [lg_entry_eq]
  generalize (lg_sl ([.ref h0, .int x]) ++ List.replicate (3 - (lg_sl ([.ref h0, .int x])).length) Slot.unset).toArray = ls at hl ⊢
  have hl : lv_has ls 3 [(0, .ref h0), (1, .int x)] := hl
  refine lv_aload_n hx hb px_d25_0 rfl (lv_at hl 0 rfl) ?_
  refine lv_iload_n hx hb px_d25_1 rfl (lv_at hl 1 rfl) ?_
  have hPc := hP.sub (ws' := [(h0, .inr (0, [.ref qb, .int 0, .int (-1), .int 0, .int 0, .null, .ref qm, .ref qe, .ref qo, .ref qi, .ref qw, .ref qt, .ref qs, .ref qp])), (qm, .inl (cm, 26, .inr (.inr (.inr (.inr (fun _ => none))))))]) [0, 1] rfl
  have hDc := hD.sub (ws' := [(h0, .inr (0, [.ref qb, .int 0, .int (-1), .int 0, .int 0, .null, .ref qm, .ref qe, .ref qo, .ref qi, .ref qw, .ref qt, .ref qs, .ref qp])), (qm, .inl (cm, 26, .inr (.inr (.inr (.inr (fun _ => none))))))]) [0, 1] (by decide) rfl
  have hKc := hK.sub (tys' := [(cm, .object "MatroidDesk$Matroid")]) [0] rfl
  have hFc := va_free (wc := [(h0, .inr (0, [.ref qb, .int 0, .int (-1), .int 0, .int 0, .null, .ref qm, .ref qe, .ref qo, .ref qi, .ref qw, .ref qt, .ref qs, .ref qp])), (qm, .inl (cm, 26, .inr (.inr (.inr (.inr (fun _ => none))))))]) hD hS hA [0, 1] rfl
  refine va_callq (va_runV (As := [.int x]) (rest := []) ⟨hx, hb, hml, hown, htw⟩ (px_matroidAt l dC dI s.heap.size h0 qb qm qe qo qi qw qt qs qp cm x) (cwV 1 htw (px_gv px_w330 px_w344 px_w345 px_w6 px_g24) rfl rfl rfl (by decide +kernel) ⟨Nat.le_of_ble_eq_true rfl, Nat.le_of_ble_eq_true rfl⟩) ⟨fun a U g mk q => by obtain ⟨q0, q1, qP, qK, qD, qN⟩ := q; exact ⟨q0, q1, qP, va_K.moved (u := U) (U := U.calling g mk a) (Vm.Alike.refl U.vm) qK, qD, qN.same rfl⟩, va_recv hK hP (ci := 0) (q0 := 0) rfl rfl, fun U hU hW => ⟨rfl, by rw [hU], by rw [hU]; exact hPc, va_K.moved hW.alike hKc, hDc.weaken (fun _ _ _ _ => trivial), hN.warm hW⟩⟩ rfl rfl hl.1 rfl (lv_room (Nat.le_of_ble_eq_true rfl)) px_d25_2 ⟨(Nat.le_of_ble_eq_true rfl), (Nat.le_of_ble_eq_true rfl)⟩) hS (fun q _ h => hFc q h) hFc (fun r u t H1 locs ht hvm hw_2 hB hz1 hk1 hS => ?_)
  obtain ⟨hP1, hK1, hD1⟩ := hB
  rw [ht] at hP1
  have hK1 := va_K.moved hvm.symm hK1
  obtain ⟨hP, hD⟩ := va_join (wr := []) (w1 := [(h0, .inr (0, [.ref qb, .int 0, .int (-1), .int 0, .int 0, .null, .ref qm, .ref qe, .ref qo, .ref qi, .ref qw, .ref qt, .ref qs, .ref qp])), (qm, .inl (cm, 26, .inr (.inr (.inr (.inr (fun _ => none))))))]) hP hD [0, 1] [] rfl rfl (by decide) (by decide) hk1 hFc hP1 hD1
  generalize H1 = H at hP hS ⊢
  have hP : va_P (dC, dI) vwCl [(h0, .inr (0, [.ref qb, .int 0, .int (-1), .int 0, .int 0, .null, .ref qm, .ref qe, .ref qo, .ref qi, .ref qw, .ref qt, .ref qs, .ref qp])), (qm, .inl (cm, 26, .inr (.inr (.inr (.inr (fun _ => none))))))] H := hP
  have hD : va_D A [(h0, .inr (0, [.ref qb, .int 0, .int (-1), .int 0, .int 0, .null, .ref qm, .ref qe, .ref qo, .ref qi, .ref qw, .ref qt, .ref qs, .ref qp])), (qm, .inl (cm, 26, .inr (.inr (.inr (.inr (fun _ => none))))))] := hD
  subst hw_2
  refine W.eq (g2 := F0 m 5 ls (.null :: [])) rfl ?_
  refine lv_astore_nN (lv' := [(2, .null), (0, .ref h0), (1, .int x)]) hx hb px_d25_5 rfl hl (by decide) rfl (fun ls hl => ?_)
  refine lv_aload_nN hx hb px_d25_6 rfl (lv_at hl 0 rfl) ?_
  refine lv_ifnonnullN hx hb px_d25_7 ?_
  refine lv_iconst (v := (-1)) hx hb px_d25_10 (by decide) ?_
  refine lv_goto (tgt := 18) hx hb px_d25_11 (by decide) ?_
  have hP9 := hP.sub (ws' := [(h0, .inr (0, [.ref qb, .int 0, .int (-1), .int 0, .int 0, .null, .ref qm, .ref qe, .ref qo, .ref qi, .ref qw, .ref qt, .ref qs, .ref qp])), (qm, .inl (cm, 26, .inr (.inr (.inr (.inr (fun _ => none))))))]) [0, 1] rfl
  have hD9 := hD.sub (ws' := [(h0, .inr (0, [.ref qb, .int 0, .int (-1), .int 0, .int 0, .null, .ref qm, .ref qe, .ref qo, .ref qi, .ref qw, .ref qt, .ref qs, .ref qp])), (qm, .inl (cm, 26, .inr (.inr (.inr (.inr (fun _ => none))))))]) [0, 1] (by decide) rfl
  have hK9 := hK.sub (tys' := [(cm, .object "MatroidDesk$Matroid")]) [0] rfl
  refine W.widen (k := 0) (n := 0) (Nat.le_of_ble_eq_true rfl) (Nat.le_of_ble_eq_true rfl) ?_
  exact W.iret (v := (-1)) hx hb hr (fun t ht hW => ⟨⟨(-1), (), rfl, rfl, by rw [ht]; exact hP9, va_K.moved hW.alike hK9, hD9⟩, hS.F ht⟩) hS.2.2 px_d25_18
set_option maxHeartbeats 4000000 in
set_option maxRecDepth 100000 in
/-- field -/
theorem px_D_field (l : Launch) (dC : Nat → ClassId) (dI : Nat → Nat → Nat) (sz : Nat) (h0 : Nat) (qb : Nat) (qm : Nat) (qe : Nat) (qo : Nat) (qi : Nat) (qw : Nat) (qt : Nat) (qs : Nat) (qp : Nat) (cm : ClassId) (x : Int32) : Met l px_y26 px_s26 ({ frames := 1, cells := 0, slots := 0, locals := 21 }) (va_Pc [.ref h0, .int x] (fun U => U.heap.size = sz ∧ va_P (dC, dI) vwCl [(h0, .inr (0, [.ref qb, .int 0, .int (-1), .int 0, .int 0, .null, .ref qm, .ref qe, .ref qo, .ref qi, .ref qw, .ref qt, .ref qs, .ref qp])), (qm, .inl (cm, 26, .inr (.inr (.inr (.inr (fun _ => none))))))] U.heap ∧ va_K (dC, dI) vwCl [(cm, .object "MatroidDesk$Matroid")] U ∧ va_D (fun _ => True) [(h0, .inr (0, [.ref qb, .int 0, .int (-1), .int 0, .int 0, .null, .ref qm, .ref qe, .ref qo, .ref qi, .ref qw, .ref qt, .ref qs, .ref qp])), (qm, .inl (cm, 26, .inr (.inr (.inr (.inr (fun _ => none))))))] ∧ px_N U)) (va_Qi (fun (r : Int32) (_ : Unit) => r = (-1)) (fun (_ : Unit) (t : State) => va_P (dC, dI) vwCl [(h0, .inr (0, [.ref qb, .int 0, .int (-1), .int 0, .int 0, .null, .ref qm, .ref qe, .ref qo, .ref qi, .ref qw, .ref qt, .ref qs, .ref qp])), (qm, .inl (cm, 26, .inr (.inr (.inr (.inr (fun _ => none))))))] t.heap ∧ va_K (dC, dI) vwCl [(cm, .object "MatroidDesk$Matroid")] t ∧ va_D (va_A [(h0, .inr (0, [.ref qb, .int 0, .int (-1), .int 0, .int 0, .null, .ref qm, .ref qe, .ref qo, .ref qi, .ref qw, .ref qt, .ref qs, .ref qp])), (qm, .inl (cm, 26, .inr (.inr (.inr (.inr (fun _ => none))))))] sz) [(h0, .inr (0, [.ref qb, .int 0, .int (-1), .int 0, .int 0, .null, .ref qm, .ref qe, .ref qo, .ref qi, .ref qw, .ref qt, .ref qs, .ref qp])), (qm, .inl (cm, 26, .inr (.inr (.inr (.inr (fun _ => none))))))]) (va_A [(h0, .inr (0, [.ref qb, .int 0, .int (-1), .int 0, .int 0, .null, .ref qm, .ref qe, .ref qo, .ref qi, .ref qw, .ref qt, .ref qs, .ref qp])), (qm, .inl (cm, 26, .inr (.inr (.inr (.inr (fun _ => none))))))] sz)) 0 0 (va_A [(h0, .inr (0, [.ref qb, .int 0, .int (-1), .int 0, .int 0, .null, .ref qm, .ref qe, .ref qo, .ref qi, .ref qw, .ref qt, .ref qs, .ref qp])), (qm, .inl (cm, 26, .inr (.inr (.inr (.inr (fun _ => none))))))] sz) := by
  refine Met.ofW (cc := prog_1_method_10_code) (maxL := 3) (ret := (some .int)) (by decide) rfl ?_
  intro p e s m args below meth c s₁ B hml hv
  obtain ⟨rfl, hsz, hP, hK, hD0, hN⟩ := hv
  have hx := B.exec
  have hb := B.bytes
  have hr := B.returns
  have htw : ∀ w ∈ px_all, w.before _ s = true := fun w h => atoms_spec (ws := px_s26) B.pre w (List.mem_cons_of_mem _ h)
  have hown : s.vm.findClass "MatroidDesk" = some m.cls := findClass_of_methodNamed B.named
  have hlocks := B.notSynchronized
  subst hsz
  have hD := hD0.self (sz := s.heap.size)
  generalize hAe : va_A [(h0, .inr (0, [.ref qb, .int 0, .int (-1), .int 0, .int 0, .null, .ref qm, .ref qe, .ref qo, .ref qi, .ref qw, .ref qt, .ref qs, .ref qp])), (qm, .inl (cm, 26, .inr (.inr (.inr (.inr (fun _ => none))))))] s.heap.size = A at hD ⊢
  have hA : ∀ q : Nat, s.heap.size ≤ q → A q := fun q h => by rw [← hAe]; exact Or.inr h
  have hS : va_S A s.heap s.heap [] := va_S.rf
  have hP : va_P (dC, dI) vwCl [(h0, .inr (0, [.ref qb, .int 0, .int (-1), .int 0, .int 0, .null, .ref qm, .ref qe, .ref qo, .ref qi, .ref qw, .ref qt, .ref qs, .ref qp])), (qm, .inl (cm, 26, .inr (.inr (.inr (.inr (fun _ => none))))))] s.heap := hP
  have hl := lv_entry ([.ref h0, .int x]) (n := 3) (Nat.le_of_ble_eq_true rfl)
  rw [lg_entry_eq]
  generalize (lg_sl ([.ref h0, .int x]) ++ List.replicate (3 - (lg_sl ([.ref h0, .int x])).length) Slot.unset).toArray = ls at hl ⊢
  have hl : lv_has ls 3 [(0, .ref h0), (1, .int x)] := hl
  refine lv_aload_n hx hb px_d26_0 rfl (lv_at hl 0 rfl) ?_
  refine lv_iload_n hx hb px_d26_1 rfl (lv_at hl 1 rfl) ?_
  have hPc := hP.sub (ws' := [(h0, .inr (0, [.ref qb, .int 0, .int (-1), .int 0, .int 0, .null, .ref qm, .ref qe, .ref qo, .ref qi, .ref qw, .ref qt, .ref qs, .ref qp])), (qm, .inl (cm, 26, .inr (.inr (.inr (.inr (fun _ => none))))))]) [0, 1] rfl
  have hDc := hD.sub (ws' := [(h0, .inr (0, [.ref qb, .int 0, .int (-1), .int 0, .int 0, .null, .ref qm, .ref qe, .ref qo, .ref qi, .ref qw, .ref qt, .ref qs, .ref qp])), (qm, .inl (cm, 26, .inr (.inr (.inr (.inr (fun _ => none))))))]) [0, 1] (by decide) rfl
  have hKc := hK.sub (tys' := [(cm, .object "MatroidDesk$Matroid")]) [0] rfl
  have hFc := va_free (wc := [(h0, .inr (0, [.ref qb, .int 0, .int (-1), .int 0, .int 0, .null, .ref qm, .ref qe, .ref qo, .ref qi, .ref qw, .ref qt, .ref qs, .ref qp])), (qm, .inl (cm, 26, .inr (.inr (.inr (.inr (fun _ => none))))))]) hD hS hA [0, 1] rfl
  refine va_callq (va_runV (As := [.int x]) (rest := []) ⟨hx, hb, hml, hown, htw⟩ (px_matroidAt l dC dI s.heap.size h0 qb qm qe qo qi qw qt qs qp cm x) (cwV 1 htw (px_gv px_w330 px_w344 px_w345 px_w6 px_g24) rfl rfl rfl (by decide +kernel) ⟨Nat.le_of_ble_eq_true rfl, Nat.le_of_ble_eq_true rfl⟩) ⟨fun a U g mk q => by obtain ⟨q0, q1, qP, qK, qD, qN⟩ := q; exact ⟨q0, q1, qP, va_K.moved (u := U) (U := U.calling g mk a) (Vm.Alike.refl U.vm) qK, qD, qN.same rfl⟩, va_recv hK hP (ci := 0) (q0 := 0) rfl rfl, fun U hU hW => ⟨rfl, by rw [hU], by rw [hU]; exact hPc, va_K.moved hW.alike hKc, hDc.weaken (fun _ _ _ _ => trivial), hN.warm hW⟩⟩ rfl rfl hl.1 rfl (lv_room (Nat.le_of_ble_eq_true rfl)) px_d26_2 ⟨(Nat.le_of_ble_eq_true rfl), (Nat.le_of_ble_eq_true rfl)⟩) hS (fun q _ h => hFc q h) hFc (fun r u t H1 locs ht hvm hw_2 hB hz1 hk1 hS => ?_)
  obtain ⟨hP1, hK1, hD1⟩ := hB
  rw [ht] at hP1
  have hK1 := va_K.moved hvm.symm hK1
  obtain ⟨hP, hD⟩ := va_join (wr := []) (w1 := [(h0, .inr (0, [.ref qb, .int 0, .int (-1), .int 0, .int 0, .null, .ref qm, .ref qe, .ref qo, .ref qi, .ref qw, .ref qt, .ref qs, .ref qp])), (qm, .inl (cm, 26, .inr (.inr (.inr (.inr (fun _ => none))))))]) hP hD [0, 1] [] rfl rfl (by decide) (by decide) hk1 hFc hP1 hD1
  generalize H1 = H at hP hS ⊢
  have hP : va_P (dC, dI) vwCl [(h0, .inr (0, [.ref qb, .int 0, .int (-1), .int 0, .int 0, .null, .ref qm, .ref qe, .ref qo, .ref qi, .ref qw, .ref qt, .ref qs, .ref qp])), (qm, .inl (cm, 26, .inr (.inr (.inr (.inr (fun _ => none))))))] H := hP
  have hD : va_D A [(h0, .inr (0, [.ref qb, .int 0, .int (-1), .int 0, .int 0, .null, .ref qm, .ref qe, .ref qo, .ref qi, .ref qw, .ref qt, .ref qs, .ref qp])), (qm, .inl (cm, 26, .inr (.inr (.inr (.inr (fun _ => none))))))] := hD
  subst hw_2
  refine W.eq (g2 := F0 m 5 ls (.null :: [])) rfl ?_
  refine lv_astore_nN (lv' := [(2, .null), (0, .ref h0), (1, .int x)]) hx hb px_d26_5 rfl hl (by decide) rfl (fun ls hl => ?_)
  refine lv_aload_nN hx hb px_d26_6 rfl (lv_at hl 0 rfl) ?_
  refine lv_ifnonnullN hx hb px_d26_7 ?_
  refine lv_iconst (v := (-1)) hx hb px_d26_10 (by decide) ?_
  refine lv_goto (tgt := 18) hx hb px_d26_11 (by decide) ?_
  have hP9 := hP.sub (ws' := [(h0, .inr (0, [.ref qb, .int 0, .int (-1), .int 0, .int 0, .null, .ref qm, .ref qe, .ref qo, .ref qi, .ref qw, .ref qt, .ref qs, .ref qp])), (qm, .inl (cm, 26, .inr (.inr (.inr (.inr (fun _ => none))))))]) [0, 1] rfl
  have hD9 := hD.sub (ws' := [(h0, .inr (0, [.ref qb, .int 0, .int (-1), .int 0, .int 0, .null, .ref qm, .ref qe, .ref qo, .ref qi, .ref qw, .ref qt, .ref qs, .ref qp])), (qm, .inl (cm, 26, .inr (.inr (.inr (.inr (fun _ => none))))))]) [0, 1] (by decide) rfl
  have hK9 := hK.sub (tys' := [(cm, .object "MatroidDesk$Matroid")]) [0] rfl
  refine W.widen (k := 0) (n := 0) (Nat.le_of_ble_eq_true rfl) (Nat.le_of_ble_eq_true rfl) ?_
  exact W.iret (v := (-1)) hx hb hr (fun t ht hW => ⟨⟨(-1), (), rfl, rfl, by rw [ht]; exact hP9, va_K.moved hW.alike hK9, hD9⟩, hS.F ht⟩) hS.2.2 px_d26_18
set_option maxHeartbeats 4000000 in
set_option maxRecDepth 100000 in
/-- rank -/
theorem px_D_rank (l : Launch) (dC : Nat → ClassId) (dI : Nat → Nat → Nat) (sz : Nat) (h0 : Nat) (qb : Nat) (qm : Nat) (qe : Nat) (qo : Nat) (qi : Nat) (qw : Nat) (qt : Nat) (qs : Nat) (qp : Nat) (cm : ClassId) (x : Int32) (y : Int32) : Met l px_y27 px_s27 ({ frames := 1, cells := 0, slots := 0, locals := 21 }) (va_Pc [.ref h0, .int x, .int y] (fun U => U.heap.size = sz ∧ va_P (dC, dI) vwCl [(h0, .inr (0, [.ref qb, .int 0, .int (-1), .int 0, .int 0, .null, .ref qm, .ref qe, .ref qo, .ref qi, .ref qw, .ref qt, .ref qs, .ref qp])), (qm, .inl (cm, 26, .inr (.inr (.inr (.inr (fun _ => none))))))] U.heap ∧ va_K (dC, dI) vwCl [(cm, .object "MatroidDesk$Matroid")] U ∧ va_D (fun _ => True) [(h0, .inr (0, [.ref qb, .int 0, .int (-1), .int 0, .int 0, .null, .ref qm, .ref qe, .ref qo, .ref qi, .ref qw, .ref qt, .ref qs, .ref qp])), (qm, .inl (cm, 26, .inr (.inr (.inr (.inr (fun _ => none))))))] ∧ px_N U)) (va_Qi (fun (r : Int32) (_ : Unit) => r = (-1)) (fun (_ : Unit) (t : State) => va_P (dC, dI) vwCl [(h0, .inr (0, [.ref qb, .int 0, .int (-1), .int 0, .int 0, .null, .ref qm, .ref qe, .ref qo, .ref qi, .ref qw, .ref qt, .ref qs, .ref qp])), (qm, .inl (cm, 26, .inr (.inr (.inr (.inr (fun _ => none))))))] t.heap ∧ va_K (dC, dI) vwCl [(cm, .object "MatroidDesk$Matroid")] t ∧ va_D (va_A [(h0, .inr (0, [.ref qb, .int 0, .int (-1), .int 0, .int 0, .null, .ref qm, .ref qe, .ref qo, .ref qi, .ref qw, .ref qt, .ref qs, .ref qp])), (qm, .inl (cm, 26, .inr (.inr (.inr (.inr (fun _ => none))))))] sz) [(h0, .inr (0, [.ref qb, .int 0, .int (-1), .int 0, .int 0, .null, .ref qm, .ref qe, .ref qo, .ref qi, .ref qw, .ref qt, .ref qs, .ref qp])), (qm, .inl (cm, 26, .inr (.inr (.inr (.inr (fun _ => none))))))]) (va_A [(h0, .inr (0, [.ref qb, .int 0, .int (-1), .int 0, .int 0, .null, .ref qm, .ref qe, .ref qo, .ref qi, .ref qw, .ref qt, .ref qs, .ref qp])), (qm, .inl (cm, 26, .inr (.inr (.inr (.inr (fun _ => none))))))] sz)) 0 0 (va_A [(h0, .inr (0, [.ref qb, .int 0, .int (-1), .int 0, .int 0, .null, .ref qm, .ref qe, .ref qo, .ref qi, .ref qw, .ref qt, .ref qs, .ref qp])), (qm, .inl (cm, 26, .inr (.inr (.inr (.inr (fun _ => none))))))] sz) := by
  refine Met.ofW (cc := prog_1_method_11_code) (maxL := 4) (ret := (some .int)) (by decide) rfl ?_
  intro p e s m args below meth c s₁ B hml hv
  obtain ⟨rfl, hsz, hP, hK, hD0, hN⟩ := hv
  have hx := B.exec
  have hb := B.bytes
  have hr := B.returns
  have htw : ∀ w ∈ px_all, w.before _ s = true := fun w h => atoms_spec (ws := px_s27) B.pre w (List.mem_cons_of_mem _ h)
  have hown : s.vm.findClass "MatroidDesk" = some m.cls := findClass_of_methodNamed B.named
  have hlocks := B.notSynchronized
  subst hsz
  have hD := hD0.self (sz := s.heap.size)
  generalize hAe : va_A [(h0, .inr (0, [.ref qb, .int 0, .int (-1), .int 0, .int 0, .null, .ref qm, .ref qe, .ref qo, .ref qi, .ref qw, .ref qt, .ref qs, .ref qp])), (qm, .inl (cm, 26, .inr (.inr (.inr (.inr (fun _ => none))))))] s.heap.size = A at hD ⊢
  have hA : ∀ q : Nat, s.heap.size ≤ q → A q := fun q h => by rw [← hAe]; exact Or.inr h
  have hS : va_S A s.heap s.heap [] := va_S.rf
  have hP : va_P (dC, dI) vwCl [(h0, .inr (0, [.ref qb, .int 0, .int (-1), .int 0, .int 0, .null, .ref qm, .ref qe, .ref qo, .ref qi, .ref qw, .ref qt, .ref qs, .ref qp])), (qm, .inl (cm, 26, .inr (.inr (.inr (.inr (fun _ => none))))))] s.heap := hP
  have hl := lv_entry ([.ref h0, .int x, .int y]) (n := 4) (Nat.le_of_ble_eq_true rfl)
  rw [lg_entry_eq]
  generalize (lg_sl ([.ref h0, .int x, .int y]) ++ List.replicate (4 - (lg_sl ([.ref h0, .int x, .int y])).length) Slot.unset).toArray = ls at hl ⊢
  have hl : lv_has ls 4 [(0, .ref h0), (1, .int x), (2, .int y)] := hl
  refine lv_aload_n hx hb px_d27_0 rfl (lv_at hl 0 rfl) ?_
  refine lv_iload_n hx hb px_d27_1 rfl (lv_at hl 1 rfl) ?_
  have hPc := hP.sub (ws' := [(h0, .inr (0, [.ref qb, .int 0, .int (-1), .int 0, .int 0, .null, .ref qm, .ref qe, .ref qo, .ref qi, .ref qw, .ref qt, .ref qs, .ref qp])), (qm, .inl (cm, 26, .inr (.inr (.inr (.inr (fun _ => none))))))]) [0, 1] rfl
  have hDc := hD.sub (ws' := [(h0, .inr (0, [.ref qb, .int 0, .int (-1), .int 0, .int 0, .null, .ref qm, .ref qe, .ref qo, .ref qi, .ref qw, .ref qt, .ref qs, .ref qp])), (qm, .inl (cm, 26, .inr (.inr (.inr (.inr (fun _ => none))))))]) [0, 1] (by decide) rfl
  have hKc := hK.sub (tys' := [(cm, .object "MatroidDesk$Matroid")]) [0] rfl
  have hFc := va_free (wc := [(h0, .inr (0, [.ref qb, .int 0, .int (-1), .int 0, .int 0, .null, .ref qm, .ref qe, .ref qo, .ref qi, .ref qw, .ref qt, .ref qs, .ref qp])), (qm, .inl (cm, 26, .inr (.inr (.inr (.inr (fun _ => none))))))]) hD hS hA [0, 1] rfl
  refine va_callq (va_runV (As := [.int x]) (rest := []) ⟨hx, hb, hml, hown, htw⟩ (px_matroidAt l dC dI s.heap.size h0 qb qm qe qo qi qw qt qs qp cm x) (cwV 1 htw (px_gv px_w330 px_w344 px_w345 px_w6 px_g24) rfl rfl rfl (by decide +kernel) ⟨Nat.le_of_ble_eq_true rfl, Nat.le_of_ble_eq_true rfl⟩) ⟨fun a U g mk q => by obtain ⟨q0, q1, qP, qK, qD, qN⟩ := q; exact ⟨q0, q1, qP, va_K.moved (u := U) (U := U.calling g mk a) (Vm.Alike.refl U.vm) qK, qD, qN.same rfl⟩, va_recv hK hP (ci := 0) (q0 := 0) rfl rfl, fun U hU hW => ⟨rfl, by rw [hU], by rw [hU]; exact hPc, va_K.moved hW.alike hKc, hDc.weaken (fun _ _ _ _ => trivial), hN.warm hW⟩⟩ rfl rfl hl.1 rfl (lv_room (Nat.le_of_ble_eq_true rfl)) px_d27_2 ⟨(Nat.le_of_ble_eq_true rfl), (Nat.le_of_ble_eq_true rfl)⟩) hS (fun q _ h => hFc q h) hFc (fun r u t H1 locs ht hvm hw_2 hB hz1 hk1 hS => ?_)
  obtain ⟨hP1, hK1, hD1⟩ := hB
  rw [ht] at hP1
  have hK1 := va_K.moved hvm.symm hK1
  obtain ⟨hP, hD⟩ := va_join (wr := []) (w1 := [(h0, .inr (0, [.ref qb, .int 0, .int (-1), .int 0, .int 0, .null, .ref qm, .ref qe, .ref qo, .ref qi, .ref qw, .ref qt, .ref qs, .ref qp])), (qm, .inl (cm, 26, .inr (.inr (.inr (.inr (fun _ => none))))))]) hP hD [0, 1] [] rfl rfl (by decide) (by decide) hk1 hFc hP1 hD1
  generalize H1 = H at hP hS ⊢
  have hP : va_P (dC, dI) vwCl [(h0, .inr (0, [.ref qb, .int 0, .int (-1), .int 0, .int 0, .null, .ref qm, .ref qe, .ref qo, .ref qi, .ref qw, .ref qt, .ref qs, .ref qp])), (qm, .inl (cm, 26, .inr (.inr (.inr (.inr (fun _ => none))))))] H := hP
  have hD : va_D A [(h0, .inr (0, [.ref qb, .int 0, .int (-1), .int 0, .int 0, .null, .ref qm, .ref qe, .ref qo, .ref qi, .ref qw, .ref qt, .ref qs, .ref qp])), (qm, .inl (cm, 26, .inr (.inr (.inr (.inr (fun _ => none))))))] := hD
  subst hw_2
  refine W.eq (g2 := F0 m 5 ls (.null :: [])) rfl ?_
  refine lv_astore_nN (lv' := [(3, .null), (0, .ref h0), (1, .int x), (2, .int y)]) hx hb px_d27_5 rfl hl (by decide) rfl (fun ls hl => ?_)
  refine lv_aload_nN hx hb px_d27_6 rfl (lv_at hl 0 rfl) ?_
  refine lv_ifnullN (tgt := 18) hx hb px_d27_7 (by decide) ?_
  refine lv_iconst (v := (-1)) hx hb px_d27_18 (by decide) ?_
  refine lv_goto (tgt := 27) hx hb px_d27_19 (by decide) ?_
  have hP9 := hP.sub (ws' := [(h0, .inr (0, [.ref qb, .int 0, .int (-1), .int 0, .int 0, .null, .ref qm, .ref qe, .ref qo, .ref qi, .ref qw, .ref qt, .ref qs, .ref qp])), (qm, .inl (cm, 26, .inr (.inr (.inr (.inr (fun _ => none))))))]) [0, 1] rfl
  have hD9 := hD.sub (ws' := [(h0, .inr (0, [.ref qb, .int 0, .int (-1), .int 0, .int 0, .null, .ref qm, .ref qe, .ref qo, .ref qi, .ref qw, .ref qt, .ref qs, .ref qp])), (qm, .inl (cm, 26, .inr (.inr (.inr (.inr (fun _ => none))))))]) [0, 1] (by decide) rfl
  have hK9 := hK.sub (tys' := [(cm, .object "MatroidDesk$Matroid")]) [0] rfl
  refine W.widen (k := 0) (n := 0) (Nat.le_of_ble_eq_true rfl) (Nat.le_of_ble_eq_true rfl) ?_
  exact W.iret (v := (-1)) hx hb hr (fun t ht hW => ⟨⟨(-1), (), rfl, rfl, by rw [ht]; exact hP9, va_K.moved hW.alike hK9, hD9⟩, hS.F ht⟩) hS.2.2 px_d27_27
set_option maxHeartbeats 4000000 in
set_option maxRecDepth 100000 in
/-- count -/
theorem px_D_count (l : Launch) (dC : Nat → ClassId) (dI : Nat → Nat → Nat) (sz : Nat) (h0 : Nat) (qb : Nat) (qm : Nat) (qe : Nat) (qo : Nat) (qi : Nat) (qw : Nat) (qt : Nat) (qs : Nat) (qp : Nat) (cm : ClassId) (x : Int32) (y : Int32) : Met l px_y28 px_s28 ({ frames := 1, cells := 0, slots := 0, locals := 21 }) (va_Pc [.ref h0, .int x, .int y] (fun U => U.heap.size = sz ∧ va_P (dC, dI) vwCl [(h0, .inr (0, [.ref qb, .int 0, .int (-1), .int 0, .int 0, .null, .ref qm, .ref qe, .ref qo, .ref qi, .ref qw, .ref qt, .ref qs, .ref qp])), (qm, .inl (cm, 26, .inr (.inr (.inr (.inr (fun _ => none))))))] U.heap ∧ va_K (dC, dI) vwCl [(cm, .object "MatroidDesk$Matroid")] U ∧ va_D (fun _ => True) [(h0, .inr (0, [.ref qb, .int 0, .int (-1), .int 0, .int 0, .null, .ref qm, .ref qe, .ref qo, .ref qi, .ref qw, .ref qt, .ref qs, .ref qp])), (qm, .inl (cm, 26, .inr (.inr (.inr (.inr (fun _ => none))))))] ∧ px_N U)) (va_Qi (fun (r : Int32) (_ : Unit) => r = (-1)) (fun (_ : Unit) (t : State) => va_P (dC, dI) vwCl [(h0, .inr (0, [.ref qb, .int 0, .int (-1), .int 0, .int 0, .null, .ref qm, .ref qe, .ref qo, .ref qi, .ref qw, .ref qt, .ref qs, .ref qp])), (qm, .inl (cm, 26, .inr (.inr (.inr (.inr (fun _ => none))))))] t.heap ∧ va_K (dC, dI) vwCl [(cm, .object "MatroidDesk$Matroid")] t ∧ va_D (va_A [(h0, .inr (0, [.ref qb, .int 0, .int (-1), .int 0, .int 0, .null, .ref qm, .ref qe, .ref qo, .ref qi, .ref qw, .ref qt, .ref qs, .ref qp])), (qm, .inl (cm, 26, .inr (.inr (.inr (.inr (fun _ => none))))))] sz) [(h0, .inr (0, [.ref qb, .int 0, .int (-1), .int 0, .int 0, .null, .ref qm, .ref qe, .ref qo, .ref qi, .ref qw, .ref qt, .ref qs, .ref qp])), (qm, .inl (cm, 26, .inr (.inr (.inr (.inr (fun _ => none))))))]) (va_A [(h0, .inr (0, [.ref qb, .int 0, .int (-1), .int 0, .int 0, .null, .ref qm, .ref qe, .ref qo, .ref qi, .ref qw, .ref qt, .ref qs, .ref qp])), (qm, .inl (cm, 26, .inr (.inr (.inr (.inr (fun _ => none))))))] sz)) 0 0 (va_A [(h0, .inr (0, [.ref qb, .int 0, .int (-1), .int 0, .int 0, .null, .ref qm, .ref qe, .ref qo, .ref qi, .ref qw, .ref qt, .ref qs, .ref qp])), (qm, .inl (cm, 26, .inr (.inr (.inr (.inr (fun _ => none))))))] sz) := by
  refine Met.ofW (cc := prog_1_method_12_code) (maxL := 4) (ret := (some .int)) (by decide) rfl ?_
  intro p e s m args below meth c s₁ B hml hv
  obtain ⟨rfl, hsz, hP, hK, hD0, hN⟩ := hv
  have hx := B.exec
  have hb := B.bytes
  have hr := B.returns
  have htw : ∀ w ∈ px_all, w.before _ s = true := fun w h => atoms_spec (ws := px_s28) B.pre w (List.mem_cons_of_mem _ h)
  have hown : s.vm.findClass "MatroidDesk" = some m.cls := findClass_of_methodNamed B.named
  have hlocks := B.notSynchronized
  subst hsz
  have hD := hD0.self (sz := s.heap.size)
  generalize hAe : va_A [(h0, .inr (0, [.ref qb, .int 0, .int (-1), .int 0, .int 0, .null, .ref qm, .ref qe, .ref qo, .ref qi, .ref qw, .ref qt, .ref qs, .ref qp])), (qm, .inl (cm, 26, .inr (.inr (.inr (.inr (fun _ => none))))))] s.heap.size = A at hD ⊢
  have hA : ∀ q : Nat, s.heap.size ≤ q → A q := fun q h => by rw [← hAe]; exact Or.inr h
  have hS : va_S A s.heap s.heap [] := va_S.rf
  have hP : va_P (dC, dI) vwCl [(h0, .inr (0, [.ref qb, .int 0, .int (-1), .int 0, .int 0, .null, .ref qm, .ref qe, .ref qo, .ref qi, .ref qw, .ref qt, .ref qs, .ref qp])), (qm, .inl (cm, 26, .inr (.inr (.inr (.inr (fun _ => none))))))] s.heap := hP
  have hl := lv_entry ([.ref h0, .int x, .int y]) (n := 4) (Nat.le_of_ble_eq_true rfl)
  rw [lg_entry_eq]
  generalize (lg_sl ([.ref h0, .int x, .int y]) ++ List.replicate (4 - (lg_sl ([.ref h0, .int x, .int y])).length) Slot.unset).toArray = ls at hl ⊢
  have hl : lv_has ls 4 [(0, .ref h0), (1, .int x), (2, .int y)] := hl
  refine lv_aload_n hx hb px_d28_0 rfl (lv_at hl 0 rfl) ?_
  refine lv_iload_n hx hb px_d28_1 rfl (lv_at hl 1 rfl) ?_
  have hPc := hP.sub (ws' := [(h0, .inr (0, [.ref qb, .int 0, .int (-1), .int 0, .int 0, .null, .ref qm, .ref qe, .ref qo, .ref qi, .ref qw, .ref qt, .ref qs, .ref qp])), (qm, .inl (cm, 26, .inr (.inr (.inr (.inr (fun _ => none))))))]) [0, 1] rfl
  have hDc := hD.sub (ws' := [(h0, .inr (0, [.ref qb, .int 0, .int (-1), .int 0, .int 0, .null, .ref qm, .ref qe, .ref qo, .ref qi, .ref qw, .ref qt, .ref qs, .ref qp])), (qm, .inl (cm, 26, .inr (.inr (.inr (.inr (fun _ => none))))))]) [0, 1] (by decide) rfl
  have hKc := hK.sub (tys' := [(cm, .object "MatroidDesk$Matroid")]) [0] rfl
  have hFc := va_free (wc := [(h0, .inr (0, [.ref qb, .int 0, .int (-1), .int 0, .int 0, .null, .ref qm, .ref qe, .ref qo, .ref qi, .ref qw, .ref qt, .ref qs, .ref qp])), (qm, .inl (cm, 26, .inr (.inr (.inr (.inr (fun _ => none))))))]) hD hS hA [0, 1] rfl
  refine va_callq (va_runV (As := [.int x]) (rest := []) ⟨hx, hb, hml, hown, htw⟩ (px_matroidAt l dC dI s.heap.size h0 qb qm qe qo qi qw qt qs qp cm x) (cwV 1 htw (px_gv px_w330 px_w344 px_w345 px_w6 px_g24) rfl rfl rfl (by decide +kernel) ⟨Nat.le_of_ble_eq_true rfl, Nat.le_of_ble_eq_true rfl⟩) ⟨fun a U g mk q => by obtain ⟨q0, q1, qP, qK, qD, qN⟩ := q; exact ⟨q0, q1, qP, va_K.moved (u := U) (U := U.calling g mk a) (Vm.Alike.refl U.vm) qK, qD, qN.same rfl⟩, va_recv hK hP (ci := 0) (q0 := 0) rfl rfl, fun U hU hW => ⟨rfl, by rw [hU], by rw [hU]; exact hPc, va_K.moved hW.alike hKc, hDc.weaken (fun _ _ _ _ => trivial), hN.warm hW⟩⟩ rfl rfl hl.1 rfl (lv_room (Nat.le_of_ble_eq_true rfl)) px_d28_2 ⟨(Nat.le_of_ble_eq_true rfl), (Nat.le_of_ble_eq_true rfl)⟩) hS (fun q _ h => hFc q h) hFc (fun r u t H1 locs ht hvm hw_2 hB hz1 hk1 hS => ?_)
  obtain ⟨hP1, hK1, hD1⟩ := hB
  rw [ht] at hP1
  have hK1 := va_K.moved hvm.symm hK1
  obtain ⟨hP, hD⟩ := va_join (wr := []) (w1 := [(h0, .inr (0, [.ref qb, .int 0, .int (-1), .int 0, .int 0, .null, .ref qm, .ref qe, .ref qo, .ref qi, .ref qw, .ref qt, .ref qs, .ref qp])), (qm, .inl (cm, 26, .inr (.inr (.inr (.inr (fun _ => none))))))]) hP hD [0, 1] [] rfl rfl (by decide) (by decide) hk1 hFc hP1 hD1
  generalize H1 = H at hP hS ⊢
  have hP : va_P (dC, dI) vwCl [(h0, .inr (0, [.ref qb, .int 0, .int (-1), .int 0, .int 0, .null, .ref qm, .ref qe, .ref qo, .ref qi, .ref qw, .ref qt, .ref qs, .ref qp])), (qm, .inl (cm, 26, .inr (.inr (.inr (.inr (fun _ => none))))))] H := hP
  have hD : va_D A [(h0, .inr (0, [.ref qb, .int 0, .int (-1), .int 0, .int 0, .null, .ref qm, .ref qe, .ref qo, .ref qi, .ref qw, .ref qt, .ref qs, .ref qp])), (qm, .inl (cm, 26, .inr (.inr (.inr (.inr (fun _ => none))))))] := hD
  subst hw_2
  refine W.eq (g2 := F0 m 5 ls (.null :: [])) rfl ?_
  refine lv_astore_nN (lv' := [(3, .null), (0, .ref h0), (1, .int x), (2, .int y)]) hx hb px_d28_5 rfl hl (by decide) rfl (fun ls hl => ?_)
  refine lv_aload_nN hx hb px_d28_6 rfl (lv_at hl 0 rfl) ?_
  refine lv_ifnullN (tgt := 19) hx hb px_d28_7 (by decide) ?_
  refine lv_iconst (v := (-1)) hx hb px_d28_19 (by decide) ?_
  refine lv_goto (tgt := 28) hx hb px_d28_20 (by decide) ?_
  have hP9 := hP.sub (ws' := [(h0, .inr (0, [.ref qb, .int 0, .int (-1), .int 0, .int 0, .null, .ref qm, .ref qe, .ref qo, .ref qi, .ref qw, .ref qt, .ref qs, .ref qp])), (qm, .inl (cm, 26, .inr (.inr (.inr (.inr (fun _ => none))))))]) [0, 1] rfl
  have hD9 := hD.sub (ws' := [(h0, .inr (0, [.ref qb, .int 0, .int (-1), .int 0, .int 0, .null, .ref qm, .ref qe, .ref qo, .ref qi, .ref qw, .ref qt, .ref qs, .ref qp])), (qm, .inl (cm, 26, .inr (.inr (.inr (.inr (fun _ => none))))))]) [0, 1] (by decide) rfl
  have hK9 := hK.sub (tys' := [(cm, .object "MatroidDesk$Matroid")]) [0] rfl
  refine W.widen (k := 0) (n := 0) (Nat.le_of_ble_eq_true rfl) (Nat.le_of_ble_eq_true rfl) ?_
  exact W.iret (v := (-1)) hx hb hr (fun t ht hW => ⟨⟨(-1), (), rfl, rfl, by rw [ht]; exact hP9, va_K.moved hW.alike hK9, hD9⟩, hS.F ht⟩) hS.2.2 px_d28_28
set_option maxHeartbeats 4000000 in
set_option maxRecDepth 100000 in
/-- member -/
theorem px_D_member (l : Launch) (dC : Nat → ClassId) (dI : Nat → Nat → Nat) (sz : Nat) (h0 : Nat) (qb : Nat) (qm : Nat) (qe : Nat) (qo : Nat) (qi : Nat) (qw : Nat) (qt : Nat) (qs : Nat) (qp : Nat) (cm : ClassId) (x : Int32) (y : Int32) (z : Int32) : Met l px_y29 px_s29 ({ frames := 1, cells := 0, slots := 0, locals := 21 }) (va_Pc [.ref h0, .int x, .int y, .int z] (fun U => U.heap.size = sz ∧ va_P (dC, dI) vwCl [(h0, .inr (0, [.ref qb, .int 0, .int (-1), .int 0, .int 0, .null, .ref qm, .ref qe, .ref qo, .ref qi, .ref qw, .ref qt, .ref qs, .ref qp])), (qm, .inl (cm, 26, .inr (.inr (.inr (.inr (fun _ => none))))))] U.heap ∧ va_K (dC, dI) vwCl [(cm, .object "MatroidDesk$Matroid")] U ∧ va_D (fun _ => True) [(h0, .inr (0, [.ref qb, .int 0, .int (-1), .int 0, .int 0, .null, .ref qm, .ref qe, .ref qo, .ref qi, .ref qw, .ref qt, .ref qs, .ref qp])), (qm, .inl (cm, 26, .inr (.inr (.inr (.inr (fun _ => none))))))] ∧ px_N U)) (va_Qi (fun (r : Int32) (_ : Unit) => r = (-1)) (fun (_ : Unit) (t : State) => va_P (dC, dI) vwCl [(h0, .inr (0, [.ref qb, .int 0, .int (-1), .int 0, .int 0, .null, .ref qm, .ref qe, .ref qo, .ref qi, .ref qw, .ref qt, .ref qs, .ref qp])), (qm, .inl (cm, 26, .inr (.inr (.inr (.inr (fun _ => none))))))] t.heap ∧ va_K (dC, dI) vwCl [(cm, .object "MatroidDesk$Matroid")] t ∧ va_D (va_A [(h0, .inr (0, [.ref qb, .int 0, .int (-1), .int 0, .int 0, .null, .ref qm, .ref qe, .ref qo, .ref qi, .ref qw, .ref qt, .ref qs, .ref qp])), (qm, .inl (cm, 26, .inr (.inr (.inr (.inr (fun _ => none))))))] sz) [(h0, .inr (0, [.ref qb, .int 0, .int (-1), .int 0, .int 0, .null, .ref qm, .ref qe, .ref qo, .ref qi, .ref qw, .ref qt, .ref qs, .ref qp])), (qm, .inl (cm, 26, .inr (.inr (.inr (.inr (fun _ => none))))))]) (va_A [(h0, .inr (0, [.ref qb, .int 0, .int (-1), .int 0, .int 0, .null, .ref qm, .ref qe, .ref qo, .ref qi, .ref qw, .ref qt, .ref qs, .ref qp])), (qm, .inl (cm, 26, .inr (.inr (.inr (.inr (fun _ => none))))))] sz)) 0 0 (va_A [(h0, .inr (0, [.ref qb, .int 0, .int (-1), .int 0, .int 0, .null, .ref qm, .ref qe, .ref qo, .ref qi, .ref qw, .ref qt, .ref qs, .ref qp])), (qm, .inl (cm, 26, .inr (.inr (.inr (.inr (fun _ => none))))))] sz) := by
  refine Met.ofW (cc := prog_1_method_13_code) (maxL := 5) (ret := (some .int)) (by decide) rfl ?_
  intro p e s m args below meth c s₁ B hml hv
  obtain ⟨rfl, hsz, hP, hK, hD0, hN⟩ := hv
  have hx := B.exec
  have hb := B.bytes
  have hr := B.returns
  have htw : ∀ w ∈ px_all, w.before _ s = true := fun w h => atoms_spec (ws := px_s29) B.pre w (List.mem_cons_of_mem _ h)
  have hown : s.vm.findClass "MatroidDesk" = some m.cls := findClass_of_methodNamed B.named
  have hlocks := B.notSynchronized
  subst hsz
  have hD := hD0.self (sz := s.heap.size)
  generalize hAe : va_A [(h0, .inr (0, [.ref qb, .int 0, .int (-1), .int 0, .int 0, .null, .ref qm, .ref qe, .ref qo, .ref qi, .ref qw, .ref qt, .ref qs, .ref qp])), (qm, .inl (cm, 26, .inr (.inr (.inr (.inr (fun _ => none))))))] s.heap.size = A at hD ⊢
  have hA : ∀ q : Nat, s.heap.size ≤ q → A q := fun q h => by rw [← hAe]; exact Or.inr h
  have hS : va_S A s.heap s.heap [] := va_S.rf
  have hP : va_P (dC, dI) vwCl [(h0, .inr (0, [.ref qb, .int 0, .int (-1), .int 0, .int 0, .null, .ref qm, .ref qe, .ref qo, .ref qi, .ref qw, .ref qt, .ref qs, .ref qp])), (qm, .inl (cm, 26, .inr (.inr (.inr (.inr (fun _ => none))))))] s.heap := hP
  have hl := lv_entry ([.ref h0, .int x, .int y, .int z]) (n := 5) (Nat.le_of_ble_eq_true rfl)
  rw [lg_entry_eq]
  generalize (lg_sl ([.ref h0, .int x, .int y, .int z]) ++ List.replicate (5 - (lg_sl ([.ref h0, .int x, .int y, .int z])).length) Slot.unset).toArray = ls at hl ⊢
  have hl : lv_has ls 5 [(0, .ref h0), (1, .int x), (2, .int y), (3, .int z)] := hl
  refine lv_aload_n hx hb px_d29_0 rfl (lv_at hl 0 rfl) ?_
  refine lv_iload_n hx hb px_d29_1 rfl (lv_at hl 1 rfl) ?_
  have hPc := hP.sub (ws' := [(h0, .inr (0, [.ref qb, .int 0, .int (-1), .int 0, .int 0, .null, .ref qm, .ref qe, .ref qo, .ref qi, .ref qw, .ref qt, .ref qs, .ref qp])), (qm, .inl (cm, 26, .inr (.inr (.inr (.inr (fun _ => none))))))]) [0, 1] rfl
  have hDc := hD.sub (ws' := [(h0, .inr (0, [.ref qb, .int 0, .int (-1), .int 0, .int 0, .null, .ref qm, .ref qe, .ref qo, .ref qi, .ref qw, .ref qt, .ref qs, .ref qp])), (qm, .inl (cm, 26, .inr (.inr (.inr (.inr (fun _ => none))))))]) [0, 1] (by decide) rfl
  have hKc := hK.sub (tys' := [(cm, .object "MatroidDesk$Matroid")]) [0] rfl
  have hFc := va_free (wc := [(h0, .inr (0, [.ref qb, .int 0, .int (-1), .int 0, .int 0, .null, .ref qm, .ref qe, .ref qo, .ref qi, .ref qw, .ref qt, .ref qs, .ref qp])), (qm, .inl (cm, 26, .inr (.inr (.inr (.inr (fun _ => none))))))]) hD hS hA [0, 1] rfl
  refine va_callq (va_runV (As := [.int x]) (rest := []) ⟨hx, hb, hml, hown, htw⟩ (px_matroidAt l dC dI s.heap.size h0 qb qm qe qo qi qw qt qs qp cm x) (cwV 1 htw (px_gv px_w330 px_w344 px_w345 px_w6 px_g24) rfl rfl rfl (by decide +kernel) ⟨Nat.le_of_ble_eq_true rfl, Nat.le_of_ble_eq_true rfl⟩) ⟨fun a U g mk q => by obtain ⟨q0, q1, qP, qK, qD, qN⟩ := q; exact ⟨q0, q1, qP, va_K.moved (u := U) (U := U.calling g mk a) (Vm.Alike.refl U.vm) qK, qD, qN.same rfl⟩, va_recv hK hP (ci := 0) (q0 := 0) rfl rfl, fun U hU hW => ⟨rfl, by rw [hU], by rw [hU]; exact hPc, va_K.moved hW.alike hKc, hDc.weaken (fun _ _ _ _ => trivial), hN.warm hW⟩⟩ rfl rfl hl.1 rfl (lv_room (Nat.le_of_ble_eq_true rfl)) px_d29_2 ⟨(Nat.le_of_ble_eq_true rfl), (Nat.le_of_ble_eq_true rfl)⟩) hS (fun q _ h => hFc q h) hFc (fun r u t H1 locs ht hvm hw_2 hB hz1 hk1 hS => ?_)
  obtain ⟨hP1, hK1, hD1⟩ := hB
  rw [ht] at hP1
  have hK1 := va_K.moved hvm.symm hK1
  obtain ⟨hP, hD⟩ := va_join (wr := []) (w1 := [(h0, .inr (0, [.ref qb, .int 0, .int (-1), .int 0, .int 0, .null, .ref qm, .ref qe, .ref qo, .ref qi, .ref qw, .ref qt, .ref qs, .ref qp])), (qm, .inl (cm, 26, .inr (.inr (.inr (.inr (fun _ => none))))))]) hP hD [0, 1] [] rfl rfl (by decide) (by decide) hk1 hFc hP1 hD1
  generalize H1 = H at hP hS ⊢
  have hP : va_P (dC, dI) vwCl [(h0, .inr (0, [.ref qb, .int 0, .int (-1), .int 0, .int 0, .null, .ref qm, .ref qe, .ref qo, .ref qi, .ref qw, .ref qt, .ref qs, .ref qp])), (qm, .inl (cm, 26, .inr (.inr (.inr (.inr (fun _ => none))))))] H := hP
  have hD : va_D A [(h0, .inr (0, [.ref qb, .int 0, .int (-1), .int 0, .int 0, .null, .ref qm, .ref qe, .ref qo, .ref qi, .ref qw, .ref qt, .ref qs, .ref qp])), (qm, .inl (cm, 26, .inr (.inr (.inr (.inr (fun _ => none))))))] := hD
  subst hw_2
  refine W.eq (g2 := F0 m 5 ls (.null :: [])) rfl ?_
  refine lv_astoreN (lv' := [(4, .null), (0, .ref h0), (1, .int x), (2, .int y), (3, .int z)]) hx hb px_d29_5 hl (by decide) rfl (fun ls hl => ?_)
  refine lv_aloadN hx hb px_d29_7 (lv_at hl 0 rfl) ?_
  refine lv_ifnullN (tgt := 35) hx hb px_d29_9 (by decide) ?_
  refine lv_iconst (v := (-1)) hx hb px_d29_35 (by decide) ?_
  have hP9 := hP.sub (ws' := [(h0, .inr (0, [.ref qb, .int 0, .int (-1), .int 0, .int 0, .null, .ref qm, .ref qe, .ref qo, .ref qi, .ref qw, .ref qt, .ref qs, .ref qp])), (qm, .inl (cm, 26, .inr (.inr (.inr (.inr (fun _ => none))))))]) [0, 1] rfl
  have hD9 := hD.sub (ws' := [(h0, .inr (0, [.ref qb, .int 0, .int (-1), .int 0, .int 0, .null, .ref qm, .ref qe, .ref qo, .ref qi, .ref qw, .ref qt, .ref qs, .ref qp])), (qm, .inl (cm, 26, .inr (.inr (.inr (.inr (fun _ => none))))))]) [0, 1] (by decide) rfl
  have hK9 := hK.sub (tys' := [(cm, .object "MatroidDesk$Matroid")]) [0] rfl
  refine W.widen (k := 0) (n := 0) (Nat.le_of_ble_eq_true rfl) (Nat.le_of_ble_eq_true rfl) ?_
  exact W.iret (v := (-1)) hx hb hr (fun t ht hW => ⟨⟨(-1), (), rfl, rfl, by rw [ht]; exact hP9, va_K.moved hW.alike hK9, hD9⟩, hS.F ht⟩) hS.2.2 px_d29_36
set_option maxHeartbeats 4000000 in
set_option maxRecDepth 100000 in
/-- tutte -/
theorem px_D_tutte (l : Launch) (dC : Nat → ClassId) (dI : Nat → Nat → Nat) (sz : Nat) (h0 : Nat) (qb : Nat) (qm : Nat) (qe : Nat) (qo : Nat) (qi : Nat) (qw : Nat) (qt : Nat) (qs : Nat) (qp : Nat) (cm : ClassId) (x : Int32) (y : Int32) (z : Int32) : Met l px_y30 px_s30 ({ frames := 1, cells := 0, slots := 0, locals := 21 }) (va_Pc [.ref h0, .int x, .int y, .int z] (fun U => U.heap.size = sz ∧ va_P (dC, dI) vwCl [(h0, .inr (0, [.ref qb, .int 0, .int (-1), .int 0, .int 0, .null, .ref qm, .ref qe, .ref qo, .ref qi, .ref qw, .ref qt, .ref qs, .ref qp])), (qm, .inl (cm, 26, .inr (.inr (.inr (.inr (fun _ => none))))))] U.heap ∧ va_K (dC, dI) vwCl [(cm, .object "MatroidDesk$Matroid")] U ∧ va_D (fun _ => True) [(h0, .inr (0, [.ref qb, .int 0, .int (-1), .int 0, .int 0, .null, .ref qm, .ref qe, .ref qo, .ref qi, .ref qw, .ref qt, .ref qs, .ref qp])), (qm, .inl (cm, 26, .inr (.inr (.inr (.inr (fun _ => none))))))] ∧ px_N U)) (va_Ql (fun (r : Int64) (_ : Unit) => r = 0) (fun (_ : Unit) (t : State) => va_P (dC, dI) vwCl [(h0, .inr (0, [.ref qb, .int 0, .int (-1), .int 0, .int 0, .null, .ref qm, .ref qe, .ref qo, .ref qi, .ref qw, .ref qt, .ref qs, .ref qp])), (qm, .inl (cm, 26, .inr (.inr (.inr (.inr (fun _ => none))))))] t.heap ∧ va_K (dC, dI) vwCl [(cm, .object "MatroidDesk$Matroid")] t ∧ va_D (va_A [(h0, .inr (0, [.ref qb, .int 0, .int (-1), .int 0, .int 0, .null, .ref qm, .ref qe, .ref qo, .ref qi, .ref qw, .ref qt, .ref qs, .ref qp])), (qm, .inl (cm, 26, .inr (.inr (.inr (.inr (fun _ => none))))))] sz) [(h0, .inr (0, [.ref qb, .int 0, .int (-1), .int 0, .int 0, .null, .ref qm, .ref qe, .ref qo, .ref qi, .ref qw, .ref qt, .ref qs, .ref qp])), (qm, .inl (cm, 26, .inr (.inr (.inr (.inr (fun _ => none))))))]) (va_A [(h0, .inr (0, [.ref qb, .int 0, .int (-1), .int 0, .int 0, .null, .ref qm, .ref qe, .ref qo, .ref qi, .ref qw, .ref qt, .ref qs, .ref qp])), (qm, .inl (cm, 26, .inr (.inr (.inr (.inr (fun _ => none))))))] sz)) 0 0 (va_A [(h0, .inr (0, [.ref qb, .int 0, .int (-1), .int 0, .int 0, .null, .ref qm, .ref qe, .ref qo, .ref qi, .ref qw, .ref qt, .ref qs, .ref qp])), (qm, .inl (cm, 26, .inr (.inr (.inr (.inr (fun _ => none))))))] sz) := by
  refine Met.ofW (cc := prog_1_method_14_code) (maxL := 5) (ret := (some .long)) (by decide) rfl ?_
  intro p e s m args below meth c s₁ B hml hv
  obtain ⟨rfl, hsz, hP, hK, hD0, hN⟩ := hv
  have hx := B.exec
  have hb := B.bytes
  have hr := B.returns
  have htw : ∀ w ∈ px_all, w.before _ s = true := fun w h => atoms_spec (ws := px_s30) B.pre w (List.mem_cons_of_mem _ h)
  have hown : s.vm.findClass "MatroidDesk" = some m.cls := findClass_of_methodNamed B.named
  have hlocks := B.notSynchronized
  subst hsz
  have hD := hD0.self (sz := s.heap.size)
  generalize hAe : va_A [(h0, .inr (0, [.ref qb, .int 0, .int (-1), .int 0, .int 0, .null, .ref qm, .ref qe, .ref qo, .ref qi, .ref qw, .ref qt, .ref qs, .ref qp])), (qm, .inl (cm, 26, .inr (.inr (.inr (.inr (fun _ => none))))))] s.heap.size = A at hD ⊢
  have hA : ∀ q : Nat, s.heap.size ≤ q → A q := fun q h => by rw [← hAe]; exact Or.inr h
  have hS : va_S A s.heap s.heap [] := va_S.rf
  have hP : va_P (dC, dI) vwCl [(h0, .inr (0, [.ref qb, .int 0, .int (-1), .int 0, .int 0, .null, .ref qm, .ref qe, .ref qo, .ref qi, .ref qw, .ref qt, .ref qs, .ref qp])), (qm, .inl (cm, 26, .inr (.inr (.inr (.inr (fun _ => none))))))] s.heap := hP
  have hl := lv_entry ([.ref h0, .int x, .int y, .int z]) (n := 5) (Nat.le_of_ble_eq_true rfl)
  rw [lg_entry_eq]
  generalize (lg_sl ([.ref h0, .int x, .int y, .int z]) ++ List.replicate (5 - (lg_sl ([.ref h0, .int x, .int y, .int z])).length) Slot.unset).toArray = ls at hl ⊢
  have hl : lv_has ls 5 [(0, .ref h0), (1, .int x), (2, .int y), (3, .int z)] := hl
  refine lv_aload_n hx hb px_d30_0 rfl (lv_at hl 0 rfl) ?_
  refine lv_iload_n hx hb px_d30_1 rfl (lv_at hl 1 rfl) ?_
  have hPc := hP.sub (ws' := [(h0, .inr (0, [.ref qb, .int 0, .int (-1), .int 0, .int 0, .null, .ref qm, .ref qe, .ref qo, .ref qi, .ref qw, .ref qt, .ref qs, .ref qp])), (qm, .inl (cm, 26, .inr (.inr (.inr (.inr (fun _ => none))))))]) [0, 1] rfl
  have hDc := hD.sub (ws' := [(h0, .inr (0, [.ref qb, .int 0, .int (-1), .int 0, .int 0, .null, .ref qm, .ref qe, .ref qo, .ref qi, .ref qw, .ref qt, .ref qs, .ref qp])), (qm, .inl (cm, 26, .inr (.inr (.inr (.inr (fun _ => none))))))]) [0, 1] (by decide) rfl
  have hKc := hK.sub (tys' := [(cm, .object "MatroidDesk$Matroid")]) [0] rfl
  have hFc := va_free (wc := [(h0, .inr (0, [.ref qb, .int 0, .int (-1), .int 0, .int 0, .null, .ref qm, .ref qe, .ref qo, .ref qi, .ref qw, .ref qt, .ref qs, .ref qp])), (qm, .inl (cm, 26, .inr (.inr (.inr (.inr (fun _ => none))))))]) hD hS hA [0, 1] rfl
  refine va_callq (va_runV (As := [.int x]) (rest := []) ⟨hx, hb, hml, hown, htw⟩ (px_matroidAt l dC dI s.heap.size h0 qb qm qe qo qi qw qt qs qp cm x) (cwV 1 htw (px_gv px_w330 px_w344 px_w345 px_w6 px_g24) rfl rfl rfl (by decide +kernel) ⟨Nat.le_of_ble_eq_true rfl, Nat.le_of_ble_eq_true rfl⟩) ⟨fun a U g mk q => by obtain ⟨q0, q1, qP, qK, qD, qN⟩ := q; exact ⟨q0, q1, qP, va_K.moved (u := U) (U := U.calling g mk a) (Vm.Alike.refl U.vm) qK, qD, qN.same rfl⟩, va_recv hK hP (ci := 0) (q0 := 0) rfl rfl, fun U hU hW => ⟨rfl, by rw [hU], by rw [hU]; exact hPc, va_K.moved hW.alike hKc, hDc.weaken (fun _ _ _ _ => trivial), hN.warm hW⟩⟩ rfl rfl hl.1 rfl (lv_room (Nat.le_of_ble_eq_true rfl)) px_d30_2 ⟨(Nat.le_of_ble_eq_true rfl), (Nat.le_of_ble_eq_true rfl)⟩) hS (fun q _ h => hFc q h) hFc (fun r u t H1 locs ht hvm hw_2 hB hz1 hk1 hS => ?_)
  obtain ⟨hP1, hK1, hD1⟩ := hB
  rw [ht] at hP1
  have hK1 := va_K.moved hvm.symm hK1
  obtain ⟨hP, hD⟩ := va_join (wr := []) (w1 := [(h0, .inr (0, [.ref qb, .int 0, .int (-1), .int 0, .int 0, .null, .ref qm, .ref qe, .ref qo, .ref qi, .ref qw, .ref qt, .ref qs, .ref qp])), (qm, .inl (cm, 26, .inr (.inr (.inr (.inr (fun _ => none))))))]) hP hD [0, 1] [] rfl rfl (by decide) (by decide) hk1 hFc hP1 hD1
  generalize H1 = H at hP hS ⊢
  have hP : va_P (dC, dI) vwCl [(h0, .inr (0, [.ref qb, .int 0, .int (-1), .int 0, .int 0, .null, .ref qm, .ref qe, .ref qo, .ref qi, .ref qw, .ref qt, .ref qs, .ref qp])), (qm, .inl (cm, 26, .inr (.inr (.inr (.inr (fun _ => none))))))] H := hP
  have hD : va_D A [(h0, .inr (0, [.ref qb, .int 0, .int (-1), .int 0, .int 0, .null, .ref qm, .ref qe, .ref qo, .ref qi, .ref qw, .ref qt, .ref qs, .ref qp])), (qm, .inl (cm, 26, .inr (.inr (.inr (.inr (fun _ => none))))))] := hD
  subst hw_2
  refine W.eq (g2 := F0 m 5 ls (.null :: [])) rfl ?_
  refine lv_astoreN (lv' := [(4, .null), (0, .ref h0), (1, .int x), (2, .int y), (3, .int z)]) hx hb px_d30_5 hl (by decide) rfl (fun ls hl => ?_)
  refine lv_aloadN hx hb px_d30_7 (lv_at hl 0 rfl) ?_
  refine lv_ifnonnullN hx hb px_d30_9 ?_
  refine lv_lconst (v := 0) hx hb px_d30_12 (by decide) ?_
  refine lv_goto (tgt := 23) hx hb px_d30_13 (by decide) ?_
  have hP9 := hP.sub (ws' := [(h0, .inr (0, [.ref qb, .int 0, .int (-1), .int 0, .int 0, .null, .ref qm, .ref qe, .ref qo, .ref qi, .ref qw, .ref qt, .ref qs, .ref qp])), (qm, .inl (cm, 26, .inr (.inr (.inr (.inr (fun _ => none))))))]) [0, 1] rfl
  have hD9 := hD.sub (ws' := [(h0, .inr (0, [.ref qb, .int 0, .int (-1), .int 0, .int 0, .null, .ref qm, .ref qe, .ref qo, .ref qi, .ref qw, .ref qt, .ref qs, .ref qp])), (qm, .inl (cm, 26, .inr (.inr (.inr (.inr (fun _ => none))))))]) [0, 1] (by decide) rfl
  have hK9 := hK.sub (tys' := [(cm, .object "MatroidDesk$Matroid")]) [0] rfl
  refine W.widen (k := 0) (n := 0) (Nat.le_of_ble_eq_true rfl) (Nat.le_of_ble_eq_true rfl) ?_
  exact W.lret (v := 0) hx hb hr (fun t ht hW => ⟨⟨0, (), rfl, rfl, by rw [ht]; exact hP9, va_K.moved hW.alike hK9, hD9⟩, hS.F ht⟩) hS.2.2 px_d30_23
set_option maxHeartbeats 4000000 in
set_option maxRecDepth 100000 in
/-- weight -/
theorem px_D_weight (l : Launch) (dC : Nat → ClassId) (dI : Nat → Nat → Nat) (sz : Nat) (h0 : Nat) (qb : Nat) (qm : Nat) (qe : Nat) (qo : Nat) (qi : Nat) (qw : Nat) (qt : Nat) (qs : Nat) (qp : Nat) (cm : ClassId) (x : Int32) (y : Int32) : Met l px_y31 px_s31 ({ frames := 1, cells := 0, slots := 0, locals := 21 }) (va_Pc [.ref h0, .int x, .int y] (fun U => U.heap.size = sz ∧ va_P (dC, dI) vwCl [(h0, .inr (0, [.ref qb, .int 0, .int (-1), .int 0, .int 0, .null, .ref qm, .ref qe, .ref qo, .ref qi, .ref qw, .ref qt, .ref qs, .ref qp])), (qm, .inl (cm, 26, .inr (.inr (.inr (.inr (fun _ => none))))))] U.heap ∧ va_K (dC, dI) vwCl [(cm, .object "MatroidDesk$Matroid")] U ∧ va_D (fun _ => True) [(h0, .inr (0, [.ref qb, .int 0, .int (-1), .int 0, .int 0, .null, .ref qm, .ref qe, .ref qo, .ref qi, .ref qw, .ref qt, .ref qs, .ref qp])), (qm, .inl (cm, 26, .inr (.inr (.inr (.inr (fun _ => none))))))] ∧ px_N U)) (va_Qi (fun (r : Int32) (_ : Unit) => r = 0) (fun (_ : Unit) (t : State) => va_P (dC, dI) vwCl [(h0, .inr (0, [.ref qb, .int 0, .int (-1), .int 0, .int 0, .null, .ref qm, .ref qe, .ref qo, .ref qi, .ref qw, .ref qt, .ref qs, .ref qp])), (qm, .inl (cm, 26, .inr (.inr (.inr (.inr (fun _ => none))))))] t.heap ∧ va_K (dC, dI) vwCl [(cm, .object "MatroidDesk$Matroid")] t ∧ va_D (va_A [(h0, .inr (0, [.ref qb, .int 0, .int (-1), .int 0, .int 0, .null, .ref qm, .ref qe, .ref qo, .ref qi, .ref qw, .ref qt, .ref qs, .ref qp])), (qm, .inl (cm, 26, .inr (.inr (.inr (.inr (fun _ => none))))))] sz) [(h0, .inr (0, [.ref qb, .int 0, .int (-1), .int 0, .int 0, .null, .ref qm, .ref qe, .ref qo, .ref qi, .ref qw, .ref qt, .ref qs, .ref qp])), (qm, .inl (cm, 26, .inr (.inr (.inr (.inr (fun _ => none))))))]) (va_A [(h0, .inr (0, [.ref qb, .int 0, .int (-1), .int 0, .int 0, .null, .ref qm, .ref qe, .ref qo, .ref qi, .ref qw, .ref qt, .ref qs, .ref qp])), (qm, .inl (cm, 26, .inr (.inr (.inr (.inr (fun _ => none))))))] sz)) 0 0 (va_A [(h0, .inr (0, [.ref qb, .int 0, .int (-1), .int 0, .int 0, .null, .ref qm, .ref qe, .ref qo, .ref qi, .ref qw, .ref qt, .ref qs, .ref qp])), (qm, .inl (cm, 26, .inr (.inr (.inr (.inr (fun _ => none))))))] sz) := by
  refine Met.ofW (cc := prog_1_method_15_code) (maxL := 4) (ret := (some .int)) (by decide) rfl ?_
  intro p e s m args below meth c s₁ B hml hv
  obtain ⟨rfl, hsz, hP, hK, hD0, hN⟩ := hv
  have hx := B.exec
  have hb := B.bytes
  have hr := B.returns
  have htw : ∀ w ∈ px_all, w.before _ s = true := fun w h => atoms_spec (ws := px_s31) B.pre w (List.mem_cons_of_mem _ h)
  have hown : s.vm.findClass "MatroidDesk" = some m.cls := findClass_of_methodNamed B.named
  have hlocks := B.notSynchronized
  subst hsz
  have hD := hD0.self (sz := s.heap.size)
  generalize hAe : va_A [(h0, .inr (0, [.ref qb, .int 0, .int (-1), .int 0, .int 0, .null, .ref qm, .ref qe, .ref qo, .ref qi, .ref qw, .ref qt, .ref qs, .ref qp])), (qm, .inl (cm, 26, .inr (.inr (.inr (.inr (fun _ => none))))))] s.heap.size = A at hD ⊢
  have hA : ∀ q : Nat, s.heap.size ≤ q → A q := fun q h => by rw [← hAe]; exact Or.inr h
  have hS : va_S A s.heap s.heap [] := va_S.rf
  have hP : va_P (dC, dI) vwCl [(h0, .inr (0, [.ref qb, .int 0, .int (-1), .int 0, .int 0, .null, .ref qm, .ref qe, .ref qo, .ref qi, .ref qw, .ref qt, .ref qs, .ref qp])), (qm, .inl (cm, 26, .inr (.inr (.inr (.inr (fun _ => none))))))] s.heap := hP
  have hl := lv_entry ([.ref h0, .int x, .int y]) (n := 4) (Nat.le_of_ble_eq_true rfl)
  rw [lg_entry_eq]
  generalize (lg_sl ([.ref h0, .int x, .int y]) ++ List.replicate (4 - (lg_sl ([.ref h0, .int x, .int y])).length) Slot.unset).toArray = ls at hl ⊢
  have hl : lv_has ls 4 [(0, .ref h0), (1, .int x), (2, .int y)] := hl
  refine lv_aload_n hx hb px_d31_0 rfl (lv_at hl 0 rfl) ?_
  refine lv_iload_n hx hb px_d31_1 rfl (lv_at hl 1 rfl) ?_
  have hPc := hP.sub (ws' := [(h0, .inr (0, [.ref qb, .int 0, .int (-1), .int 0, .int 0, .null, .ref qm, .ref qe, .ref qo, .ref qi, .ref qw, .ref qt, .ref qs, .ref qp])), (qm, .inl (cm, 26, .inr (.inr (.inr (.inr (fun _ => none))))))]) [0, 1] rfl
  have hDc := hD.sub (ws' := [(h0, .inr (0, [.ref qb, .int 0, .int (-1), .int 0, .int 0, .null, .ref qm, .ref qe, .ref qo, .ref qi, .ref qw, .ref qt, .ref qs, .ref qp])), (qm, .inl (cm, 26, .inr (.inr (.inr (.inr (fun _ => none))))))]) [0, 1] (by decide) rfl
  have hKc := hK.sub (tys' := [(cm, .object "MatroidDesk$Matroid")]) [0] rfl
  have hFc := va_free (wc := [(h0, .inr (0, [.ref qb, .int 0, .int (-1), .int 0, .int 0, .null, .ref qm, .ref qe, .ref qo, .ref qi, .ref qw, .ref qt, .ref qs, .ref qp])), (qm, .inl (cm, 26, .inr (.inr (.inr (.inr (fun _ => none))))))]) hD hS hA [0, 1] rfl
  refine va_callq (va_runV (As := [.int x]) (rest := []) ⟨hx, hb, hml, hown, htw⟩ (px_matroidAt l dC dI s.heap.size h0 qb qm qe qo qi qw qt qs qp cm x) (cwV 1 htw (px_gv px_w330 px_w344 px_w345 px_w6 px_g24) rfl rfl rfl (by decide +kernel) ⟨Nat.le_of_ble_eq_true rfl, Nat.le_of_ble_eq_true rfl⟩) ⟨fun a U g mk q => by obtain ⟨q0, q1, qP, qK, qD, qN⟩ := q; exact ⟨q0, q1, qP, va_K.moved (u := U) (U := U.calling g mk a) (Vm.Alike.refl U.vm) qK, qD, qN.same rfl⟩, va_recv hK hP (ci := 0) (q0 := 0) rfl rfl, fun U hU hW => ⟨rfl, by rw [hU], by rw [hU]; exact hPc, va_K.moved hW.alike hKc, hDc.weaken (fun _ _ _ _ => trivial), hN.warm hW⟩⟩ rfl rfl hl.1 rfl (lv_room (Nat.le_of_ble_eq_true rfl)) px_d31_2 ⟨(Nat.le_of_ble_eq_true rfl), (Nat.le_of_ble_eq_true rfl)⟩) hS (fun q _ h => hFc q h) hFc (fun r u t H1 locs ht hvm hw_2 hB hz1 hk1 hS => ?_)
  obtain ⟨hP1, hK1, hD1⟩ := hB
  rw [ht] at hP1
  have hK1 := va_K.moved hvm.symm hK1
  obtain ⟨hP, hD⟩ := va_join (wr := []) (w1 := [(h0, .inr (0, [.ref qb, .int 0, .int (-1), .int 0, .int 0, .null, .ref qm, .ref qe, .ref qo, .ref qi, .ref qw, .ref qt, .ref qs, .ref qp])), (qm, .inl (cm, 26, .inr (.inr (.inr (.inr (fun _ => none))))))]) hP hD [0, 1] [] rfl rfl (by decide) (by decide) hk1 hFc hP1 hD1
  generalize H1 = H at hP hS ⊢
  have hP : va_P (dC, dI) vwCl [(h0, .inr (0, [.ref qb, .int 0, .int (-1), .int 0, .int 0, .null, .ref qm, .ref qe, .ref qo, .ref qi, .ref qw, .ref qt, .ref qs, .ref qp])), (qm, .inl (cm, 26, .inr (.inr (.inr (.inr (fun _ => none))))))] H := hP
  have hD : va_D A [(h0, .inr (0, [.ref qb, .int 0, .int (-1), .int 0, .int 0, .null, .ref qm, .ref qe, .ref qo, .ref qi, .ref qw, .ref qt, .ref qs, .ref qp])), (qm, .inl (cm, 26, .inr (.inr (.inr (.inr (fun _ => none))))))] := hD
  subst hw_2
  refine W.eq (g2 := F0 m 5 ls (.null :: [])) rfl ?_
  refine lv_astore_nN (lv' := [(3, .null), (0, .ref h0), (1, .int x), (2, .int y)]) hx hb px_d31_5 rfl hl (by decide) rfl (fun ls hl => ?_)
  refine lv_aload_nN hx hb px_d31_6 rfl (lv_at hl 0 rfl) ?_
  refine lv_ifnullN (tgt := 22) hx hb px_d31_7 (by decide) ?_
  refine lv_iconst (v := 0) hx hb px_d31_22 (by decide) ?_
  refine lv_goto (tgt := 32) hx hb px_d31_23 (by decide) ?_
  have hP9 := hP.sub (ws' := [(h0, .inr (0, [.ref qb, .int 0, .int (-1), .int 0, .int 0, .null, .ref qm, .ref qe, .ref qo, .ref qi, .ref qw, .ref qt, .ref qs, .ref qp])), (qm, .inl (cm, 26, .inr (.inr (.inr (.inr (fun _ => none))))))]) [0, 1] rfl
  have hD9 := hD.sub (ws' := [(h0, .inr (0, [.ref qb, .int 0, .int (-1), .int 0, .int 0, .null, .ref qm, .ref qe, .ref qo, .ref qi, .ref qw, .ref qt, .ref qs, .ref qp])), (qm, .inl (cm, 26, .inr (.inr (.inr (.inr (fun _ => none))))))]) [0, 1] (by decide) rfl
  have hK9 := hK.sub (tys' := [(cm, .object "MatroidDesk$Matroid")]) [0] rfl
  refine W.widen (k := 0) (n := 0) (Nat.le_of_ble_eq_true rfl) (Nat.le_of_ble_eq_true rfl) ?_
  exact W.iret (v := 0) hx hb hr (fun t ht hW => ⟨⟨0, (), rfl, rfl, by rw [ht]; exact hP9, va_K.moved hW.alike hK9, hD9⟩, hS.F ht⟩) hS.2.2 px_d31_32
set_option maxHeartbeats 4000000 in
set_option maxRecDepth 100000 in
/-- best -/
theorem px_D_best (l : Launch) (dC : Nat → ClassId) (dI : Nat → Nat → Nat) (sz : Nat) (h0 : Nat) (qb : Nat) (qm : Nat) (qe : Nat) (qo : Nat) (qi : Nat) (qw : Nat) (qt : Nat) (qs : Nat) (qp : Nat) (cm : ClassId) (x : Int32) : Met l px_y32 px_s32 ({ frames := 1, cells := 0, slots := 0, locals := 21 }) (va_Pc [.ref h0, .int x] (fun U => U.heap.size = sz ∧ va_P (dC, dI) vwCl [(h0, .inr (0, [.ref qb, .int 0, .int (-1), .int 0, .int 0, .null, .ref qm, .ref qe, .ref qo, .ref qi, .ref qw, .ref qt, .ref qs, .ref qp])), (qm, .inl (cm, 26, .inr (.inr (.inr (.inr (fun _ => none))))))] U.heap ∧ va_K (dC, dI) vwCl [(cm, .object "MatroidDesk$Matroid")] U ∧ va_D (fun _ => True) [(h0, .inr (0, [.ref qb, .int 0, .int (-1), .int 0, .int 0, .null, .ref qm, .ref qe, .ref qo, .ref qi, .ref qw, .ref qt, .ref qs, .ref qp])), (qm, .inl (cm, 26, .inr (.inr (.inr (.inr (fun _ => none))))))] ∧ px_N U)) (va_Qi (fun (r : Int32) (_ : Unit) => r = (-1)) (fun (_ : Unit) (t : State) => va_P (dC, dI) vwCl [(h0, .inr (0, [.ref qb, .int 0, .int (-1), .int 0, .int 0, .null, .ref qm, .ref qe, .ref qo, .ref qi, .ref qw, .ref qt, .ref qs, .ref qp])), (qm, .inl (cm, 26, .inr (.inr (.inr (.inr (fun _ => none))))))] t.heap ∧ va_K (dC, dI) vwCl [(cm, .object "MatroidDesk$Matroid")] t ∧ va_D (va_A [(h0, .inr (0, [.ref qb, .int 0, .int (-1), .int 0, .int 0, .null, .ref qm, .ref qe, .ref qo, .ref qi, .ref qw, .ref qt, .ref qs, .ref qp])), (qm, .inl (cm, 26, .inr (.inr (.inr (.inr (fun _ => none))))))] sz) [(h0, .inr (0, [.ref qb, .int 0, .int (-1), .int 0, .int 0, .null, .ref qm, .ref qe, .ref qo, .ref qi, .ref qw, .ref qt, .ref qs, .ref qp])), (qm, .inl (cm, 26, .inr (.inr (.inr (.inr (fun _ => none))))))]) (va_A [(h0, .inr (0, [.ref qb, .int 0, .int (-1), .int 0, .int 0, .null, .ref qm, .ref qe, .ref qo, .ref qi, .ref qw, .ref qt, .ref qs, .ref qp])), (qm, .inl (cm, 26, .inr (.inr (.inr (.inr (fun _ => none))))))] sz)) 0 0 (va_A [(h0, .inr (0, [.ref qb, .int 0, .int (-1), .int 0, .int 0, .null, .ref qm, .ref qe, .ref qo, .ref qi, .ref qw, .ref qt, .ref qs, .ref qp])), (qm, .inl (cm, 26, .inr (.inr (.inr (.inr (fun _ => none))))))] sz) := by
  refine Met.ofW (cc := prog_1_method_16_code) (maxL := 3) (ret := (some .int)) (by decide) rfl ?_
  intro p e s m args below meth c s₁ B hml hv
  obtain ⟨rfl, hsz, hP, hK, hD0, hN⟩ := hv
  have hx := B.exec
  have hb := B.bytes
  have hr := B.returns
  have htw : ∀ w ∈ px_all, w.before _ s = true := fun w h => atoms_spec (ws := px_s32) B.pre w (List.mem_cons_of_mem _ h)
  have hown : s.vm.findClass "MatroidDesk" = some m.cls := findClass_of_methodNamed B.named
  have hlocks := B.notSynchronized
  subst hsz
  have hD := hD0.self (sz := s.heap.size)
  generalize hAe : va_A [(h0, .inr (0, [.ref qb, .int 0, .int (-1), .int 0, .int 0, .null, .ref qm, .ref qe, .ref qo, .ref qi, .ref qw, .ref qt, .ref qs, .ref qp])), (qm, .inl (cm, 26, .inr (.inr (.inr (.inr (fun _ => none))))))] s.heap.size = A at hD ⊢
  have hA : ∀ q : Nat, s.heap.size ≤ q → A q := fun q h => by rw [← hAe]; exact Or.inr h
  have hS : va_S A s.heap s.heap [] := va_S.rf
  have hP : va_P (dC, dI) vwCl [(h0, .inr (0, [.ref qb, .int 0, .int (-1), .int 0, .int 0, .null, .ref qm, .ref qe, .ref qo, .ref qi, .ref qw, .ref qt, .ref qs, .ref qp])), (qm, .inl (cm, 26, .inr (.inr (.inr (.inr (fun _ => none))))))] s.heap := hP
  have hl := lv_entry ([.ref h0, .int x]) (n := 3) (Nat.le_of_ble_eq_true rfl)
  rw [lg_entry_eq]
  generalize (lg_sl ([.ref h0, .int x]) ++ List.replicate (3 - (lg_sl ([.ref h0, .int x])).length) Slot.unset).toArray = ls at hl ⊢
  have hl : lv_has ls 3 [(0, .ref h0), (1, .int x)] := hl
  refine lv_aload_n hx hb px_d32_0 rfl (lv_at hl 0 rfl) ?_
  refine lv_iload_n hx hb px_d32_1 rfl (lv_at hl 1 rfl) ?_
  have hPc := hP.sub (ws' := [(h0, .inr (0, [.ref qb, .int 0, .int (-1), .int 0, .int 0, .null, .ref qm, .ref qe, .ref qo, .ref qi, .ref qw, .ref qt, .ref qs, .ref qp])), (qm, .inl (cm, 26, .inr (.inr (.inr (.inr (fun _ => none))))))]) [0, 1] rfl
  have hDc := hD.sub (ws' := [(h0, .inr (0, [.ref qb, .int 0, .int (-1), .int 0, .int 0, .null, .ref qm, .ref qe, .ref qo, .ref qi, .ref qw, .ref qt, .ref qs, .ref qp])), (qm, .inl (cm, 26, .inr (.inr (.inr (.inr (fun _ => none))))))]) [0, 1] (by decide) rfl
  have hKc := hK.sub (tys' := [(cm, .object "MatroidDesk$Matroid")]) [0] rfl
  have hFc := va_free (wc := [(h0, .inr (0, [.ref qb, .int 0, .int (-1), .int 0, .int 0, .null, .ref qm, .ref qe, .ref qo, .ref qi, .ref qw, .ref qt, .ref qs, .ref qp])), (qm, .inl (cm, 26, .inr (.inr (.inr (.inr (fun _ => none))))))]) hD hS hA [0, 1] rfl
  refine va_callq (va_runV (As := [.int x]) (rest := []) ⟨hx, hb, hml, hown, htw⟩ (px_matroidAt l dC dI s.heap.size h0 qb qm qe qo qi qw qt qs qp cm x) (cwV 1 htw (px_gv px_w330 px_w344 px_w345 px_w6 px_g24) rfl rfl rfl (by decide +kernel) ⟨Nat.le_of_ble_eq_true rfl, Nat.le_of_ble_eq_true rfl⟩) ⟨fun a U g mk q => by obtain ⟨q0, q1, qP, qK, qD, qN⟩ := q; exact ⟨q0, q1, qP, va_K.moved (u := U) (U := U.calling g mk a) (Vm.Alike.refl U.vm) qK, qD, qN.same rfl⟩, va_recv hK hP (ci := 0) (q0 := 0) rfl rfl, fun U hU hW => ⟨rfl, by rw [hU], by rw [hU]; exact hPc, va_K.moved hW.alike hKc, hDc.weaken (fun _ _ _ _ => trivial), hN.warm hW⟩⟩ rfl rfl hl.1 rfl (lv_room (Nat.le_of_ble_eq_true rfl)) px_d32_2 ⟨(Nat.le_of_ble_eq_true rfl), (Nat.le_of_ble_eq_true rfl)⟩) hS (fun q _ h => hFc q h) hFc (fun r u t H1 locs ht hvm hw_2 hB hz1 hk1 hS => ?_)
  obtain ⟨hP1, hK1, hD1⟩ := hB
  rw [ht] at hP1
  have hK1 := va_K.moved hvm.symm hK1
  obtain ⟨hP, hD⟩ := va_join (wr := []) (w1 := [(h0, .inr (0, [.ref qb, .int 0, .int (-1), .int 0, .int 0, .null, .ref qm, .ref qe, .ref qo, .ref qi, .ref qw, .ref qt, .ref qs, .ref qp])), (qm, .inl (cm, 26, .inr (.inr (.inr (.inr (fun _ => none))))))]) hP hD [0, 1] [] rfl rfl (by decide) (by decide) hk1 hFc hP1 hD1
  generalize H1 = H at hP hS ⊢
  have hP : va_P (dC, dI) vwCl [(h0, .inr (0, [.ref qb, .int 0, .int (-1), .int 0, .int 0, .null, .ref qm, .ref qe, .ref qo, .ref qi, .ref qw, .ref qt, .ref qs, .ref qp])), (qm, .inl (cm, 26, .inr (.inr (.inr (.inr (fun _ => none))))))] H := hP
  have hD : va_D A [(h0, .inr (0, [.ref qb, .int 0, .int (-1), .int 0, .int 0, .null, .ref qm, .ref qe, .ref qo, .ref qi, .ref qw, .ref qt, .ref qs, .ref qp])), (qm, .inl (cm, 26, .inr (.inr (.inr (.inr (fun _ => none))))))] := hD
  subst hw_2
  refine W.eq (g2 := F0 m 5 ls (.null :: [])) rfl ?_
  refine lv_astore_nN (lv' := [(2, .null), (0, .ref h0), (1, .int x)]) hx hb px_d32_5 rfl hl (by decide) rfl (fun ls hl => ?_)
  refine lv_aload_nN hx hb px_d32_6 rfl (lv_at hl 0 rfl) ?_
  refine lv_ifnonnullN hx hb px_d32_7 ?_
  refine lv_iconst (v := (-1)) hx hb px_d32_10 (by decide) ?_
  refine lv_goto (tgt := 18) hx hb px_d32_11 (by decide) ?_
  have hP9 := hP.sub (ws' := [(h0, .inr (0, [.ref qb, .int 0, .int (-1), .int 0, .int 0, .null, .ref qm, .ref qe, .ref qo, .ref qi, .ref qw, .ref qt, .ref qs, .ref qp])), (qm, .inl (cm, 26, .inr (.inr (.inr (.inr (fun _ => none))))))]) [0, 1] rfl
  have hD9 := hD.sub (ws' := [(h0, .inr (0, [.ref qb, .int 0, .int (-1), .int 0, .int 0, .null, .ref qm, .ref qe, .ref qo, .ref qi, .ref qw, .ref qt, .ref qs, .ref qp])), (qm, .inl (cm, 26, .inr (.inr (.inr (.inr (fun _ => none))))))]) [0, 1] (by decide) rfl
  have hK9 := hK.sub (tys' := [(cm, .object "MatroidDesk$Matroid")]) [0] rfl
  refine W.widen (k := 0) (n := 0) (Nat.le_of_ble_eq_true rfl) (Nat.le_of_ble_eq_true rfl) ?_
  exact W.iret (v := (-1)) hx hb hr (fun t ht hW => ⟨⟨(-1), (), rfl, rfl, by rw [ht]; exact hP9, va_K.moved hW.alike hK9, hD9⟩, hS.F ht⟩) hS.2.2 px_d32_18
set_option maxHeartbeats 4000000 in
set_option maxRecDepth 100000 in
/-- common -/
theorem px_D_common (l : Launch) (dC : Nat → ClassId) (dI : Nat → Nat → Nat) (sz : Nat) (h0 : Nat) (qb : Nat) (qm : Nat) (qe : Nat) (qo : Nat) (qi : Nat) (qw : Nat) (qt : Nat) (qs : Nat) (qp : Nat) (cm : ClassId) (x : Int32) (y : Int32) : Met l px_y33 px_s33 ({ frames := 1, cells := 0, slots := 0, locals := 21 }) (va_Pc [.ref h0, .int x, .int y] (fun U => U.heap.size = sz ∧ va_P (dC, dI) vwCl [(h0, .inr (0, [.ref qb, .int 0, .int (-1), .int 0, .int 0, .null, .ref qm, .ref qe, .ref qo, .ref qi, .ref qw, .ref qt, .ref qs, .ref qp])), (qm, .inl (cm, 26, .inr (.inr (.inr (.inr (fun _ => none))))))] U.heap ∧ va_K (dC, dI) vwCl [(cm, .object "MatroidDesk$Matroid")] U ∧ va_D (fun _ => True) [(h0, .inr (0, [.ref qb, .int 0, .int (-1), .int 0, .int 0, .null, .ref qm, .ref qe, .ref qo, .ref qi, .ref qw, .ref qt, .ref qs, .ref qp])), (qm, .inl (cm, 26, .inr (.inr (.inr (.inr (fun _ => none))))))] ∧ px_N U)) (va_Qi (fun (r : Int32) (_ : Unit) => r = (-1)) (fun (_ : Unit) (t : State) => va_P (dC, dI) vwCl [(h0, .inr (0, [.ref qb, .int 0, .int (-1), .int 0, .int 0, .null, .ref qm, .ref qe, .ref qo, .ref qi, .ref qw, .ref qt, .ref qs, .ref qp])), (qm, .inl (cm, 26, .inr (.inr (.inr (.inr (fun _ => none))))))] t.heap ∧ va_K (dC, dI) vwCl [(cm, .object "MatroidDesk$Matroid")] t ∧ va_D (va_A [(h0, .inr (0, [.ref qb, .int 0, .int (-1), .int 0, .int 0, .null, .ref qm, .ref qe, .ref qo, .ref qi, .ref qw, .ref qt, .ref qs, .ref qp])), (qm, .inl (cm, 26, .inr (.inr (.inr (.inr (fun _ => none))))))] sz) [(h0, .inr (0, [.ref qb, .int 0, .int (-1), .int 0, .int 0, .null, .ref qm, .ref qe, .ref qo, .ref qi, .ref qw, .ref qt, .ref qs, .ref qp])), (qm, .inl (cm, 26, .inr (.inr (.inr (.inr (fun _ => none))))))]) (va_A [(h0, .inr (0, [.ref qb, .int 0, .int (-1), .int 0, .int 0, .null, .ref qm, .ref qe, .ref qo, .ref qi, .ref qw, .ref qt, .ref qs, .ref qp])), (qm, .inl (cm, 26, .inr (.inr (.inr (.inr (fun _ => none))))))] sz)) 0 0 (va_A [(h0, .inr (0, [.ref qb, .int 0, .int (-1), .int 0, .int 0, .null, .ref qm, .ref qe, .ref qo, .ref qi, .ref qw, .ref qt, .ref qs, .ref qp])), (qm, .inl (cm, 26, .inr (.inr (.inr (.inr (fun _ => none))))))] sz) := by
  refine Met.ofW (cc := prog_1_method_17_code) (maxL := 6) (ret := (some .int)) (by decide) rfl ?_
  intro p e s m args below meth c s₁ B hml hv
  obtain ⟨rfl, hsz, hP, hK, hD0, hN⟩ := hv
  have hx := B.exec
  have hb := B.bytes
  have hr := B.returns
  have htw : ∀ w ∈ px_all, w.before _ s = true := fun w h => atoms_spec (ws := px_s33) B.pre w (List.mem_cons_of_mem _ h)
  have hown : s.vm.findClass "MatroidDesk" = some m.cls := findClass_of_methodNamed B.named
  have hlocks := B.notSynchronized
  subst hsz
  have hD := hD0.self (sz := s.heap.size)
  generalize hAe : va_A [(h0, .inr (0, [.ref qb, .int 0, .int (-1), .int 0, .int 0, .null, .ref qm, .ref qe, .ref qo, .ref qi, .ref qw, .ref qt, .ref qs, .ref qp])), (qm, .inl (cm, 26, .inr (.inr (.inr (.inr (fun _ => none))))))] s.heap.size = A at hD ⊢
  have hA : ∀ q : Nat, s.heap.size ≤ q → A q := fun q h => by rw [← hAe]; exact Or.inr h
  have hS : va_S A s.heap s.heap [] := va_S.rf
  have hP : va_P (dC, dI) vwCl [(h0, .inr (0, [.ref qb, .int 0, .int (-1), .int 0, .int 0, .null, .ref qm, .ref qe, .ref qo, .ref qi, .ref qw, .ref qt, .ref qs, .ref qp])), (qm, .inl (cm, 26, .inr (.inr (.inr (.inr (fun _ => none))))))] s.heap := hP
  have hl := lv_entry ([.ref h0, .int x, .int y]) (n := 6) (Nat.le_of_ble_eq_true rfl)
  rw [lg_entry_eq]
  generalize (lg_sl ([.ref h0, .int x, .int y]) ++ List.replicate (6 - (lg_sl ([.ref h0, .int x, .int y])).length) Slot.unset).toArray = ls at hl ⊢
  have hl : lv_has ls 6 [(0, .ref h0), (1, .int x), (2, .int y)] := hl
  refine lv_aload_n hx hb px_d33_0 rfl (lv_at hl 0 rfl) ?_
  refine lv_iload_n hx hb px_d33_1 rfl (lv_at hl 1 rfl) ?_
  have hPc := hP.sub (ws' := [(h0, .inr (0, [.ref qb, .int 0, .int (-1), .int 0, .int 0, .null, .ref qm, .ref qe, .ref qo, .ref qi, .ref qw, .ref qt, .ref qs, .ref qp])), (qm, .inl (cm, 26, .inr (.inr (.inr (.inr (fun _ => none))))))]) [0, 1] rfl
  have hDc := hD.sub (ws' := [(h0, .inr (0, [.ref qb, .int 0, .int (-1), .int 0, .int 0, .null, .ref qm, .ref qe, .ref qo, .ref qi, .ref qw, .ref qt, .ref qs, .ref qp])), (qm, .inl (cm, 26, .inr (.inr (.inr (.inr (fun _ => none))))))]) [0, 1] (by decide) rfl
  have hKc := hK.sub (tys' := [(cm, .object "MatroidDesk$Matroid")]) [0] rfl
  have hFc := va_free (wc := [(h0, .inr (0, [.ref qb, .int 0, .int (-1), .int 0, .int 0, .null, .ref qm, .ref qe, .ref qo, .ref qi, .ref qw, .ref qt, .ref qs, .ref qp])), (qm, .inl (cm, 26, .inr (.inr (.inr (.inr (fun _ => none))))))]) hD hS hA [0, 1] rfl
  refine va_callq (va_runV (As := [.int x]) (rest := []) ⟨hx, hb, hml, hown, htw⟩ (px_matroidAt l dC dI s.heap.size h0 qb qm qe qo qi qw qt qs qp cm x) (cwV 1 htw (px_gv px_w330 px_w344 px_w345 px_w6 px_g24) rfl rfl rfl (by decide +kernel) ⟨Nat.le_of_ble_eq_true rfl, Nat.le_of_ble_eq_true rfl⟩) ⟨fun a U g mk q => by obtain ⟨q0, q1, qP, qK, qD, qN⟩ := q; exact ⟨q0, q1, qP, va_K.moved (u := U) (U := U.calling g mk a) (Vm.Alike.refl U.vm) qK, qD, qN.same rfl⟩, va_recv hK hP (ci := 0) (q0 := 0) rfl rfl, fun U hU hW => ⟨rfl, by rw [hU], by rw [hU]; exact hPc, va_K.moved hW.alike hKc, hDc.weaken (fun _ _ _ _ => trivial), hN.warm hW⟩⟩ rfl rfl hl.1 rfl (lv_room (Nat.le_of_ble_eq_true rfl)) px_d33_2 ⟨(Nat.le_of_ble_eq_true rfl), (Nat.le_of_ble_eq_true rfl)⟩) hS (fun q _ h => hFc q h) hFc (fun r u t H1 locs ht hvm hw_2 hB hz1 hk1 hS => ?_)
  obtain ⟨hP1, hK1, hD1⟩ := hB
  rw [ht] at hP1
  have hK1 := va_K.moved hvm.symm hK1
  obtain ⟨hP, hD⟩ := va_join (wr := []) (w1 := [(h0, .inr (0, [.ref qb, .int 0, .int (-1), .int 0, .int 0, .null, .ref qm, .ref qe, .ref qo, .ref qi, .ref qw, .ref qt, .ref qs, .ref qp])), (qm, .inl (cm, 26, .inr (.inr (.inr (.inr (fun _ => none))))))]) hP hD [0, 1] [] rfl rfl (by decide) (by decide) hk1 hFc hP1 hD1
  generalize H1 = H at hP hS ⊢
  have hP : va_P (dC, dI) vwCl [(h0, .inr (0, [.ref qb, .int 0, .int (-1), .int 0, .int 0, .null, .ref qm, .ref qe, .ref qo, .ref qi, .ref qw, .ref qt, .ref qs, .ref qp])), (qm, .inl (cm, 26, .inr (.inr (.inr (.inr (fun _ => none))))))] H := hP
  have hD : va_D A [(h0, .inr (0, [.ref qb, .int 0, .int (-1), .int 0, .int 0, .null, .ref qm, .ref qe, .ref qo, .ref qi, .ref qw, .ref qt, .ref qs, .ref qp])), (qm, .inl (cm, 26, .inr (.inr (.inr (.inr (fun _ => none))))))] := hD
  subst hw_2
  refine W.eq (g2 := F0 m 5 ls (.null :: [])) rfl ?_
  refine lv_astore_nN (lv' := [(3, .null), (0, .ref h0), (1, .int x), (2, .int y)]) hx hb px_d33_5 rfl hl (by decide) rfl (fun ls hl => ?_)
  refine lv_aload_n hx hb px_d33_6 rfl (lv_at hl 1 rfl) ?_
  refine lv_iload_n hx hb px_d33_7 rfl (lv_at hl 3 rfl) ?_
  have hPc := hP.sub (ws' := [(h0, .inr (0, [.ref qb, .int 0, .int (-1), .int 0, .int 0, .null, .ref qm, .ref qe, .ref qo, .ref qi, .ref qw, .ref qt, .ref qs, .ref qp])), (qm, .inl (cm, 26, .inr (.inr (.inr (.inr (fun _ => none))))))]) [0, 1] rfl
  have hDc := hD.sub (ws' := [(h0, .inr (0, [.ref qb, .int 0, .int (-1), .int 0, .int 0, .null, .ref qm, .ref qe, .ref qo, .ref qi, .ref qw, .ref qt, .ref qs, .ref qp])), (qm, .inl (cm, 26, .inr (.inr (.inr (.inr (fun _ => none))))))]) [0, 1] (by decide) rfl
  have hKc := hK.sub (tys' := [(cm, .object "MatroidDesk$Matroid")]) [0] rfl
  have hFc := va_free (wc := [(h0, .inr (0, [.ref qb, .int 0, .int (-1), .int 0, .int 0, .null, .ref qm, .ref qe, .ref qo, .ref qi, .ref qw, .ref qt, .ref qs, .ref qp])), (qm, .inl (cm, 26, .inr (.inr (.inr (.inr (fun _ => none))))))]) hD hS hA [0, 1] rfl
  refine va_callq (va_runV (As := [.int y]) (rest := []) ⟨hx, hb, hml, hown, htw⟩ (px_matroidAt l dC dI H.size h0 qb qm qe qo qi qw qt qs qp cm y) (cwV 1 htw (px_gv px_w330 px_w344 px_w345 px_w6 px_g24) rfl rfl rfl (by decide +kernel) ⟨Nat.le_of_ble_eq_true rfl, Nat.le_of_ble_eq_true rfl⟩) ⟨fun a U g mk q => by obtain ⟨q0, q1, qP, qK, qD, qN⟩ := q; exact ⟨q0, q1, qP, va_K.moved (u := U) (U := U.calling g mk a) (Vm.Alike.refl U.vm) qK, qD, qN.same rfl⟩, va_recv hK hP (ci := 0) (q0 := 0) rfl rfl, fun U hU hW => ⟨rfl, by rw [hU], by rw [hU]; exact hPc, va_K.moved hW.alike hKc, hDc.weaken (fun _ _ _ _ => trivial), hN.warm hW⟩⟩ rfl rfl hl.1 rfl (lv_room (Nat.le_of_ble_eq_true rfl)) px_d33_8 ⟨(Nat.le_of_ble_eq_true rfl), (Nat.le_of_ble_eq_true rfl)⟩) hS (fun q _ h => hFc q h) hFc (fun r u t H1 locs ht hvm hw_8 hB hz1 hk1 hS => ?_)
  obtain ⟨hP1, hK1, hD1⟩ := hB
  rw [ht] at hP1
  have hK1 := va_K.moved hvm.symm hK1
  obtain ⟨hP, hD⟩ := va_join (wr := []) (w1 := [(h0, .inr (0, [.ref qb, .int 0, .int (-1), .int 0, .int 0, .null, .ref qm, .ref qe, .ref qo, .ref qi, .ref qw, .ref qt, .ref qs, .ref qp])), (qm, .inl (cm, 26, .inr (.inr (.inr (.inr (fun _ => none))))))]) hP hD [0, 1] [] rfl rfl (by decide) (by decide) hk1 hFc hP1 hD1
  generalize H1 = H at hP hS ⊢
  have hP : va_P (dC, dI) vwCl [(h0, .inr (0, [.ref qb, .int 0, .int (-1), .int 0, .int 0, .null, .ref qm, .ref qe, .ref qo, .ref qi, .ref qw, .ref qt, .ref qs, .ref qp])), (qm, .inl (cm, 26, .inr (.inr (.inr (.inr (fun _ => none))))))] H := hP
  have hD : va_D A [(h0, .inr (0, [.ref qb, .int 0, .int (-1), .int 0, .int 0, .null, .ref qm, .ref qe, .ref qo, .ref qi, .ref qw, .ref qt, .ref qs, .ref qp])), (qm, .inl (cm, 26, .inr (.inr (.inr (.inr (fun _ => none))))))] := hD
  subst hw_8
  refine W.eq (g2 := F0 m 11 ls (.null :: [])) rfl ?_
  refine lv_astoreN (lv' := [(4, .null), (3, .null), (0, .ref h0), (1, .int x), (2, .int y)]) hx hb px_d33_11 hl (by decide) rfl (fun ls hl => ?_)
  refine lv_aload_nN hx hb px_d33_13 rfl (lv_at hl 1 rfl) ?_
  refine lv_ifnullN (tgt := 38) hx hb px_d33_14 (by decide) ?_
  refine lv_iconst (v := 0) hx hb px_d33_38 (by decide) ?_
  refine lv_istore (lv' := [(5, .int 0), (4, .null), (3, .null), (0, .ref h0), (1, .int x), (2, .int y)]) hx hb px_d33_39 hl (by decide) rfl (fun ls hl => ?_)
  refine lv_iload hx hb px_d33_41 (lv_at hl 0 rfl) ?_
  refine lv_if_eq (tgt := 55) hx hb px_d33_43 (by decide) (fun _ => ?_) (fun h9 => absurd (by decide +kernel) h9)
  refine lv_iconst (v := (-1)) hx hb px_d33_55 (by decide) ?_
  have hP9 := hP.sub (ws' := [(h0, .inr (0, [.ref qb, .int 0, .int (-1), .int 0, .int 0, .null, .ref qm, .ref qe, .ref qo, .ref qi, .ref qw, .ref qt, .ref qs, .ref qp])), (qm, .inl (cm, 26, .inr (.inr (.inr (.inr (fun _ => none))))))]) [0, 1] rfl
  have hD9 := hD.sub (ws' := [(h0, .inr (0, [.ref qb, .int 0, .int (-1), .int 0, .int 0, .null, .ref qm, .ref qe, .ref qo, .ref qi, .ref qw, .ref qt, .ref qs, .ref qp])), (qm, .inl (cm, 26, .inr (.inr (.inr (.inr (fun _ => none))))))]) [0, 1] (by decide) rfl
  have hK9 := hK.sub (tys' := [(cm, .object "MatroidDesk$Matroid")]) [0] rfl
  refine W.widen (k := 0) (n := 0) (Nat.le_of_ble_eq_true rfl) (Nat.le_of_ble_eq_true rfl) ?_
  exact W.iret (v := (-1)) hx hb hr (fun t ht hW => ⟨⟨(-1), (), rfl, rfl, by rw [ht]; exact hP9, va_K.moved hW.alike hK9, hD9⟩, hS.F ht⟩) hS.2.2 px_d33_56
set_option maxHeartbeats 4000000 in
set_option maxRecDepth 100000 in
/-- cover -/
theorem px_D_cover (l : Launch) (dC : Nat → ClassId) (dI : Nat → Nat → Nat) (sz : Nat) (h0 : Nat) (qb : Nat) (qm : Nat) (qe : Nat) (qo : Nat) (qi : Nat) (qw : Nat) (qt : Nat) (qs : Nat) (qp : Nat) (cm : ClassId) (x : Int32) (y : Int32) : Met l px_y34 px_s34 ({ frames := 1, cells := 0, slots := 0, locals := 21 }) (va_Pc [.ref h0, .int x, .int y] (fun U => U.heap.size = sz ∧ va_P (dC, dI) vwCl [(h0, .inr (0, [.ref qb, .int 0, .int (-1), .int 0, .int 0, .null, .ref qm, .ref qe, .ref qo, .ref qi, .ref qw, .ref qt, .ref qs, .ref qp])), (qm, .inl (cm, 26, .inr (.inr (.inr (.inr (fun _ => none))))))] U.heap ∧ va_K (dC, dI) vwCl [(cm, .object "MatroidDesk$Matroid")] U ∧ va_D (fun _ => True) [(h0, .inr (0, [.ref qb, .int 0, .int (-1), .int 0, .int 0, .null, .ref qm, .ref qe, .ref qo, .ref qi, .ref qw, .ref qt, .ref qs, .ref qp])), (qm, .inl (cm, 26, .inr (.inr (.inr (.inr (fun _ => none))))))] ∧ px_N U)) (va_Qi (fun (r : Int32) (_ : Unit) => r = (-1)) (fun (_ : Unit) (t : State) => va_P (dC, dI) vwCl [(h0, .inr (0, [.ref qb, .int 0, .int (-1), .int 0, .int 0, .null, .ref qm, .ref qe, .ref qo, .ref qi, .ref qw, .ref qt, .ref qs, .ref qp])), (qm, .inl (cm, 26, .inr (.inr (.inr (.inr (fun _ => none))))))] t.heap ∧ va_K (dC, dI) vwCl [(cm, .object "MatroidDesk$Matroid")] t ∧ va_D (va_A [(h0, .inr (0, [.ref qb, .int 0, .int (-1), .int 0, .int 0, .null, .ref qm, .ref qe, .ref qo, .ref qi, .ref qw, .ref qt, .ref qs, .ref qp])), (qm, .inl (cm, 26, .inr (.inr (.inr (.inr (fun _ => none))))))] sz) [(h0, .inr (0, [.ref qb, .int 0, .int (-1), .int 0, .int 0, .null, .ref qm, .ref qe, .ref qo, .ref qi, .ref qw, .ref qt, .ref qs, .ref qp])), (qm, .inl (cm, 26, .inr (.inr (.inr (.inr (fun _ => none))))))]) (va_A [(h0, .inr (0, [.ref qb, .int 0, .int (-1), .int 0, .int 0, .null, .ref qm, .ref qe, .ref qo, .ref qi, .ref qw, .ref qt, .ref qs, .ref qp])), (qm, .inl (cm, 26, .inr (.inr (.inr (.inr (fun _ => none))))))] sz)) 0 0 (va_A [(h0, .inr (0, [.ref qb, .int 0, .int (-1), .int 0, .int 0, .null, .ref qm, .ref qe, .ref qo, .ref qi, .ref qw, .ref qt, .ref qs, .ref qp])), (qm, .inl (cm, 26, .inr (.inr (.inr (.inr (fun _ => none))))))] sz) := by
  refine Met.ofW (cc := prog_1_method_18_code) (maxL := 6) (ret := (some .int)) (by decide) rfl ?_
  intro p e s m args below meth c s₁ B hml hv
  obtain ⟨rfl, hsz, hP, hK, hD0, hN⟩ := hv
  have hx := B.exec
  have hb := B.bytes
  have hr := B.returns
  have htw : ∀ w ∈ px_all, w.before _ s = true := fun w h => atoms_spec (ws := px_s34) B.pre w (List.mem_cons_of_mem _ h)
  have hown : s.vm.findClass "MatroidDesk" = some m.cls := findClass_of_methodNamed B.named
  have hlocks := B.notSynchronized
  subst hsz
  have hD := hD0.self (sz := s.heap.size)
  generalize hAe : va_A [(h0, .inr (0, [.ref qb, .int 0, .int (-1), .int 0, .int 0, .null, .ref qm, .ref qe, .ref qo, .ref qi, .ref qw, .ref qt, .ref qs, .ref qp])), (qm, .inl (cm, 26, .inr (.inr (.inr (.inr (fun _ => none))))))] s.heap.size = A at hD ⊢
  have hA : ∀ q : Nat, s.heap.size ≤ q → A q := fun q h => by rw [← hAe]; exact Or.inr h
  have hS : va_S A s.heap s.heap [] := va_S.rf
  have hP : va_P (dC, dI) vwCl [(h0, .inr (0, [.ref qb, .int 0, .int (-1), .int 0, .int 0, .null, .ref qm, .ref qe, .ref qo, .ref qi, .ref qw, .ref qt, .ref qs, .ref qp])), (qm, .inl (cm, 26, .inr (.inr (.inr (.inr (fun _ => none))))))] s.heap := hP
  have hl := lv_entry ([.ref h0, .int x, .int y]) (n := 6) (Nat.le_of_ble_eq_true rfl)
  rw [lg_entry_eq]
  generalize (lg_sl ([.ref h0, .int x, .int y]) ++ List.replicate (6 - (lg_sl ([.ref h0, .int x, .int y])).length) Slot.unset).toArray = ls at hl ⊢
  have hl : lv_has ls 6 [(0, .ref h0), (1, .int x), (2, .int y)] := hl
  refine lv_aload_n hx hb px_d34_0 rfl (lv_at hl 0 rfl) ?_
  refine lv_iload_n hx hb px_d34_1 rfl (lv_at hl 1 rfl) ?_
  have hPc := hP.sub (ws' := [(h0, .inr (0, [.ref qb, .int 0, .int (-1), .int 0, .int 0, .null, .ref qm, .ref qe, .ref qo, .ref qi, .ref qw, .ref qt, .ref qs, .ref qp])), (qm, .inl (cm, 26, .inr (.inr (.inr (.inr (fun _ => none))))))]) [0, 1] rfl
  have hDc := hD.sub (ws' := [(h0, .inr (0, [.ref qb, .int 0, .int (-1), .int 0, .int 0, .null, .ref qm, .ref qe, .ref qo, .ref qi, .ref qw, .ref qt, .ref qs, .ref qp])), (qm, .inl (cm, 26, .inr (.inr (.inr (.inr (fun _ => none))))))]) [0, 1] (by decide) rfl
  have hKc := hK.sub (tys' := [(cm, .object "MatroidDesk$Matroid")]) [0] rfl
  have hFc := va_free (wc := [(h0, .inr (0, [.ref qb, .int 0, .int (-1), .int 0, .int 0, .null, .ref qm, .ref qe, .ref qo, .ref qi, .ref qw, .ref qt, .ref qs, .ref qp])), (qm, .inl (cm, 26, .inr (.inr (.inr (.inr (fun _ => none))))))]) hD hS hA [0, 1] rfl
  refine va_callq (va_runV (As := [.int x]) (rest := []) ⟨hx, hb, hml, hown, htw⟩ (px_matroidAt l dC dI s.heap.size h0 qb qm qe qo qi qw qt qs qp cm x) (cwV 1 htw (px_gv px_w330 px_w344 px_w345 px_w6 px_g24) rfl rfl rfl (by decide +kernel) ⟨Nat.le_of_ble_eq_true rfl, Nat.le_of_ble_eq_true rfl⟩) ⟨fun a U g mk q => by obtain ⟨q0, q1, qP, qK, qD, qN⟩ := q; exact ⟨q0, q1, qP, va_K.moved (u := U) (U := U.calling g mk a) (Vm.Alike.refl U.vm) qK, qD, qN.same rfl⟩, va_recv hK hP (ci := 0) (q0 := 0) rfl rfl, fun U hU hW => ⟨rfl, by rw [hU], by rw [hU]; exact hPc, va_K.moved hW.alike hKc, hDc.weaken (fun _ _ _ _ => trivial), hN.warm hW⟩⟩ rfl rfl hl.1 rfl (lv_room (Nat.le_of_ble_eq_true rfl)) px_d34_2 ⟨(Nat.le_of_ble_eq_true rfl), (Nat.le_of_ble_eq_true rfl)⟩) hS (fun q _ h => hFc q h) hFc (fun r u t H1 locs ht hvm hw_2 hB hz1 hk1 hS => ?_)
  obtain ⟨hP1, hK1, hD1⟩ := hB
  rw [ht] at hP1
  have hK1 := va_K.moved hvm.symm hK1
  obtain ⟨hP, hD⟩ := va_join (wr := []) (w1 := [(h0, .inr (0, [.ref qb, .int 0, .int (-1), .int 0, .int 0, .null, .ref qm, .ref qe, .ref qo, .ref qi, .ref qw, .ref qt, .ref qs, .ref qp])), (qm, .inl (cm, 26, .inr (.inr (.inr (.inr (fun _ => none))))))]) hP hD [0, 1] [] rfl rfl (by decide) (by decide) hk1 hFc hP1 hD1
  generalize H1 = H at hP hS ⊢
  have hP : va_P (dC, dI) vwCl [(h0, .inr (0, [.ref qb, .int 0, .int (-1), .int 0, .int 0, .null, .ref qm, .ref qe, .ref qo, .ref qi, .ref qw, .ref qt, .ref qs, .ref qp])), (qm, .inl (cm, 26, .inr (.inr (.inr (.inr (fun _ => none))))))] H := hP
  have hD : va_D A [(h0, .inr (0, [.ref qb, .int 0, .int (-1), .int 0, .int 0, .null, .ref qm, .ref qe, .ref qo, .ref qi, .ref qw, .ref qt, .ref qs, .ref qp])), (qm, .inl (cm, 26, .inr (.inr (.inr (.inr (fun _ => none))))))] := hD
  subst hw_2
  refine W.eq (g2 := F0 m 5 ls (.null :: [])) rfl ?_
  refine lv_astore_nN (lv' := [(3, .null), (0, .ref h0), (1, .int x), (2, .int y)]) hx hb px_d34_5 rfl hl (by decide) rfl (fun ls hl => ?_)
  refine lv_aload_n hx hb px_d34_6 rfl (lv_at hl 1 rfl) ?_
  refine lv_iload_n hx hb px_d34_7 rfl (lv_at hl 3 rfl) ?_
  have hPc := hP.sub (ws' := [(h0, .inr (0, [.ref qb, .int 0, .int (-1), .int 0, .int 0, .null, .ref qm, .ref qe, .ref qo, .ref qi, .ref qw, .ref qt, .ref qs, .ref qp])), (qm, .inl (cm, 26, .inr (.inr (.inr (.inr (fun _ => none))))))]) [0, 1] rfl
  have hDc := hD.sub (ws' := [(h0, .inr (0, [.ref qb, .int 0, .int (-1), .int 0, .int 0, .null, .ref qm, .ref qe, .ref qo, .ref qi, .ref qw, .ref qt, .ref qs, .ref qp])), (qm, .inl (cm, 26, .inr (.inr (.inr (.inr (fun _ => none))))))]) [0, 1] (by decide) rfl
  have hKc := hK.sub (tys' := [(cm, .object "MatroidDesk$Matroid")]) [0] rfl
  have hFc := va_free (wc := [(h0, .inr (0, [.ref qb, .int 0, .int (-1), .int 0, .int 0, .null, .ref qm, .ref qe, .ref qo, .ref qi, .ref qw, .ref qt, .ref qs, .ref qp])), (qm, .inl (cm, 26, .inr (.inr (.inr (.inr (fun _ => none))))))]) hD hS hA [0, 1] rfl
  refine va_callq (va_runV (As := [.int y]) (rest := []) ⟨hx, hb, hml, hown, htw⟩ (px_matroidAt l dC dI H.size h0 qb qm qe qo qi qw qt qs qp cm y) (cwV 1 htw (px_gv px_w330 px_w344 px_w345 px_w6 px_g24) rfl rfl rfl (by decide +kernel) ⟨Nat.le_of_ble_eq_true rfl, Nat.le_of_ble_eq_true rfl⟩) ⟨fun a U g mk q => by obtain ⟨q0, q1, qP, qK, qD, qN⟩ := q; exact ⟨q0, q1, qP, va_K.moved (u := U) (U := U.calling g mk a) (Vm.Alike.refl U.vm) qK, qD, qN.same rfl⟩, va_recv hK hP (ci := 0) (q0 := 0) rfl rfl, fun U hU hW => ⟨rfl, by rw [hU], by rw [hU]; exact hPc, va_K.moved hW.alike hKc, hDc.weaken (fun _ _ _ _ => trivial), hN.warm hW⟩⟩ rfl rfl hl.1 rfl (lv_room (Nat.le_of_ble_eq_true rfl)) px_d34_8 ⟨(Nat.le_of_ble_eq_true rfl), (Nat.le_of_ble_eq_true rfl)⟩) hS (fun q _ h => hFc q h) hFc (fun r u t H1 locs ht hvm hw_8 hB hz1 hk1 hS => ?_)
  obtain ⟨hP1, hK1, hD1⟩ := hB
  rw [ht] at hP1
  have hK1 := va_K.moved hvm.symm hK1
  obtain ⟨hP, hD⟩ := va_join (wr := []) (w1 := [(h0, .inr (0, [.ref qb, .int 0, .int (-1), .int 0, .int 0, .null, .ref qm, .ref qe, .ref qo, .ref qi, .ref qw, .ref qt, .ref qs, .ref qp])), (qm, .inl (cm, 26, .inr (.inr (.inr (.inr (fun _ => none))))))]) hP hD [0, 1] [] rfl rfl (by decide) (by decide) hk1 hFc hP1 hD1
  generalize H1 = H at hP hS ⊢
  have hP : va_P (dC, dI) vwCl [(h0, .inr (0, [.ref qb, .int 0, .int (-1), .int 0, .int 0, .null, .ref qm, .ref qe, .ref qo, .ref qi, .ref qw, .ref qt, .ref qs, .ref qp])), (qm, .inl (cm, 26, .inr (.inr (.inr (.inr (fun _ => none))))))] H := hP
  have hD : va_D A [(h0, .inr (0, [.ref qb, .int 0, .int (-1), .int 0, .int 0, .null, .ref qm, .ref qe, .ref qo, .ref qi, .ref qw, .ref qt, .ref qs, .ref qp])), (qm, .inl (cm, 26, .inr (.inr (.inr (.inr (fun _ => none))))))] := hD
  subst hw_8
  refine W.eq (g2 := F0 m 11 ls (.null :: [])) rfl ?_
  refine lv_astoreN (lv' := [(4, .null), (3, .null), (0, .ref h0), (1, .int x), (2, .int y)]) hx hb px_d34_11 hl (by decide) rfl (fun ls hl => ?_)
  refine lv_aload_nN hx hb px_d34_13 rfl (lv_at hl 1 rfl) ?_
  refine lv_ifnullN (tgt := 38) hx hb px_d34_14 (by decide) ?_
  refine lv_iconst (v := 0) hx hb px_d34_38 (by decide) ?_
  refine lv_istore (lv' := [(5, .int 0), (4, .null), (3, .null), (0, .ref h0), (1, .int x), (2, .int y)]) hx hb px_d34_39 hl (by decide) rfl (fun ls hl => ?_)
  refine lv_iload hx hb px_d34_41 (lv_at hl 0 rfl) ?_
  refine lv_if_eq (tgt := 55) hx hb px_d34_43 (by decide) (fun _ => ?_) (fun h9 => absurd (by decide +kernel) h9)
  refine lv_iconst (v := (-1)) hx hb px_d34_55 (by decide) ?_
  have hP9 := hP.sub (ws' := [(h0, .inr (0, [.ref qb, .int 0, .int (-1), .int 0, .int 0, .null, .ref qm, .ref qe, .ref qo, .ref qi, .ref qw, .ref qt, .ref qs, .ref qp])), (qm, .inl (cm, 26, .inr (.inr (.inr (.inr (fun _ => none))))))]) [0, 1] rfl
  have hD9 := hD.sub (ws' := [(h0, .inr (0, [.ref qb, .int 0, .int (-1), .int 0, .int 0, .null, .ref qm, .ref qe, .ref qo, .ref qi, .ref qw, .ref qt, .ref qs, .ref qp])), (qm, .inl (cm, 26, .inr (.inr (.inr (.inr (fun _ => none))))))]) [0, 1] (by decide) rfl
  have hK9 := hK.sub (tys' := [(cm, .object "MatroidDesk$Matroid")]) [0] rfl
  refine W.widen (k := 0) (n := 0) (Nat.le_of_ble_eq_true rfl) (Nat.le_of_ble_eq_true rfl) ?_
  exact W.iret (v := (-1)) hx hb hr (fun t ht hW => ⟨⟨(-1), (), rfl, rfl, by rw [ht]; exact hP9, va_K.moved hW.alike hK9, hD9⟩, hS.F ht⟩) hS.2.2 px_d34_56
set_option maxHeartbeats 4000000 in
set_option maxRecDepth 100000 in
/-- sign -/
theorem px_D_sign (l : Launch) (dC : Nat → ClassId) (dI : Nat → Nat → Nat) (sz : Nat) (h0 : Nat) (qb : Nat) (qm : Nat) (qe : Nat) (qo : Nat) (qi : Nat) (qw : Nat) (qt : Nat) (qs : Nat) (qp : Nat) (cm : ClassId) (x : Int32) (y : Int32) : Met l px_y35 px_s35 ({ frames := 1, cells := 0, slots := 0, locals := 21 }) (va_Pc [.ref h0, .int x, .int y] (fun U => U.heap.size = sz ∧ va_P (dC, dI) vwCl [(h0, .inr (0, [.ref qb, .int 0, .int (-1), .int 0, .int 0, .null, .ref qm, .ref qe, .ref qo, .ref qi, .ref qw, .ref qt, .ref qs, .ref qp])), (qm, .inl (cm, 26, .inr (.inr (.inr (.inr (fun _ => none))))))] U.heap ∧ va_K (dC, dI) vwCl [(cm, .object "MatroidDesk$Matroid")] U ∧ va_D (fun _ => True) [(h0, .inr (0, [.ref qb, .int 0, .int (-1), .int 0, .int 0, .null, .ref qm, .ref qe, .ref qo, .ref qi, .ref qw, .ref qt, .ref qs, .ref qp])), (qm, .inl (cm, 26, .inr (.inr (.inr (.inr (fun _ => none))))))] ∧ px_N U)) (va_Qi (fun (r : Int32) (_ : Unit) => r = 2) (fun (_ : Unit) (t : State) => va_P (dC, dI) vwCl [(h0, .inr (0, [.ref qb, .int 0, .int (-1), .int 0, .int 0, .null, .ref qm, .ref qe, .ref qo, .ref qi, .ref qw, .ref qt, .ref qs, .ref qp])), (qm, .inl (cm, 26, .inr (.inr (.inr (.inr (fun _ => none))))))] t.heap ∧ va_K (dC, dI) vwCl [(cm, .object "MatroidDesk$Matroid")] t ∧ va_D (va_A [(h0, .inr (0, [.ref qb, .int 0, .int (-1), .int 0, .int 0, .null, .ref qm, .ref qe, .ref qo, .ref qi, .ref qw, .ref qt, .ref qs, .ref qp])), (qm, .inl (cm, 26, .inr (.inr (.inr (.inr (fun _ => none))))))] sz) [(h0, .inr (0, [.ref qb, .int 0, .int (-1), .int 0, .int 0, .null, .ref qm, .ref qe, .ref qo, .ref qi, .ref qw, .ref qt, .ref qs, .ref qp])), (qm, .inl (cm, 26, .inr (.inr (.inr (.inr (fun _ => none))))))]) (va_A [(h0, .inr (0, [.ref qb, .int 0, .int (-1), .int 0, .int 0, .null, .ref qm, .ref qe, .ref qo, .ref qi, .ref qw, .ref qt, .ref qs, .ref qp])), (qm, .inl (cm, 26, .inr (.inr (.inr (.inr (fun _ => none))))))] sz)) 0 0 (va_A [(h0, .inr (0, [.ref qb, .int 0, .int (-1), .int 0, .int 0, .null, .ref qm, .ref qe, .ref qo, .ref qi, .ref qw, .ref qt, .ref qs, .ref qp])), (qm, .inl (cm, 26, .inr (.inr (.inr (.inr (fun _ => none))))))] sz) := by
  refine Met.ofW (cc := prog_1_method_19_code) (maxL := 4) (ret := (some .int)) (by decide) rfl ?_
  intro p e s m args below meth c s₁ B hml hv
  obtain ⟨rfl, hsz, hP, hK, hD0, hN⟩ := hv
  have hx := B.exec
  have hb := B.bytes
  have hr := B.returns
  have htw : ∀ w ∈ px_all, w.before _ s = true := fun w h => atoms_spec (ws := px_s35) B.pre w (List.mem_cons_of_mem _ h)
  have hown : s.vm.findClass "MatroidDesk" = some m.cls := findClass_of_methodNamed B.named
  have hlocks := B.notSynchronized
  subst hsz
  have hD := hD0.self (sz := s.heap.size)
  generalize hAe : va_A [(h0, .inr (0, [.ref qb, .int 0, .int (-1), .int 0, .int 0, .null, .ref qm, .ref qe, .ref qo, .ref qi, .ref qw, .ref qt, .ref qs, .ref qp])), (qm, .inl (cm, 26, .inr (.inr (.inr (.inr (fun _ => none))))))] s.heap.size = A at hD ⊢
  have hA : ∀ q : Nat, s.heap.size ≤ q → A q := fun q h => by rw [← hAe]; exact Or.inr h
  have hS : va_S A s.heap s.heap [] := va_S.rf
  have hP : va_P (dC, dI) vwCl [(h0, .inr (0, [.ref qb, .int 0, .int (-1), .int 0, .int 0, .null, .ref qm, .ref qe, .ref qo, .ref qi, .ref qw, .ref qt, .ref qs, .ref qp])), (qm, .inl (cm, 26, .inr (.inr (.inr (.inr (fun _ => none))))))] s.heap := hP
  have hl := lv_entry ([.ref h0, .int x, .int y]) (n := 4) (Nat.le_of_ble_eq_true rfl)
  rw [lg_entry_eq]
  generalize (lg_sl ([.ref h0, .int x, .int y]) ++ List.replicate (4 - (lg_sl ([.ref h0, .int x, .int y])).length) Slot.unset).toArray = ls at hl ⊢
  have hl : lv_has ls 4 [(0, .ref h0), (1, .int x), (2, .int y)] := hl
  refine lv_aload_n hx hb px_d35_0 rfl (lv_at hl 0 rfl) ?_
  refine lv_iload_n hx hb px_d35_1 rfl (lv_at hl 1 rfl) ?_
  have hPc := hP.sub (ws' := [(h0, .inr (0, [.ref qb, .int 0, .int (-1), .int 0, .int 0, .null, .ref qm, .ref qe, .ref qo, .ref qi, .ref qw, .ref qt, .ref qs, .ref qp])), (qm, .inl (cm, 26, .inr (.inr (.inr (.inr (fun _ => none))))))]) [0, 1] rfl
  have hDc := hD.sub (ws' := [(h0, .inr (0, [.ref qb, .int 0, .int (-1), .int 0, .int 0, .null, .ref qm, .ref qe, .ref qo, .ref qi, .ref qw, .ref qt, .ref qs, .ref qp])), (qm, .inl (cm, 26, .inr (.inr (.inr (.inr (fun _ => none))))))]) [0, 1] (by decide) rfl
  have hKc := hK.sub (tys' := [(cm, .object "MatroidDesk$Matroid")]) [0] rfl
  have hFc := va_free (wc := [(h0, .inr (0, [.ref qb, .int 0, .int (-1), .int 0, .int 0, .null, .ref qm, .ref qe, .ref qo, .ref qi, .ref qw, .ref qt, .ref qs, .ref qp])), (qm, .inl (cm, 26, .inr (.inr (.inr (.inr (fun _ => none))))))]) hD hS hA [0, 1] rfl
  refine va_callq (va_runV (As := [.int x]) (rest := []) ⟨hx, hb, hml, hown, htw⟩ (px_matroidAt l dC dI s.heap.size h0 qb qm qe qo qi qw qt qs qp cm x) (cwV 1 htw (px_gv px_w330 px_w344 px_w345 px_w6 px_g24) rfl rfl rfl (by decide +kernel) ⟨Nat.le_of_ble_eq_true rfl, Nat.le_of_ble_eq_true rfl⟩) ⟨fun a U g mk q => by obtain ⟨q0, q1, qP, qK, qD, qN⟩ := q; exact ⟨q0, q1, qP, va_K.moved (u := U) (U := U.calling g mk a) (Vm.Alike.refl U.vm) qK, qD, qN.same rfl⟩, va_recv hK hP (ci := 0) (q0 := 0) rfl rfl, fun U hU hW => ⟨rfl, by rw [hU], by rw [hU]; exact hPc, va_K.moved hW.alike hKc, hDc.weaken (fun _ _ _ _ => trivial), hN.warm hW⟩⟩ rfl rfl hl.1 rfl (lv_room (Nat.le_of_ble_eq_true rfl)) px_d35_2 ⟨(Nat.le_of_ble_eq_true rfl), (Nat.le_of_ble_eq_true rfl)⟩) hS (fun q _ h => hFc q h) hFc (fun r u t H1 locs ht hvm hw_2 hB hz1 hk1 hS => ?_)
  obtain ⟨hP1, hK1, hD1⟩ := hB
  rw [ht] at hP1
  have hK1 := va_K.moved hvm.symm hK1
  obtain ⟨hP, hD⟩ := va_join (wr := []) (w1 := [(h0, .inr (0, [.ref qb, .int 0, .int (-1), .int 0, .int 0, .null, .ref qm, .ref qe, .ref qo, .ref qi, .ref qw, .ref qt, .ref qs, .ref qp])), (qm, .inl (cm, 26, .inr (.inr (.inr (.inr (fun _ => none))))))]) hP hD [0, 1] [] rfl rfl (by decide) (by decide) hk1 hFc hP1 hD1
  generalize H1 = H at hP hS ⊢
  have hP : va_P (dC, dI) vwCl [(h0, .inr (0, [.ref qb, .int 0, .int (-1), .int 0, .int 0, .null, .ref qm, .ref qe, .ref qo, .ref qi, .ref qw, .ref qt, .ref qs, .ref qp])), (qm, .inl (cm, 26, .inr (.inr (.inr (.inr (fun _ => none))))))] H := hP
  have hD : va_D A [(h0, .inr (0, [.ref qb, .int 0, .int (-1), .int 0, .int 0, .null, .ref qm, .ref qe, .ref qo, .ref qi, .ref qw, .ref qt, .ref qs, .ref qp])), (qm, .inl (cm, 26, .inr (.inr (.inr (.inr (fun _ => none))))))] := hD
  subst hw_2
  refine W.eq (g2 := F0 m 5 ls (.null :: [])) rfl ?_
  refine lv_astore_nN (lv' := [(3, .null), (0, .ref h0), (1, .int x), (2, .int y)]) hx hb px_d35_5 rfl hl (by decide) rfl (fun ls hl => ?_)
  refine lv_aload_nN hx hb px_d35_6 rfl (lv_at hl 0 rfl) ?_
  refine lv_ifnullN (tgt := 25) hx hb px_d35_7 (by decide) ?_
  refine lv_iconst (v := 2) hx hb px_d35_25 (by decide) ?_
  have hP9 := hP.sub (ws' := [(h0, .inr (0, [.ref qb, .int 0, .int (-1), .int 0, .int 0, .null, .ref qm, .ref qe, .ref qo, .ref qi, .ref qw, .ref qt, .ref qs, .ref qp])), (qm, .inl (cm, 26, .inr (.inr (.inr (.inr (fun _ => none))))))]) [0, 1] rfl
  have hD9 := hD.sub (ws' := [(h0, .inr (0, [.ref qb, .int 0, .int (-1), .int 0, .int 0, .null, .ref qm, .ref qe, .ref qo, .ref qi, .ref qw, .ref qt, .ref qs, .ref qp])), (qm, .inl (cm, 26, .inr (.inr (.inr (.inr (fun _ => none))))))]) [0, 1] (by decide) rfl
  have hK9 := hK.sub (tys' := [(cm, .object "MatroidDesk$Matroid")]) [0] rfl
  refine W.widen (k := 0) (n := 0) (Nat.le_of_ble_eq_true rfl) (Nat.le_of_ble_eq_true rfl) ?_
  exact W.iret (v := 2) hx hb hr (fun t ht hW => ⟨⟨2, (), rfl, rfl, by rw [ht]; exact hP9, va_K.moved hW.alike hK9, hD9⟩, hS.F ht⟩) hS.2.2 px_d35_26
set_option maxHeartbeats 4000000 in
set_option maxRecDepth 100000 in
/-- below -/
theorem px_D_below (l : Launch) (dC : Nat → ClassId) (dI : Nat → Nat → Nat) (sz : Nat) (h0 : Nat) (qb : Nat) (qm : Nat) (qe : Nat) (qo : Nat) (qi : Nat) (qw : Nat) (qt : Nat) (qs : Nat) (qp : Nat) (cm : ClassId) (x : Int32) (y : Int32) : Met l px_y36 px_s36 ({ frames := 1, cells := 0, slots := 0, locals := 21 }) (va_Pc [.ref h0, .int x, .int y] (fun U => U.heap.size = sz ∧ va_P (dC, dI) vwCl [(h0, .inr (0, [.ref qb, .int 0, .int (-1), .int 0, .int 0, .null, .ref qm, .ref qe, .ref qo, .ref qi, .ref qw, .ref qt, .ref qs, .ref qp])), (qm, .inl (cm, 26, .inr (.inr (.inr (.inr (fun _ => none))))))] U.heap ∧ va_K (dC, dI) vwCl [(cm, .object "MatroidDesk$Matroid")] U ∧ va_D (fun _ => True) [(h0, .inr (0, [.ref qb, .int 0, .int (-1), .int 0, .int 0, .null, .ref qm, .ref qe, .ref qo, .ref qi, .ref qw, .ref qt, .ref qs, .ref qp])), (qm, .inl (cm, 26, .inr (.inr (.inr (.inr (fun _ => none))))))] ∧ px_N U)) (va_Qi (fun (r : Int32) (_ : Unit) => r = (-1)) (fun (_ : Unit) (t : State) => va_P (dC, dI) vwCl [(h0, .inr (0, [.ref qb, .int 0, .int (-1), .int 0, .int 0, .null, .ref qm, .ref qe, .ref qo, .ref qi, .ref qw, .ref qt, .ref qs, .ref qp])), (qm, .inl (cm, 26, .inr (.inr (.inr (.inr (fun _ => none))))))] t.heap ∧ va_K (dC, dI) vwCl [(cm, .object "MatroidDesk$Matroid")] t ∧ va_D (va_A [(h0, .inr (0, [.ref qb, .int 0, .int (-1), .int 0, .int 0, .null, .ref qm, .ref qe, .ref qo, .ref qi, .ref qw, .ref qt, .ref qs, .ref qp])), (qm, .inl (cm, 26, .inr (.inr (.inr (.inr (fun _ => none))))))] sz) [(h0, .inr (0, [.ref qb, .int 0, .int (-1), .int 0, .int 0, .null, .ref qm, .ref qe, .ref qo, .ref qi, .ref qw, .ref qt, .ref qs, .ref qp])), (qm, .inl (cm, 26, .inr (.inr (.inr (.inr (fun _ => none))))))]) (va_A [(h0, .inr (0, [.ref qb, .int 0, .int (-1), .int 0, .int 0, .null, .ref qm, .ref qe, .ref qo, .ref qi, .ref qw, .ref qt, .ref qs, .ref qp])), (qm, .inl (cm, 26, .inr (.inr (.inr (.inr (fun _ => none))))))] sz)) 0 0 (va_A [(h0, .inr (0, [.ref qb, .int 0, .int (-1), .int 0, .int 0, .null, .ref qm, .ref qe, .ref qo, .ref qi, .ref qw, .ref qt, .ref qs, .ref qp])), (qm, .inl (cm, 26, .inr (.inr (.inr (.inr (fun _ => none))))))] sz) := by
  refine Met.ofW (cc := prog_1_method_20_code) (maxL := 4) (ret := (some .int)) (by decide) rfl ?_
  intro p e s m args below meth c s₁ B hml hv
  obtain ⟨rfl, hsz, hP, hK, hD0, hN⟩ := hv
  have hx := B.exec
  have hb := B.bytes
  have hr := B.returns
  have htw : ∀ w ∈ px_all, w.before _ s = true := fun w h => atoms_spec (ws := px_s36) B.pre w (List.mem_cons_of_mem _ h)
  have hown : s.vm.findClass "MatroidDesk" = some m.cls := findClass_of_methodNamed B.named
  have hlocks := B.notSynchronized
  subst hsz
  have hD := hD0.self (sz := s.heap.size)
  generalize hAe : va_A [(h0, .inr (0, [.ref qb, .int 0, .int (-1), .int 0, .int 0, .null, .ref qm, .ref qe, .ref qo, .ref qi, .ref qw, .ref qt, .ref qs, .ref qp])), (qm, .inl (cm, 26, .inr (.inr (.inr (.inr (fun _ => none))))))] s.heap.size = A at hD ⊢
  have hA : ∀ q : Nat, s.heap.size ≤ q → A q := fun q h => by rw [← hAe]; exact Or.inr h
  have hS : va_S A s.heap s.heap [] := va_S.rf
  have hP : va_P (dC, dI) vwCl [(h0, .inr (0, [.ref qb, .int 0, .int (-1), .int 0, .int 0, .null, .ref qm, .ref qe, .ref qo, .ref qi, .ref qw, .ref qt, .ref qs, .ref qp])), (qm, .inl (cm, 26, .inr (.inr (.inr (.inr (fun _ => none))))))] s.heap := hP
  have hl := lv_entry ([.ref h0, .int x, .int y]) (n := 4) (Nat.le_of_ble_eq_true rfl)
  rw [lg_entry_eq]
  generalize (lg_sl ([.ref h0, .int x, .int y]) ++ List.replicate (4 - (lg_sl ([.ref h0, .int x, .int y])).length) Slot.unset).toArray = ls at hl ⊢
  have hl : lv_has ls 4 [(0, .ref h0), (1, .int x), (2, .int y)] := hl
  refine lv_aload_n hx hb px_d36_0 rfl (lv_at hl 0 rfl) ?_
  refine lv_iload_n hx hb px_d36_1 rfl (lv_at hl 1 rfl) ?_
  have hPc := hP.sub (ws' := [(h0, .inr (0, [.ref qb, .int 0, .int (-1), .int 0, .int 0, .null, .ref qm, .ref qe, .ref qo, .ref qi, .ref qw, .ref qt, .ref qs, .ref qp])), (qm, .inl (cm, 26, .inr (.inr (.inr (.inr (fun _ => none))))))]) [0, 1] rfl
  have hDc := hD.sub (ws' := [(h0, .inr (0, [.ref qb, .int 0, .int (-1), .int 0, .int 0, .null, .ref qm, .ref qe, .ref qo, .ref qi, .ref qw, .ref qt, .ref qs, .ref qp])), (qm, .inl (cm, 26, .inr (.inr (.inr (.inr (fun _ => none))))))]) [0, 1] (by decide) rfl
  have hKc := hK.sub (tys' := [(cm, .object "MatroidDesk$Matroid")]) [0] rfl
  have hFc := va_free (wc := [(h0, .inr (0, [.ref qb, .int 0, .int (-1), .int 0, .int 0, .null, .ref qm, .ref qe, .ref qo, .ref qi, .ref qw, .ref qt, .ref qs, .ref qp])), (qm, .inl (cm, 26, .inr (.inr (.inr (.inr (fun _ => none))))))]) hD hS hA [0, 1] rfl
  refine va_callq (va_runV (As := [.int x]) (rest := []) ⟨hx, hb, hml, hown, htw⟩ (px_matroidAt l dC dI s.heap.size h0 qb qm qe qo qi qw qt qs qp cm x) (cwV 1 htw (px_gv px_w330 px_w344 px_w345 px_w6 px_g24) rfl rfl rfl (by decide +kernel) ⟨Nat.le_of_ble_eq_true rfl, Nat.le_of_ble_eq_true rfl⟩) ⟨fun a U g mk q => by obtain ⟨q0, q1, qP, qK, qD, qN⟩ := q; exact ⟨q0, q1, qP, va_K.moved (u := U) (U := U.calling g mk a) (Vm.Alike.refl U.vm) qK, qD, qN.same rfl⟩, va_recv hK hP (ci := 0) (q0 := 0) rfl rfl, fun U hU hW => ⟨rfl, by rw [hU], by rw [hU]; exact hPc, va_K.moved hW.alike hKc, hDc.weaken (fun _ _ _ _ => trivial), hN.warm hW⟩⟩ rfl rfl hl.1 rfl (lv_room (Nat.le_of_ble_eq_true rfl)) px_d36_2 ⟨(Nat.le_of_ble_eq_true rfl), (Nat.le_of_ble_eq_true rfl)⟩) hS (fun q _ h => hFc q h) hFc (fun r u t H1 locs ht hvm hw_2 hB hz1 hk1 hS => ?_)
  obtain ⟨hP1, hK1, hD1⟩ := hB
  rw [ht] at hP1
  have hK1 := va_K.moved hvm.symm hK1
  obtain ⟨hP, hD⟩ := va_join (wr := []) (w1 := [(h0, .inr (0, [.ref qb, .int 0, .int (-1), .int 0, .int 0, .null, .ref qm, .ref qe, .ref qo, .ref qi, .ref qw, .ref qt, .ref qs, .ref qp])), (qm, .inl (cm, 26, .inr (.inr (.inr (.inr (fun _ => none))))))]) hP hD [0, 1] [] rfl rfl (by decide) (by decide) hk1 hFc hP1 hD1
  generalize H1 = H at hP hS ⊢
  have hP : va_P (dC, dI) vwCl [(h0, .inr (0, [.ref qb, .int 0, .int (-1), .int 0, .int 0, .null, .ref qm, .ref qe, .ref qo, .ref qi, .ref qw, .ref qt, .ref qs, .ref qp])), (qm, .inl (cm, 26, .inr (.inr (.inr (.inr (fun _ => none))))))] H := hP
  have hD : va_D A [(h0, .inr (0, [.ref qb, .int 0, .int (-1), .int 0, .int 0, .null, .ref qm, .ref qe, .ref qo, .ref qi, .ref qw, .ref qt, .ref qs, .ref qp])), (qm, .inl (cm, 26, .inr (.inr (.inr (.inr (fun _ => none))))))] := hD
  subst hw_2
  refine W.eq (g2 := F0 m 5 ls (.null :: [])) rfl ?_
  refine lv_astore_nN (lv' := [(3, .null), (0, .ref h0), (1, .int x), (2, .int y)]) hx hb px_d36_5 rfl hl (by decide) rfl (fun ls hl => ?_)
  refine lv_aload_nN hx hb px_d36_6 rfl (lv_at hl 0 rfl) ?_
  refine lv_ifnullN (tgt := 30) hx hb px_d36_7 (by decide) ?_
  refine lv_iconst (v := (-1)) hx hb px_d36_30 (by decide) ?_
  have hP9 := hP.sub (ws' := [(h0, .inr (0, [.ref qb, .int 0, .int (-1), .int 0, .int 0, .null, .ref qm, .ref qe, .ref qo, .ref qi, .ref qw, .ref qt, .ref qs, .ref qp])), (qm, .inl (cm, 26, .inr (.inr (.inr (.inr (fun _ => none))))))]) [0, 1] rfl
  have hD9 := hD.sub (ws' := [(h0, .inr (0, [.ref qb, .int 0, .int (-1), .int 0, .int 0, .null, .ref qm, .ref qe, .ref qo, .ref qi, .ref qw, .ref qt, .ref qs, .ref qp])), (qm, .inl (cm, 26, .inr (.inr (.inr (.inr (fun _ => none))))))]) [0, 1] (by decide) rfl
  have hK9 := hK.sub (tys' := [(cm, .object "MatroidDesk$Matroid")]) [0] rfl
  refine W.widen (k := 0) (n := 0) (Nat.le_of_ble_eq_true rfl) (Nat.le_of_ble_eq_true rfl) ?_
  exact W.iret (v := (-1)) hx hb hr (fun t ht hW => ⟨⟨(-1), (), rfl, rfl, by rw [ht]; exact hP9, va_K.moved hW.alike hK9, hD9⟩, hS.F ht⟩) hS.2.2 px_d36_31
set_option maxHeartbeats 4000000 in
set_option maxRecDepth 100000 in
/-- isMinor -/
theorem px_D_isMinor (l : Launch) (dC : Nat → ClassId) (dI : Nat → Nat → Nat) (sz : Nat) (h0 : Nat) (qb : Nat) (qm : Nat) (qe : Nat) (qo : Nat) (qi : Nat) (qw : Nat) (qt : Nat) (qs : Nat) (qp : Nat) (cm : ClassId) (x : Int32) (y : Int32) : Met l px_y37 px_s37 ({ frames := 1, cells := 0, slots := 0, locals := 21 }) (va_Pc [.ref h0, .int x, .int y] (fun U => U.heap.size = sz ∧ va_P (dC, dI) vwCl [(h0, .inr (0, [.ref qb, .int 0, .int (-1), .int 0, .int 0, .null, .ref qm, .ref qe, .ref qo, .ref qi, .ref qw, .ref qt, .ref qs, .ref qp])), (qm, .inl (cm, 26, .inr (.inr (.inr (.inr (fun _ => none))))))] U.heap ∧ va_K (dC, dI) vwCl [(cm, .object "MatroidDesk$Matroid")] U ∧ va_D (fun _ => True) [(h0, .inr (0, [.ref qb, .int 0, .int (-1), .int 0, .int 0, .null, .ref qm, .ref qe, .ref qo, .ref qi, .ref qw, .ref qt, .ref qs, .ref qp])), (qm, .inl (cm, 26, .inr (.inr (.inr (.inr (fun _ => none))))))] ∧ px_N U)) (va_Qi (fun (r : Int32) (_ : Unit) => r = 0) (fun (_ : Unit) (t : State) => va_P (dC, dI) vwCl [(h0, .inr (0, [.ref qb, .int 0, .int (-1), .int 0, .int 0, .null, .ref qm, .ref qe, .ref qo, .ref qi, .ref qw, .ref qt, .ref qs, .ref qp])), (qm, .inl (cm, 26, .inr (.inr (.inr (.inr (fun _ => none))))))] t.heap ∧ va_K (dC, dI) vwCl [(cm, .object "MatroidDesk$Matroid")] t ∧ va_D (va_A [(h0, .inr (0, [.ref qb, .int 0, .int (-1), .int 0, .int 0, .null, .ref qm, .ref qe, .ref qo, .ref qi, .ref qw, .ref qt, .ref qs, .ref qp])), (qm, .inl (cm, 26, .inr (.inr (.inr (.inr (fun _ => none))))))] sz) [(h0, .inr (0, [.ref qb, .int 0, .int (-1), .int 0, .int 0, .null, .ref qm, .ref qe, .ref qo, .ref qi, .ref qw, .ref qt, .ref qs, .ref qp])), (qm, .inl (cm, 26, .inr (.inr (.inr (.inr (fun _ => none))))))]) (va_A [(h0, .inr (0, [.ref qb, .int 0, .int (-1), .int 0, .int 0, .null, .ref qm, .ref qe, .ref qo, .ref qi, .ref qw, .ref qt, .ref qs, .ref qp])), (qm, .inl (cm, 26, .inr (.inr (.inr (.inr (fun _ => none))))))] sz)) 0 0 (va_A [(h0, .inr (0, [.ref qb, .int 0, .int (-1), .int 0, .int 0, .null, .ref qm, .ref qe, .ref qo, .ref qi, .ref qw, .ref qt, .ref qs, .ref qp])), (qm, .inl (cm, 26, .inr (.inr (.inr (.inr (fun _ => none))))))] sz) := by
  refine Met.ofW (cc := prog_1_method_24_code) (maxL := 5) (ret := (some .boolean)) (by decide) rfl ?_
  intro p e s m args below meth c s₁ B hml hv
  obtain ⟨rfl, hsz, hP, hK, hD0, hN⟩ := hv
  have hx := B.exec
  have hb := B.bytes
  have hr := B.returns
  have htw : ∀ w ∈ px_all, w.before _ s = true := fun w h => atoms_spec (ws := px_s37) B.pre w (List.mem_cons_of_mem _ h)
  have hown : s.vm.findClass "MatroidDesk" = some m.cls := findClass_of_methodNamed B.named
  have hlocks := B.notSynchronized
  subst hsz
  have hD := hD0.self (sz := s.heap.size)
  generalize hAe : va_A [(h0, .inr (0, [.ref qb, .int 0, .int (-1), .int 0, .int 0, .null, .ref qm, .ref qe, .ref qo, .ref qi, .ref qw, .ref qt, .ref qs, .ref qp])), (qm, .inl (cm, 26, .inr (.inr (.inr (.inr (fun _ => none))))))] s.heap.size = A at hD ⊢
  have hA : ∀ q : Nat, s.heap.size ≤ q → A q := fun q h => by rw [← hAe]; exact Or.inr h
  have hS : va_S A s.heap s.heap [] := va_S.rf
  have hP : va_P (dC, dI) vwCl [(h0, .inr (0, [.ref qb, .int 0, .int (-1), .int 0, .int 0, .null, .ref qm, .ref qe, .ref qo, .ref qi, .ref qw, .ref qt, .ref qs, .ref qp])), (qm, .inl (cm, 26, .inr (.inr (.inr (.inr (fun _ => none))))))] s.heap := hP
  have hl := lv_entry ([.ref h0, .int x, .int y]) (n := 5) (Nat.le_of_ble_eq_true rfl)
  rw [lg_entry_eq]
  generalize (lg_sl ([.ref h0, .int x, .int y]) ++ List.replicate (5 - (lg_sl ([.ref h0, .int x, .int y])).length) Slot.unset).toArray = ls at hl ⊢
  have hl : lv_has ls 5 [(0, .ref h0), (1, .int x), (2, .int y)] := hl
  refine lv_aload_n hx hb px_d37_0 rfl (lv_at hl 0 rfl) ?_
  refine lv_iload_n hx hb px_d37_1 rfl (lv_at hl 1 rfl) ?_
  have hPc := hP.sub (ws' := [(h0, .inr (0, [.ref qb, .int 0, .int (-1), .int 0, .int 0, .null, .ref qm, .ref qe, .ref qo, .ref qi, .ref qw, .ref qt, .ref qs, .ref qp])), (qm, .inl (cm, 26, .inr (.inr (.inr (.inr (fun _ => none))))))]) [0, 1] rfl
  have hDc := hD.sub (ws' := [(h0, .inr (0, [.ref qb, .int 0, .int (-1), .int 0, .int 0, .null, .ref qm, .ref qe, .ref qo, .ref qi, .ref qw, .ref qt, .ref qs, .ref qp])), (qm, .inl (cm, 26, .inr (.inr (.inr (.inr (fun _ => none))))))]) [0, 1] (by decide) rfl
  have hKc := hK.sub (tys' := [(cm, .object "MatroidDesk$Matroid")]) [0] rfl
  have hFc := va_free (wc := [(h0, .inr (0, [.ref qb, .int 0, .int (-1), .int 0, .int 0, .null, .ref qm, .ref qe, .ref qo, .ref qi, .ref qw, .ref qt, .ref qs, .ref qp])), (qm, .inl (cm, 26, .inr (.inr (.inr (.inr (fun _ => none))))))]) hD hS hA [0, 1] rfl
  refine va_callq (va_runV (As := [.int x]) (rest := []) ⟨hx, hb, hml, hown, htw⟩ (px_matroidAt l dC dI s.heap.size h0 qb qm qe qo qi qw qt qs qp cm x) (cwV 1 htw (px_gv px_w330 px_w344 px_w345 px_w6 px_g24) rfl rfl rfl (by decide +kernel) ⟨Nat.le_of_ble_eq_true rfl, Nat.le_of_ble_eq_true rfl⟩) ⟨fun a U g mk q => by obtain ⟨q0, q1, qP, qK, qD, qN⟩ := q; exact ⟨q0, q1, qP, va_K.moved (u := U) (U := U.calling g mk a) (Vm.Alike.refl U.vm) qK, qD, qN.same rfl⟩, va_recv hK hP (ci := 0) (q0 := 0) rfl rfl, fun U hU hW => ⟨rfl, by rw [hU], by rw [hU]; exact hPc, va_K.moved hW.alike hKc, hDc.weaken (fun _ _ _ _ => trivial), hN.warm hW⟩⟩ rfl rfl hl.1 rfl (lv_room (Nat.le_of_ble_eq_true rfl)) px_d37_2 ⟨(Nat.le_of_ble_eq_true rfl), (Nat.le_of_ble_eq_true rfl)⟩) hS (fun q _ h => hFc q h) hFc (fun r u t H1 locs ht hvm hw_2 hB hz1 hk1 hS => ?_)
  obtain ⟨hP1, hK1, hD1⟩ := hB
  rw [ht] at hP1
  have hK1 := va_K.moved hvm.symm hK1
  obtain ⟨hP, hD⟩ := va_join (wr := []) (w1 := [(h0, .inr (0, [.ref qb, .int 0, .int (-1), .int 0, .int 0, .null, .ref qm, .ref qe, .ref qo, .ref qi, .ref qw, .ref qt, .ref qs, .ref qp])), (qm, .inl (cm, 26, .inr (.inr (.inr (.inr (fun _ => none))))))]) hP hD [0, 1] [] rfl rfl (by decide) (by decide) hk1 hFc hP1 hD1
  generalize H1 = H at hP hS ⊢
  have hP : va_P (dC, dI) vwCl [(h0, .inr (0, [.ref qb, .int 0, .int (-1), .int 0, .int 0, .null, .ref qm, .ref qe, .ref qo, .ref qi, .ref qw, .ref qt, .ref qs, .ref qp])), (qm, .inl (cm, 26, .inr (.inr (.inr (.inr (fun _ => none))))))] H := hP
  have hD : va_D A [(h0, .inr (0, [.ref qb, .int 0, .int (-1), .int 0, .int 0, .null, .ref qm, .ref qe, .ref qo, .ref qi, .ref qw, .ref qt, .ref qs, .ref qp])), (qm, .inl (cm, 26, .inr (.inr (.inr (.inr (fun _ => none))))))] := hD
  subst hw_2
  refine W.eq (g2 := F0 m 5 ls (.null :: [])) rfl ?_
  refine lv_astore_nN (lv' := [(3, .null), (0, .ref h0), (1, .int x), (2, .int y)]) hx hb px_d37_5 rfl hl (by decide) rfl (fun ls hl => ?_)
  refine lv_aload_n hx hb px_d37_6 rfl (lv_at hl 1 rfl) ?_
  refine lv_iload_n hx hb px_d37_7 rfl (lv_at hl 3 rfl) ?_
  have hPc := hP.sub (ws' := [(h0, .inr (0, [.ref qb, .int 0, .int (-1), .int 0, .int 0, .null, .ref qm, .ref qe, .ref qo, .ref qi, .ref qw, .ref qt, .ref qs, .ref qp])), (qm, .inl (cm, 26, .inr (.inr (.inr (.inr (fun _ => none))))))]) [0, 1] rfl
  have hDc := hD.sub (ws' := [(h0, .inr (0, [.ref qb, .int 0, .int (-1), .int 0, .int 0, .null, .ref qm, .ref qe, .ref qo, .ref qi, .ref qw, .ref qt, .ref qs, .ref qp])), (qm, .inl (cm, 26, .inr (.inr (.inr (.inr (fun _ => none))))))]) [0, 1] (by decide) rfl
  have hKc := hK.sub (tys' := [(cm, .object "MatroidDesk$Matroid")]) [0] rfl
  have hFc := va_free (wc := [(h0, .inr (0, [.ref qb, .int 0, .int (-1), .int 0, .int 0, .null, .ref qm, .ref qe, .ref qo, .ref qi, .ref qw, .ref qt, .ref qs, .ref qp])), (qm, .inl (cm, 26, .inr (.inr (.inr (.inr (fun _ => none))))))]) hD hS hA [0, 1] rfl
  refine va_callq (va_runV (As := [.int y]) (rest := []) ⟨hx, hb, hml, hown, htw⟩ (px_matroidAt l dC dI H.size h0 qb qm qe qo qi qw qt qs qp cm y) (cwV 1 htw (px_gv px_w330 px_w344 px_w345 px_w6 px_g24) rfl rfl rfl (by decide +kernel) ⟨Nat.le_of_ble_eq_true rfl, Nat.le_of_ble_eq_true rfl⟩) ⟨fun a U g mk q => by obtain ⟨q0, q1, qP, qK, qD, qN⟩ := q; exact ⟨q0, q1, qP, va_K.moved (u := U) (U := U.calling g mk a) (Vm.Alike.refl U.vm) qK, qD, qN.same rfl⟩, va_recv hK hP (ci := 0) (q0 := 0) rfl rfl, fun U hU hW => ⟨rfl, by rw [hU], by rw [hU]; exact hPc, va_K.moved hW.alike hKc, hDc.weaken (fun _ _ _ _ => trivial), hN.warm hW⟩⟩ rfl rfl hl.1 rfl (lv_room (Nat.le_of_ble_eq_true rfl)) px_d37_8 ⟨(Nat.le_of_ble_eq_true rfl), (Nat.le_of_ble_eq_true rfl)⟩) hS (fun q _ h => hFc q h) hFc (fun r u t H1 locs ht hvm hw_8 hB hz1 hk1 hS => ?_)
  obtain ⟨hP1, hK1, hD1⟩ := hB
  rw [ht] at hP1
  have hK1 := va_K.moved hvm.symm hK1
  obtain ⟨hP, hD⟩ := va_join (wr := []) (w1 := [(h0, .inr (0, [.ref qb, .int 0, .int (-1), .int 0, .int 0, .null, .ref qm, .ref qe, .ref qo, .ref qi, .ref qw, .ref qt, .ref qs, .ref qp])), (qm, .inl (cm, 26, .inr (.inr (.inr (.inr (fun _ => none))))))]) hP hD [0, 1] [] rfl rfl (by decide) (by decide) hk1 hFc hP1 hD1
  generalize H1 = H at hP hS ⊢
  have hP : va_P (dC, dI) vwCl [(h0, .inr (0, [.ref qb, .int 0, .int (-1), .int 0, .int 0, .null, .ref qm, .ref qe, .ref qo, .ref qi, .ref qw, .ref qt, .ref qs, .ref qp])), (qm, .inl (cm, 26, .inr (.inr (.inr (.inr (fun _ => none))))))] H := hP
  have hD : va_D A [(h0, .inr (0, [.ref qb, .int 0, .int (-1), .int 0, .int 0, .null, .ref qm, .ref qe, .ref qo, .ref qi, .ref qw, .ref qt, .ref qs, .ref qp])), (qm, .inl (cm, 26, .inr (.inr (.inr (.inr (fun _ => none))))))] := hD
  subst hw_8
  refine W.eq (g2 := F0 m 11 ls (.null :: [])) rfl ?_
  refine lv_astoreN (lv' := [(4, .null), (3, .null), (0, .ref h0), (1, .int x), (2, .int y)]) hx hb px_d37_11 hl (by decide) rfl (fun ls hl => ?_)
  refine lv_aload_nN hx hb px_d37_13 rfl (lv_at hl 1 rfl) ?_
  refine lv_ifnullN (tgt := 39) hx hb px_d37_14 (by decide) ?_
  refine lv_iconst (v := 0) hx hb px_d37_39 (by decide) ?_
  have hP9 := hP.sub (ws' := [(h0, .inr (0, [.ref qb, .int 0, .int (-1), .int 0, .int 0, .null, .ref qm, .ref qe, .ref qo, .ref qi, .ref qw, .ref qt, .ref qs, .ref qp])), (qm, .inl (cm, 26, .inr (.inr (.inr (.inr (fun _ => none))))))]) [0, 1] rfl
  have hD9 := hD.sub (ws' := [(h0, .inr (0, [.ref qb, .int 0, .int (-1), .int 0, .int 0, .null, .ref qm, .ref qe, .ref qo, .ref qi, .ref qw, .ref qt, .ref qs, .ref qp])), (qm, .inl (cm, 26, .inr (.inr (.inr (.inr (fun _ => none))))))]) [0, 1] (by decide) rfl
  have hK9 := hK.sub (tys' := [(cm, .object "MatroidDesk$Matroid")]) [0] rfl
  refine W.widen (k := 0) (n := 0) (Nat.le_of_ble_eq_true rfl) (Nat.le_of_ble_eq_true rfl) ?_
  exact W.zret (v := 0) hx hb hr (by decide +kernel) (fun t ht hW => ⟨⟨0, (), rfl, rfl, by rw [ht]; exact hP9, va_K.moved hW.alike hK9, hD9⟩, hS.F ht⟩) hS.2.2 px_d37_40
set_option maxHeartbeats 4000000 in
set_option maxRecDepth 100000 in
/-- contracted -/
theorem px_D_contracted (l : Launch) (dC : Nat → ClassId) (dI : Nat → Nat → Nat) (sz : Nat) (h0 : Nat) (qb : Nat) (qm : Nat) (qe : Nat) (qo : Nat) (qi : Nat) (qw : Nat) (qt : Nat) (qs : Nat) (qp : Nat) (cm : ClassId) (x : Int32) (y : Int32) : Met l px_y38 px_s38 ({ frames := 2, cells := 0, slots := 0, locals := 45 }) (va_Pc [.ref h0, .int x, .int y] (fun U => U.heap.size = sz ∧ va_P (dC, dI) vwCl [(h0, .inr (0, [.ref qb, .int 0, .int (-1), .int 0, .int 0, .null, .ref qm, .ref qe, .ref qo, .ref qi, .ref qw, .ref qt, .ref qs, .ref qp])), (qm, .inl (cm, 26, .inr (.inr (.inr (.inr (fun _ => none))))))] U.heap ∧ va_K (dC, dI) vwCl [(cm, .object "MatroidDesk$Matroid")] U ∧ va_D (fun _ => True) [(h0, .inr (0, [.ref qb, .int 0, .int (-1), .int 0, .int 0, .null, .ref qm, .ref qe, .ref qo, .ref qi, .ref qw, .ref qt, .ref qs, .ref qp])), (qm, .inl (cm, 26, .inr (.inr (.inr (.inr (fun _ => none))))))] ∧ px_N U)) (va_Qi (fun (r : Int32) (_ : Unit) => r = (-1)) (fun (_ : Unit) (t : State) => va_P (dC, dI) vwCl [(h0, .inr (0, [.ref qb, .int 0, .int (-1), .int 0, .int 0, .null, .ref qm, .ref qe, .ref qo, .ref qi, .ref qw, .ref qt, .ref qs, .ref qp])), (qm, .inl (cm, 26, .inr (.inr (.inr (.inr (fun _ => none))))))] t.heap ∧ va_K (dC, dI) vwCl [(cm, .object "MatroidDesk$Matroid")] t ∧ va_D (va_A [(h0, .inr (0, [.ref qb, .int 0, .int (-1), .int 0, .int 0, .null, .ref qm, .ref qe, .ref qo, .ref qi, .ref qw, .ref qt, .ref qs, .ref qp])), (qm, .inl (cm, 26, .inr (.inr (.inr (.inr (fun _ => none))))))] sz) [(h0, .inr (0, [.ref qb, .int 0, .int (-1), .int 0, .int 0, .null, .ref qm, .ref qe, .ref qo, .ref qi, .ref qw, .ref qt, .ref qs, .ref qp])), (qm, .inl (cm, 26, .inr (.inr (.inr (.inr (fun _ => none))))))]) (va_A [(h0, .inr (0, [.ref qb, .int 0, .int (-1), .int 0, .int 0, .null, .ref qm, .ref qe, .ref qo, .ref qi, .ref qw, .ref qt, .ref qs, .ref qp])), (qm, .inl (cm, 26, .inr (.inr (.inr (.inr (fun _ => none))))))] sz)) 0 0 (va_A [(h0, .inr (0, [.ref qb, .int 0, .int (-1), .int 0, .int 0, .null, .ref qm, .ref qe, .ref qo, .ref qi, .ref qw, .ref qt, .ref qs, .ref qp])), (qm, .inl (cm, 26, .inr (.inr (.inr (.inr (fun _ => none))))))] sz) := by
  refine Met.ofW (cc := prog_1_method_21_code) (maxL := 3) (ret := (some .int)) (by decide) rfl ?_
  intro p e s m args below meth c s₁ B hml hv
  obtain ⟨rfl, hsz, hP, hK, hD0, hN⟩ := hv
  have hx := B.exec
  have hb := B.bytes
  have hr := B.returns
  have htw : ∀ w ∈ px_all, w.before _ s = true := fun w h => atoms_spec (ws := px_s38) B.pre w (List.mem_cons_of_mem _ h)
  have hown : s.vm.findClass "MatroidDesk" = some m.cls := findClass_of_methodNamed B.named
  have hlocks := B.notSynchronized
  subst hsz
  have hD := hD0.self (sz := s.heap.size)
  generalize hAe : va_A [(h0, .inr (0, [.ref qb, .int 0, .int (-1), .int 0, .int 0, .null, .ref qm, .ref qe, .ref qo, .ref qi, .ref qw, .ref qt, .ref qs, .ref qp])), (qm, .inl (cm, 26, .inr (.inr (.inr (.inr (fun _ => none))))))] s.heap.size = A at hD ⊢
  have hA : ∀ q : Nat, s.heap.size ≤ q → A q := fun q h => by rw [← hAe]; exact Or.inr h
  have hS : va_S A s.heap s.heap [] := va_S.rf
  have hP : va_P (dC, dI) vwCl [(h0, .inr (0, [.ref qb, .int 0, .int (-1), .int 0, .int 0, .null, .ref qm, .ref qe, .ref qo, .ref qi, .ref qw, .ref qt, .ref qs, .ref qp])), (qm, .inl (cm, 26, .inr (.inr (.inr (.inr (fun _ => none))))))] s.heap := hP
  have hl := lv_entry ([.ref h0, .int x, .int y]) (n := 3) (Nat.le_of_ble_eq_true rfl)
  rw [lg_entry_eq]
  generalize (lg_sl ([.ref h0, .int x, .int y]) ++ List.replicate (3 - (lg_sl ([.ref h0, .int x, .int y])).length) Slot.unset).toArray = ls at hl ⊢
  have hl : lv_has ls 3 [(0, .ref h0), (1, .int x), (2, .int y)] := hl
  refine lv_aload_n hx hb px_d38_0 rfl (lv_at hl 0 rfl) ?_
  refine lv_iload_n hx hb px_d38_1 rfl (lv_at hl 1 rfl) ?_
  refine lv_iload_n hx hb px_d38_2 rfl (lv_at hl 2 rfl) ?_
  have hPc := hP.sub (ws' := [(h0, .inr (0, [.ref qb, .int 0, .int (-1), .int 0, .int 0, .null, .ref qm, .ref qe, .ref qo, .ref qi, .ref qw, .ref qt, .ref qs, .ref qp])), (qm, .inl (cm, 26, .inr (.inr (.inr (.inr (fun _ => none))))))]) [0, 1] rfl
  have hDc := hD.sub (ws' := [(h0, .inr (0, [.ref qb, .int 0, .int (-1), .int 0, .int 0, .null, .ref qm, .ref qe, .ref qo, .ref qi, .ref qw, .ref qt, .ref qs, .ref qp])), (qm, .inl (cm, 26, .inr (.inr (.inr (.inr (fun _ => none))))))]) [0, 1] (by decide) rfl
  have hKc := hK.sub (tys' := [(cm, .object "MatroidDesk$Matroid")]) [0] rfl
  have hFc := va_free (wc := [(h0, .inr (0, [.ref qb, .int 0, .int (-1), .int 0, .int 0, .null, .ref qm, .ref qe, .ref qo, .ref qi, .ref qw, .ref qt, .ref qs, .ref qp])), (qm, .inl (cm, 26, .inr (.inr (.inr (.inr (fun _ => none))))))]) hD hS hA [0, 1] rfl
  refine va_calli (va_runV (As := [.int x, .int y]) (rest := []) ⟨hx, hb, hml, hown, htw⟩ (px_D_isMinor l dC dI s.heap.size h0 qb qm qe qo qi qw qt qs qp cm x y) (cwV 2 htw (px_gv px_w388 px_w383 px_w384 px_w6 px_g37) rfl rfl rfl (by decide +kernel) ⟨Nat.le_of_ble_eq_true rfl, Nat.le_of_ble_eq_true rfl⟩) ⟨fun a U g mk q => by obtain ⟨q0, q1, qP, qK, qD, qN⟩ := q; exact ⟨q0, q1, qP, va_K.moved (u := U) (U := U.calling g mk a) (Vm.Alike.refl U.vm) qK, qD, qN.same rfl⟩, va_recv hK hP (ci := 0) (q0 := 0) rfl rfl, fun U hU hW => ⟨rfl, by rw [hU], by rw [hU]; exact hPc, va_K.moved hW.alike hKc, hDc.weaken (fun _ _ _ _ => trivial), hN.warm hW⟩⟩ rfl rfl hl.1 rfl (lv_room (Nat.le_of_ble_eq_true rfl)) px_d38_3 ⟨(Nat.le_of_ble_eq_true rfl), (Nat.le_of_ble_eq_true rfl)⟩) hS (fun q _ h => hFc q h) hFc (fun r u t H1 locs ht hvm hw_3 hB hz1 hk1 hS => ?_)
  obtain ⟨hP1, hK1, hD1⟩ := hB
  rw [ht] at hP1
  have hK1 := va_K.moved hvm.symm hK1
  obtain ⟨hP, hD⟩ := va_join (wr := []) (w1 := [(h0, .inr (0, [.ref qb, .int 0, .int (-1), .int 0, .int 0, .null, .ref qm, .ref qe, .ref qo, .ref qi, .ref qw, .ref qt, .ref qs, .ref qp])), (qm, .inl (cm, 26, .inr (.inr (.inr (.inr (fun _ => none))))))]) hP hD [0, 1] [] rfl rfl (by decide) (by decide) hk1 hFc hP1 hD1
  generalize H1 = H at hP hS ⊢
  have hP : va_P (dC, dI) vwCl [(h0, .inr (0, [.ref qb, .int 0, .int (-1), .int 0, .int 0, .null, .ref qm, .ref qe, .ref qo, .ref qi, .ref qw, .ref qt, .ref qs, .ref qp])), (qm, .inl (cm, 26, .inr (.inr (.inr (.inr (fun _ => none))))))] H := hP
  have hD : va_D A [(h0, .inr (0, [.ref qb, .int 0, .int (-1), .int 0, .int 0, .null, .ref qm, .ref qe, .ref qo, .ref qi, .ref qw, .ref qt, .ref qs, .ref qp])), (qm, .inl (cm, 26, .inr (.inr (.inr (.inr (fun _ => none))))))] := hD
  subst hw_3
  refine lv_if_eq (tgt := 19) hx hb px_d38_6 (by decide) (fun _ => ?_) (fun h9 => absurd (by decide +kernel) h9)
  refine lv_iconst (v := (-1)) hx hb px_d38_19 (by decide) ?_
  have hP9 := hP.sub (ws' := [(h0, .inr (0, [.ref qb, .int 0, .int (-1), .int 0, .int 0, .null, .ref qm, .ref qe, .ref qo, .ref qi, .ref qw, .ref qt, .ref qs, .ref qp])), (qm, .inl (cm, 26, .inr (.inr (.inr (.inr (fun _ => none))))))]) [0, 1] rfl
  have hD9 := hD.sub (ws' := [(h0, .inr (0, [.ref qb, .int 0, .int (-1), .int 0, .int 0, .null, .ref qm, .ref qe, .ref qo, .ref qi, .ref qw, .ref qt, .ref qs, .ref qp])), (qm, .inl (cm, 26, .inr (.inr (.inr (.inr (fun _ => none))))))]) [0, 1] (by decide) rfl
  have hK9 := hK.sub (tys' := [(cm, .object "MatroidDesk$Matroid")]) [0] rfl
  refine W.widen (k := 0) (n := 0) (Nat.le_of_ble_eq_true rfl) (Nat.le_of_ble_eq_true rfl) ?_
  exact W.iret (v := (-1)) hx hb hr (fun t ht hW => ⟨⟨(-1), (), rfl, rfl, by rw [ht]; exact hP9, va_K.moved hW.alike hK9, hD9⟩, hS.F ht⟩) hS.2.2 px_d38_20
set_option maxHeartbeats 4000000 in
set_option maxRecDepth 100000 in
/-- deleted -/
theorem px_D_deleted (l : Launch) (dC : Nat → ClassId) (dI : Nat → Nat → Nat) (sz : Nat) (h0 : Nat) (qb : Nat) (qm : Nat) (qe : Nat) (qo : Nat) (qi : Nat) (qw : Nat) (qt : Nat) (qs : Nat) (qp : Nat) (cm : ClassId) (x : Int32) (y : Int32) : Met l px_y39 px_s39 ({ frames := 2, cells := 0, slots := 0, locals := 45 }) (va_Pc [.ref h0, .int x, .int y] (fun U => U.heap.size = sz ∧ va_P (dC, dI) vwCl [(h0, .inr (0, [.ref qb, .int 0, .int (-1), .int 0, .int 0, .null, .ref qm, .ref qe, .ref qo, .ref qi, .ref qw, .ref qt, .ref qs, .ref qp])), (qm, .inl (cm, 26, .inr (.inr (.inr (.inr (fun _ => none))))))] U.heap ∧ va_K (dC, dI) vwCl [(cm, .object "MatroidDesk$Matroid")] U ∧ va_D (fun _ => True) [(h0, .inr (0, [.ref qb, .int 0, .int (-1), .int 0, .int 0, .null, .ref qm, .ref qe, .ref qo, .ref qi, .ref qw, .ref qt, .ref qs, .ref qp])), (qm, .inl (cm, 26, .inr (.inr (.inr (.inr (fun _ => none))))))] ∧ px_N U)) (va_Qi (fun (r : Int32) (_ : Unit) => r = (-1)) (fun (_ : Unit) (t : State) => va_P (dC, dI) vwCl [(h0, .inr (0, [.ref qb, .int 0, .int (-1), .int 0, .int 0, .null, .ref qm, .ref qe, .ref qo, .ref qi, .ref qw, .ref qt, .ref qs, .ref qp])), (qm, .inl (cm, 26, .inr (.inr (.inr (.inr (fun _ => none))))))] t.heap ∧ va_K (dC, dI) vwCl [(cm, .object "MatroidDesk$Matroid")] t ∧ va_D (va_A [(h0, .inr (0, [.ref qb, .int 0, .int (-1), .int 0, .int 0, .null, .ref qm, .ref qe, .ref qo, .ref qi, .ref qw, .ref qt, .ref qs, .ref qp])), (qm, .inl (cm, 26, .inr (.inr (.inr (.inr (fun _ => none))))))] sz) [(h0, .inr (0, [.ref qb, .int 0, .int (-1), .int 0, .int 0, .null, .ref qm, .ref qe, .ref qo, .ref qi, .ref qw, .ref qt, .ref qs, .ref qp])), (qm, .inl (cm, 26, .inr (.inr (.inr (.inr (fun _ => none))))))]) (va_A [(h0, .inr (0, [.ref qb, .int 0, .int (-1), .int 0, .int 0, .null, .ref qm, .ref qe, .ref qo, .ref qi, .ref qw, .ref qt, .ref qs, .ref qp])), (qm, .inl (cm, 26, .inr (.inr (.inr (.inr (fun _ => none))))))] sz)) 0 0 (va_A [(h0, .inr (0, [.ref qb, .int 0, .int (-1), .int 0, .int 0, .null, .ref qm, .ref qe, .ref qo, .ref qi, .ref qw, .ref qt, .ref qs, .ref qp])), (qm, .inl (cm, 26, .inr (.inr (.inr (.inr (fun _ => none))))))] sz) := by
  refine Met.ofW (cc := prog_1_method_22_code) (maxL := 3) (ret := (some .int)) (by decide) rfl ?_
  intro p e s m args below meth c s₁ B hml hv
  obtain ⟨rfl, hsz, hP, hK, hD0, hN⟩ := hv
  have hx := B.exec
  have hb := B.bytes
  have hr := B.returns
  have htw : ∀ w ∈ px_all, w.before _ s = true := fun w h => atoms_spec (ws := px_s39) B.pre w (List.mem_cons_of_mem _ h)
  have hown : s.vm.findClass "MatroidDesk" = some m.cls := findClass_of_methodNamed B.named
  have hlocks := B.notSynchronized
  subst hsz
  have hD := hD0.self (sz := s.heap.size)
  generalize hAe : va_A [(h0, .inr (0, [.ref qb, .int 0, .int (-1), .int 0, .int 0, .null, .ref qm, .ref qe, .ref qo, .ref qi, .ref qw, .ref qt, .ref qs, .ref qp])), (qm, .inl (cm, 26, .inr (.inr (.inr (.inr (fun _ => none))))))] s.heap.size = A at hD ⊢
  have hA : ∀ q : Nat, s.heap.size ≤ q → A q := fun q h => by rw [← hAe]; exact Or.inr h
  have hS : va_S A s.heap s.heap [] := va_S.rf
  have hP : va_P (dC, dI) vwCl [(h0, .inr (0, [.ref qb, .int 0, .int (-1), .int 0, .int 0, .null, .ref qm, .ref qe, .ref qo, .ref qi, .ref qw, .ref qt, .ref qs, .ref qp])), (qm, .inl (cm, 26, .inr (.inr (.inr (.inr (fun _ => none))))))] s.heap := hP
  have hl := lv_entry ([.ref h0, .int x, .int y]) (n := 3) (Nat.le_of_ble_eq_true rfl)
  rw [lg_entry_eq]
  generalize (lg_sl ([.ref h0, .int x, .int y]) ++ List.replicate (3 - (lg_sl ([.ref h0, .int x, .int y])).length) Slot.unset).toArray = ls at hl ⊢
  have hl : lv_has ls 3 [(0, .ref h0), (1, .int x), (2, .int y)] := hl
  refine lv_aload_n hx hb px_d39_0 rfl (lv_at hl 0 rfl) ?_
  refine lv_iload_n hx hb px_d39_1 rfl (lv_at hl 1 rfl) ?_
  refine lv_iload_n hx hb px_d39_2 rfl (lv_at hl 2 rfl) ?_
  have hPc := hP.sub (ws' := [(h0, .inr (0, [.ref qb, .int 0, .int (-1), .int 0, .int 0, .null, .ref qm, .ref qe, .ref qo, .ref qi, .ref qw, .ref qt, .ref qs, .ref qp])), (qm, .inl (cm, 26, .inr (.inr (.inr (.inr (fun _ => none))))))]) [0, 1] rfl
  have hDc := hD.sub (ws' := [(h0, .inr (0, [.ref qb, .int 0, .int (-1), .int 0, .int 0, .null, .ref qm, .ref qe, .ref qo, .ref qi, .ref qw, .ref qt, .ref qs, .ref qp])), (qm, .inl (cm, 26, .inr (.inr (.inr (.inr (fun _ => none))))))]) [0, 1] (by decide) rfl
  have hKc := hK.sub (tys' := [(cm, .object "MatroidDesk$Matroid")]) [0] rfl
  have hFc := va_free (wc := [(h0, .inr (0, [.ref qb, .int 0, .int (-1), .int 0, .int 0, .null, .ref qm, .ref qe, .ref qo, .ref qi, .ref qw, .ref qt, .ref qs, .ref qp])), (qm, .inl (cm, 26, .inr (.inr (.inr (.inr (fun _ => none))))))]) hD hS hA [0, 1] rfl
  refine va_calli (va_runV (As := [.int x, .int y]) (rest := []) ⟨hx, hb, hml, hown, htw⟩ (px_D_isMinor l dC dI s.heap.size h0 qb qm qe qo qi qw qt qs qp cm x y) (cwV 2 htw (px_gv px_w388 px_w383 px_w384 px_w6 px_g37) rfl rfl rfl (by decide +kernel) ⟨Nat.le_of_ble_eq_true rfl, Nat.le_of_ble_eq_true rfl⟩) ⟨fun a U g mk q => by obtain ⟨q0, q1, qP, qK, qD, qN⟩ := q; exact ⟨q0, q1, qP, va_K.moved (u := U) (U := U.calling g mk a) (Vm.Alike.refl U.vm) qK, qD, qN.same rfl⟩, va_recv hK hP (ci := 0) (q0 := 0) rfl rfl, fun U hU hW => ⟨rfl, by rw [hU], by rw [hU]; exact hPc, va_K.moved hW.alike hKc, hDc.weaken (fun _ _ _ _ => trivial), hN.warm hW⟩⟩ rfl rfl hl.1 rfl (lv_room (Nat.le_of_ble_eq_true rfl)) px_d39_3 ⟨(Nat.le_of_ble_eq_true rfl), (Nat.le_of_ble_eq_true rfl)⟩) hS (fun q _ h => hFc q h) hFc (fun r u t H1 locs ht hvm hw_3 hB hz1 hk1 hS => ?_)
  obtain ⟨hP1, hK1, hD1⟩ := hB
  rw [ht] at hP1
  have hK1 := va_K.moved hvm.symm hK1
  obtain ⟨hP, hD⟩ := va_join (wr := []) (w1 := [(h0, .inr (0, [.ref qb, .int 0, .int (-1), .int 0, .int 0, .null, .ref qm, .ref qe, .ref qo, .ref qi, .ref qw, .ref qt, .ref qs, .ref qp])), (qm, .inl (cm, 26, .inr (.inr (.inr (.inr (fun _ => none))))))]) hP hD [0, 1] [] rfl rfl (by decide) (by decide) hk1 hFc hP1 hD1
  generalize H1 = H at hP hS ⊢
  have hP : va_P (dC, dI) vwCl [(h0, .inr (0, [.ref qb, .int 0, .int (-1), .int 0, .int 0, .null, .ref qm, .ref qe, .ref qo, .ref qi, .ref qw, .ref qt, .ref qs, .ref qp])), (qm, .inl (cm, 26, .inr (.inr (.inr (.inr (fun _ => none))))))] H := hP
  have hD : va_D A [(h0, .inr (0, [.ref qb, .int 0, .int (-1), .int 0, .int 0, .null, .ref qm, .ref qe, .ref qo, .ref qi, .ref qw, .ref qt, .ref qs, .ref qp])), (qm, .inl (cm, 26, .inr (.inr (.inr (.inr (fun _ => none))))))] := hD
  subst hw_3
  refine lv_if_eq (tgt := 19) hx hb px_d39_6 (by decide) (fun _ => ?_) (fun h9 => absurd (by decide +kernel) h9)
  refine lv_iconst (v := (-1)) hx hb px_d39_19 (by decide) ?_
  have hP9 := hP.sub (ws' := [(h0, .inr (0, [.ref qb, .int 0, .int (-1), .int 0, .int 0, .null, .ref qm, .ref qe, .ref qo, .ref qi, .ref qw, .ref qt, .ref qs, .ref qp])), (qm, .inl (cm, 26, .inr (.inr (.inr (.inr (fun _ => none))))))]) [0, 1] rfl
  have hD9 := hD.sub (ws' := [(h0, .inr (0, [.ref qb, .int 0, .int (-1), .int 0, .int 0, .null, .ref qm, .ref qe, .ref qo, .ref qi, .ref qw, .ref qt, .ref qs, .ref qp])), (qm, .inl (cm, 26, .inr (.inr (.inr (.inr (fun _ => none))))))]) [0, 1] (by decide) rfl
  have hK9 := hK.sub (tys' := [(cm, .object "MatroidDesk$Matroid")]) [0] rfl
  refine W.widen (k := 0) (n := 0) (Nat.le_of_ble_eq_true rfl) (Nat.le_of_ble_eq_true rfl) ?_
  exact W.iret (v := (-1)) hx hb hr (fun t ht hW => ⟨⟨(-1), (), rfl, rfl, by rw [ht]; exact hP9, va_K.moved hW.alike hK9, hD9⟩, hS.F ht⟩) hS.2.2 px_d39_20
set_option maxHeartbeats 4000000 in
set_option maxRecDepth 100000 in
/-- image -/
theorem px_D_image (l : Launch) (dC : Nat → ClassId) (dI : Nat → Nat → Nat) (sz : Nat) (h0 : Nat) (qb : Nat) (qm : Nat) (qe : Nat) (qo : Nat) (qi : Nat) (qw : Nat) (qt : Nat) (qs : Nat) (qp : Nat) (cm : ClassId) (x : Int32) (y : Int32) (z : Int32) : Met l px_y40 px_s40 ({ frames := 1, cells := 0, slots := 0, locals := 21 }) (va_Pc [.ref h0, .int x, .int y, .int z] (fun U => U.heap.size = sz ∧ va_P (dC, dI) vwCl [(h0, .inr (0, [.ref qb, .int 0, .int (-1), .int 0, .int 0, .null, .ref qm, .ref qe, .ref qo, .ref qi, .ref qw, .ref qt, .ref qs, .ref qp])), (qm, .inl (cm, 26, .inr (.inr (.inr (.inr (fun _ => none))))))] U.heap ∧ va_K (dC, dI) vwCl [(cm, .object "MatroidDesk$Matroid")] U ∧ va_D (fun _ => True) [(h0, .inr (0, [.ref qb, .int 0, .int (-1), .int 0, .int 0, .null, .ref qm, .ref qe, .ref qo, .ref qi, .ref qw, .ref qt, .ref qs, .ref qp])), (qm, .inl (cm, 26, .inr (.inr (.inr (.inr (fun _ => none))))))] ∧ px_N U)) (va_Qi (fun (r : Int32) (_ : Unit) => r = (-1)) (fun (_ : Unit) (t : State) => va_P (dC, dI) vwCl [(h0, .inr (0, [.ref qb, .int 0, .int (-1), .int 0, .int 0, .null, .ref qm, .ref qe, .ref qo, .ref qi, .ref qw, .ref qt, .ref qs, .ref qp])), (qm, .inl (cm, 26, .inr (.inr (.inr (.inr (fun _ => none))))))] t.heap ∧ va_K (dC, dI) vwCl [(cm, .object "MatroidDesk$Matroid")] t ∧ va_D (va_A [(h0, .inr (0, [.ref qb, .int 0, .int (-1), .int 0, .int 0, .null, .ref qm, .ref qe, .ref qo, .ref qi, .ref qw, .ref qt, .ref qs, .ref qp])), (qm, .inl (cm, 26, .inr (.inr (.inr (.inr (fun _ => none))))))] sz) [(h0, .inr (0, [.ref qb, .int 0, .int (-1), .int 0, .int 0, .null, .ref qm, .ref qe, .ref qo, .ref qi, .ref qw, .ref qt, .ref qs, .ref qp])), (qm, .inl (cm, 26, .inr (.inr (.inr (.inr (fun _ => none))))))]) (va_A [(h0, .inr (0, [.ref qb, .int 0, .int (-1), .int 0, .int 0, .null, .ref qm, .ref qe, .ref qo, .ref qi, .ref qw, .ref qt, .ref qs, .ref qp])), (qm, .inl (cm, 26, .inr (.inr (.inr (.inr (fun _ => none))))))] sz)) 0 0 (va_A [(h0, .inr (0, [.ref qb, .int 0, .int (-1), .int 0, .int 0, .null, .ref qm, .ref qe, .ref qo, .ref qi, .ref qw, .ref qt, .ref qs, .ref qp])), (qm, .inl (cm, 26, .inr (.inr (.inr (.inr (fun _ => none))))))] sz) := by
  refine Met.ofW (cc := prog_1_method_23_code) (maxL := 6) (ret := (some .int)) (by decide) rfl ?_
  intro p e s m args below meth c s₁ B hml hv
  obtain ⟨rfl, hsz, hP, hK, hD0, hN⟩ := hv
  have hx := B.exec
  have hb := B.bytes
  have hr := B.returns
  have htw : ∀ w ∈ px_all, w.before _ s = true := fun w h => atoms_spec (ws := px_s40) B.pre w (List.mem_cons_of_mem _ h)
  have hown : s.vm.findClass "MatroidDesk" = some m.cls := findClass_of_methodNamed B.named
  have hlocks := B.notSynchronized
  subst hsz
  have hD := hD0.self (sz := s.heap.size)
  generalize hAe : va_A [(h0, .inr (0, [.ref qb, .int 0, .int (-1), .int 0, .int 0, .null, .ref qm, .ref qe, .ref qo, .ref qi, .ref qw, .ref qt, .ref qs, .ref qp])), (qm, .inl (cm, 26, .inr (.inr (.inr (.inr (fun _ => none))))))] s.heap.size = A at hD ⊢
  have hA : ∀ q : Nat, s.heap.size ≤ q → A q := fun q h => by rw [← hAe]; exact Or.inr h
  have hS : va_S A s.heap s.heap [] := va_S.rf
  have hP : va_P (dC, dI) vwCl [(h0, .inr (0, [.ref qb, .int 0, .int (-1), .int 0, .int 0, .null, .ref qm, .ref qe, .ref qo, .ref qi, .ref qw, .ref qt, .ref qs, .ref qp])), (qm, .inl (cm, 26, .inr (.inr (.inr (.inr (fun _ => none))))))] s.heap := hP
  have hl := lv_entry ([.ref h0, .int x, .int y, .int z]) (n := 6) (Nat.le_of_ble_eq_true rfl)
  rw [lg_entry_eq]
  generalize (lg_sl ([.ref h0, .int x, .int y, .int z]) ++ List.replicate (6 - (lg_sl ([.ref h0, .int x, .int y, .int z])).length) Slot.unset).toArray = ls at hl ⊢
  have hl : lv_has ls 6 [(0, .ref h0), (1, .int x), (2, .int y), (3, .int z)] := hl
  refine lv_aload_n hx hb px_d40_0 rfl (lv_at hl 0 rfl) ?_
  refine lv_iload_n hx hb px_d40_1 rfl (lv_at hl 2 rfl) ?_
  have hPc := hP.sub (ws' := [(h0, .inr (0, [.ref qb, .int 0, .int (-1), .int 0, .int 0, .null, .ref qm, .ref qe, .ref qo, .ref qi, .ref qw, .ref qt, .ref qs, .ref qp])), (qm, .inl (cm, 26, .inr (.inr (.inr (.inr (fun _ => none))))))]) [0, 1] rfl
  have hDc := hD.sub (ws' := [(h0, .inr (0, [.ref qb, .int 0, .int (-1), .int 0, .int 0, .null, .ref qm, .ref qe, .ref qo, .ref qi, .ref qw, .ref qt, .ref qs, .ref qp])), (qm, .inl (cm, 26, .inr (.inr (.inr (.inr (fun _ => none))))))]) [0, 1] (by decide) rfl
  have hKc := hK.sub (tys' := [(cm, .object "MatroidDesk$Matroid")]) [0] rfl
  have hFc := va_free (wc := [(h0, .inr (0, [.ref qb, .int 0, .int (-1), .int 0, .int 0, .null, .ref qm, .ref qe, .ref qo, .ref qi, .ref qw, .ref qt, .ref qs, .ref qp])), (qm, .inl (cm, 26, .inr (.inr (.inr (.inr (fun _ => none))))))]) hD hS hA [0, 1] rfl
  refine va_callq (va_runV (As := [.int y]) (rest := []) ⟨hx, hb, hml, hown, htw⟩ (px_matroidAt l dC dI s.heap.size h0 qb qm qe qo qi qw qt qs qp cm y) (cwV 1 htw (px_gv px_w330 px_w344 px_w345 px_w6 px_g24) rfl rfl rfl (by decide +kernel) ⟨Nat.le_of_ble_eq_true rfl, Nat.le_of_ble_eq_true rfl⟩) ⟨fun a U g mk q => by obtain ⟨q0, q1, qP, qK, qD, qN⟩ := q; exact ⟨q0, q1, qP, va_K.moved (u := U) (U := U.calling g mk a) (Vm.Alike.refl U.vm) qK, qD, qN.same rfl⟩, va_recv hK hP (ci := 0) (q0 := 0) rfl rfl, fun U hU hW => ⟨rfl, by rw [hU], by rw [hU]; exact hPc, va_K.moved hW.alike hKc, hDc.weaken (fun _ _ _ _ => trivial), hN.warm hW⟩⟩ rfl rfl hl.1 rfl (lv_room (Nat.le_of_ble_eq_true rfl)) px_d40_2 ⟨(Nat.le_of_ble_eq_true rfl), (Nat.le_of_ble_eq_true rfl)⟩) hS (fun q _ h => hFc q h) hFc (fun r u t H1 locs ht hvm hw_2 hB hz1 hk1 hS => ?_)
  obtain ⟨hP1, hK1, hD1⟩ := hB
  rw [ht] at hP1
  have hK1 := va_K.moved hvm.symm hK1
  obtain ⟨hP, hD⟩ := va_join (wr := []) (w1 := [(h0, .inr (0, [.ref qb, .int 0, .int (-1), .int 0, .int 0, .null, .ref qm, .ref qe, .ref qo, .ref qi, .ref qw, .ref qt, .ref qs, .ref qp])), (qm, .inl (cm, 26, .inr (.inr (.inr (.inr (fun _ => none))))))]) hP hD [0, 1] [] rfl rfl (by decide) (by decide) hk1 hFc hP1 hD1
  generalize H1 = H at hP hS ⊢
  have hP : va_P (dC, dI) vwCl [(h0, .inr (0, [.ref qb, .int 0, .int (-1), .int 0, .int 0, .null, .ref qm, .ref qe, .ref qo, .ref qi, .ref qw, .ref qt, .ref qs, .ref qp])), (qm, .inl (cm, 26, .inr (.inr (.inr (.inr (fun _ => none))))))] H := hP
  have hD : va_D A [(h0, .inr (0, [.ref qb, .int 0, .int (-1), .int 0, .int 0, .null, .ref qm, .ref qe, .ref qo, .ref qi, .ref qw, .ref qt, .ref qs, .ref qp])), (qm, .inl (cm, 26, .inr (.inr (.inr (.inr (fun _ => none))))))] := hD
  subst hw_2
  refine W.eq (g2 := F0 m 5 ls (.null :: [])) rfl ?_
  refine lv_astoreN (lv' := [(4, .null), (0, .ref h0), (1, .int x), (2, .int y), (3, .int z)]) hx hb px_d40_5 hl (by decide) rfl (fun ls hl => ?_)
  refine lv_aloadN hx hb px_d40_7 (lv_at hl 0 rfl) ?_
  refine lv_ifnullN (tgt := 29) hx hb px_d40_9 (by decide) ?_
  refine lv_iconst (v := 0) hx hb px_d40_29 (by decide) ?_
  refine lv_istore (lv' := [(5, .int 0), (4, .null), (0, .ref h0), (1, .int x), (2, .int y), (3, .int z)]) hx hb px_d40_30 hl (by decide) rfl (fun ls hl => ?_)
  refine lv_iload hx hb px_d40_32 (lv_at hl 0 rfl) ?_
  refine lv_if_eq (tgt := 57) hx hb px_d40_34 (by decide) (fun _ => ?_) (fun h9 => absurd (by decide +kernel) h9)
  refine lv_iconst (v := (-1)) hx hb px_d40_57 (by decide) ?_
  have hP9 := hP.sub (ws' := [(h0, .inr (0, [.ref qb, .int 0, .int (-1), .int 0, .int 0, .null, .ref qm, .ref qe, .ref qo, .ref qi, .ref qw, .ref qt, .ref qs, .ref qp])), (qm, .inl (cm, 26, .inr (.inr (.inr (.inr (fun _ => none))))))]) [0, 1] rfl
  have hD9 := hD.sub (ws' := [(h0, .inr (0, [.ref qb, .int 0, .int (-1), .int 0, .int 0, .null, .ref qm, .ref qe, .ref qo, .ref qi, .ref qw, .ref qt, .ref qs, .ref qp])), (qm, .inl (cm, 26, .inr (.inr (.inr (.inr (fun _ => none))))))]) [0, 1] (by decide) rfl
  have hK9 := hK.sub (tys' := [(cm, .object "MatroidDesk$Matroid")]) [0] rfl
  refine W.widen (k := 0) (n := 0) (Nat.le_of_ble_eq_true rfl) (Nat.le_of_ble_eq_true rfl) ?_
  exact W.iret (v := (-1)) hx hb hr (fun t ht hW => ⟨⟨(-1), (), rfl, rfl, by rw [ht]; exact hP9, va_K.moved hW.alike hK9, hD9⟩, hS.F ht⟩) hS.2.2 px_d40_58
end
section
set_option maxHeartbeats 4000000 in
set_option maxRecDepth 100000 in
/-- takeInt(x) -/
theorem px_takeInt (l : Launch) (dC : Nat → ClassId) (dI : Nat → Nat → Nat) (sz : Nat) (h0 : Nat) (qb : Nat) (qm : Nat) (qe : Nat) (qo : Nat) (qi : Nat) (qw : Nat) (qt : Nat) (qs : Nat) (qp : Nat) (cb : ClassId) (k : Nat) (f : Nat → Int32) (x : Int32) (hk : k + 4 ≤ 512) : Met l px_y11 px_s11 ({ frames := 0, cells := 0, slots := 0, locals := 0 }) (va_Pc [.ref h0, .int x] (fun U => U.heap.size = sz ∧ va_P (dC, dI) vwCl [(h0, .inr (0, [.ref qb, .int (nI k), .int (-1), .int 0, .int 0, .null, .ref qm, .ref qe, .ref qo, .ref qi, .ref qw, .ref qt, .ref qs, .ref qp])), (qb, .inl (cb, 512, .inl f))] U.heap ∧ va_K (dC, dI) vwCl [(cb, .byte)] U ∧ va_D (fun _ => True) [(h0, .inr (0, [.ref qb, .int (nI k), .int (-1), .int 0, .int 0, .null, .ref qm, .ref qe, .ref qo, .ref qi, .ref qw, .ref qt, .ref qs, .ref qp])), (qb, .inl (cb, 512, .inl f))] ∧ px_N U)) (va_Qv (fun (_ : Unit) => True) (fun (_ : Unit) (t : State) => ∃ (f1 : Nat → Int32), va_P (dC, dI) vwCl [(h0, .inr (0, [.ref qb, .int (nI (k + 4)), .int (-1), .int 0, .int 0, .null, .ref qm, .ref qe, .ref qo, .ref qi, .ref qw, .ref qt, .ref qs, .ref qp])), (qb, .inl (cb, 512, .inl f1))] t.heap ∧ va_K (dC, dI) vwCl [(cb, .byte)] t ∧ va_D (va_A [(h0, .inr (0, [.ref qb, .int (nI k), .int (-1), .int 0, .int 0, .null, .ref qm, .ref qe, .ref qo, .ref qi, .ref qw, .ref qt, .ref qs, .ref qp])), (qb, .inl (cb, 512, .inl f))] sz) [(h0, .inr (0, [.ref qb, .int (nI (k + 4)), .int (-1), .int 0, .int 0, .null, .ref qm, .ref qe, .ref qo, .ref qi, .ref qw, .ref qt, .ref qs, .ref qp])), (qb, .inl (cb, 512, .inl f1))]) (va_A [(h0, .inr (0, [.ref qb, .int (nI k), .int (-1), .int 0, .int 0, .null, .ref qm, .ref qe, .ref qo, .ref qi, .ref qw, .ref qt, .ref qs, .ref qp])), (qb, .inl (cb, 512, .inl f))] sz)) 0 0 (va_A [(h0, .inr (0, [.ref qb, .int (nI k), .int (-1), .int 0, .int 0, .null, .ref qm, .ref qe, .ref qo, .ref qi, .ref qw, .ref qt, .ref qs, .ref qp])), (qb, .inl (cb, 512, .inl f))] sz) := by
  refine Met.ofW (cc := prog_1_method_26_code) (maxL := 3) (ret := none) (by decide) rfl ?_
  intro p e s m args below meth c s₁ B hml hv
  obtain ⟨rfl, hsz, hP, hK, hD0, hN⟩ := hv
  have hx := B.exec
  have hb := B.bytes
  have hr := B.returns
  have htw : ∀ w ∈ px_all, w.before _ s = true := fun w h => atoms_spec (ws := px_s11) B.pre w (List.mem_cons_of_mem _ h)
  have hown : s.vm.findClass "MatroidDesk" = some m.cls := findClass_of_methodNamed B.named
  have hlocks := B.notSynchronized
  subst hsz
  have hD := hD0.self (sz := s.heap.size)
  generalize hAe : va_A [(h0, .inr (0, [.ref qb, .int (nI k), .int (-1), .int 0, .int 0, .null, .ref qm, .ref qe, .ref qo, .ref qi, .ref qw, .ref qt, .ref qs, .ref qp])), (qb, .inl (cb, 512, .inl f))] s.heap.size = A at hD ⊢
  have hA : ∀ q : Nat, s.heap.size ≤ q → A q := fun q h => by rw [← hAe]; exact Or.inr h
  have hS : va_S A s.heap s.heap [] := va_S.rf
  have hP : va_P (dC, dI) vwCl [(h0, .inr (0, [.ref qb, .int (nI k), .int (-1), .int 0, .int 0, .null, .ref qm, .ref qe, .ref qo, .ref qi, .ref qw, .ref qt, .ref qs, .ref qp])), (qb, .inl (cb, 512, .inl f))] s.heap := hP
  have hl := lv_entry ([.ref h0, .int x]) (n := 3) (Nat.le_of_ble_eq_true rfl)
  rw [lg_entry_eq]
  generalize (lg_sl ([.ref h0, .int x]) ++ List.replicate (3 - (lg_sl ([.ref h0, .int x])).length) Slot.unset).toArray = ls at hl ⊢
  have hl : lv_has ls 3 [(0, .ref h0), (1, .int x)] := hl
  refine lv_bipush (v := 24) hx hb px_d11_0 (by decide) ?_
  refine lv_istore_n (lv' := [(2, .int 24), (0, .ref h0), (1, .int x)]) hx hb px_d11_2 rfl hl (by decide) rfl (fun ls hl => ?_)
  refine lv_iload_n hx hb px_d11_3 rfl (lv_at hl 0 rfl) ?_
  refine lv_if_lt (tgt := 36) hx hb px_d11_4 (by decide) (fun h9 => absurd h9 (by decide +kernel)) (fun _ => ?_)
  refine lv_aload_n hx hb px_d11_7 rfl (lv_at hl 1 rfl) ?_
  refine va_get (D := (dC, dI)) (ci := 0) (v := .ref qb) (C := "MatroidDesk") (T := px_T0) (N := 14) hx hb htw px_in0 hown hK hP 0 rfl rfl 0 (by decide) (htw _ px_w209) (fun _ h9 => h9) rfl px_d11_8 ?_
  refine lv_aload_n hx hb px_d11_11 rfl (lv_at hl 1 rfl) ?_
  refine va_get (D := (dC, dI)) (ci := 0) (v := .int (nI k)) (C := "MatroidDesk") (T := px_T0) (N := 14) hx hb htw px_in0 hown hK hP 0 rfl rfl 1 (by decide) (htw _ px_w210) (fun _ h9 => h9) rfl px_d11_12 ?_
  refine lv_iload_n hx hb px_d11_15 rfl (lv_at hl 2 rfl) ?_
  refine lv_iload_n hx hb px_d11_16 rfl (lv_at hl 0 rfl) ?_
  refine lv_ishr hx hb px_d11_17 ?_
  refine lv_i2b (v := (x >>> (24 &&& 31)).toInt8.toInt32) hx hb px_d11_18 rfl ?_
  refine va_bast hx hb hK hP hD hS 1 0 rfl rfl (vp_in_nI (show k < 512 by omega) (by decide)) px_d11_19 (fun H locs hP hD hS => ?_)
  have hP : va_P (dC, dI) vwCl [(h0, .inr (0, [.ref qb, .int (nI k), .int (-1), .int 0, .int 0, .null, .ref qm, .ref qe, .ref qo, .ref qi, .ref qw, .ref qt, .ref qs, .ref qp])), (qb, .inl (cb, 512, .inl (upd f (Int32.toNatClampNeg (nI k)) (vp_nar .byte ((x >>> (24 &&& 31)).toInt8.toInt32)))))] H := hP
  have hD : va_D A [(h0, .inr (0, [.ref qb, .int (nI k), .int (-1), .int 0, .int 0, .null, .ref qm, .ref qe, .ref qo, .ref qi, .ref qw, .ref qt, .ref qs, .ref qp])), (qb, .inl (cb, 512, .inl (upd f (Int32.toNatClampNeg (nI k)) (vp_nar .byte ((x >>> (24 &&& 31)).toInt8.toInt32)))))] := hD
  refine lv_aload_n hx hb px_d11_20 rfl (lv_at hl 1 rfl) ?_
  refine lv_dup hx hb px_d11_21 rfl ?_
  refine va_get (D := (dC, dI)) (ci := 0) (v := .int (nI k)) (C := "MatroidDesk") (T := px_T0) (N := 14) hx hb htw px_in0 hown hK hP 0 rfl rfl 1 (by decide) (htw _ px_w210) (fun _ h9 => h9) rfl px_d11_22 ?_
  refine lv_iconst (v := 1) hx hb px_d11_25 (by decide) ?_
  refine lv_iadd hx hb px_d11_26 ?_
  refine lv_topi (nm_r (e' := (nI (k + 1))) (nI_1 k) ?_)
  refine va_put (D := (dC, dI)) (ci := 0) (v := .int (nI (k + 1))) (ty := .int) (C := "MatroidDesk") (T := px_T0) (N := 14) hx hb htw px_in0 px_ty0 px_tyok0 px_nm0 hown hK hP hD hS 0 rfl rfl 1 (by decide) (htw _ px_w210) (fun _ h9 => h9) rfl (by decide +kernel) rfl rfl (Nat.le_of_ble_eq_true rfl) px_d11_27 (fun H locs hP hD hS => ?_)
  have hP : va_P (dC, dI) vwCl [(h0, .inr (0, [.ref qb, .int (nI (k + 1)), .int (-1), .int 0, .int 0, .null, .ref qm, .ref qe, .ref qo, .ref qi, .ref qw, .ref qt, .ref qs, .ref qp])), (qb, .inl (cb, 512, .inl (upd f (Int32.toNatClampNeg (nI k)) (vp_nar .byte ((x >>> (24 &&& 31)).toInt8.toInt32)))))] H := hP
  have hD : va_D A [(h0, .inr (0, [.ref qb, .int (nI (k + 1)), .int (-1), .int 0, .int 0, .null, .ref qm, .ref qe, .ref qo, .ref qi, .ref qw, .ref qt, .ref qs, .ref qp])), (qb, .inl (cb, 512, .inl (upd f (Int32.toNatClampNeg (nI k)) (vp_nar .byte ((x >>> (24 &&& 31)).toInt8.toInt32)))))] := hD
  refine lv_iinc (v := 16) (lv' := [(2, .int 16), (0, .ref h0), (1, .int x)]) hx hb px_d11_30 hl (k := 0) rfl (by decide +kernel) (by decide) rfl (fun ls hl => ?_)
  refine lv_goto (tgt := 3) hx hb px_d11_33 (by decide) ?_
  refine lv_iload_n hx hb px_d11_3 rfl (lv_at hl 0 rfl) ?_
  refine lv_if_lt (tgt := 36) hx hb px_d11_4 (by decide) (fun h9 => absurd h9 (by decide +kernel)) (fun _ => ?_)
  refine lv_aload_n hx hb px_d11_7 rfl (lv_at hl 1 rfl) ?_
  refine va_get (D := (dC, dI)) (ci := 0) (v := .ref qb) (C := "MatroidDesk") (T := px_T0) (N := 14) hx hb htw px_in0 hown hK hP 0 rfl rfl 0 (by decide) (htw _ px_w209) (fun _ h9 => h9) rfl px_d11_8 ?_
  refine lv_aload_n hx hb px_d11_11 rfl (lv_at hl 1 rfl) ?_
  refine va_get (D := (dC, dI)) (ci := 0) (v := .int (nI (k + 1))) (C := "MatroidDesk") (T := px_T0) (N := 14) hx hb htw px_in0 hown hK hP 0 rfl rfl 1 (by decide) (htw _ px_w210) (fun _ h9 => h9) rfl px_d11_12 ?_
  refine lv_iload_n hx hb px_d11_15 rfl (lv_at hl 2 rfl) ?_
  refine lv_iload_n hx hb px_d11_16 rfl (lv_at hl 0 rfl) ?_
  refine lv_ishr hx hb px_d11_17 ?_
  refine lv_i2b (v := (x >>> (16 &&& 31)).toInt8.toInt32) hx hb px_d11_18 rfl ?_
  refine va_bast hx hb hK hP hD hS 1 0 rfl rfl (vp_in_nI (show k + 1 < 512 by omega) (by decide)) px_d11_19 (fun H locs hP hD hS => ?_)
  have hP : va_P (dC, dI) vwCl [(h0, .inr (0, [.ref qb, .int (nI (k + 1)), .int (-1), .int 0, .int 0, .null, .ref qm, .ref qe, .ref qo, .ref qi, .ref qw, .ref qt, .ref qs, .ref qp])), (qb, .inl (cb, 512, .inl (upd (upd f (Int32.toNatClampNeg (nI k)) (vp_nar .byte ((x >>> (24 &&& 31)).toInt8.toInt32))) (Int32.toNatClampNeg (nI (k + 1))) (vp_nar .byte ((x >>> (16 &&& 31)).toInt8.toInt32)))))] H := hP
  have hD : va_D A [(h0, .inr (0, [.ref qb, .int (nI (k + 1)), .int (-1), .int 0, .int 0, .null, .ref qm, .ref qe, .ref qo, .ref qi, .ref qw, .ref qt, .ref qs, .ref qp])), (qb, .inl (cb, 512, .inl (upd (upd f (Int32.toNatClampNeg (nI k)) (vp_nar .byte ((x >>> (24 &&& 31)).toInt8.toInt32))) (Int32.toNatClampNeg (nI (k + 1))) (vp_nar .byte ((x >>> (16 &&& 31)).toInt8.toInt32)))))] := hD
  refine lv_aload_n hx hb px_d11_20 rfl (lv_at hl 1 rfl) ?_
  refine lv_dup hx hb px_d11_21 rfl ?_
  refine va_get (D := (dC, dI)) (ci := 0) (v := .int (nI (k + 1))) (C := "MatroidDesk") (T := px_T0) (N := 14) hx hb htw px_in0 hown hK hP 0 rfl rfl 1 (by decide) (htw _ px_w210) (fun _ h9 => h9) rfl px_d11_22 ?_
  refine lv_iconst (v := 1) hx hb px_d11_25 (by decide) ?_
  refine lv_iadd hx hb px_d11_26 ?_
  refine lv_topi (nm_r (e' := (nI (k + 2))) (nI_1 (k + 1)) ?_)
  refine va_put (D := (dC, dI)) (ci := 0) (v := .int (nI (k + 2))) (ty := .int) (C := "MatroidDesk") (T := px_T0) (N := 14) hx hb htw px_in0 px_ty0 px_tyok0 px_nm0 hown hK hP hD hS 0 rfl rfl 1 (by decide) (htw _ px_w210) (fun _ h9 => h9) rfl (by decide +kernel) rfl rfl (Nat.le_of_ble_eq_true rfl) px_d11_27 (fun H locs hP hD hS => ?_)
  have hP : va_P (dC, dI) vwCl [(h0, .inr (0, [.ref qb, .int (nI (k + 2)), .int (-1), .int 0, .int 0, .null, .ref qm, .ref qe, .ref qo, .ref qi, .ref qw, .ref qt, .ref qs, .ref qp])), (qb, .inl (cb, 512, .inl (upd (upd f (Int32.toNatClampNeg (nI k)) (vp_nar .byte ((x >>> (24 &&& 31)).toInt8.toInt32))) (Int32.toNatClampNeg (nI (k + 1))) (vp_nar .byte ((x >>> (16 &&& 31)).toInt8.toInt32)))))] H := hP
  have hD : va_D A [(h0, .inr (0, [.ref qb, .int (nI (k + 2)), .int (-1), .int 0, .int 0, .null, .ref qm, .ref qe, .ref qo, .ref qi, .ref qw, .ref qt, .ref qs, .ref qp])), (qb, .inl (cb, 512, .inl (upd (upd f (Int32.toNatClampNeg (nI k)) (vp_nar .byte ((x >>> (24 &&& 31)).toInt8.toInt32))) (Int32.toNatClampNeg (nI (k + 1))) (vp_nar .byte ((x >>> (16 &&& 31)).toInt8.toInt32)))))] := hD
  refine lv_iinc (v := 8) (lv' := [(2, .int 8), (0, .ref h0), (1, .int x)]) hx hb px_d11_30 hl (k := 0) rfl (by decide +kernel) (by decide) rfl (fun ls hl => ?_)
  refine lv_goto (tgt := 3) hx hb px_d11_33 (by decide) ?_
  refine lv_iload_n hx hb px_d11_3 rfl (lv_at hl 0 rfl) ?_
  refine lv_if_lt (tgt := 36) hx hb px_d11_4 (by decide) (fun h9 => absurd h9 (by decide +kernel)) (fun _ => ?_)
  refine lv_aload_n hx hb px_d11_7 rfl (lv_at hl 1 rfl) ?_
  refine va_get (D := (dC, dI)) (ci := 0) (v := .ref qb) (C := "MatroidDesk") (T := px_T0) (N := 14) hx hb htw px_in0 hown hK hP 0 rfl rfl 0 (by decide) (htw _ px_w209) (fun _ h9 => h9) rfl px_d11_8 ?_
  refine lv_aload_n hx hb px_d11_11 rfl (lv_at hl 1 rfl) ?_
  refine va_get (D := (dC, dI)) (ci := 0) (v := .int (nI (k + 2))) (C := "MatroidDesk") (T := px_T0) (N := 14) hx hb htw px_in0 hown hK hP 0 rfl rfl 1 (by decide) (htw _ px_w210) (fun _ h9 => h9) rfl px_d11_12 ?_
  refine lv_iload_n hx hb px_d11_15 rfl (lv_at hl 2 rfl) ?_
  refine lv_iload_n hx hb px_d11_16 rfl (lv_at hl 0 rfl) ?_
  refine lv_ishr hx hb px_d11_17 ?_
  refine lv_i2b (v := (x >>> (8 &&& 31)).toInt8.toInt32) hx hb px_d11_18 rfl ?_
  refine va_bast hx hb hK hP hD hS 1 0 rfl rfl (vp_in_nI (show k + 2 < 512 by omega) (by decide)) px_d11_19 (fun H locs hP hD hS => ?_)
  have hP : va_P (dC, dI) vwCl [(h0, .inr (0, [.ref qb, .int (nI (k + 2)), .int (-1), .int 0, .int 0, .null, .ref qm, .ref qe, .ref qo, .ref qi, .ref qw, .ref qt, .ref qs, .ref qp])), (qb, .inl (cb, 512, .inl (upd (upd (upd f (Int32.toNatClampNeg (nI k)) (vp_nar .byte ((x >>> (24 &&& 31)).toInt8.toInt32))) (Int32.toNatClampNeg (nI (k + 1))) (vp_nar .byte ((x >>> (16 &&& 31)).toInt8.toInt32))) (Int32.toNatClampNeg (nI (k + 2))) (vp_nar .byte ((x >>> (8 &&& 31)).toInt8.toInt32)))))] H := hP
  have hD : va_D A [(h0, .inr (0, [.ref qb, .int (nI (k + 2)), .int (-1), .int 0, .int 0, .null, .ref qm, .ref qe, .ref qo, .ref qi, .ref qw, .ref qt, .ref qs, .ref qp])), (qb, .inl (cb, 512, .inl (upd (upd (upd f (Int32.toNatClampNeg (nI k)) (vp_nar .byte ((x >>> (24 &&& 31)).toInt8.toInt32))) (Int32.toNatClampNeg (nI (k + 1))) (vp_nar .byte ((x >>> (16 &&& 31)).toInt8.toInt32))) (Int32.toNatClampNeg (nI (k + 2))) (vp_nar .byte ((x >>> (8 &&& 31)).toInt8.toInt32)))))] := hD
  refine lv_aload_n hx hb px_d11_20 rfl (lv_at hl 1 rfl) ?_
  refine lv_dup hx hb px_d11_21 rfl ?_
  refine va_get (D := (dC, dI)) (ci := 0) (v := .int (nI (k + 2))) (C := "MatroidDesk") (T := px_T0) (N := 14) hx hb htw px_in0 hown hK hP 0 rfl rfl 1 (by decide) (htw _ px_w210) (fun _ h9 => h9) rfl px_d11_22 ?_
  refine lv_iconst (v := 1) hx hb px_d11_25 (by decide) ?_
  refine lv_iadd hx hb px_d11_26 ?_
  refine lv_topi (nm_r (e' := (nI (k + 3))) (nI_1 (k + 2)) ?_)
  refine va_put (D := (dC, dI)) (ci := 0) (v := .int (nI (k + 3))) (ty := .int) (C := "MatroidDesk") (T := px_T0) (N := 14) hx hb htw px_in0 px_ty0 px_tyok0 px_nm0 hown hK hP hD hS 0 rfl rfl 1 (by decide) (htw _ px_w210) (fun _ h9 => h9) rfl (by decide +kernel) rfl rfl (Nat.le_of_ble_eq_true rfl) px_d11_27 (fun H locs hP hD hS => ?_)
  have hP : va_P (dC, dI) vwCl [(h0, .inr (0, [.ref qb, .int (nI (k + 3)), .int (-1), .int 0, .int 0, .null, .ref qm, .ref qe, .ref qo, .ref qi, .ref qw, .ref qt, .ref qs, .ref qp])), (qb, .inl (cb, 512, .inl (upd (upd (upd f (Int32.toNatClampNeg (nI k)) (vp_nar .byte ((x >>> (24 &&& 31)).toInt8.toInt32))) (Int32.toNatClampNeg (nI (k + 1))) (vp_nar .byte ((x >>> (16 &&& 31)).toInt8.toInt32))) (Int32.toNatClampNeg (nI (k + 2))) (vp_nar .byte ((x >>> (8 &&& 31)).toInt8.toInt32)))))] H := hP
  have hD : va_D A [(h0, .inr (0, [.ref qb, .int (nI (k + 3)), .int (-1), .int 0, .int 0, .null, .ref qm, .ref qe, .ref qo, .ref qi, .ref qw, .ref qt, .ref qs, .ref qp])), (qb, .inl (cb, 512, .inl (upd (upd (upd f (Int32.toNatClampNeg (nI k)) (vp_nar .byte ((x >>> (24 &&& 31)).toInt8.toInt32))) (Int32.toNatClampNeg (nI (k + 1))) (vp_nar .byte ((x >>> (16 &&& 31)).toInt8.toInt32))) (Int32.toNatClampNeg (nI (k + 2))) (vp_nar .byte ((x >>> (8 &&& 31)).toInt8.toInt32)))))] := hD
  refine lv_iinc (v := 0) (lv' := [(2, .int 0), (0, .ref h0), (1, .int x)]) hx hb px_d11_30 hl (k := 0) rfl (by decide +kernel) (by decide) rfl (fun ls hl => ?_)
  refine lv_goto (tgt := 3) hx hb px_d11_33 (by decide) ?_
  refine lv_iload_n hx hb px_d11_3 rfl (lv_at hl 0 rfl) ?_
  refine lv_if_lt (tgt := 36) hx hb px_d11_4 (by decide) (fun h9 => absurd h9 (by decide +kernel)) (fun _ => ?_)
  refine lv_aload_n hx hb px_d11_7 rfl (lv_at hl 1 rfl) ?_
  refine va_get (D := (dC, dI)) (ci := 0) (v := .ref qb) (C := "MatroidDesk") (T := px_T0) (N := 14) hx hb htw px_in0 hown hK hP 0 rfl rfl 0 (by decide) (htw _ px_w209) (fun _ h9 => h9) rfl px_d11_8 ?_
  refine lv_aload_n hx hb px_d11_11 rfl (lv_at hl 1 rfl) ?_
  refine va_get (D := (dC, dI)) (ci := 0) (v := .int (nI (k + 3))) (C := "MatroidDesk") (T := px_T0) (N := 14) hx hb htw px_in0 hown hK hP 0 rfl rfl 1 (by decide) (htw _ px_w210) (fun _ h9 => h9) rfl px_d11_12 ?_
  refine lv_iload_n hx hb px_d11_15 rfl (lv_at hl 2 rfl) ?_
  refine lv_iload_n hx hb px_d11_16 rfl (lv_at hl 0 rfl) ?_
  refine lv_ishr hx hb px_d11_17 ?_
  refine lv_i2b (v := (x >>> (0 &&& 31)).toInt8.toInt32) hx hb px_d11_18 rfl ?_
  refine va_bast hx hb hK hP hD hS 1 0 rfl rfl (vp_in_nI (show k + 3 < 512 by omega) (by decide)) px_d11_19 (fun H locs hP hD hS => ?_)
  have hP : va_P (dC, dI) vwCl [(h0, .inr (0, [.ref qb, .int (nI (k + 3)), .int (-1), .int 0, .int 0, .null, .ref qm, .ref qe, .ref qo, .ref qi, .ref qw, .ref qt, .ref qs, .ref qp])), (qb, .inl (cb, 512, .inl (upd (upd (upd (upd f (Int32.toNatClampNeg (nI k)) (vp_nar .byte ((x >>> (24 &&& 31)).toInt8.toInt32))) (Int32.toNatClampNeg (nI (k + 1))) (vp_nar .byte ((x >>> (16 &&& 31)).toInt8.toInt32))) (Int32.toNatClampNeg (nI (k + 2))) (vp_nar .byte ((x >>> (8 &&& 31)).toInt8.toInt32))) (Int32.toNatClampNeg (nI (k + 3))) (vp_nar .byte ((x >>> (0 &&& 31)).toInt8.toInt32)))))] H := hP
  have hD : va_D A [(h0, .inr (0, [.ref qb, .int (nI (k + 3)), .int (-1), .int 0, .int 0, .null, .ref qm, .ref qe, .ref qo, .ref qi, .ref qw, .ref qt, .ref qs, .ref qp])), (qb, .inl (cb, 512, .inl (upd (upd (upd (upd f (Int32.toNatClampNeg (nI k)) (vp_nar .byte ((x >>> (24 &&& 31)).toInt8.toInt32))) (Int32.toNatClampNeg (nI (k + 1))) (vp_nar .byte ((x >>> (16 &&& 31)).toInt8.toInt32))) (Int32.toNatClampNeg (nI (k + 2))) (vp_nar .byte ((x >>> (8 &&& 31)).toInt8.toInt32))) (Int32.toNatClampNeg (nI (k + 3))) (vp_nar .byte ((x >>> (0 &&& 31)).toInt8.toInt32)))))] := hD
  refine lv_aload_n hx hb px_d11_20 rfl (lv_at hl 1 rfl) ?_
  refine lv_dup hx hb px_d11_21 rfl ?_
  refine va_get (D := (dC, dI)) (ci := 0) (v := .int (nI (k + 3))) (C := "MatroidDesk") (T := px_T0) (N := 14) hx hb htw px_in0 hown hK hP 0 rfl rfl 1 (by decide) (htw _ px_w210) (fun _ h9 => h9) rfl px_d11_22 ?_
  refine lv_iconst (v := 1) hx hb px_d11_25 (by decide) ?_
  refine lv_iadd hx hb px_d11_26 ?_
  refine lv_topi (nm_r (e' := (nI (k + 4))) (nI_1 (k + 3)) ?_)
  refine va_put (D := (dC, dI)) (ci := 0) (v := .int (nI (k + 4))) (ty := .int) (C := "MatroidDesk") (T := px_T0) (N := 14) hx hb htw px_in0 px_ty0 px_tyok0 px_nm0 hown hK hP hD hS 0 rfl rfl 1 (by decide) (htw _ px_w210) (fun _ h9 => h9) rfl (by decide +kernel) rfl rfl (Nat.le_of_ble_eq_true rfl) px_d11_27 (fun H locs hP hD hS => ?_)
  have hP : va_P (dC, dI) vwCl [(h0, .inr (0, [.ref qb, .int (nI (k + 4)), .int (-1), .int 0, .int 0, .null, .ref qm, .ref qe, .ref qo, .ref qi, .ref qw, .ref qt, .ref qs, .ref qp])), (qb, .inl (cb, 512, .inl (upd (upd (upd (upd f (Int32.toNatClampNeg (nI k)) (vp_nar .byte ((x >>> (24 &&& 31)).toInt8.toInt32))) (Int32.toNatClampNeg (nI (k + 1))) (vp_nar .byte ((x >>> (16 &&& 31)).toInt8.toInt32))) (Int32.toNatClampNeg (nI (k + 2))) (vp_nar .byte ((x >>> (8 &&& 31)).toInt8.toInt32))) (Int32.toNatClampNeg (nI (k + 3))) (vp_nar .byte ((x >>> (0 &&& 31)).toInt8.toInt32)))))] H := hP
  have hD : va_D A [(h0, .inr (0, [.ref qb, .int (nI (k + 4)), .int (-1), .int 0, .int 0, .null, .ref qm, .ref qe, .ref qo, .ref qi, .ref qw, .ref qt, .ref qs, .ref qp])), (qb, .inl (cb, 512, .inl (upd (upd (upd (upd f (Int32.toNatClampNeg (nI k)) (vp_nar .byte ((x >>> (24 &&& 31)).toInt8.toInt32))) (Int32.toNatClampNeg (nI (k + 1))) (vp_nar .byte ((x >>> (16 &&& 31)).toInt8.toInt32))) (Int32.toNatClampNeg (nI (k + 2))) (vp_nar .byte ((x >>> (8 &&& 31)).toInt8.toInt32))) (Int32.toNatClampNeg (nI (k + 3))) (vp_nar .byte ((x >>> (0 &&& 31)).toInt8.toInt32)))))] := hD
  refine lv_iinc (v := (-8)) (lv' := [(2, .int (-8)), (0, .ref h0), (1, .int x)]) hx hb px_d11_30 hl (k := 0) rfl (by decide +kernel) (by decide) rfl (fun ls hl => ?_)
  refine lv_goto (tgt := 3) hx hb px_d11_33 (by decide) ?_
  refine lv_iload_n hx hb px_d11_3 rfl (lv_at hl 0 rfl) ?_
  refine lv_if_lt (tgt := 36) hx hb px_d11_4 (by decide) (fun _ => ?_) (fun h9 => absurd (by decide +kernel) h9)
  have hP9 := hP.sub (ws' := [(h0, .inr (0, [.ref qb, .int (nI (k + 4)), .int (-1), .int 0, .int 0, .null, .ref qm, .ref qe, .ref qo, .ref qi, .ref qw, .ref qt, .ref qs, .ref qp])), (qb, .inl (cb, 512, .inl (upd (upd (upd (upd f (Int32.toNatClampNeg (nI k)) (vp_nar .byte ((x >>> (24 &&& 31)).toInt8.toInt32))) (Int32.toNatClampNeg (nI (k + 1))) (vp_nar .byte ((x >>> (16 &&& 31)).toInt8.toInt32))) (Int32.toNatClampNeg (nI (k + 2))) (vp_nar .byte ((x >>> (8 &&& 31)).toInt8.toInt32))) (Int32.toNatClampNeg (nI (k + 3))) (vp_nar .byte ((x >>> (0 &&& 31)).toInt8.toInt32)))))]) [0, 1] rfl
  have hD9 := hD.sub (ws' := [(h0, .inr (0, [.ref qb, .int (nI (k + 4)), .int (-1), .int 0, .int 0, .null, .ref qm, .ref qe, .ref qo, .ref qi, .ref qw, .ref qt, .ref qs, .ref qp])), (qb, .inl (cb, 512, .inl (upd (upd (upd (upd f (Int32.toNatClampNeg (nI k)) (vp_nar .byte ((x >>> (24 &&& 31)).toInt8.toInt32))) (Int32.toNatClampNeg (nI (k + 1))) (vp_nar .byte ((x >>> (16 &&& 31)).toInt8.toInt32))) (Int32.toNatClampNeg (nI (k + 2))) (vp_nar .byte ((x >>> (8 &&& 31)).toInt8.toInt32))) (Int32.toNatClampNeg (nI (k + 3))) (vp_nar .byte ((x >>> (0 &&& 31)).toInt8.toInt32)))))]) [0, 1] (by decide) rfl
  have hK9 := hK.sub (tys' := [(cb, .byte)]) [0] rfl
  refine W.widen (k := 0) (n := 0) (Nat.le_of_ble_eq_true rfl) (Nat.le_of_ble_eq_true rfl) ?_
  exact W.vret hx hb hr (fun t ht hW => ⟨⟨(), rfl, trivial, (upd (upd (upd (upd f (Int32.toNatClampNeg (nI k)) (vp_nar .byte ((x >>> (24 &&& 31)).toInt8.toInt32))) (Int32.toNatClampNeg (nI (k + 1))) (vp_nar .byte ((x >>> (16 &&& 31)).toInt8.toInt32))) (Int32.toNatClampNeg (nI (k + 2))) (vp_nar .byte ((x >>> (8 &&& 31)).toInt8.toInt32))) (Int32.toNatClampNeg (nI (k + 3))) (vp_nar .byte ((x >>> (0 &&& 31)).toInt8.toInt32))), by rw [ht]; exact hP9, va_K.moved hW.alike hK9, hD9⟩, hS.F ht⟩) hS.2.2 px_d11_36
set_option maxHeartbeats 4000000 in
set_option maxRecDepth 100000 in
/-- feed -/
theorem px_D_feed (l : Launch) (dC : Nat → ClassId) (dI : Nat → Nat → Nat) (sz : Nat) (h0 : Nat) (qb : Nat) (qm : Nat) (qe : Nat) (qo : Nat) (qi : Nat) (qw : Nat) (qt : Nat) (qs : Nat) (qp : Nat) (cb : ClassId) (x1 : Int32) (x2 : Int32) (x3 : Int32) (x4 : Int32) (x5 : Int32) : Met l px_y12 px_s12 ({ frames := 1, cells := 0, slots := 0, locals := 22 }) (va_Pc [.ref h0, .int x1, .int x2, .int x3, .int x4, .int x5] (fun U => U.heap.size = sz ∧ va_P (dC, dI) vwCl [(h0, .inr (0, [.ref qb, .int 0, .int (-1), .int 0, .int 0, .null, .ref qm, .ref qe, .ref qo, .ref qi, .ref qw, .ref qt, .ref qs, .ref qp])), (qb, .inl (cb, 512, .inl (fun _ => 0)))] U.heap ∧ va_K (dC, dI) vwCl [(cb, .byte)] U ∧ va_D (fun _ => True) [(h0, .inr (0, [.ref qb, .int 0, .int (-1), .int 0, .int 0, .null, .ref qm, .ref qe, .ref qo, .ref qi, .ref qw, .ref qt, .ref qs, .ref qp])), (qb, .inl (cb, 512, .inl (fun _ => 0)))] ∧ px_N U)) (va_Qv (fun (_ : Unit) => True) (fun (_ : Unit) (t : State) => va_P (dC, dI) vwCl [] t.heap ∧ va_K (dC, dI) vwCl [(cb, .byte)] t ∧ va_D (va_A [(h0, .inr (0, [.ref qb, .int 0, .int (-1), .int 0, .int 0, .null, .ref qm, .ref qe, .ref qo, .ref qi, .ref qw, .ref qt, .ref qs, .ref qp])), (qb, .inl (cb, 512, .inl (fun _ => 0)))] sz) []) (va_A [(h0, .inr (0, [.ref qb, .int 0, .int (-1), .int 0, .int 0, .null, .ref qm, .ref qe, .ref qo, .ref qi, .ref qw, .ref qt, .ref qs, .ref qp])), (qb, .inl (cb, 512, .inl (fun _ => 0)))] sz)) 0 0 (va_A [(h0, .inr (0, [.ref qb, .int 0, .int (-1), .int 0, .int 0, .null, .ref qm, .ref qe, .ref qo, .ref qi, .ref qw, .ref qt, .ref qs, .ref qp])), (qb, .inl (cb, 512, .inl (fun _ => 0)))] sz) := by
  refine Met.ofW (cc := prog_1_method_2_code) (maxL := 6) (ret := none) (by decide) rfl ?_
  intro p e s m args below meth c s₁ B hml hv
  obtain ⟨rfl, hsz, hP, hK, hD0, hN⟩ := hv
  have hx := B.exec
  have hb := B.bytes
  have hr := B.returns
  have htw : ∀ w ∈ px_all, w.before _ s = true := fun w h => atoms_spec (ws := px_s12) B.pre w (List.mem_cons_of_mem _ h)
  have hown : s.vm.findClass "MatroidDesk" = some m.cls := findClass_of_methodNamed B.named
  have hlocks := B.notSynchronized
  subst hsz
  have hD := hD0.self (sz := s.heap.size)
  generalize hAe : va_A [(h0, .inr (0, [.ref qb, .int 0, .int (-1), .int 0, .int 0, .null, .ref qm, .ref qe, .ref qo, .ref qi, .ref qw, .ref qt, .ref qs, .ref qp])), (qb, .inl (cb, 512, .inl (fun _ => 0)))] s.heap.size = A at hD ⊢
  have hA : ∀ q : Nat, s.heap.size ≤ q → A q := fun q h => by rw [← hAe]; exact Or.inr h
  have hS : va_S A s.heap s.heap [] := va_S.rf
  have hP : va_P (dC, dI) vwCl [(h0, .inr (0, [.ref qb, .int 0, .int (-1), .int 0, .int 0, .null, .ref qm, .ref qe, .ref qo, .ref qi, .ref qw, .ref qt, .ref qs, .ref qp])), (qb, .inl (cb, 512, .inl (fun _ => 0)))] s.heap := hP
  have hl := lv_entry ([.ref h0, .int x1, .int x2, .int x3, .int x4, .int x5]) (n := 6) (Nat.le_of_ble_eq_true rfl)
  rw [lg_entry_eq]
  generalize (lg_sl ([.ref h0, .int x1, .int x2, .int x3, .int x4, .int x5]) ++ List.replicate (6 - (lg_sl ([.ref h0, .int x1, .int x2, .int x3, .int x4, .int x5])).length) Slot.unset).toArray = ls at hl ⊢
  have hl : lv_has ls 6 [(0, .ref h0), (1, .int x1), (2, .int x2), (3, .int x3), (4, .int x4), (5, .int x5)] := hl
  refine lv_aload_n hx hb px_d12_0 rfl (lv_at hl 0 rfl) ?_
  refine va_get (D := (dC, dI)) (ci := 0) (v := .int 0) (C := "MatroidDesk") (T := px_T0) (N := 14) hx hb htw px_in0 hown hK hP 0 rfl rfl 1 (by decide) (htw _ px_w210) (fun _ h9 => h9) rfl px_d12_1 ?_
  refine lv_bipush (v := 20) hx hb px_d12_4 (by decide) ?_
  refine lv_iadd hx hb px_d12_6 ?_
  refine lv_topi (nm_r (e' := (20 : Int32)) (by decide +kernel) ?_)
  refine lv_sipush (v := 16384) hx hb px_d12_7 (by decide) ?_
  refine lv_icmp_le (tgt := 23) hx hb px_d12_10 (by decide) (fun _ => ?_) (fun h9 => absurd (by decide +kernel) h9)
  refine lv_aload_n hx hb px_d12_23 rfl (lv_at hl 0 rfl) ?_
  refine va_get (D := (dC, dI)) (ci := 0) (v := .int 0) (C := "MatroidDesk") (T := px_T0) (N := 14) hx hb htw px_in0 hown hK hP 0 rfl rfl 1 (by decide) (htw _ px_w210) (fun _ h9 => h9) rfl px_d12_24 ?_
  refine lv_bipush (v := 20) hx hb px_d12_27 (by decide) ?_
  refine lv_iadd hx hb px_d12_29 ?_
  refine lv_topi (nm_r (e' := (20 : Int32)) (by decide +kernel) ?_)
  refine lv_aload_n hx hb px_d12_30 rfl (lv_at hl 0 rfl) ?_
  refine va_get (D := (dC, dI)) (ci := 0) (v := .ref qb) (C := "MatroidDesk") (T := px_T0) (N := 14) hx hb htw px_in0 hown hK hP 0 rfl rfl 0 (by decide) (htw _ px_w209) (fun _ h9 => h9) rfl px_d12_31 ?_
  refine va_alen (v := 512) hx hb hK hP 1 0 rfl rfl (by decide +kernel) px_d12_34 ?_
  refine lv_icmp_le (tgt := 56) hx hb px_d12_35 (by decide) (fun _ => ?_) (fun h9 => absurd (by decide +kernel) h9)
  refine lv_aload_n hx hb px_d12_56 rfl (lv_at hl 0 rfl) ?_
  refine lv_iload_n hx hb px_d12_57 rfl (lv_at hl 1 rfl) ?_
  have hPc := hP.sub (ws' := [(h0, .inr (0, [.ref qb, .int (nI 0), .int (-1), .int 0, .int 0, .null, .ref qm, .ref qe, .ref qo, .ref qi, .ref qw, .ref qt, .ref qs, .ref qp])), (qb, .inl (cb, 512, .inl (fun _ => 0)))]) [0, 1] rfl
  have hDc := hD.sub (ws' := [(h0, .inr (0, [.ref qb, .int (nI 0), .int (-1), .int 0, .int 0, .null, .ref qm, .ref qe, .ref qo, .ref qi, .ref qw, .ref qt, .ref qs, .ref qp])), (qb, .inl (cb, 512, .inl (fun _ => 0)))]) [0, 1] (by decide) rfl
  have hKc := hK.sub (tys' := [(cb, .byte)]) [0] rfl
  have hFc := va_free (wc := [(h0, .inr (0, [.ref qb, .int (nI 0), .int (-1), .int 0, .int 0, .null, .ref qm, .ref qe, .ref qo, .ref qi, .ref qw, .ref qt, .ref qs, .ref qp])), (qb, .inl (cb, 512, .inl (fun _ => 0)))]) hD hS hA [0, 1] rfl
  refine va_callv (va_runV (As := [.int x1]) (rest := []) ⟨hx, hb, hml, hown, htw⟩ (px_takeInt l dC dI s.heap.size h0 qb qm qe qo qi qw qt qs qp cb 0 (fun _ => 0) x1 (by decide)) (cwV 1 htw (px_gv px_w296 px_w290 px_w291 px_w6 px_g11) rfl rfl rfl (by decide +kernel) ⟨Nat.le_of_ble_eq_true rfl, Nat.le_of_ble_eq_true rfl⟩) ⟨fun a U g mk q => by obtain ⟨q0, q1, qP, qK, qD, qN⟩ := q; exact ⟨q0, q1, qP, va_K.moved (u := U) (U := U.calling g mk a) (Vm.Alike.refl U.vm) qK, qD, qN.same rfl⟩, va_recv hK hP (ci := 0) (q0 := 0) rfl rfl, fun U hU hW => ⟨rfl, by rw [hU], by rw [hU]; exact hPc, va_K.moved hW.alike hKc, hDc.weaken (fun _ _ _ _ => trivial), hN.warm hW⟩⟩ rfl rfl hl.1 rfl (lv_room (Nat.le_of_ble_eq_true rfl)) px_d12_58 ⟨(Nat.le_of_ble_eq_true rfl), (Nat.le_of_ble_eq_true rfl)⟩) hS (fun q _ h => hFc q h) hFc (fun u t H1 locs ht hvm hw_58 hB hz1 hk1 hS => ?_)
  obtain ⟨f1, hP1, hK1, hD1⟩ := hB
  rw [ht] at hP1
  have hK1 := va_K.moved hvm.symm hK1
  obtain ⟨hP, hD⟩ := va_join (wr := []) (w1 := [(h0, .inr (0, [.ref qb, .int (nI (0 + 4)), .int (-1), .int 0, .int 0, .null, .ref qm, .ref qe, .ref qo, .ref qi, .ref qw, .ref qt, .ref qs, .ref qp])), (qb, .inl (cb, 512, .inl f1))]) hP hD [0, 1] [] rfl rfl (by decide) (by decide) hk1 hFc hP1 hD1
  generalize H1 = H at hP hS ⊢
  have hP : va_P (dC, dI) vwCl [(h0, .inr (0, [.ref qb, .int (nI (0 + 4)), .int (-1), .int 0, .int 0, .null, .ref qm, .ref qe, .ref qo, .ref qi, .ref qw, .ref qt, .ref qs, .ref qp])), (qb, .inl (cb, 512, .inl f1))] H := hP
  have hD : va_D A [(h0, .inr (0, [.ref qb, .int (nI (0 + 4)), .int (-1), .int 0, .int 0, .null, .ref qm, .ref qe, .ref qo, .ref qi, .ref qw, .ref qt, .ref qs, .ref qp])), (qb, .inl (cb, 512, .inl f1))] := hD
  refine lv_aload_n hx hb px_d12_61 rfl (lv_at hl 0 rfl) ?_
  refine lv_iload_n hx hb px_d12_62 rfl (lv_at hl 2 rfl) ?_
  have hPc := hP.sub (ws' := [(h0, .inr (0, [.ref qb, .int (nI (0 + 4)), .int (-1), .int 0, .int 0, .null, .ref qm, .ref qe, .ref qo, .ref qi, .ref qw, .ref qt, .ref qs, .ref qp])), (qb, .inl (cb, 512, .inl f1))]) [0, 1] rfl
  have hDc := hD.sub (ws' := [(h0, .inr (0, [.ref qb, .int (nI (0 + 4)), .int (-1), .int 0, .int 0, .null, .ref qm, .ref qe, .ref qo, .ref qi, .ref qw, .ref qt, .ref qs, .ref qp])), (qb, .inl (cb, 512, .inl f1))]) [0, 1] (by decide) rfl
  have hKc := hK.sub (tys' := [(cb, .byte)]) [0] rfl
  have hFc := va_free (wc := [(h0, .inr (0, [.ref qb, .int (nI (0 + 4)), .int (-1), .int 0, .int 0, .null, .ref qm, .ref qe, .ref qo, .ref qi, .ref qw, .ref qt, .ref qs, .ref qp])), (qb, .inl (cb, 512, .inl f1))]) hD hS hA [0, 1] rfl
  refine va_callv (va_runV (As := [.int x2]) (rest := []) ⟨hx, hb, hml, hown, htw⟩ (px_takeInt l dC dI H.size h0 qb qm qe qo qi qw qt qs qp cb (0 + 4) f1 x2 (by decide)) (cwV 1 htw (px_gv px_w296 px_w290 px_w291 px_w6 px_g11) rfl rfl rfl (by decide +kernel) ⟨Nat.le_of_ble_eq_true rfl, Nat.le_of_ble_eq_true rfl⟩) ⟨fun a U g mk q => by obtain ⟨q0, q1, qP, qK, qD, qN⟩ := q; exact ⟨q0, q1, qP, va_K.moved (u := U) (U := U.calling g mk a) (Vm.Alike.refl U.vm) qK, qD, qN.same rfl⟩, va_recv hK hP (ci := 0) (q0 := 0) rfl rfl, fun U hU hW => ⟨rfl, by rw [hU], by rw [hU]; exact hPc, va_K.moved hW.alike hKc, hDc.weaken (fun _ _ _ _ => trivial), hN.warm hW⟩⟩ rfl rfl hl.1 rfl (lv_room (Nat.le_of_ble_eq_true rfl)) px_d12_63 ⟨(Nat.le_of_ble_eq_true rfl), (Nat.le_of_ble_eq_true rfl)⟩) hS (fun q _ h => hFc q h) hFc (fun u t H1 locs ht hvm hw_63 hB hz1 hk1 hS => ?_)
  obtain ⟨f1_1, hP1, hK1, hD1⟩ := hB
  rw [ht] at hP1
  have hK1 := va_K.moved hvm.symm hK1
  obtain ⟨hP, hD⟩ := va_join (wr := []) (w1 := [(h0, .inr (0, [.ref qb, .int (nI ((0 + 4) + 4)), .int (-1), .int 0, .int 0, .null, .ref qm, .ref qe, .ref qo, .ref qi, .ref qw, .ref qt, .ref qs, .ref qp])), (qb, .inl (cb, 512, .inl f1_1))]) hP hD [0, 1] [] rfl rfl (by decide) (by decide) hk1 hFc hP1 hD1
  generalize H1 = H at hP hS ⊢
  have hP : va_P (dC, dI) vwCl [(h0, .inr (0, [.ref qb, .int (nI ((0 + 4) + 4)), .int (-1), .int 0, .int 0, .null, .ref qm, .ref qe, .ref qo, .ref qi, .ref qw, .ref qt, .ref qs, .ref qp])), (qb, .inl (cb, 512, .inl f1_1))] H := hP
  have hD : va_D A [(h0, .inr (0, [.ref qb, .int (nI ((0 + 4) + 4)), .int (-1), .int 0, .int 0, .null, .ref qm, .ref qe, .ref qo, .ref qi, .ref qw, .ref qt, .ref qs, .ref qp])), (qb, .inl (cb, 512, .inl f1_1))] := hD
  refine lv_aload_n hx hb px_d12_66 rfl (lv_at hl 0 rfl) ?_
  refine lv_iload_n hx hb px_d12_67 rfl (lv_at hl 3 rfl) ?_
  have hPc := hP.sub (ws' := [(h0, .inr (0, [.ref qb, .int (nI ((0 + 4) + 4)), .int (-1), .int 0, .int 0, .null, .ref qm, .ref qe, .ref qo, .ref qi, .ref qw, .ref qt, .ref qs, .ref qp])), (qb, .inl (cb, 512, .inl f1_1))]) [0, 1] rfl
  have hDc := hD.sub (ws' := [(h0, .inr (0, [.ref qb, .int (nI ((0 + 4) + 4)), .int (-1), .int 0, .int 0, .null, .ref qm, .ref qe, .ref qo, .ref qi, .ref qw, .ref qt, .ref qs, .ref qp])), (qb, .inl (cb, 512, .inl f1_1))]) [0, 1] (by decide) rfl
  have hKc := hK.sub (tys' := [(cb, .byte)]) [0] rfl
  have hFc := va_free (wc := [(h0, .inr (0, [.ref qb, .int (nI ((0 + 4) + 4)), .int (-1), .int 0, .int 0, .null, .ref qm, .ref qe, .ref qo, .ref qi, .ref qw, .ref qt, .ref qs, .ref qp])), (qb, .inl (cb, 512, .inl f1_1))]) hD hS hA [0, 1] rfl
  refine va_callv (va_runV (As := [.int x3]) (rest := []) ⟨hx, hb, hml, hown, htw⟩ (px_takeInt l dC dI H.size h0 qb qm qe qo qi qw qt qs qp cb ((0 + 4) + 4) f1_1 x3 (by decide)) (cwV 1 htw (px_gv px_w296 px_w290 px_w291 px_w6 px_g11) rfl rfl rfl (by decide +kernel) ⟨Nat.le_of_ble_eq_true rfl, Nat.le_of_ble_eq_true rfl⟩) ⟨fun a U g mk q => by obtain ⟨q0, q1, qP, qK, qD, qN⟩ := q; exact ⟨q0, q1, qP, va_K.moved (u := U) (U := U.calling g mk a) (Vm.Alike.refl U.vm) qK, qD, qN.same rfl⟩, va_recv hK hP (ci := 0) (q0 := 0) rfl rfl, fun U hU hW => ⟨rfl, by rw [hU], by rw [hU]; exact hPc, va_K.moved hW.alike hKc, hDc.weaken (fun _ _ _ _ => trivial), hN.warm hW⟩⟩ rfl rfl hl.1 rfl (lv_room (Nat.le_of_ble_eq_true rfl)) px_d12_68 ⟨(Nat.le_of_ble_eq_true rfl), (Nat.le_of_ble_eq_true rfl)⟩) hS (fun q _ h => hFc q h) hFc (fun u t H1 locs ht hvm hw_68 hB hz1 hk1 hS => ?_)
  obtain ⟨f1_2, hP1, hK1, hD1⟩ := hB
  rw [ht] at hP1
  have hK1 := va_K.moved hvm.symm hK1
  obtain ⟨hP, hD⟩ := va_join (wr := []) (w1 := [(h0, .inr (0, [.ref qb, .int (nI (((0 + 4) + 4) + 4)), .int (-1), .int 0, .int 0, .null, .ref qm, .ref qe, .ref qo, .ref qi, .ref qw, .ref qt, .ref qs, .ref qp])), (qb, .inl (cb, 512, .inl f1_2))]) hP hD [0, 1] [] rfl rfl (by decide) (by decide) hk1 hFc hP1 hD1
  generalize H1 = H at hP hS ⊢
  have hP : va_P (dC, dI) vwCl [(h0, .inr (0, [.ref qb, .int (nI (((0 + 4) + 4) + 4)), .int (-1), .int 0, .int 0, .null, .ref qm, .ref qe, .ref qo, .ref qi, .ref qw, .ref qt, .ref qs, .ref qp])), (qb, .inl (cb, 512, .inl f1_2))] H := hP
  have hD : va_D A [(h0, .inr (0, [.ref qb, .int (nI (((0 + 4) + 4) + 4)), .int (-1), .int 0, .int 0, .null, .ref qm, .ref qe, .ref qo, .ref qi, .ref qw, .ref qt, .ref qs, .ref qp])), (qb, .inl (cb, 512, .inl f1_2))] := hD
  refine lv_aload_n hx hb px_d12_71 rfl (lv_at hl 0 rfl) ?_
  refine lv_iload hx hb px_d12_72 (lv_at hl 4 rfl) ?_
  have hPc := hP.sub (ws' := [(h0, .inr (0, [.ref qb, .int (nI (((0 + 4) + 4) + 4)), .int (-1), .int 0, .int 0, .null, .ref qm, .ref qe, .ref qo, .ref qi, .ref qw, .ref qt, .ref qs, .ref qp])), (qb, .inl (cb, 512, .inl f1_2))]) [0, 1] rfl
  have hDc := hD.sub (ws' := [(h0, .inr (0, [.ref qb, .int (nI (((0 + 4) + 4) + 4)), .int (-1), .int 0, .int 0, .null, .ref qm, .ref qe, .ref qo, .ref qi, .ref qw, .ref qt, .ref qs, .ref qp])), (qb, .inl (cb, 512, .inl f1_2))]) [0, 1] (by decide) rfl
  have hKc := hK.sub (tys' := [(cb, .byte)]) [0] rfl
  have hFc := va_free (wc := [(h0, .inr (0, [.ref qb, .int (nI (((0 + 4) + 4) + 4)), .int (-1), .int 0, .int 0, .null, .ref qm, .ref qe, .ref qo, .ref qi, .ref qw, .ref qt, .ref qs, .ref qp])), (qb, .inl (cb, 512, .inl f1_2))]) hD hS hA [0, 1] rfl
  refine va_callv (va_runV (As := [.int x4]) (rest := []) ⟨hx, hb, hml, hown, htw⟩ (px_takeInt l dC dI H.size h0 qb qm qe qo qi qw qt qs qp cb (((0 + 4) + 4) + 4) f1_2 x4 (by decide)) (cwV 1 htw (px_gv px_w296 px_w290 px_w291 px_w6 px_g11) rfl rfl rfl (by decide +kernel) ⟨Nat.le_of_ble_eq_true rfl, Nat.le_of_ble_eq_true rfl⟩) ⟨fun a U g mk q => by obtain ⟨q0, q1, qP, qK, qD, qN⟩ := q; exact ⟨q0, q1, qP, va_K.moved (u := U) (U := U.calling g mk a) (Vm.Alike.refl U.vm) qK, qD, qN.same rfl⟩, va_recv hK hP (ci := 0) (q0 := 0) rfl rfl, fun U hU hW => ⟨rfl, by rw [hU], by rw [hU]; exact hPc, va_K.moved hW.alike hKc, hDc.weaken (fun _ _ _ _ => trivial), hN.warm hW⟩⟩ rfl rfl hl.1 rfl (lv_room (Nat.le_of_ble_eq_true rfl)) px_d12_74 ⟨(Nat.le_of_ble_eq_true rfl), (Nat.le_of_ble_eq_true rfl)⟩) hS (fun q _ h => hFc q h) hFc (fun u t H1 locs ht hvm hw_74 hB hz1 hk1 hS => ?_)
  obtain ⟨f1_3, hP1, hK1, hD1⟩ := hB
  rw [ht] at hP1
  have hK1 := va_K.moved hvm.symm hK1
  obtain ⟨hP, hD⟩ := va_join (wr := []) (w1 := [(h0, .inr (0, [.ref qb, .int (nI ((((0 + 4) + 4) + 4) + 4)), .int (-1), .int 0, .int 0, .null, .ref qm, .ref qe, .ref qo, .ref qi, .ref qw, .ref qt, .ref qs, .ref qp])), (qb, .inl (cb, 512, .inl f1_3))]) hP hD [0, 1] [] rfl rfl (by decide) (by decide) hk1 hFc hP1 hD1
  generalize H1 = H at hP hS ⊢
  have hP : va_P (dC, dI) vwCl [(h0, .inr (0, [.ref qb, .int (nI ((((0 + 4) + 4) + 4) + 4)), .int (-1), .int 0, .int 0, .null, .ref qm, .ref qe, .ref qo, .ref qi, .ref qw, .ref qt, .ref qs, .ref qp])), (qb, .inl (cb, 512, .inl f1_3))] H := hP
  have hD : va_D A [(h0, .inr (0, [.ref qb, .int (nI ((((0 + 4) + 4) + 4) + 4)), .int (-1), .int 0, .int 0, .null, .ref qm, .ref qe, .ref qo, .ref qi, .ref qw, .ref qt, .ref qs, .ref qp])), (qb, .inl (cb, 512, .inl f1_3))] := hD
  refine lv_aload_n hx hb px_d12_77 rfl (lv_at hl 0 rfl) ?_
  refine lv_iload hx hb px_d12_78 (lv_at hl 5 rfl) ?_
  have hPc := hP.sub (ws' := [(h0, .inr (0, [.ref qb, .int (nI ((((0 + 4) + 4) + 4) + 4)), .int (-1), .int 0, .int 0, .null, .ref qm, .ref qe, .ref qo, .ref qi, .ref qw, .ref qt, .ref qs, .ref qp])), (qb, .inl (cb, 512, .inl f1_3))]) [0, 1] rfl
  have hDc := hD.sub (ws' := [(h0, .inr (0, [.ref qb, .int (nI ((((0 + 4) + 4) + 4) + 4)), .int (-1), .int 0, .int 0, .null, .ref qm, .ref qe, .ref qo, .ref qi, .ref qw, .ref qt, .ref qs, .ref qp])), (qb, .inl (cb, 512, .inl f1_3))]) [0, 1] (by decide) rfl
  have hKc := hK.sub (tys' := [(cb, .byte)]) [0] rfl
  have hFc := va_free (wc := [(h0, .inr (0, [.ref qb, .int (nI ((((0 + 4) + 4) + 4) + 4)), .int (-1), .int 0, .int 0, .null, .ref qm, .ref qe, .ref qo, .ref qi, .ref qw, .ref qt, .ref qs, .ref qp])), (qb, .inl (cb, 512, .inl f1_3))]) hD hS hA [0, 1] rfl
  refine va_callv (va_runV (As := [.int x5]) (rest := []) ⟨hx, hb, hml, hown, htw⟩ (px_takeInt l dC dI H.size h0 qb qm qe qo qi qw qt qs qp cb ((((0 + 4) + 4) + 4) + 4) f1_3 x5 (by decide)) (cwV 1 htw (px_gv px_w296 px_w290 px_w291 px_w6 px_g11) rfl rfl rfl (by decide +kernel) ⟨Nat.le_of_ble_eq_true rfl, Nat.le_of_ble_eq_true rfl⟩) ⟨fun a U g mk q => by obtain ⟨q0, q1, qP, qK, qD, qN⟩ := q; exact ⟨q0, q1, qP, va_K.moved (u := U) (U := U.calling g mk a) (Vm.Alike.refl U.vm) qK, qD, qN.same rfl⟩, va_recv hK hP (ci := 0) (q0 := 0) rfl rfl, fun U hU hW => ⟨rfl, by rw [hU], by rw [hU]; exact hPc, va_K.moved hW.alike hKc, hDc.weaken (fun _ _ _ _ => trivial), hN.warm hW⟩⟩ rfl rfl hl.1 rfl (lv_room (Nat.le_of_ble_eq_true rfl)) px_d12_80 ⟨(Nat.le_of_ble_eq_true rfl), (Nat.le_of_ble_eq_true rfl)⟩) hS (fun q _ h => hFc q h) hFc (fun u t H1 locs ht hvm hw_80 hB hz1 hk1 hS => ?_)
  obtain ⟨f1_4, hP1, hK1, hD1⟩ := hB
  rw [ht] at hP1
  have hK1 := va_K.moved hvm.symm hK1
  obtain ⟨hP, hD⟩ := va_join (wr := []) (w1 := [(h0, .inr (0, [.ref qb, .int (nI (((((0 + 4) + 4) + 4) + 4) + 4)), .int (-1), .int 0, .int 0, .null, .ref qm, .ref qe, .ref qo, .ref qi, .ref qw, .ref qt, .ref qs, .ref qp])), (qb, .inl (cb, 512, .inl f1_4))]) hP hD [0, 1] [] rfl rfl (by decide) (by decide) hk1 hFc hP1 hD1
  generalize H1 = H at hP hS ⊢
  have hP : va_P (dC, dI) vwCl [(h0, .inr (0, [.ref qb, .int (nI (((((0 + 4) + 4) + 4) + 4) + 4)), .int (-1), .int 0, .int 0, .null, .ref qm, .ref qe, .ref qo, .ref qi, .ref qw, .ref qt, .ref qs, .ref qp])), (qb, .inl (cb, 512, .inl f1_4))] H := hP
  have hD : va_D A [(h0, .inr (0, [.ref qb, .int (nI (((((0 + 4) + 4) + 4) + 4) + 4)), .int (-1), .int 0, .int 0, .null, .ref qm, .ref qe, .ref qo, .ref qi, .ref qw, .ref qt, .ref qs, .ref qp])), (qb, .inl (cb, 512, .inl f1_4))] := hD
  have hP9 := hP.sub (ws' := []) [] rfl
  have hD9 := hD.sub (ws' := []) [] (by decide) rfl
  have hK9 := hK.sub (tys' := [(cb, .byte)]) [0] rfl
  refine W.widen (k := 0) (n := 0) (Nat.le_of_ble_eq_true rfl) (Nat.le_of_ble_eq_true rfl) ?_
  exact W.vret hx hb hr (fun t ht hW => ⟨⟨(), rfl, trivial, by rw [ht]; exact hP9, va_K.moved hW.alike hK9, hD9⟩, hS.F ht⟩) hS.2.2 px_d12_83
set_option maxHeartbeats 4000000 in
set_option maxRecDepth 100000 in
/-- end(0) -/
theorem px_D_end0 (l : Launch) (dC : Nat → ClassId) (dI : Nat → Nat → Nat) (sz : Nat) (h0 : Nat) (qb : Nat) (qm : Nat) (qe : Nat) (qo : Nat) (qi : Nat) (qw : Nat) (qt : Nat) (qs : Nat) (qp : Nat) : Met l px_y13 px_s13 ({ frames := 0, cells := 0, slots := 0, locals := 0 }) (va_Pc [.ref h0, .int 0] (fun U => U.heap.size = sz ∧ va_P (dC, dI) vwCl [(h0, .inr (0, [.ref qb, .int 0, .int (-1), .int 0, .int 0, .null, .ref qm, .ref qe, .ref qo, .ref qi, .ref qw, .ref qt, .ref qs, .ref qp]))] U.heap ∧ va_K (dC, dI) vwCl [] U ∧ va_D (fun _ => True) [(h0, .inr (0, [.ref qb, .int 0, .int (-1), .int 0, .int 0, .null, .ref qm, .ref qe, .ref qo, .ref qi, .ref qw, .ref qt, .ref qs, .ref qp]))] ∧ px_N U)) (va_Qi (fun (r : Int32) (_ : Unit) => r = 0) (fun (_ : Unit) (t : State) => va_P (dC, dI) vwCl [] t.heap ∧ va_K (dC, dI) vwCl [] t ∧ va_D (va_A [(h0, .inr (0, [.ref qb, .int 0, .int (-1), .int 0, .int 0, .null, .ref qm, .ref qe, .ref qo, .ref qi, .ref qw, .ref qt, .ref qs, .ref qp]))] sz) []) (va_A [(h0, .inr (0, [.ref qb, .int 0, .int (-1), .int 0, .int 0, .null, .ref qm, .ref qe, .ref qo, .ref qi, .ref qw, .ref qt, .ref qs, .ref qp]))] sz)) 0 0 (va_A [(h0, .inr (0, [.ref qb, .int 0, .int (-1), .int 0, .int 0, .null, .ref qm, .ref qe, .ref qo, .ref qi, .ref qw, .ref qt, .ref qs, .ref qp]))] sz) := by
  refine Met.ofW (cc := prog_1_method_3_code) (maxL := 3) (ret := (some .int)) (by decide) rfl ?_
  intro p e s m args below meth c s₁ B hml hv
  obtain ⟨rfl, hsz, hP, hK, hD0, hN⟩ := hv
  have hx := B.exec
  have hb := B.bytes
  have hr := B.returns
  have htw : ∀ w ∈ px_all, w.before _ s = true := fun w h => atoms_spec (ws := px_s13) B.pre w (List.mem_cons_of_mem _ h)
  have hown : s.vm.findClass "MatroidDesk" = some m.cls := findClass_of_methodNamed B.named
  have hlocks := B.notSynchronized
  subst hsz
  have hD := hD0.self (sz := s.heap.size)
  generalize hAe : va_A [(h0, .inr (0, [.ref qb, .int 0, .int (-1), .int 0, .int 0, .null, .ref qm, .ref qe, .ref qo, .ref qi, .ref qw, .ref qt, .ref qs, .ref qp]))] s.heap.size = A at hD ⊢
  have hA : ∀ q : Nat, s.heap.size ≤ q → A q := fun q h => by rw [← hAe]; exact Or.inr h
  have hS : va_S A s.heap s.heap [] := va_S.rf
  have hP : va_P (dC, dI) vwCl [(h0, .inr (0, [.ref qb, .int 0, .int (-1), .int 0, .int 0, .null, .ref qm, .ref qe, .ref qo, .ref qi, .ref qw, .ref qt, .ref qs, .ref qp]))] s.heap := hP
  have hl := lv_entry ([.ref h0, .int 0]) (n := 3) (Nat.le_of_ble_eq_true rfl)
  rw [lg_entry_eq]
  generalize (lg_sl ([.ref h0, .int 0]) ++ List.replicate (3 - (lg_sl ([.ref h0, .int 0])).length) Slot.unset).toArray = ls at hl ⊢
  have hl : lv_has ls 3 [(0, .ref h0), (1, .int 0)] := hl
  refine lv_iload_n hx hb px_d13_0 rfl (lv_at hl 1 rfl) ?_
  refine lv_if_lt (tgt := 12) hx hb px_d13_1 (by decide) (fun h9 => absurd h9 (by decide +kernel)) (fun _ => ?_)
  refine lv_iload_n hx hb px_d13_4 rfl (lv_at hl 1 rfl) ?_
  refine lv_aload_n hx hb px_d13_5 rfl (lv_at hl 0 rfl) ?_
  refine va_get (D := (dC, dI)) (ci := 0) (v := .int 0) (C := "MatroidDesk") (T := px_T0) (N := 14) hx hb htw px_in0 hown hK hP 0 rfl rfl 1 (by decide) (htw _ px_w210) (fun _ h9 => h9) rfl px_d13_6 ?_
  refine lv_icmp_le (tgt := 22) hx hb px_d13_9 (by decide) (fun _ => ?_) (fun h9 => absurd (by decide +kernel) h9)
  refine lv_aload_n hx hb px_d13_22 rfl (lv_at hl 0 rfl) ?_
  refine va_get (D := (dC, dI)) (ci := 0) (v := .int 0) (C := "MatroidDesk") (T := px_T0) (N := 14) hx hb htw px_in0 hown hK hP 0 rfl rfl 1 (by decide) (htw _ px_w210) (fun _ h9 => h9) rfl px_d13_23 ?_
  refine lv_istore_n (lv' := [(2, .int 0), (0, .ref h0), (1, .int 0)]) hx hb px_d13_26 rfl hl (by decide) rfl (fun ls hl => ?_)
  refine lv_aload_n hx hb px_d13_27 rfl (lv_at hl 1 rfl) ?_
  refine lv_iload_n hx hb px_d13_28 rfl (lv_at hl 2 rfl) ?_
  refine va_put (D := (dC, dI)) (ci := 0) (v := .int 0) (ty := .int) (C := "MatroidDesk") (T := px_T0) (N := 14) hx hb htw px_in0 px_ty0 px_tyok0 px_nm0 hown hK hP hD hS 0 rfl rfl 1 (by decide) (htw _ px_w210) (fun _ h9 => h9) rfl (by decide +kernel) rfl rfl (Nat.le_of_ble_eq_true rfl) px_d13_29 (fun H locs hP hD hS => ?_)
  have hP : va_P (dC, dI) vwCl [(h0, .inr (0, [.ref qb, .int 0, .int (-1), .int 0, .int 0, .null, .ref qm, .ref qe, .ref qo, .ref qi, .ref qw, .ref qt, .ref qs, .ref qp]))] H := hP
  have hD : va_D A [(h0, .inr (0, [.ref qb, .int 0, .int (-1), .int 0, .int 0, .null, .ref qm, .ref qe, .ref qo, .ref qi, .ref qw, .ref qt, .ref qs, .ref qp]))] := hD
  refine lv_iload_n hx hb px_d13_32 rfl (lv_at hl 0 rfl) ?_
  have hP9 := hP.sub (ws' := []) [] rfl
  have hD9 := hD.sub (ws' := []) [] (by decide) rfl
  have hK9 := hK.sub (tys' := []) [] rfl
  refine W.widen (k := 0) (n := 0) (Nat.le_of_ble_eq_true rfl) (Nat.le_of_ble_eq_true rfl) ?_
  exact W.iret (v := 0) hx hb hr (fun t ht hW => ⟨⟨0, (), rfl, rfl, by rw [ht]; exact hP9, va_K.moved hW.alike hK9, hD9⟩, hS.F ht⟩) hS.2.2 px_d13_33
end
section
set_option maxHeartbeats 4000000 in
set_option maxRecDepth 100000 in
/-- skipBlanks() -/
theorem px_skipBlanks (l : Launch) (dC : Nat → ClassId) (dI : Nat → Nat → Nat) (sz : Nat) (h0 : Nat) (q7 : Nat) : Met l px_y14 px_s14 ({ frames := 0, cells := 0, slots := 0, locals := 0 }) (va_Pc [.ref h0] (fun U => U.heap.size = sz ∧ va_P (dC, dI) vwCl [(h0, .inr (5, [.ref q7, .int 0, .int 0, .int 0, .int 0, .int 0]))] U.heap ∧ va_K (dC, dI) vwCl [] U ∧ va_D (fun _ => True) [(h0, .inr (5, [.ref q7, .int 0, .int 0, .int 0, .int 0, .int 0]))] ∧ px_N U)) (va_Qv (fun (_ : Unit) => True) (fun (_ : Unit) (t : State) => va_P (dC, dI) vwCl [(h0, .inr (5, [.ref q7, .int 0, .int 0, .int 0, .int 0, .int 0]))] t.heap ∧ va_K (dC, dI) vwCl [] t ∧ va_D (va_A [(h0, .inr (5, [.ref q7, .int 0, .int 0, .int 0, .int 0, .int 0]))] sz) [(h0, .inr (5, [.ref q7, .int 0, .int 0, .int 0, .int 0, .int 0]))]) (va_A [(h0, .inr (5, [.ref q7, .int 0, .int 0, .int 0, .int 0, .int 0]))] sz)) 0 0 (va_A [(h0, .inr (5, [.ref q7, .int 0, .int 0, .int 0, .int 0, .int 0]))] sz) := by
  refine Met.ofW (cc := prog_10_method_6_code) (maxL := 3) (ret := none) (by decide) rfl ?_
  intro p e s m args below meth c s₁ B hml hv
  obtain ⟨rfl, hsz, hP, hK, hD0, hN⟩ := hv
  have hx := B.exec
  have hb := B.bytes
  have hr := B.returns
  have htw : ∀ w ∈ px_all, w.before _ s = true := fun w h => atoms_spec (ws := px_s14) B.pre w (List.mem_cons_of_mem _ h)
  have hown : s.vm.findClass "MatroidDesk$Tokens" = some m.cls := findClass_of_methodNamed B.named
  have hlocks := B.notSynchronized
  subst hsz
  have hD := hD0.self (sz := s.heap.size)
  generalize hAe : va_A [(h0, .inr (5, [.ref q7, .int 0, .int 0, .int 0, .int 0, .int 0]))] s.heap.size = A at hD ⊢
  have hA : ∀ q : Nat, s.heap.size ≤ q → A q := fun q h => by rw [← hAe]; exact Or.inr h
  have hS : va_S A s.heap s.heap [] := va_S.rf
  have hP : va_P (dC, dI) vwCl [(h0, .inr (5, [.ref q7, .int 0, .int 0, .int 0, .int 0, .int 0]))] s.heap := hP
  have hl := lv_entry ([.ref h0]) (n := 3) (Nat.le_of_ble_eq_true rfl)
  rw [lg_entry_eq]
  generalize (lg_sl ([.ref h0]) ++ List.replicate (3 - (lg_sl ([.ref h0])).length) Slot.unset).toArray = ls at hl ⊢
  have hl : lv_has ls 3 [(0, .ref h0)] := hl
  refine lv_iconst (v := 0) hx hb px_d14_0 (by decide) ?_
  refine lv_istore_n (lv' := [(1, .int 0), (0, .ref h0)]) hx hb px_d14_1 rfl hl (by decide) rfl (fun ls hl => ?_)
  refine lv_aload_n hx hb px_d14_2 rfl (lv_at hl 1 rfl) ?_
  refine va_get (D := (dC, dI)) (ci := 5) (v := .int 0) (C := "MatroidDesk$Tokens") (T := px_T5) (N := 6) hx hb htw px_in5 hown hK hP 0 rfl rfl 2 (by decide) (htw _ px_w304) (fun _ h9 => h9) rfl px_d14_3 ?_
  refine lv_aload_n hx hb px_d14_6 rfl (lv_at hl 1 rfl) ?_
  refine va_get (D := (dC, dI)) (ci := 5) (v := .int 0) (C := "MatroidDesk$Tokens") (T := px_T5) (N := 6) hx hb htw px_in5 hown hK hP 0 rfl rfl 1 (by decide) (htw _ px_w305) (fun _ h9 => h9) rfl px_d14_7 ?_
  refine lv_icmp_ge (tgt := 87) hx hb px_d14_10 (by decide) (fun _ => ?_) (fun h9 => absurd (by decide +kernel) h9)
  have hP9 := hP.sub (ws' := [(h0, .inr (5, [.ref q7, .int 0, .int 0, .int 0, .int 0, .int 0]))]) [0] rfl
  have hD9 := hD.sub (ws' := [(h0, .inr (5, [.ref q7, .int 0, .int 0, .int 0, .int 0, .int 0]))]) [0] (by decide) rfl
  have hK9 := hK.sub (tys' := []) [] rfl
  refine W.widen (k := 0) (n := 0) (Nat.le_of_ble_eq_true rfl) (Nat.le_of_ble_eq_true rfl) ?_
  exact W.vret hx hb hr (fun t ht hW => ⟨⟨(), rfl, trivial, by rw [ht]; exact hP9, va_K.moved hW.alike hK9, hD9⟩, hS.F ht⟩) hS.2.2 px_d14_87
set_option maxHeartbeats 4000000 in
set_option maxRecDepth 100000 in
/-- step() -/
theorem px_step (l : Launch) (dC : Nat → ClassId) (dI : Nat → Nat → Nat) (sz : Nat) (h0 : Nat) (q7 : Nat) : Met l px_y15 px_s15 ({ frames := 1, cells := 0, slots := 0, locals := 22 }) (va_Pc [.ref h0] (fun U => U.heap.size = sz ∧ va_P (dC, dI) vwCl [(h0, .inr (5, [.ref q7, .int 0, .int 0, .int 0, .int 0, .int 0]))] U.heap ∧ va_K (dC, dI) vwCl [] U ∧ va_D (fun _ => True) [(h0, .inr (5, [.ref q7, .int 0, .int 0, .int 0, .int 0, .int 0]))] ∧ px_N U)) (va_Qv (fun (_ : Unit) => True) (fun (_ : Unit) (t : State) => va_P (dC, dI) vwCl [(h0, .inr (5, [.ref q7, .int 0, .int 0, .int 0, .int 0, .int 0]))] t.heap ∧ va_K (dC, dI) vwCl [] t ∧ va_D (va_A [(h0, .inr (5, [.ref q7, .int 0, .int 0, .int 0, .int 0, .int 0]))] sz) [(h0, .inr (5, [.ref q7, .int 0, .int 0, .int 0, .int 0, .int 0]))]) (va_A [(h0, .inr (5, [.ref q7, .int 0, .int 0, .int 0, .int 0, .int 0]))] sz)) 0 0 (va_A [(h0, .inr (5, [.ref q7, .int 0, .int 0, .int 0, .int 0, .int 0]))] sz) := by
  refine Met.ofW (cc := prog_10_method_3_code) (maxL := 3) (ret := none) (by decide) rfl ?_
  intro p e s m args below meth c s₁ B hml hv
  obtain ⟨rfl, hsz, hP, hK, hD0, hN⟩ := hv
  have hx := B.exec
  have hb := B.bytes
  have hr := B.returns
  have htw : ∀ w ∈ px_all, w.before _ s = true := fun w h => atoms_spec (ws := px_s15) B.pre w (List.mem_cons_of_mem _ h)
  have hown : s.vm.findClass "MatroidDesk$Tokens" = some m.cls := findClass_of_methodNamed B.named
  have hlocks := B.notSynchronized
  subst hsz
  have hD := hD0.self (sz := s.heap.size)
  generalize hAe : va_A [(h0, .inr (5, [.ref q7, .int 0, .int 0, .int 0, .int 0, .int 0]))] s.heap.size = A at hD ⊢
  have hA : ∀ q : Nat, s.heap.size ≤ q → A q := fun q h => by rw [← hAe]; exact Or.inr h
  have hS : va_S A s.heap s.heap [] := va_S.rf
  have hP : va_P (dC, dI) vwCl [(h0, .inr (5, [.ref q7, .int 0, .int 0, .int 0, .int 0, .int 0]))] s.heap := hP
  have hl := lv_entry ([.ref h0]) (n := 3) (Nat.le_of_ble_eq_true rfl)
  rw [lg_entry_eq]
  generalize (lg_sl ([.ref h0]) ++ List.replicate (3 - (lg_sl ([.ref h0])).length) Slot.unset).toArray = ls at hl ⊢
  have hl : lv_has ls 3 [(0, .ref h0)] := hl
  refine lv_aload_n hx hb px_d15_0 rfl (lv_at hl 0 rfl) ?_
  have hPc := hP.sub (ws' := [(h0, .inr (5, [.ref q7, .int 0, .int 0, .int 0, .int 0, .int 0]))]) [0] rfl
  have hDc := hD.sub (ws' := [(h0, .inr (5, [.ref q7, .int 0, .int 0, .int 0, .int 0, .int 0]))]) [0] (by decide) rfl
  have hKc := hK.sub (tys' := []) [] rfl
  have hFc := va_free (wc := [(h0, .inr (5, [.ref q7, .int 0, .int 0, .int 0, .int 0, .int 0]))]) hD hS hA [0] rfl
  refine va_callv (va_runV (As := []) (rest := []) ⟨hx, hb, hml, hown, htw⟩ (px_skipBlanks l dC dI s.heap.size h0 q7) (cwV 0 htw (px_gv px_w309 px_w302 px_w303 px_w66 px_g14) rfl rfl rfl (by decide +kernel) ⟨Nat.le_of_ble_eq_true rfl, Nat.le_of_ble_eq_true rfl⟩) ⟨fun a U g mk q => by obtain ⟨q0, q1, qP, qK, qD, qN⟩ := q; exact ⟨q0, q1, qP, va_K.moved (u := U) (U := U.calling g mk a) (Vm.Alike.refl U.vm) qK, qD, qN.same rfl⟩, va_recv hK hP (ci := 5) (q0 := 0) rfl rfl, fun U hU hW => ⟨rfl, by rw [hU], by rw [hU]; exact hPc, va_K.moved hW.alike hKc, hDc.weaken (fun _ _ _ _ => trivial), hN.warm hW⟩⟩ rfl rfl hl.1 rfl (lv_room (Nat.le_of_ble_eq_true rfl)) px_d15_1 ⟨(Nat.le_of_ble_eq_true rfl), (Nat.le_of_ble_eq_true rfl)⟩) hS (fun q _ h => hFc q h) hFc (fun u t H1 locs ht hvm hw_1 hB hz1 hk1 hS => ?_)
  obtain ⟨hP1, hK1, hD1⟩ := hB
  rw [ht] at hP1
  have hK1 := va_K.moved hvm.symm hK1
  obtain ⟨hP, hD⟩ := va_join (wr := []) (w1 := [(h0, .inr (5, [.ref q7, .int 0, .int 0, .int 0, .int 0, .int 0]))]) hP hD [0] [] rfl rfl (by decide) (by decide) hk1 hFc hP1 hD1
  generalize H1 = H at hP hS ⊢
  have hP : va_P (dC, dI) vwCl [(h0, .inr (5, [.ref q7, .int 0, .int 0, .int 0, .int 0, .int 0]))] H := hP
  have hD : va_D A [(h0, .inr (5, [.ref q7, .int 0, .int 0, .int 0, .int 0, .int 0]))] := hD
  refine lv_aload_n hx hb px_d15_4 rfl (lv_at hl 0 rfl) ?_
  refine lv_aload_n hx hb px_d15_5 rfl (lv_at hl 0 rfl) ?_
  refine va_get (D := (dC, dI)) (ci := 5) (v := .int 0) (C := "MatroidDesk$Tokens") (T := px_T5) (N := 6) hx hb htw px_in5 hown hK hP 0 rfl rfl 2 (by decide) (htw _ px_w304) (fun _ h9 => h9) rfl px_d15_6 ?_
  refine va_put (D := (dC, dI)) (ci := 5) (v := .int 0) (ty := .int) (C := "MatroidDesk$Tokens") (T := px_T5) (N := 6) hx hb htw px_in5 px_ty5 px_tyok5 px_nm5 hown hK hP hD hS 0 rfl rfl 3 (by decide) (htw _ px_w310) (fun _ h9 => h9) rfl (by decide +kernel) rfl rfl (Nat.le_of_ble_eq_true rfl) px_d15_9 (fun H locs hP hD hS => ?_)
  have hP : va_P (dC, dI) vwCl [(h0, .inr (5, [.ref q7, .int 0, .int 0, .int 0, .int 0, .int 0]))] H := hP
  have hD : va_D A [(h0, .inr (5, [.ref q7, .int 0, .int 0, .int 0, .int 0, .int 0]))] := hD
  refine lv_aload_n hx hb px_d15_12 rfl (lv_at hl 0 rfl) ?_
  refine va_get (D := (dC, dI)) (ci := 5) (v := .int 0) (C := "MatroidDesk$Tokens") (T := px_T5) (N := 6) hx hb htw px_in5 hown hK hP 0 rfl rfl 2 (by decide) (htw _ px_w304) (fun _ h9 => h9) rfl px_d15_13 ?_
  refine lv_aload_n hx hb px_d15_16 rfl (lv_at hl 0 rfl) ?_
  refine va_get (D := (dC, dI)) (ci := 5) (v := .int 0) (C := "MatroidDesk$Tokens") (T := px_T5) (N := 6) hx hb htw px_in5 hown hK hP 0 rfl rfl 1 (by decide) (htw _ px_w305) (fun _ h9 => h9) rfl px_d15_17 ?_
  refine lv_icmp_lt (tgt := 29) hx hb px_d15_20 (by decide) (fun h9 => absurd h9 (by decide +kernel)) (fun _ => ?_)
  refine lv_aload_n hx hb px_d15_23 rfl (lv_at hl 0 rfl) ?_
  refine lv_iconst (v := 0) hx hb px_d15_24 (by decide) ?_
  refine va_put (D := (dC, dI)) (ci := 5) (v := .int 0) (ty := .int) (C := "MatroidDesk$Tokens") (T := px_T5) (N := 6) hx hb htw px_in5 px_ty5 px_tyok5 px_nm5 hown hK hP hD hS 0 rfl rfl 4 (by decide) (htw _ px_w311) (fun _ h9 => h9) rfl (by decide +kernel) rfl rfl (Nat.le_of_ble_eq_true rfl) px_d15_25 (fun H locs hP hD hS => ?_)
  have hP : va_P (dC, dI) vwCl [(h0, .inr (5, [.ref q7, .int 0, .int 0, .int 0, .int 0, .int 0]))] H := hP
  have hD : va_D A [(h0, .inr (5, [.ref q7, .int 0, .int 0, .int 0, .int 0, .int 0]))] := hD
  have hP9 := hP.sub (ws' := [(h0, .inr (5, [.ref q7, .int 0, .int 0, .int 0, .int 0, .int 0]))]) [0] rfl
  have hD9 := hD.sub (ws' := [(h0, .inr (5, [.ref q7, .int 0, .int 0, .int 0, .int 0, .int 0]))]) [0] (by decide) rfl
  have hK9 := hK.sub (tys' := []) [] rfl
  refine W.widen (k := 0) (n := 0) (Nat.le_of_ble_eq_true rfl) (Nat.le_of_ble_eq_true rfl) ?_
  exact W.vret hx hb hr (fun t ht hW => ⟨⟨(), rfl, trivial, by rw [ht]; exact hP9, va_K.moved hW.alike hK9, hD9⟩, hS.F ht⟩) hS.2.2 px_d15_28
set_option maxHeartbeats 4000000 in
set_option maxRecDepth 100000 in
/-- open(b, 0) -/
theorem px_open (l : Launch) (dC : Nat → ClassId) (dI : Nat → Nat → Nat) (sz : Nat) (h0 : Nat) (q7 : Nat) (b : Nat) : Met l px_y16 px_s16 ({ frames := 2, cells := 0, slots := 0, locals := 44 }) (va_Pc [.ref h0, .ref b, .int 0] (fun U => U.heap.size = sz ∧ va_P (dC, dI) vwCl [(h0, .inr (5, [.ref q7, .int 0, .int 0, .int 0, .int 0, .int 0]))] U.heap ∧ va_K (dC, dI) vwCl [] U ∧ va_D (fun _ => True) [(h0, .inr (5, [.ref q7, .int 0, .int 0, .int 0, .int 0, .int 0]))] ∧ px_N U)) (va_Qv (fun (_ : Unit) => True) (fun (_ : Unit) (t : State) => va_P (dC, dI) vwCl [(h0, .inr (5, [.ref b, .int 0, .int 0, .int 0, .int 0, .int 0]))] t.heap ∧ va_K (dC, dI) vwCl [] t ∧ va_D (va_A [(h0, .inr (5, [.ref q7, .int 0, .int 0, .int 0, .int 0, .int 0]))] sz) [(h0, .inr (5, [.ref b, .int 0, .int 0, .int 0, .int 0, .int 0]))]) (va_A [(h0, .inr (5, [.ref q7, .int 0, .int 0, .int 0, .int 0, .int 0]))] sz)) 0 0 (va_A [(h0, .inr (5, [.ref q7, .int 0, .int 0, .int 0, .int 0, .int 0]))] sz) := by
  refine Met.ofW (cc := prog_10_method_2_code) (maxL := 3) (ret := none) (by decide) rfl ?_
  intro p e s m args below meth c s₁ B hml hv
  obtain ⟨rfl, hsz, hP, hK, hD0, hN⟩ := hv
  have hx := B.exec
  have hb := B.bytes
  have hr := B.returns
  have htw : ∀ w ∈ px_all, w.before _ s = true := fun w h => atoms_spec (ws := px_s16) B.pre w (List.mem_cons_of_mem _ h)
  have hown : s.vm.findClass "MatroidDesk$Tokens" = some m.cls := findClass_of_methodNamed B.named
  have hlocks := B.notSynchronized
  subst hsz
  have hD := hD0.self (sz := s.heap.size)
  generalize hAe : va_A [(h0, .inr (5, [.ref q7, .int 0, .int 0, .int 0, .int 0, .int 0]))] s.heap.size = A at hD ⊢
  have hA : ∀ q : Nat, s.heap.size ≤ q → A q := fun q h => by rw [← hAe]; exact Or.inr h
  have hS : va_S A s.heap s.heap [] := va_S.rf
  have hP : va_P (dC, dI) vwCl [(h0, .inr (5, [.ref q7, .int 0, .int 0, .int 0, .int 0, .int 0]))] s.heap := hP
  have hl := lv_entry ([.ref h0, .ref b, .int 0]) (n := 3) (Nat.le_of_ble_eq_true rfl)
  rw [lg_entry_eq]
  generalize (lg_sl ([.ref h0, .ref b, .int 0]) ++ List.replicate (3 - (lg_sl ([.ref h0, .ref b, .int 0])).length) Slot.unset).toArray = ls at hl ⊢
  have hl : lv_has ls 3 [(0, .ref h0), (1, .ref b), (2, .int 0)] := hl
  refine lv_aload_n hx hb px_d16_0 rfl (lv_at hl 0 rfl) ?_
  refine lv_aload_n hx hb px_d16_1 rfl (lv_at hl 1 rfl) ?_
  refine va_put (D := (dC, dI)) (ci := 5) (v := .ref b) (ty := (.array .byte)) (C := "MatroidDesk$Tokens") (T := px_T5) (N := 6) hx hb htw px_in5 px_ty5 px_tyok5 px_nm5 hown hK hP hD hS 0 rfl rfl 0 (by decide) (htw _ px_w158) (fun _ h9 => h9) rfl (by decide +kernel) rfl rfl (Nat.le_of_ble_eq_true rfl) px_d16_2 (fun H locs hP hD hS => ?_)
  have hP : va_P (dC, dI) vwCl [(h0, .inr (5, [.ref b, .int 0, .int 0, .int 0, .int 0, .int 0]))] H := hP
  have hD : va_D A [(h0, .inr (5, [.ref b, .int 0, .int 0, .int 0, .int 0, .int 0]))] := hD
  refine lv_aload_n hx hb px_d16_5 rfl (lv_at hl 0 rfl) ?_
  refine lv_iload_n hx hb px_d16_6 rfl (lv_at hl 2 rfl) ?_
  refine va_put (D := (dC, dI)) (ci := 5) (v := .int 0) (ty := .int) (C := "MatroidDesk$Tokens") (T := px_T5) (N := 6) hx hb htw px_in5 px_ty5 px_tyok5 px_nm5 hown hK hP hD hS 0 rfl rfl 1 (by decide) (htw _ px_w305) (fun _ h9 => h9) rfl (by decide +kernel) rfl rfl (Nat.le_of_ble_eq_true rfl) px_d16_7 (fun H locs hP hD hS => ?_)
  have hP : va_P (dC, dI) vwCl [(h0, .inr (5, [.ref b, .int 0, .int 0, .int 0, .int 0, .int 0]))] H := hP
  have hD : va_D A [(h0, .inr (5, [.ref b, .int 0, .int 0, .int 0, .int 0, .int 0]))] := hD
  refine lv_aload_n hx hb px_d16_10 rfl (lv_at hl 0 rfl) ?_
  refine lv_iconst (v := 0) hx hb px_d16_11 (by decide) ?_
  refine va_put (D := (dC, dI)) (ci := 5) (v := .int 0) (ty := .int) (C := "MatroidDesk$Tokens") (T := px_T5) (N := 6) hx hb htw px_in5 px_ty5 px_tyok5 px_nm5 hown hK hP hD hS 0 rfl rfl 2 (by decide) (htw _ px_w304) (fun _ h9 => h9) rfl (by decide +kernel) rfl rfl (Nat.le_of_ble_eq_true rfl) px_d16_12 (fun H locs hP hD hS => ?_)
  have hP : va_P (dC, dI) vwCl [(h0, .inr (5, [.ref b, .int 0, .int 0, .int 0, .int 0, .int 0]))] H := hP
  have hD : va_D A [(h0, .inr (5, [.ref b, .int 0, .int 0, .int 0, .int 0, .int 0]))] := hD
  refine lv_aload_n hx hb px_d16_15 rfl (lv_at hl 0 rfl) ?_
  have hPc := hP.sub (ws' := [(h0, .inr (5, [.ref b, .int 0, .int 0, .int 0, .int 0, .int 0]))]) [0] rfl
  have hDc := hD.sub (ws' := [(h0, .inr (5, [.ref b, .int 0, .int 0, .int 0, .int 0, .int 0]))]) [0] (by decide) rfl
  have hKc := hK.sub (tys' := []) [] rfl
  have hFc := va_free (wc := [(h0, .inr (5, [.ref b, .int 0, .int 0, .int 0, .int 0, .int 0]))]) hD hS hA [0] rfl
  refine va_callv (va_runV (As := []) (rest := []) ⟨hx, hb, hml, hown, htw⟩ (px_step l dC dI H.size h0 b) (cwV 0 htw (px_gv px_w315 px_w307 px_w308 px_w66 px_g15) rfl rfl rfl (by decide +kernel) ⟨Nat.le_of_ble_eq_true rfl, Nat.le_of_ble_eq_true rfl⟩) ⟨fun a U g mk q => by obtain ⟨q0, q1, qP, qK, qD, qN⟩ := q; exact ⟨q0, q1, qP, va_K.moved (u := U) (U := U.calling g mk a) (Vm.Alike.refl U.vm) qK, qD, qN.same rfl⟩, va_recv hK hP (ci := 5) (q0 := 0) rfl rfl, fun U hU hW => ⟨rfl, by rw [hU], by rw [hU]; exact hPc, va_K.moved hW.alike hKc, hDc.weaken (fun _ _ _ _ => trivial), hN.warm hW⟩⟩ rfl rfl hl.1 rfl (lv_room (Nat.le_of_ble_eq_true rfl)) px_d16_16 ⟨(Nat.le_of_ble_eq_true rfl), (Nat.le_of_ble_eq_true rfl)⟩) hS (fun q _ h => hFc q h) hFc (fun u t H1 locs ht hvm hw_16 hB hz1 hk1 hS => ?_)
  obtain ⟨hP1, hK1, hD1⟩ := hB
  rw [ht] at hP1
  have hK1 := va_K.moved hvm.symm hK1
  obtain ⟨hP, hD⟩ := va_join (wr := []) (w1 := [(h0, .inr (5, [.ref b, .int 0, .int 0, .int 0, .int 0, .int 0]))]) hP hD [0] [] rfl rfl (by decide) (by decide) hk1 hFc hP1 hD1
  generalize H1 = H at hP hS ⊢
  have hP : va_P (dC, dI) vwCl [(h0, .inr (5, [.ref b, .int 0, .int 0, .int 0, .int 0, .int 0]))] H := hP
  have hD : va_D A [(h0, .inr (5, [.ref b, .int 0, .int 0, .int 0, .int 0, .int 0]))] := hD
  have hP9 := hP.sub (ws' := [(h0, .inr (5, [.ref b, .int 0, .int 0, .int 0, .int 0, .int 0]))]) [0] rfl
  have hD9 := hD.sub (ws' := [(h0, .inr (5, [.ref b, .int 0, .int 0, .int 0, .int 0, .int 0]))]) [0] (by decide) rfl
  have hK9 := hK.sub (tys' := []) [] rfl
  refine W.widen (k := 0) (n := 0) (Nat.le_of_ble_eq_true rfl) (Nat.le_of_ble_eq_true rfl) ?_
  exact W.vret hx hb hr (fun t ht hW => ⟨⟨(), rfl, trivial, by rw [ht]; exact hP9, va_K.moved hW.alike hK9, hD9⟩, hS.F ht⟩) hS.2.2 px_d16_19
set_option maxHeartbeats 4000000 in
set_option maxRecDepth 100000 in
/-- cutTo(0) -/
theorem px_cutTo (l : Launch) (dC : Nat → ClassId) (dI : Nat → Nat → Nat) (sz : Nat) (h0 : Nat) (q10 : Nat) (q11 : Nat) : Met l px_y17 px_s17 ({ frames := 0, cells := 0, slots := 0, locals := 0 }) (va_Pc [.ref h0, .int 0] (fun U => U.heap.size = sz ∧ va_P (dC, dI) vwCl [(h0, .inr (7, [.ref q10, .ref q11, .int 0, .int 0]))] U.heap ∧ va_K (dC, dI) vwCl [] U ∧ va_D (fun _ => True) [(h0, .inr (7, [.ref q10, .ref q11, .int 0, .int 0]))] ∧ px_N U)) (va_Qv (fun (_ : Unit) => True) (fun (_ : Unit) (t : State) => va_P (dC, dI) vwCl [(h0, .inr (7, [.ref q10, .ref q11, .int 0, .int 0]))] t.heap ∧ va_K (dC, dI) vwCl [] t ∧ va_D (va_A [(h0, .inr (7, [.ref q10, .ref q11, .int 0, .int 0]))] sz) [(h0, .inr (7, [.ref q10, .ref q11, .int 0, .int 0]))]) (va_A [(h0, .inr (7, [.ref q10, .ref q11, .int 0, .int 0]))] sz)) 0 0 (va_A [(h0, .inr (7, [.ref q10, .ref q11, .int 0, .int 0]))] sz) := by
  refine Met.ofW (cc := prog_7_method_2_code) (maxL := 2) (ret := none) (by decide) rfl ?_
  intro p e s m args below meth c s₁ B hml hv
  obtain ⟨rfl, hsz, hP, hK, hD0, hN⟩ := hv
  have hx := B.exec
  have hb := B.bytes
  have hr := B.returns
  have htw : ∀ w ∈ px_all, w.before _ s = true := fun w h => atoms_spec (ws := px_s17) B.pre w (List.mem_cons_of_mem _ h)
  have hown : s.vm.findClass "MatroidDesk$Product" = some m.cls := findClass_of_methodNamed B.named
  have hlocks := B.notSynchronized
  subst hsz
  have hD := hD0.self (sz := s.heap.size)
  generalize hAe : va_A [(h0, .inr (7, [.ref q10, .ref q11, .int 0, .int 0]))] s.heap.size = A at hD ⊢
  have hA : ∀ q : Nat, s.heap.size ≤ q → A q := fun q h => by rw [← hAe]; exact Or.inr h
  have hS : va_S A s.heap s.heap [] := va_S.rf
  have hP : va_P (dC, dI) vwCl [(h0, .inr (7, [.ref q10, .ref q11, .int 0, .int 0]))] s.heap := hP
  have hl := lv_entry ([.ref h0, .int 0]) (n := 2) (Nat.le_of_ble_eq_true rfl)
  rw [lg_entry_eq]
  generalize (lg_sl ([.ref h0, .int 0]) ++ List.replicate (2 - (lg_sl ([.ref h0, .int 0])).length) Slot.unset).toArray = ls at hl ⊢
  have hl : lv_has ls 2 [(0, .ref h0), (1, .int 0)] := hl
  refine lv_aload_n hx hb px_d17_0 rfl (lv_at hl 0 rfl) ?_
  refine lv_iload_n hx hb px_d17_1 rfl (lv_at hl 1 rfl) ?_
  refine va_put (D := (dC, dI)) (ci := 7) (v := .int 0) (ty := .int) (C := "MatroidDesk$Product") (T := px_T7) (N := 4) hx hb htw px_in7 px_ty7 px_tyok7 px_nm7 hown hK hP hD hS 0 rfl rfl 2 (by decide) (htw _ px_w319) (fun _ h9 => h9) rfl (by decide +kernel) rfl rfl (Nat.le_of_ble_eq_true rfl) px_d17_2 (fun H locs hP hD hS => ?_)
  have hP : va_P (dC, dI) vwCl [(h0, .inr (7, [.ref q10, .ref q11, .int 0, .int 0]))] H := hP
  have hD : va_D A [(h0, .inr (7, [.ref q10, .ref q11, .int 0, .int 0]))] := hD
  refine lv_aload_n hx hb px_d17_5 rfl (lv_at hl 0 rfl) ?_
  refine lv_iconst (v := 0) hx hb px_d17_6 (by decide) ?_
  refine va_put (D := (dC, dI)) (ci := 7) (v := .int 0) (ty := .boolean) (C := "MatroidDesk$Product") (T := px_T7) (N := 4) hx hb htw px_in7 px_ty7 px_tyok7 px_nm7 hown hK hP hD hS 0 rfl rfl 3 (by decide) (htw _ px_w320) (fun _ h9 => h9) rfl (by decide +kernel) (by decide +kernel) (by decide +kernel) (Nat.le_of_ble_eq_true rfl) px_d17_7 (fun H locs hP hD hS => ?_)
  have hP : va_P (dC, dI) vwCl [(h0, .inr (7, [.ref q10, .ref q11, .int 0, .int 0]))] H := hP
  have hD : va_D A [(h0, .inr (7, [.ref q10, .ref q11, .int 0, .int 0]))] := hD
  have hP9 := hP.sub (ws' := [(h0, .inr (7, [.ref q10, .ref q11, .int 0, .int 0]))]) [0] rfl
  have hD9 := hD.sub (ws' := [(h0, .inr (7, [.ref q10, .ref q11, .int 0, .int 0]))]) [0] (by decide) rfl
  have hK9 := hK.sub (tys' := []) [] rfl
  refine W.widen (k := 0) (n := 0) (Nat.le_of_ble_eq_true rfl) (Nat.le_of_ble_eq_true rfl) ?_
  exact W.vret hx hb hr (fun t ht hW => ⟨⟨(), rfl, trivial, by rw [ht]; exact hP9, va_K.moved hW.alike hK9, hD9⟩, hS.F ht⟩) hS.2.2 px_d17_10
set_option maxHeartbeats 4000000 in
set_option maxRecDepth 100000 in
/-- readsWhole(0) -/
theorem px_readsWhole (l : Launch) (dC : Nat → ClassId) (dI : Nat → Nat → Nat) (sz : Nat) (h0 : Nat) (qb : Nat) (qm : Nat) (qe : Nat) (qo : Nat) (qi : Nat) (qw : Nat) (qt : Nat) (qs : Nat) (qp : Nat) (q7 : Nat) : Met l px_y18 px_s18 ({ frames := 3, cells := 0, slots := 0, locals := 66 }) (va_Pc [.ref h0, .int 0] (fun U => U.heap.size = sz ∧ va_P (dC, dI) vwCl [(h0, .inr (0, [.ref qb, .int 0, .int (-1), .int 0, .int 0, .null, .ref qm, .ref qe, .ref qo, .ref qi, .ref qw, .ref qt, .ref qs, .ref qp])), (qt, .inr (5, [.ref q7, .int 0, .int 0, .int 0, .int 0, .int 0]))] U.heap ∧ va_K (dC, dI) vwCl [] U ∧ va_D (fun _ => True) [(h0, .inr (0, [.ref qb, .int 0, .int (-1), .int 0, .int 0, .null, .ref qm, .ref qe, .ref qo, .ref qi, .ref qw, .ref qt, .ref qs, .ref qp])), (qt, .inr (5, [.ref q7, .int 0, .int 0, .int 0, .int 0, .int 0]))] ∧ px_N U)) (va_Qi (fun (r : Int32) (_ : Unit) => r = 1) (fun (_ : Unit) (t : State) => va_P (dC, dI) vwCl [(h0, .inr (0, [.ref qb, .int 0, .int (-1), .int 0, .int 0, .null, .ref qm, .ref qe, .ref qo, .ref qi, .ref qw, .ref qt, .ref qs, .ref qp])), (qt, .inr (5, [.ref qb, .int 0, .int 0, .int 0, .int 0, .int 0]))] t.heap ∧ va_K (dC, dI) vwCl [] t ∧ va_D (va_A [(h0, .inr (0, [.ref qb, .int 0, .int (-1), .int 0, .int 0, .null, .ref qm, .ref qe, .ref qo, .ref qi, .ref qw, .ref qt, .ref qs, .ref qp])), (qt, .inr (5, [.ref q7, .int 0, .int 0, .int 0, .int 0, .int 0]))] sz) [(h0, .inr (0, [.ref qb, .int 0, .int (-1), .int 0, .int 0, .null, .ref qm, .ref qe, .ref qo, .ref qi, .ref qw, .ref qt, .ref qs, .ref qp])), (qt, .inr (5, [.ref qb, .int 0, .int 0, .int 0, .int 0, .int 0]))]) (va_A [(h0, .inr (0, [.ref qb, .int 0, .int (-1), .int 0, .int 0, .null, .ref qm, .ref qe, .ref qo, .ref qi, .ref qw, .ref qt, .ref qs, .ref qp])), (qt, .inr (5, [.ref q7, .int 0, .int 0, .int 0, .int 0, .int 0]))] sz)) 0 0 (va_A [(h0, .inr (0, [.ref qb, .int 0, .int (-1), .int 0, .int 0, .null, .ref qm, .ref qe, .ref qo, .ref qi, .ref qw, .ref qt, .ref qs, .ref qp])), (qt, .inr (5, [.ref q7, .int 0, .int 0, .int 0, .int 0, .int 0]))] sz) := by
  refine Met.ofW (cc := prog_1_method_27_code) (maxL := 3) (ret := (some .boolean)) (by decide) rfl ?_
  intro p e s m args below meth c s₁ B hml hv
  obtain ⟨rfl, hsz, hP, hK, hD0, hN⟩ := hv
  have hx := B.exec
  have hb := B.bytes
  have hr := B.returns
  have htw : ∀ w ∈ px_all, w.before _ s = true := fun w h => atoms_spec (ws := px_s18) B.pre w (List.mem_cons_of_mem _ h)
  have hown : s.vm.findClass "MatroidDesk" = some m.cls := findClass_of_methodNamed B.named
  have hlocks := B.notSynchronized
  subst hsz
  have hD := hD0.self (sz := s.heap.size)
  generalize hAe : va_A [(h0, .inr (0, [.ref qb, .int 0, .int (-1), .int 0, .int 0, .null, .ref qm, .ref qe, .ref qo, .ref qi, .ref qw, .ref qt, .ref qs, .ref qp])), (qt, .inr (5, [.ref q7, .int 0, .int 0, .int 0, .int 0, .int 0]))] s.heap.size = A at hD ⊢
  have hA : ∀ q : Nat, s.heap.size ≤ q → A q := fun q h => by rw [← hAe]; exact Or.inr h
  have hS : va_S A s.heap s.heap [] := va_S.rf
  have hP : va_P (dC, dI) vwCl [(h0, .inr (0, [.ref qb, .int 0, .int (-1), .int 0, .int 0, .null, .ref qm, .ref qe, .ref qo, .ref qi, .ref qw, .ref qt, .ref qs, .ref qp])), (qt, .inr (5, [.ref q7, .int 0, .int 0, .int 0, .int 0, .int 0]))] s.heap := hP
  have hl := lv_entry ([.ref h0, .int 0]) (n := 3) (Nat.le_of_ble_eq_true rfl)
  rw [lg_entry_eq]
  generalize (lg_sl ([.ref h0, .int 0]) ++ List.replicate (3 - (lg_sl ([.ref h0, .int 0])).length) Slot.unset).toArray = ls at hl ⊢
  have hl : lv_has ls 3 [(0, .ref h0), (1, .int 0)] := hl
  refine lv_aload_n hx hb px_d18_0 rfl (lv_at hl 0 rfl) ?_
  refine va_get (D := (dC, dI)) (ci := 0) (v := .ref qt) (C := "MatroidDesk") (T := px_T0) (N := 14) hx hb htw px_in0 hown hK hP 0 rfl rfl 11 (by decide) (htw _ px_w229) (fun _ h9 => h9) rfl px_d18_1 ?_
  refine lv_aload_n hx hb px_d18_4 rfl (lv_at hl 0 rfl) ?_
  refine va_get (D := (dC, dI)) (ci := 0) (v := .ref qb) (C := "MatroidDesk") (T := px_T0) (N := 14) hx hb htw px_in0 hown hK hP 0 rfl rfl 0 (by decide) (htw _ px_w209) (fun _ h9 => h9) rfl px_d18_5 ?_
  refine lv_iload_n hx hb px_d18_8 rfl (lv_at hl 1 rfl) ?_
  have hPc := hP.sub (ws' := [(qt, .inr (5, [.ref q7, .int 0, .int 0, .int 0, .int 0, .int 0]))]) [1] rfl
  have hDc := hD.sub (ws' := [(qt, .inr (5, [.ref q7, .int 0, .int 0, .int 0, .int 0, .int 0]))]) [1] (by decide) rfl
  have hKc := hK.sub (tys' := []) [] rfl
  have hFc := va_free (wc := [(qt, .inr (5, [.ref q7, .int 0, .int 0, .int 0, .int 0, .int 0]))]) hD hS hA [1] rfl
  refine va_callv (va_runV (As := [.ref qb, .int 0]) (rest := []) ⟨hx, hb, hml, hown, htw⟩ (px_open l dC dI s.heap.size qt q7 qb) (cwV 2 htw (px_gv px_w324 px_w313 px_w314 px_w66 px_g16) rfl rfl rfl (by decide +kernel) ⟨Nat.le_of_ble_eq_true rfl, Nat.le_of_ble_eq_true rfl⟩) ⟨fun a U g mk q => by obtain ⟨q0, q1, qP, qK, qD, qN⟩ := q; exact ⟨q0, q1, qP, va_K.moved (u := U) (U := U.calling g mk a) (Vm.Alike.refl U.vm) qK, qD, qN.same rfl⟩, va_recv hK hP (ci := 5) (q0 := 1) rfl rfl, fun U hU hW => ⟨rfl, by rw [hU], by rw [hU]; exact hPc, va_K.moved hW.alike hKc, hDc.weaken (fun _ _ _ _ => trivial), hN.warm hW⟩⟩ rfl rfl hl.1 rfl (lv_room (Nat.le_of_ble_eq_true rfl)) px_d18_9 ⟨(Nat.le_of_ble_eq_true rfl), (Nat.le_of_ble_eq_true rfl)⟩) hS (fun q _ h => hFc q h) hFc (fun u t H1 locs ht hvm hw_9 hB hz1 hk1 hS => ?_)
  obtain ⟨hP1, hK1, hD1⟩ := hB
  rw [ht] at hP1
  have hK1 := va_K.moved hvm.symm hK1
  obtain ⟨hP, hD⟩ := va_join (wr := [(h0, .inr (0, [.ref qb, .int 0, .int (-1), .int 0, .int 0, .null, .ref qm, .ref qe, .ref qo, .ref qi, .ref qw, .ref qt, .ref qs, .ref qp]))]) (w1 := [(qt, .inr (5, [.ref qb, .int 0, .int 0, .int 0, .int 0, .int 0]))]) hP hD [1] [0] rfl rfl (by decide) (by decide) hk1 hFc hP1 hD1
  generalize H1 = H at hP hS ⊢
  have hP : va_P (dC, dI) vwCl [(h0, .inr (0, [.ref qb, .int 0, .int (-1), .int 0, .int 0, .null, .ref qm, .ref qe, .ref qo, .ref qi, .ref qw, .ref qt, .ref qs, .ref qp])), (qt, .inr (5, [.ref qb, .int 0, .int 0, .int 0, .int 0, .int 0]))] H := hP
  have hD : va_D A [(h0, .inr (0, [.ref qb, .int 0, .int (-1), .int 0, .int 0, .null, .ref qm, .ref qe, .ref qo, .ref qi, .ref qw, .ref qt, .ref qs, .ref qp])), (qt, .inr (5, [.ref qb, .int 0, .int 0, .int 0, .int 0, .int 0]))] := hD
  refine lv_iconst (v := 0) hx hb px_d18_12 (by decide) ?_
  refine lv_istore_n (lv' := [(2, .int 0), (0, .ref h0), (1, .int 0)]) hx hb px_d18_13 rfl hl (by decide) rfl (fun ls hl => ?_)
  refine lv_iload_n hx hb px_d18_14 rfl (lv_at hl 0 rfl) ?_
  refine lv_sipush (v := 400) hx hb px_d18_15 (by decide) ?_
  refine lv_icmp_ge (tgt := 49) hx hb px_d18_18 (by decide) (fun h9 => absurd h9 (by decide +kernel)) (fun _ => ?_)
  refine lv_aload_n hx hb px_d18_21 rfl (lv_at hl 1 rfl) ?_
  refine va_get (D := (dC, dI)) (ci := 0) (v := .ref qt) (C := "MatroidDesk") (T := px_T0) (N := 14) hx hb htw px_in0 hown hK hP 0 rfl rfl 11 (by decide) (htw _ px_w229) (fun _ h9 => h9) rfl px_d18_22 ?_
  refine va_getN (D := (dC, dI)) (ci := 5) (v := .int 0) (C := "MatroidDesk$Tokens") (T := px_T5) (N := 6) hx hb htw px_in5 hown hK hP 1 rfl rfl 4 (by decide) (va_Nw.use (w := .fieldLinkNest "MatroidDesk" 122 "MatroidDesk$Tokens" "kind" "I" "MatroidDesk") rfl (hN.1 ("MatroidDesk", 122, "MatroidDesk$Tokens", "kind", "I", "MatroidDesk") (by decide))) (fun _ h9 => h9) rfl px_d18_25 ?_
  refine lv_if_eq (tgt := 49) hx hb px_d18_28 (by decide) (fun _ => ?_) (fun h9 => absurd (by decide +kernel) h9)
  refine lv_aload_n hx hb px_d18_49 rfl (lv_at hl 1 rfl) ?_
  refine va_get (D := (dC, dI)) (ci := 0) (v := .ref qt) (C := "MatroidDesk") (T := px_T0) (N := 14) hx hb htw px_in0 hown hK hP 0 rfl rfl 11 (by decide) (htw _ px_w229) (fun _ h9 => h9) rfl px_d18_50 ?_
  refine va_getN (D := (dC, dI)) (ci := 5) (v := .int 0) (C := "MatroidDesk$Tokens") (T := px_T5) (N := 6) hx hb htw px_in5 hown hK hP 1 rfl rfl 4 (by decide) (va_Nw.use (w := .fieldLinkNest "MatroidDesk" 122 "MatroidDesk$Tokens" "kind" "I" "MatroidDesk") rfl (hN.1 ("MatroidDesk", 122, "MatroidDesk$Tokens", "kind", "I", "MatroidDesk") (by decide))) (fun _ h9 => h9) rfl px_d18_53 ?_
  refine lv_if_ne (tgt := 63) hx hb px_d18_56 (by decide) (fun h9 => absurd (by decide +kernel) h9) (fun _ => ?_)
  refine lv_iconst (v := 1) hx hb px_d18_59 (by decide) ?_
  refine lv_goto (tgt := 64) hx hb px_d18_60 (by decide) ?_
  have hP9 := hP.sub (ws' := [(h0, .inr (0, [.ref qb, .int 0, .int (-1), .int 0, .int 0, .null, .ref qm, .ref qe, .ref qo, .ref qi, .ref qw, .ref qt, .ref qs, .ref qp])), (qt, .inr (5, [.ref qb, .int 0, .int 0, .int 0, .int 0, .int 0]))]) [0, 1] rfl
  have hD9 := hD.sub (ws' := [(h0, .inr (0, [.ref qb, .int 0, .int (-1), .int 0, .int 0, .null, .ref qm, .ref qe, .ref qo, .ref qi, .ref qw, .ref qt, .ref qs, .ref qp])), (qt, .inr (5, [.ref qb, .int 0, .int 0, .int 0, .int 0, .int 0]))]) [0, 1] (by decide) rfl
  have hK9 := hK.sub (tys' := []) [] rfl
  refine W.widen (k := 0) (n := 0) (Nat.le_of_ble_eq_true rfl) (Nat.le_of_ble_eq_true rfl) ?_
  exact W.zret (v := 1) hx hb hr (by decide +kernel) (fun t ht hW => ⟨⟨1, (), rfl, rfl, by rw [ht]; exact hP9, va_K.moved hW.alike hK9, hD9⟩, hS.F ht⟩) hS.2.2 px_d18_64
set_option maxHeartbeats 4000000 in
set_option maxRecDepth 100000 in
/-- run() -/
theorem px_D_run (l : Launch) (dC : Nat → ClassId) (dI : Nat → Nat → Nat) (sz : Nat) (h0 : Nat) (qb : Nat) (qm : Nat) (qe : Nat) (qo : Nat) (qi : Nat) (qw : Nat) (qt : Nat) (qs : Nat) (qp : Nat) (q7 : Nat) (q10 : Nat) (q11 : Nat) : Met l px_y19 px_s19 ({ frames := 4, cells := 0, slots := 0, locals := 88 }) (va_Pc [.ref h0] (fun U => U.heap.size = sz ∧ va_P (dC, dI) vwCl [(h0, .inr (0, [.ref qb, .int 0, .int (-1), .int 0, .int 0, .null, .ref qm, .ref qe, .ref qo, .ref qi, .ref qw, .ref qt, .ref qs, .ref qp])), (qt, .inr (5, [.ref q7, .int 0, .int 0, .int 0, .int 0, .int 0])), (qp, .inr (7, [.ref q10, .ref q11, .int 0, .int 0]))] U.heap ∧ va_K (dC, dI) vwCl [] U ∧ va_D (fun _ => True) [(h0, .inr (0, [.ref qb, .int 0, .int (-1), .int 0, .int 0, .null, .ref qm, .ref qe, .ref qo, .ref qi, .ref qw, .ref qt, .ref qs, .ref qp])), (qt, .inr (5, [.ref q7, .int 0, .int 0, .int 0, .int 0, .int 0])), (qp, .inr (7, [.ref q10, .ref q11, .int 0, .int 0]))] ∧ px_N U)) (va_Qi (fun (r : Int32) (_ : Unit) => r = 0) (fun (_ : Unit) (t : State) => va_P (dC, dI) vwCl [] t.heap ∧ va_K (dC, dI) vwCl [] t ∧ va_D (va_A [(h0, .inr (0, [.ref qb, .int 0, .int (-1), .int 0, .int 0, .null, .ref qm, .ref qe, .ref qo, .ref qi, .ref qw, .ref qt, .ref qs, .ref qp])), (qt, .inr (5, [.ref q7, .int 0, .int 0, .int 0, .int 0, .int 0])), (qp, .inr (7, [.ref q10, .ref q11, .int 0, .int 0]))] sz) []) (va_A [(h0, .inr (0, [.ref qb, .int 0, .int (-1), .int 0, .int 0, .null, .ref qm, .ref qe, .ref qo, .ref qi, .ref qw, .ref qt, .ref qs, .ref qp])), (qt, .inr (5, [.ref q7, .int 0, .int 0, .int 0, .int 0, .int 0])), (qp, .inr (7, [.ref q10, .ref q11, .int 0, .int 0]))] sz)) 0 0 (va_A [(h0, .inr (0, [.ref qb, .int 0, .int (-1), .int 0, .int 0, .null, .ref qm, .ref qe, .ref qo, .ref qi, .ref qw, .ref qt, .ref qs, .ref qp])), (qt, .inr (5, [.ref q7, .int 0, .int 0, .int 0, .int 0, .int 0])), (qp, .inr (7, [.ref q10, .ref q11, .int 0, .int 0]))] sz) := by
  refine Met.ofW (cc := prog_1_method_4_code) (maxL := 5) (ret := (some .int)) (by decide) rfl ?_
  intro p e s m args below meth c s₁ B hml hv
  obtain ⟨rfl, hsz, hP, hK, hD0, hN⟩ := hv
  have hx := B.exec
  have hb := B.bytes
  have hr := B.returns
  have htw : ∀ w ∈ px_all, w.before _ s = true := fun w h => atoms_spec (ws := px_s19) B.pre w (List.mem_cons_of_mem _ h)
  have hown : s.vm.findClass "MatroidDesk" = some m.cls := findClass_of_methodNamed B.named
  have hlocks := B.notSynchronized
  subst hsz
  have hD := hD0.self (sz := s.heap.size)
  generalize hAe : va_A [(h0, .inr (0, [.ref qb, .int 0, .int (-1), .int 0, .int 0, .null, .ref qm, .ref qe, .ref qo, .ref qi, .ref qw, .ref qt, .ref qs, .ref qp])), (qt, .inr (5, [.ref q7, .int 0, .int 0, .int 0, .int 0, .int 0])), (qp, .inr (7, [.ref q10, .ref q11, .int 0, .int 0]))] s.heap.size = A at hD ⊢
  have hA : ∀ q : Nat, s.heap.size ≤ q → A q := fun q h => by rw [← hAe]; exact Or.inr h
  have hS : va_S A s.heap s.heap [] := va_S.rf
  have hP : va_P (dC, dI) vwCl [(h0, .inr (0, [.ref qb, .int 0, .int (-1), .int 0, .int 0, .null, .ref qm, .ref qe, .ref qo, .ref qi, .ref qw, .ref qt, .ref qs, .ref qp])), (qt, .inr (5, [.ref q7, .int 0, .int 0, .int 0, .int 0, .int 0])), (qp, .inr (7, [.ref q10, .ref q11, .int 0, .int 0]))] s.heap := hP
  have hl := lv_entry ([.ref h0]) (n := 5) (Nat.le_of_ble_eq_true rfl)
  rw [lg_entry_eq]
  generalize (lg_sl ([.ref h0]) ++ List.replicate (5 - (lg_sl ([.ref h0])).length) Slot.unset).toArray = ls at hl ⊢
  have hl : lv_has ls 5 [(0, .ref h0)] := hl
  refine lv_aload_n hx hb px_d19_0 rfl (lv_at hl 0 rfl) ?_
  refine va_get (D := (dC, dI)) (ci := 0) (v := .int 0) (C := "MatroidDesk") (T := px_T0) (N := 14) hx hb htw px_in0 hown hK hP 0 rfl rfl 1 (by decide) (htw _ px_w210) (fun _ h9 => h9) rfl px_d19_1 ?_
  refine lv_istore_n (lv' := [(1, .int 0), (0, .ref h0)]) hx hb px_d19_4 rfl hl (by decide) rfl (fun ls hl => ?_)
  refine lv_aload_n hx hb px_d19_5 rfl (lv_at hl 1 rfl) ?_
  refine lv_iconst (v := 0) hx hb px_d19_6 (by decide) ?_
  refine va_put (D := (dC, dI)) (ci := 0) (v := .int 0) (ty := .int) (C := "MatroidDesk") (T := px_T0) (N := 14) hx hb htw px_in0 px_ty0 px_tyok0 px_nm0 hown hK hP hD hS 0 rfl rfl 1 (by decide) (htw _ px_w210) (fun _ h9 => h9) rfl (by decide +kernel) rfl rfl (Nat.le_of_ble_eq_true rfl) px_d19_7 (fun H locs hP hD hS => ?_)
  have hP : va_P (dC, dI) vwCl [(h0, .inr (0, [.ref qb, .int 0, .int (-1), .int 0, .int 0, .null, .ref qm, .ref qe, .ref qo, .ref qi, .ref qw, .ref qt, .ref qs, .ref qp])), (qt, .inr (5, [.ref q7, .int 0, .int 0, .int 0, .int 0, .int 0])), (qp, .inr (7, [.ref q10, .ref q11, .int 0, .int 0]))] H := hP
  have hD : va_D A [(h0, .inr (0, [.ref qb, .int 0, .int (-1), .int 0, .int 0, .null, .ref qm, .ref qe, .ref qo, .ref qi, .ref qw, .ref qt, .ref qs, .ref qp])), (qt, .inr (5, [.ref q7, .int 0, .int 0, .int 0, .int 0, .int 0])), (qp, .inr (7, [.ref q10, .ref q11, .int 0, .int 0]))] := hD
  refine lv_aload_n hx hb px_d19_10 rfl (lv_at hl 1 rfl) ?_
  refine lv_iload_n hx hb px_d19_11 rfl (lv_at hl 0 rfl) ?_
  have hPc := hP.sub (ws' := [(h0, .inr (0, [.ref qb, .int 0, .int (-1), .int 0, .int 0, .null, .ref qm, .ref qe, .ref qo, .ref qi, .ref qw, .ref qt, .ref qs, .ref qp])), (qt, .inr (5, [.ref q7, .int 0, .int 0, .int 0, .int 0, .int 0]))]) [0, 1] rfl
  have hDc := hD.sub (ws' := [(h0, .inr (0, [.ref qb, .int 0, .int (-1), .int 0, .int 0, .null, .ref qm, .ref qe, .ref qo, .ref qi, .ref qw, .ref qt, .ref qs, .ref qp])), (qt, .inr (5, [.ref q7, .int 0, .int 0, .int 0, .int 0, .int 0]))]) [0, 1] (by decide) rfl
  have hKc := hK.sub (tys' := []) [] rfl
  have hFc := va_free (wc := [(h0, .inr (0, [.ref qb, .int 0, .int (-1), .int 0, .int 0, .null, .ref qm, .ref qe, .ref qo, .ref qi, .ref qw, .ref qt, .ref qs, .ref qp])), (qt, .inr (5, [.ref q7, .int 0, .int 0, .int 0, .int 0, .int 0]))]) hD hS hA [0, 1] rfl
  refine va_calli (va_runV (As := [.int 0]) (rest := []) ⟨hx, hb, hml, hown, htw⟩ (px_readsWhole l dC dI H.size h0 qb qm qe qo qi qw qt qs qp q7) (cwV 1 htw (px_gv px_w328 px_w322 px_w323 px_w6 px_g18) rfl rfl rfl (by decide +kernel) ⟨Nat.le_of_ble_eq_true rfl, Nat.le_of_ble_eq_true rfl⟩) ⟨fun a U g mk q => by obtain ⟨q0, q1, qP, qK, qD, qN⟩ := q; exact ⟨q0, q1, qP, va_K.moved (u := U) (U := U.calling g mk a) (Vm.Alike.refl U.vm) qK, qD, qN.same rfl⟩, va_recv hK hP (ci := 0) (q0 := 0) rfl rfl, fun U hU hW => ⟨rfl, by rw [hU], by rw [hU]; exact hPc, va_K.moved hW.alike hKc, hDc.weaken (fun _ _ _ _ => trivial), hN.warm hW⟩⟩ rfl rfl hl.1 rfl (lv_room (Nat.le_of_ble_eq_true rfl)) px_d19_12 ⟨(Nat.le_of_ble_eq_true rfl), (Nat.le_of_ble_eq_true rfl)⟩) hS (fun q _ h => hFc q h) hFc (fun r u t H1 locs ht hvm hw_12 hB hz1 hk1 hS => ?_)
  obtain ⟨hP1, hK1, hD1⟩ := hB
  rw [ht] at hP1
  have hK1 := va_K.moved hvm.symm hK1
  obtain ⟨hP, hD⟩ := va_join (wr := [(qp, .inr (7, [.ref q10, .ref q11, .int 0, .int 0]))]) (w1 := [(h0, .inr (0, [.ref qb, .int 0, .int (-1), .int 0, .int 0, .null, .ref qm, .ref qe, .ref qo, .ref qi, .ref qw, .ref qt, .ref qs, .ref qp])), (qt, .inr (5, [.ref qb, .int 0, .int 0, .int 0, .int 0, .int 0]))]) hP hD [0, 1] [2] rfl rfl (by decide) (by decide) hk1 hFc hP1 hD1
  generalize H1 = H at hP hS ⊢
  have hP : va_P (dC, dI) vwCl [(qp, .inr (7, [.ref q10, .ref q11, .int 0, .int 0])), (h0, .inr (0, [.ref qb, .int 0, .int (-1), .int 0, .int 0, .null, .ref qm, .ref qe, .ref qo, .ref qi, .ref qw, .ref qt, .ref qs, .ref qp])), (qt, .inr (5, [.ref qb, .int 0, .int 0, .int 0, .int 0, .int 0]))] H := hP
  have hD : va_D A [(qp, .inr (7, [.ref q10, .ref q11, .int 0, .int 0])), (h0, .inr (0, [.ref qb, .int 0, .int (-1), .int 0, .int 0, .null, .ref qm, .ref qe, .ref qo, .ref qi, .ref qw, .ref qt, .ref qs, .ref qp])), (qt, .inr (5, [.ref qb, .int 0, .int 0, .int 0, .int 0, .int 0]))] := hD
  subst hw_12
  refine lv_if_ne (tgt := 31) hx hb px_d19_15 (by decide) (fun _ => ?_) (fun h9 => absurd h9 (by decide +kernel))
  refine lv_aload_n hx hb px_d19_31 rfl (lv_at hl 1 rfl) ?_
  refine va_get (D := (dC, dI)) (ci := 0) (v := .ref qp) (C := "MatroidDesk") (T := px_T0) (N := 14) hx hb htw px_in0 hown hK hP 1 rfl rfl 13 (by decide) (htw _ px_w235) (fun _ h9 => h9) rfl px_d19_32 ?_
  refine lv_iconst (v := 0) hx hb px_d19_35 (by decide) ?_
  have hPc := hP.sub (ws' := [(qp, .inr (7, [.ref q10, .ref q11, .int 0, .int 0]))]) [0] rfl
  have hDc := hD.sub (ws' := [(qp, .inr (7, [.ref q10, .ref q11, .int 0, .int 0]))]) [0] (by decide) rfl
  have hKc := hK.sub (tys' := []) [] rfl
  have hFc := va_free (wc := [(qp, .inr (7, [.ref q10, .ref q11, .int 0, .int 0]))]) hD hS hA [0] rfl
  refine va_callv (va_runV (As := [.int 0]) (rest := []) ⟨hx, hb, hml, hown, htw⟩ (px_cutTo l dC dI H.size qp q10 q11) (cwV 1 htw (px_gv px_w329 px_w317 px_w318 px_w88 px_g17) rfl rfl rfl (by decide +kernel) ⟨Nat.le_of_ble_eq_true rfl, Nat.le_of_ble_eq_true rfl⟩) ⟨fun a U g mk q => by obtain ⟨q0, q1, qP, qK, qD, qN⟩ := q; exact ⟨q0, q1, qP, va_K.moved (u := U) (U := U.calling g mk a) (Vm.Alike.refl U.vm) qK, qD, qN.same rfl⟩, va_recv hK hP (ci := 7) (q0 := 0) rfl rfl, fun U hU hW => ⟨rfl, by rw [hU], by rw [hU]; exact hPc, va_K.moved hW.alike hKc, hDc.weaken (fun _ _ _ _ => trivial), hN.warm hW⟩⟩ rfl rfl hl.1 rfl (lv_room (Nat.le_of_ble_eq_true rfl)) px_d19_36 ⟨(Nat.le_of_ble_eq_true rfl), (Nat.le_of_ble_eq_true rfl)⟩) hS (fun q _ h => hFc q h) hFc (fun u t H1 locs ht hvm hw_36 hB hz1 hk1 hS => ?_)
  obtain ⟨hP1, hK1, hD1⟩ := hB
  rw [ht] at hP1
  have hK1 := va_K.moved hvm.symm hK1
  obtain ⟨hP, hD⟩ := va_join (wr := [(h0, .inr (0, [.ref qb, .int 0, .int (-1), .int 0, .int 0, .null, .ref qm, .ref qe, .ref qo, .ref qi, .ref qw, .ref qt, .ref qs, .ref qp])), (qt, .inr (5, [.ref qb, .int 0, .int 0, .int 0, .int 0, .int 0]))]) (w1 := [(qp, .inr (7, [.ref q10, .ref q11, .int 0, .int 0]))]) hP hD [0] [1, 2] rfl rfl (by decide) (by decide) hk1 hFc hP1 hD1
  generalize H1 = H at hP hS ⊢
  have hP : va_P (dC, dI) vwCl [(h0, .inr (0, [.ref qb, .int 0, .int (-1), .int 0, .int 0, .null, .ref qm, .ref qe, .ref qo, .ref qi, .ref qw, .ref qt, .ref qs, .ref qp])), (qt, .inr (5, [.ref qb, .int 0, .int 0, .int 0, .int 0, .int 0])), (qp, .inr (7, [.ref q10, .ref q11, .int 0, .int 0]))] H := hP
  have hD : va_D A [(h0, .inr (0, [.ref qb, .int 0, .int (-1), .int 0, .int 0, .null, .ref qm, .ref qe, .ref qo, .ref qi, .ref qw, .ref qt, .ref qs, .ref qp])), (qt, .inr (5, [.ref qb, .int 0, .int 0, .int 0, .int 0, .int 0])), (qp, .inr (7, [.ref q10, .ref q11, .int 0, .int 0]))] := hD
  refine lv_aload_n hx hb px_d19_39 rfl (lv_at hl 1 rfl) ?_
  refine lv_iconst (v := 0) hx hb px_d19_40 (by decide) ?_
  refine va_put (D := (dC, dI)) (ci := 0) (v := .int 0) (ty := .int) (C := "MatroidDesk") (T := px_T0) (N := 14) hx hb htw px_in0 px_ty0 px_tyok0 px_nm0 hown hK hP hD hS 0 rfl rfl 3 (by decide) (htw _ px_w212) (fun _ h9 => h9) rfl (by decide +kernel) rfl rfl (Nat.le_of_ble_eq_true rfl) px_d19_41 (fun H locs hP hD hS => ?_)
  have hP : va_P (dC, dI) vwCl [(h0, .inr (0, [.ref qb, .int 0, .int (-1), .int 0, .int 0, .null, .ref qm, .ref qe, .ref qo, .ref qi, .ref qw, .ref qt, .ref qs, .ref qp])), (qt, .inr (5, [.ref qb, .int 0, .int 0, .int 0, .int 0, .int 0])), (qp, .inr (7, [.ref q10, .ref q11, .int 0, .int 0]))] H := hP
  have hD : va_D A [(h0, .inr (0, [.ref qb, .int 0, .int (-1), .int 0, .int 0, .null, .ref qm, .ref qe, .ref qo, .ref qi, .ref qw, .ref qt, .ref qs, .ref qp])), (qt, .inr (5, [.ref qb, .int 0, .int 0, .int 0, .int 0, .int 0])), (qp, .inr (7, [.ref q10, .ref q11, .int 0, .int 0]))] := hD
  refine lv_iconst (v := 0) hx hb px_d19_44 (by decide) ?_
  refine lv_istore_n (lv' := [(2, .int 0), (1, .int 0), (0, .ref h0)]) hx hb px_d19_45 rfl hl (by decide) rfl (fun ls hl => ?_)
  refine lv_aload_n hx hb px_d19_46 rfl (lv_at hl 2 rfl) ?_
  refine va_get (D := (dC, dI)) (ci := 0) (v := .ref qt) (C := "MatroidDesk") (T := px_T0) (N := 14) hx hb htw px_in0 hown hK hP 0 rfl rfl 11 (by decide) (htw _ px_w229) (fun _ h9 => h9) rfl px_d19_47 ?_
  refine lv_aload_n hx hb px_d19_50 rfl (lv_at hl 2 rfl) ?_
  refine va_get (D := (dC, dI)) (ci := 0) (v := .ref qb) (C := "MatroidDesk") (T := px_T0) (N := 14) hx hb htw px_in0 hown hK hP 0 rfl rfl 0 (by decide) (htw _ px_w209) (fun _ h9 => h9) rfl px_d19_51 ?_
  refine lv_iload_n hx hb px_d19_54 rfl (lv_at hl 1 rfl) ?_
  have hPc := hP.sub (ws' := [(qt, .inr (5, [.ref qb, .int 0, .int 0, .int 0, .int 0, .int 0]))]) [1] rfl
  have hDc := hD.sub (ws' := [(qt, .inr (5, [.ref qb, .int 0, .int 0, .int 0, .int 0, .int 0]))]) [1] (by decide) rfl
  have hKc := hK.sub (tys' := []) [] rfl
  have hFc := va_free (wc := [(qt, .inr (5, [.ref qb, .int 0, .int 0, .int 0, .int 0, .int 0]))]) hD hS hA [1] rfl
  refine va_callv (va_runV (As := [.ref qb, .int 0]) (rest := []) ⟨hx, hb, hml, hown, htw⟩ (px_open l dC dI H.size qt qb qb) (cwV 2 htw (px_gv px_w324 px_w313 px_w314 px_w66 px_g16) rfl rfl rfl (by decide +kernel) ⟨Nat.le_of_ble_eq_true rfl, Nat.le_of_ble_eq_true rfl⟩) ⟨fun a U g mk q => by obtain ⟨q0, q1, qP, qK, qD, qN⟩ := q; exact ⟨q0, q1, qP, va_K.moved (u := U) (U := U.calling g mk a) (Vm.Alike.refl U.vm) qK, qD, qN.same rfl⟩, va_recv hK hP (ci := 5) (q0 := 1) rfl rfl, fun U hU hW => ⟨rfl, by rw [hU], by rw [hU]; exact hPc, va_K.moved hW.alike hKc, hDc.weaken (fun _ _ _ _ => trivial), hN.warm hW⟩⟩ rfl rfl hl.1 rfl (lv_room (Nat.le_of_ble_eq_true rfl)) px_d19_55 ⟨(Nat.le_of_ble_eq_true rfl), (Nat.le_of_ble_eq_true rfl)⟩) hS (fun q _ h => hFc q h) hFc (fun u t H1 locs ht hvm hw_55 hB hz1 hk1 hS => ?_)
  obtain ⟨hP1, hK1, hD1⟩ := hB
  rw [ht] at hP1
  have hK1 := va_K.moved hvm.symm hK1
  obtain ⟨hP, hD⟩ := va_join (wr := [(h0, .inr (0, [.ref qb, .int 0, .int (-1), .int 0, .int 0, .null, .ref qm, .ref qe, .ref qo, .ref qi, .ref qw, .ref qt, .ref qs, .ref qp])), (qp, .inr (7, [.ref q10, .ref q11, .int 0, .int 0]))]) (w1 := [(qt, .inr (5, [.ref qb, .int 0, .int 0, .int 0, .int 0, .int 0]))]) hP hD [1] [0, 2] rfl rfl (by decide) (by decide) hk1 hFc hP1 hD1
  generalize H1 = H at hP hS ⊢
  have hP : va_P (dC, dI) vwCl [(h0, .inr (0, [.ref qb, .int 0, .int (-1), .int 0, .int 0, .null, .ref qm, .ref qe, .ref qo, .ref qi, .ref qw, .ref qt, .ref qs, .ref qp])), (qp, .inr (7, [.ref q10, .ref q11, .int 0, .int 0])), (qt, .inr (5, [.ref qb, .int 0, .int 0, .int 0, .int 0, .int 0]))] H := hP
  have hD : va_D A [(h0, .inr (0, [.ref qb, .int 0, .int (-1), .int 0, .int 0, .null, .ref qm, .ref qe, .ref qo, .ref qi, .ref qw, .ref qt, .ref qs, .ref qp])), (qp, .inr (7, [.ref q10, .ref q11, .int 0, .int 0])), (qt, .inr (5, [.ref qb, .int 0, .int 0, .int 0, .int 0, .int 0]))] := hD
  refine lv_iconst (v := 0) hx hb px_d19_58 (by decide) ?_
  refine lv_istore_n (lv' := [(3, .int 0), (2, .int 0), (1, .int 0), (0, .ref h0)]) hx hb px_d19_59 rfl hl (by decide) rfl (fun ls hl => ?_)
  refine lv_iload_n hx hb px_d19_60 rfl (lv_at hl 0 rfl) ?_
  refine lv_sipush (v := 400) hx hb px_d19_61 (by decide) ?_
  refine lv_icmp_ge (tgt := 210) hx hb px_d19_64 (by decide) (fun h9 => absurd h9 (by decide +kernel)) (fun _ => ?_)
  refine lv_aload_n hx hb px_d19_67 rfl (lv_at hl 3 rfl) ?_
  refine va_get (D := (dC, dI)) (ci := 0) (v := .int 0) (C := "MatroidDesk") (T := px_T0) (N := 14) hx hb htw px_in0 hown hK hP 0 rfl rfl 3 (by decide) (htw _ px_w212) (fun _ h9 => h9) rfl px_d19_68 ?_
  refine lv_if_ne (tgt := 210) hx hb px_d19_71 (by decide) (fun h9 => absurd (by decide +kernel) h9) (fun _ => ?_)
  refine lv_aload_n hx hb px_d19_74 rfl (lv_at hl 3 rfl) ?_
  refine va_get (D := (dC, dI)) (ci := 0) (v := .ref qt) (C := "MatroidDesk") (T := px_T0) (N := 14) hx hb htw px_in0 hown hK hP 0 rfl rfl 11 (by decide) (htw _ px_w229) (fun _ h9 => h9) rfl px_d19_75 ?_
  refine va_getN (D := (dC, dI)) (ci := 5) (v := .int 0) (C := "MatroidDesk$Tokens") (T := px_T5) (N := 6) hx hb htw px_in5 hown hK hP 2 rfl rfl 4 (by decide) (va_Nw.use (w := .fieldLinkNest "MatroidDesk" 122 "MatroidDesk$Tokens" "kind" "I" "MatroidDesk") rfl (hN.1 ("MatroidDesk", 122, "MatroidDesk$Tokens", "kind", "I", "MatroidDesk") (by decide))) (fun _ h9 => h9) rfl px_d19_78 ?_
  refine lv_if_eq (tgt := 210) hx hb px_d19_81 (by decide) (fun _ => ?_) (fun h9 => absurd (by decide +kernel) h9)
  refine lv_iload_n hx hb px_d19_210 rfl (lv_at hl 1 rfl) ?_
  have hP9 := hP.sub (ws' := []) [] rfl
  have hD9 := hD.sub (ws' := []) [] (by decide) rfl
  have hK9 := hK.sub (tys' := []) [] rfl
  refine W.widen (k := 0) (n := 0) (Nat.le_of_ble_eq_true rfl) (Nat.le_of_ble_eq_true rfl) ?_
  exact W.iret (v := 0) hx hb hr (fun t ht hW => ⟨⟨0, (), rfl, rfl, by rw [ht]; exact hP9, va_K.moved hW.alike hK9, hD9⟩, hS.F ht⟩) hS.2.2 px_d19_211
end
