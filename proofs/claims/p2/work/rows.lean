section
-- ===== PART A: goes FIRST, ahead of the names: the tables' words, and 'selects' of the private methods out of them =====
/-- a private method of a class that the tables say can be made, by its rows of tables_1 -/
def lw_okq (q : MethodName × Nat) : Prop := (q.1.cls ≠ "java/lang/invoke/MethodHandle" ∧ q.1.cls ≠ "java/lang/invoke/VarHandle") ∧ Cond.instantiable q.1.cls q.2 ∈ tables_1 ∧ Cond.privateMethod q.1 ∈ tables_1 ∧ Cond.instanceMethod q.1 ∈ tables_1
theorem lw_p0 : lw_okq (⟨"LeanTower", "rowAt", "(I)LLeanTower$Row;"⟩, 13) := ⟨⟨by decide +kernel, by decide +kernel⟩, List.mem_of_getElem? (i := 22) (by decide +kernel), List.mem_of_getElem? (i := 231) (by decide +kernel), List.mem_of_getElem? (i := 232) (by decide +kernel)⟩
theorem lw_p1 : lw_okq (⟨"LeanTower", "found", "(I)I"⟩, 13) := ⟨⟨by decide +kernel, by decide +kernel⟩, List.mem_of_getElem? (i := 22) (by decide +kernel), List.mem_of_getElem? (i := 236) (by decide +kernel), List.mem_of_getElem? (i := 237) (by decide +kernel)⟩
theorem lw_p2 : lw_okq (⟨"LeanTower", "clean", "(I)I"⟩, 13) := ⟨⟨by decide +kernel, by decide +kernel⟩, List.mem_of_getElem? (i := 22) (by decide +kernel), List.mem_of_getElem? (i := 245) (by decide +kernel), List.mem_of_getElem? (i := 246) (by decide +kernel)⟩
theorem lw_p3 : lw_okq (⟨"LeanTower$Reader", "next", "()V"⟩, 8) := ⟨⟨by decide +kernel, by decide +kernel⟩, List.mem_of_getElem? (i := 32) (by decide +kernel), List.mem_of_getElem? (i := 301) (by decide +kernel), List.mem_of_getElem? (i := 302) (by decide +kernel)⟩
theorem lw_p4 : lw_okq (⟨"LeanTower$Reader", "passLetters", "()V"⟩, 8) := ⟨⟨by decide +kernel, by decide +kernel⟩, List.mem_of_getElem? (i := 32) (by decide +kernel), List.mem_of_getElem? (i := 311) (by decide +kernel), List.mem_of_getElem? (i := 312) (by decide +kernel)⟩
theorem lw_p5 : lw_okq (⟨"LeanTower$Reader", "passFigures", "()V"⟩, 8) := ⟨⟨by decide +kernel, by decide +kernel⟩, List.mem_of_getElem? (i := 32) (by decide +kernel), List.mem_of_getElem? (i := 318) (by decide +kernel), List.mem_of_getElem? (i := 319) (by decide +kernel)⟩
theorem lw_p6 : lw_okq (⟨"LeanTower$Reader", "readLaw", "(LLeanTower$Tower;)Z"⟩, 8) := ⟨⟨by decide +kernel, by decide +kernel⟩, List.mem_of_getElem? (i := 32) (by decide +kernel), List.mem_of_getElem? (i := 322) (by decide +kernel), List.mem_of_getElem? (i := 323) (by decide +kernel)⟩
theorem lw_p7 : lw_okq (⟨"LeanTower$Reader", "isWord", "(Ljava/lang/String;)Z"⟩, 8) := ⟨⟨by decide +kernel, by decide +kernel⟩, List.mem_of_getElem? (i := 32) (by decide +kernel), List.mem_of_getElem? (i := 327) (by decide +kernel), List.mem_of_getElem? (i := 328) (by decide +kernel)⟩
theorem lw_p8 : lw_okq (⟨"LeanTower$Reader", "refuse", "(I)Z"⟩, 8) := ⟨⟨by decide +kernel, by decide +kernel⟩, List.mem_of_getElem? (i := 32) (by decide +kernel), List.mem_of_getElem? (i := 379) (by decide +kernel), List.mem_of_getElem? (i := 380) (by decide +kernel)⟩
theorem lw_p9 : lw_okq (⟨"LeanTower$Reader", "number", "(II)I"⟩, 8) := ⟨⟨by decide +kernel, by decide +kernel⟩, List.mem_of_getElem? (i := 32) (by decide +kernel), List.mem_of_getElem? (i := 383) (by decide +kernel), List.mem_of_getElem? (i := 384) (by decide +kernel)⟩
theorem lw_p10 : lw_okq (⟨"LeanTower$Reader", "passSemicolon", "()Z"⟩, 8) := ⟨⟨by decide +kernel, by decide +kernel⟩, List.mem_of_getElem? (i := 32) (by decide +kernel), List.mem_of_getElem? (i := 387) (by decide +kernel), List.mem_of_getElem? (i := 388) (by decide +kernel)⟩
theorem lw_p11 : lw_okq (⟨"LeanTower$Reader", "readPerson", "(LLeanTower$Tower;)Z"⟩, 8) := ⟨⟨by decide +kernel, by decide +kernel⟩, List.mem_of_getElem? (i := 32) (by decide +kernel), List.mem_of_getElem? (i := 392) (by decide +kernel), List.mem_of_getElem? (i := 393) (by decide +kernel)⟩
theorem lw_p12 : lw_okq (⟨"LeanTower$Reader", "kindAtHand", "()I"⟩, 8) := ⟨⟨by decide +kernel, by decide +kernel⟩, List.mem_of_getElem? (i := 32) (by decide +kernel), List.mem_of_getElem? (i := 396) (by decide +kernel), List.mem_of_getElem? (i := 397) (by decide +kernel)⟩
theorem lw_p13 : lw_okq (⟨"LeanTower$Reader", "readStone", "(LLeanTower$Tower;)Z"⟩, 8) := ⟨⟨by decide +kernel, by decide +kernel⟩, List.mem_of_getElem? (i := 32) (by decide +kernel), List.mem_of_getElem? (i := 478) (by decide +kernel), List.mem_of_getElem? (i := 479) (by decide +kernel)⟩
theorem lw_p14 : lw_okq (⟨"LeanTower", "keepAct", "()V"⟩, 13) := ⟨⟨by decide +kernel, by decide +kernel⟩, List.mem_of_getElem? (i := 22) (by decide +kernel), List.mem_of_getElem? (i := 503) (by decide +kernel), List.mem_of_getElem? (i := 504) (by decide +kernel)⟩
theorem lw_p15 : lw_okq (⟨"LeanTower$Tower", "move", "(II)V"⟩, 12) := ⟨⟨by decide +kernel, by decide +kernel⟩, List.mem_of_getElem? (i := 67) (by decide +kernel), List.mem_of_getElem? (i := 542) (by decide +kernel), List.mem_of_getElem? (i := 543) (by decide +kernel)⟩
def lw_privs_1 : List (MethodName × Nat) := [(⟨"LeanTower", "rowAt", "(I)LLeanTower$Row;"⟩, 13), (⟨"LeanTower", "found", "(I)I"⟩, 13), (⟨"LeanTower", "clean", "(I)I"⟩, 13), (⟨"LeanTower$Reader", "next", "()V"⟩, 8), (⟨"LeanTower$Reader", "passLetters", "()V"⟩, 8), (⟨"LeanTower$Reader", "passFigures", "()V"⟩, 8), (⟨"LeanTower$Reader", "readLaw", "(LLeanTower$Tower;)Z"⟩, 8), (⟨"LeanTower$Reader", "isWord", "(Ljava/lang/String;)Z"⟩, 8), (⟨"LeanTower$Reader", "refuse", "(I)Z"⟩, 8), (⟨"LeanTower$Reader", "number", "(II)I"⟩, 8), (⟨"LeanTower$Reader", "passSemicolon", "()Z"⟩, 8), (⟨"LeanTower$Reader", "readPerson", "(LLeanTower$Tower;)Z"⟩, 8), (⟨"LeanTower$Reader", "kindAtHand", "()I"⟩, 8), (⟨"LeanTower$Reader", "readStone", "(LLeanTower$Tower;)Z"⟩, 8), (⟨"LeanTower", "keepAct", "()V"⟩, 13), (⟨"LeanTower$Tower", "move", "(II)V"⟩, 12)]
theorem lw_r1 : ∀ q ∈ lw_privs_1, lw_okq q := List.forall_mem_cons.mpr ⟨lw_p0, List.forall_mem_cons.mpr ⟨lw_p1, List.forall_mem_cons.mpr ⟨lw_p2, List.forall_mem_cons.mpr ⟨lw_p3, List.forall_mem_cons.mpr ⟨lw_p4, List.forall_mem_cons.mpr ⟨lw_p5, List.forall_mem_cons.mpr ⟨lw_p6, List.forall_mem_cons.mpr ⟨lw_p7, List.forall_mem_cons.mpr ⟨lw_p8, List.forall_mem_cons.mpr ⟨lw_p9, List.forall_mem_cons.mpr ⟨lw_p10, List.forall_mem_cons.mpr ⟨lw_p11, List.forall_mem_cons.mpr ⟨lw_p12, List.forall_mem_cons.mpr ⟨lw_p13, List.forall_mem_cons.mpr ⟨lw_p14, List.forall_mem_cons.mpr ⟨lw_p15, fun _ h => absurd h List.not_mem_nil⟩⟩⟩⟩⟩⟩⟩⟩⟩⟩⟩⟩⟩⟩⟩⟩
theorem lw_p16 : lw_okq (⟨"LeanTower", "mayGoUp", "(I)Z"⟩, 13) := ⟨⟨by decide +kernel, by decide +kernel⟩, List.mem_of_getElem? (i := 22) (by decide +kernel), List.mem_of_getElem? (i := 631) (by decide +kernel), List.mem_of_getElem? (i := 632) (by decide +kernel)⟩
theorem lw_p17 : lw_okq (⟨"LeanTower", "worstOfTwo", "(III)I"⟩, 13) := ⟨⟨by decide +kernel, by decide +kernel⟩, List.mem_of_getElem? (i := 22) (by decide +kernel), List.mem_of_getElem? (i := 643) (by decide +kernel), List.mem_of_getElem? (i := 644) (by decide +kernel)⟩
theorem lw_p18 : lw_okq (⟨"LeanTower", "measureReach", "()V"⟩, 13) := ⟨⟨by decide +kernel, by decide +kernel⟩, List.mem_of_getElem? (i := 22) (by decide +kernel), List.mem_of_getElem? (i := 652) (by decide +kernel), List.mem_of_getElem? (i := 653) (by decide +kernel)⟩
theorem lw_p19 : lw_okq (⟨"LeanTower", "worstOfHanging", "(I)I"⟩, 13) := ⟨⟨by decide +kernel, by decide +kernel⟩, List.mem_of_getElem? (i := 22) (by decide +kernel), List.mem_of_getElem? (i := 656) (by decide +kernel), List.mem_of_getElem? (i := 657) (by decide +kernel)⟩
theorem lw_p20 : lw_okq (⟨"LeanTower", "sideIn", "(II)I"⟩, 13) := ⟨⟨by decide +kernel, by decide +kernel⟩, List.mem_of_getElem? (i := 22) (by decide +kernel), List.mem_of_getElem? (i := 660) (by decide +kernel), List.mem_of_getElem? (i := 661) (by decide +kernel)⟩
theorem lw_p21 : lw_okq (⟨"LeanTower", "setThatMakes", "(III)I"⟩, 13) := ⟨⟨by decide +kernel, by decide +kernel⟩, List.mem_of_getElem? (i := 22) (by decide +kernel), List.mem_of_getElem? (i := 676) (by decide +kernel), List.mem_of_getElem? (i := 677) (by decide +kernel)⟩
theorem lw_p22 : lw_okq (⟨"LeanTower", "findRescuable", "(I)V"⟩, 13) := ⟨⟨by decide +kernel, by decide +kernel⟩, List.mem_of_getElem? (i := 22) (by decide +kernel), List.mem_of_getElem? (i := 689) (by decide +kernel), List.mem_of_getElem? (i := 690) (by decide +kernel)⟩
theorem lw_p23 : lw_okq (⟨"LeanTower", "nextOut", "(I)I"⟩, 13) := ⟨⟨by decide +kernel, by decide +kernel⟩, List.mem_of_getElem? (i := 22) (by decide +kernel), List.mem_of_getElem? (i := 694) (by decide +kernel), List.mem_of_getElem? (i := 695) (by decide +kernel)⟩
theorem lw_p24 : lw_okq (⟨"LeanTower$Bells", "ringFrom", "(IIII)V"⟩, 5) := ⟨⟨by decide +kernel, by decide +kernel⟩, List.mem_of_getElem? (i := 144) (by decide +kernel), List.mem_of_getElem? (i := 711) (by decide +kernel), List.mem_of_getElem? (i := 712) (by decide +kernel)⟩
theorem lw_p25 : lw_okq (⟨"LeanTower", "rowsThere", "()I"⟩, 13) := ⟨⟨by decide +kernel, by decide +kernel⟩, List.mem_of_getElem? (i := 22) (by decide +kernel), List.mem_of_getElem? (i := 823) (by decide +kernel), List.mem_of_getElem? (i := 824) (by decide +kernel)⟩
theorem lw_p26 : lw_okq (⟨"LeanTowerModel", "met", "(I)I"⟩, 21) := ⟨⟨by decide +kernel, by decide +kernel⟩, List.mem_of_getElem? (i := 831) (by decide +kernel), List.mem_of_getElem? (i := 914) (by decide +kernel), List.mem_of_getElem? (i := 915) (by decide +kernel)⟩
theorem lw_p27 : lw_okq (⟨"LeanTowerModel", "fine", "(I)I"⟩, 21) := ⟨⟨by decide +kernel, by decide +kernel⟩, List.mem_of_getElem? (i := 831) (by decide +kernel), List.mem_of_getElem? (i := 919) (by decide +kernel), List.mem_of_getElem? (i := 920) (by decide +kernel)⟩
theorem lw_p28 : lw_okq (⟨"LeanTowerModel", "next", "()V"⟩, 21) := ⟨⟨by decide +kernel, by decide +kernel⟩, List.mem_of_getElem? (i := 831) (by decide +kernel), List.mem_of_getElem? (i := 949) (by decide +kernel), List.mem_of_getElem? (i := 950) (by decide +kernel)⟩
theorem lw_p29 : lw_okq (⟨"LeanTowerModel", "takeLaw", "()V"⟩, 21) := ⟨⟨by decide +kernel, by decide +kernel⟩, List.mem_of_getElem? (i := 831) (by decide +kernel), List.mem_of_getElem? (i := 960) (by decide +kernel), List.mem_of_getElem? (i := 961) (by decide +kernel)⟩
theorem lw_p30 : lw_okq (⟨"LeanTowerModel", "takeNumber", "(III)I"⟩, 21) := ⟨⟨by decide +kernel, by decide +kernel⟩, List.mem_of_getElem? (i := 831) (by decide +kernel), List.mem_of_getElem? (i := 965) (by decide +kernel), List.mem_of_getElem? (i := 966) (by decide +kernel)⟩
theorem lw_p31 : lw_okq (⟨"LeanTowerModel", "fails", "(I)I"⟩, 21) := ⟨⟨by decide +kernel, by decide +kernel⟩, List.mem_of_getElem? (i := 831) (by decide +kernel), List.mem_of_getElem? (i := 969) (by decide +kernel), List.mem_of_getElem? (i := 970) (by decide +kernel)⟩
def lw_privs_2 : List (MethodName × Nat) := [(⟨"LeanTower", "mayGoUp", "(I)Z"⟩, 13), (⟨"LeanTower", "worstOfTwo", "(III)I"⟩, 13), (⟨"LeanTower", "measureReach", "()V"⟩, 13), (⟨"LeanTower", "worstOfHanging", "(I)I"⟩, 13), (⟨"LeanTower", "sideIn", "(II)I"⟩, 13), (⟨"LeanTower", "setThatMakes", "(III)I"⟩, 13), (⟨"LeanTower", "findRescuable", "(I)V"⟩, 13), (⟨"LeanTower", "nextOut", "(I)I"⟩, 13), (⟨"LeanTower$Bells", "ringFrom", "(IIII)V"⟩, 5), (⟨"LeanTower", "rowsThere", "()I"⟩, 13), (⟨"LeanTowerModel", "met", "(I)I"⟩, 21), (⟨"LeanTowerModel", "fine", "(I)I"⟩, 21), (⟨"LeanTowerModel", "next", "()V"⟩, 21), (⟨"LeanTowerModel", "takeLaw", "()V"⟩, 21), (⟨"LeanTowerModel", "takeNumber", "(III)I"⟩, 21), (⟨"LeanTowerModel", "fails", "(I)I"⟩, 21)]
theorem lw_r2 : ∀ q ∈ lw_privs_2, lw_okq q := List.forall_mem_cons.mpr ⟨lw_p16, List.forall_mem_cons.mpr ⟨lw_p17, List.forall_mem_cons.mpr ⟨lw_p18, List.forall_mem_cons.mpr ⟨lw_p19, List.forall_mem_cons.mpr ⟨lw_p20, List.forall_mem_cons.mpr ⟨lw_p21, List.forall_mem_cons.mpr ⟨lw_p22, List.forall_mem_cons.mpr ⟨lw_p23, List.forall_mem_cons.mpr ⟨lw_p24, List.forall_mem_cons.mpr ⟨lw_p25, List.forall_mem_cons.mpr ⟨lw_p26, List.forall_mem_cons.mpr ⟨lw_p27, List.forall_mem_cons.mpr ⟨lw_p28, List.forall_mem_cons.mpr ⟨lw_p29, List.forall_mem_cons.mpr ⟨lw_p30, List.forall_mem_cons.mpr ⟨lw_p31, fun _ h => absurd h List.not_mem_nil⟩⟩⟩⟩⟩⟩⟩⟩⟩⟩⟩⟩⟩⟩⟩⟩
theorem lw_p32 : lw_okq (⟨"LeanTowerModel", "takeSign", "()V"⟩, 21) := ⟨⟨by decide +kernel, by decide +kernel⟩, List.mem_of_getElem? (i := 831) (by decide +kernel), List.mem_of_getElem? (i := 973) (by decide +kernel), List.mem_of_getElem? (i := 974) (by decide +kernel)⟩
theorem lw_p33 : lw_okq (⟨"LeanTowerModel", "takePerson", "()V"⟩, 21) := ⟨⟨by decide +kernel, by decide +kernel⟩, List.mem_of_getElem? (i := 831) (by decide +kernel), List.mem_of_getElem? (i := 978) (by decide +kernel), List.mem_of_getElem? (i := 979) (by decide +kernel)⟩
theorem lw_p34 : lw_okq (⟨"LeanTowerModel", "takeStone", "()V"⟩, 21) := ⟨⟨by decide +kernel, by decide +kernel⟩, List.mem_of_getElem? (i := 831) (by decide +kernel), List.mem_of_getElem? (i := 991) (by decide +kernel), List.mem_of_getElem? (i := 992) (by decide +kernel)⟩
theorem lw_p35 : lw_okq (⟨"LeanTowerModel", "copyAll", "(II)V"⟩, 21) := ⟨⟨by decide +kernel, by decide +kernel⟩, List.mem_of_getElem? (i := 831) (by decide +kernel), List.mem_of_getElem? (i := 996) (by decide +kernel), List.mem_of_getElem? (i := 997) (by decide +kernel)⟩
theorem lw_p36 : lw_okq (⟨"LeanTowerModel", "isOne", "(I)Z"⟩, 21) := ⟨⟨by decide +kernel, by decide +kernel⟩, List.mem_of_getElem? (i := 831) (by decide +kernel), List.mem_of_getElem? (i := 1008) (by decide +kernel), List.mem_of_getElem? (i := 1009) (by decide +kernel)⟩
theorem lw_p37 : lw_okq (⟨"LeanTowerModel", "minds", "()V"⟩, 21) := ⟨⟨by decide +kernel, by decide +kernel⟩, List.mem_of_getElem? (i := 831) (by decide +kernel), List.mem_of_getElem? (i := 1012) (by decide +kernel), List.mem_of_getElem? (i := 1013) (by decide +kernel)⟩
theorem lw_p38 : lw_okq (⟨"LeanTowerModel", "isTower", "()Z"⟩, 21) := ⟨⟨by decide +kernel, by decide +kernel⟩, List.mem_of_getElem? (i := 831) (by decide +kernel), List.mem_of_getElem? (i := 1025) (by decide +kernel), List.mem_of_getElem? (i := 1026) (by decide +kernel)⟩
theorem lw_p39 : lw_okq (⟨"LeanTowerModel", "half", "(I)V"⟩, 21) := ⟨⟨by decide +kernel, by decide +kernel⟩, List.mem_of_getElem? (i := 831) (by decide +kernel), List.mem_of_getElem? (i := 1032) (by decide +kernel), List.mem_of_getElem? (i := 1033) (by decide +kernel)⟩
theorem lw_p40 : lw_okq (⟨"LeanTowerModel", "worstOf", "(I)I"⟩, 21) := ⟨⟨by decide +kernel, by decide +kernel⟩, List.mem_of_getElem? (i := 831) (by decide +kernel), List.mem_of_getElem? (i := 1036) (by decide +kernel), List.mem_of_getElem? (i := 1037) (by decide +kernel)⟩
theorem lw_p41 : lw_okq (⟨"LeanTowerModel", "leanOf", "(IZ)I"⟩, 21) := ⟨⟨by decide +kernel, by decide +kernel⟩, List.mem_of_getElem? (i := 831) (by decide +kernel), List.mem_of_getElem? (i := 1040) (by decide +kernel), List.mem_of_getElem? (i := 1041) (by decide +kernel)⟩
theorem lw_p42 : lw_okq (⟨"LeanTowerModel", "burdenOf", "(I)I"⟩, 21) := ⟨⟨by decide +kernel, by decide +kernel⟩, List.mem_of_getElem? (i := 831) (by decide +kernel), List.mem_of_getElem? (i := 1044) (by decide +kernel), List.mem_of_getElem? (i := 1045) (by decide +kernel)⟩
theorem lw_p43 : lw_okq (⟨"LeanTowerModel", "sideOf", "(I)I"⟩, 21) := ⟨⟨by decide +kernel, by decide +kernel⟩, List.mem_of_getElem? (i := 831) (by decide +kernel), List.mem_of_getElem? (i := 1048) (by decide +kernel), List.mem_of_getElem? (i := 1049) (by decide +kernel)⟩
theorem lw_p44 : lw_okq (⟨"LeanTowerModel", "creep", "(I)V"⟩, 21) := ⟨⟨by decide +kernel, by decide +kernel⟩, List.mem_of_getElem? (i := 831) (by decide +kernel), List.mem_of_getElem? (i := 1065) (by decide +kernel), List.mem_of_getElem? (i := 1066) (by decide +kernel)⟩
theorem lw_p45 : lw_okq (⟨"LeanTowerModel", "foretellNow", "()I"⟩, 21) := ⟨⟨by decide +kernel, by decide +kernel⟩, List.mem_of_getElem? (i := 831) (by decide +kernel), List.mem_of_getElem? (i := 1086) (by decide +kernel), List.mem_of_getElem? (i := 1087) (by decide +kernel)⟩
theorem lw_p46 : lw_okq (⟨"LeanTowerModel", "foretell", "(II)I"⟩, 21) := ⟨⟨by decide +kernel, by decide +kernel⟩, List.mem_of_getElem? (i := 831) (by decide +kernel), List.mem_of_getElem? (i := 1090) (by decide +kernel), List.mem_of_getElem? (i := 1091) (by decide +kernel)⟩
theorem lw_p47 : lw_okq (⟨"LeanTowerModel", "isSafe", "(I)Z"⟩, 21) := ⟨⟨by decide +kernel, by decide +kernel⟩, List.mem_of_getElem? (i := 831) (by decide +kernel), List.mem_of_getElem? (i := 1122) (by decide +kernel), List.mem_of_getElem? (i := 1123) (by decide +kernel)⟩
def lw_privs_3 : List (MethodName × Nat) := [(⟨"LeanTowerModel", "takeSign", "()V"⟩, 21), (⟨"LeanTowerModel", "takePerson", "()V"⟩, 21), (⟨"LeanTowerModel", "takeStone", "()V"⟩, 21), (⟨"LeanTowerModel", "copyAll", "(II)V"⟩, 21), (⟨"LeanTowerModel", "isOne", "(I)Z"⟩, 21), (⟨"LeanTowerModel", "minds", "()V"⟩, 21), (⟨"LeanTowerModel", "isTower", "()Z"⟩, 21), (⟨"LeanTowerModel", "half", "(I)V"⟩, 21), (⟨"LeanTowerModel", "worstOf", "(I)I"⟩, 21), (⟨"LeanTowerModel", "leanOf", "(IZ)I"⟩, 21), (⟨"LeanTowerModel", "burdenOf", "(I)I"⟩, 21), (⟨"LeanTowerModel", "sideOf", "(I)I"⟩, 21), (⟨"LeanTowerModel", "creep", "(I)V"⟩, 21), (⟨"LeanTowerModel", "foretellNow", "()I"⟩, 21), (⟨"LeanTowerModel", "foretell", "(II)I"⟩, 21), (⟨"LeanTowerModel", "isSafe", "(I)Z"⟩, 21)]
theorem lw_r3 : ∀ q ∈ lw_privs_3, lw_okq q := List.forall_mem_cons.mpr ⟨lw_p32, List.forall_mem_cons.mpr ⟨lw_p33, List.forall_mem_cons.mpr ⟨lw_p34, List.forall_mem_cons.mpr ⟨lw_p35, List.forall_mem_cons.mpr ⟨lw_p36, List.forall_mem_cons.mpr ⟨lw_p37, List.forall_mem_cons.mpr ⟨lw_p38, List.forall_mem_cons.mpr ⟨lw_p39, List.forall_mem_cons.mpr ⟨lw_p40, List.forall_mem_cons.mpr ⟨lw_p41, List.forall_mem_cons.mpr ⟨lw_p42, List.forall_mem_cons.mpr ⟨lw_p43, List.forall_mem_cons.mpr ⟨lw_p44, List.forall_mem_cons.mpr ⟨lw_p45, List.forall_mem_cons.mpr ⟨lw_p46, List.forall_mem_cons.mpr ⟨lw_p47, fun _ h => absurd h List.not_mem_nil⟩⟩⟩⟩⟩⟩⟩⟩⟩⟩⟩⟩⟩⟩⟩⟩
theorem lw_p48 : lw_okq (⟨"LeanTowerModel", "size", "(I)I"⟩, 21) := ⟨⟨by decide +kernel, by decide +kernel⟩, List.mem_of_getElem? (i := 831) (by decide +kernel), List.mem_of_getElem? (i := 1159) (by decide +kernel), List.mem_of_getElem? (i := 1160) (by decide +kernel)⟩
theorem lw_p49 : lw_okq (⟨"LeanTowerModel", "leaves", "(III)V"⟩, 21) := ⟨⟨by decide +kernel, by decide +kernel⟩, List.mem_of_getElem? (i := 831) (by decide +kernel), List.mem_of_getElem? (i := 1163) (by decide +kernel), List.mem_of_getElem? (i := 1164) (by decide +kernel)⟩
theorem lw_p50 : lw_okq (⟨"LeanTowerModel", "plainMark", "(I)I"⟩, 21) := ⟨⟨by decide +kernel, by decide +kernel⟩, List.mem_of_getElem? (i := 831) (by decide +kernel), List.mem_of_getElem? (i := 1167) (by decide +kernel), List.mem_of_getElem? (i := 1168) (by decide +kernel)⟩
def lw_privs_4 : List (MethodName × Nat) := [(⟨"LeanTowerModel", "size", "(I)I"⟩, 21), (⟨"LeanTowerModel", "leaves", "(III)V"⟩, 21), (⟨"LeanTowerModel", "plainMark", "(I)I"⟩, 21)]
theorem lw_r4 : ∀ q ∈ lw_privs_4, lw_okq q := List.forall_mem_cons.mpr ⟨lw_p48, List.forall_mem_cons.mpr ⟨lw_p49, List.forall_mem_cons.mpr ⟨lw_p50, fun _ h => absurd h List.not_mem_nil⟩⟩⟩
def lw_privs : List (MethodName × Nat) := lw_privs_1 ++ (lw_privs_2 ++ (lw_privs_3 ++ (lw_privs_4)))
def lw_tbl : List Cond := k2_sels lw_privs ++ tables_1
theorem lw_privs_ok : ∀ q ∈ lw_privs, lw_okq q := by
  show ∀ q ∈ lw_privs_1 ++ (lw_privs_2 ++ (lw_privs_3 ++ (lw_privs_4))), lw_okq q
  exact List.forall_mem_append.mpr ⟨lw_r1, List.forall_mem_append.mpr ⟨lw_r2, List.forall_mem_append.mpr ⟨lw_r3, lw_r4⟩⟩⟩
end
section
/-! ===== BEGIN words of one list among another's, by their places ===== -/
theorem goodIn_r {big : List Cond} (ws : List Cond) (ps : List Nat) (hp : ws = ps.filterMap (fun i => big[i]?)) (h : ws.all goodWord = true) : GoodIn big ws := by
  intro w hw
  have h1 := List.all_eq_true.mp h w hw
  rw [hp] at hw
  obtain ⟨i, -, hi⟩ := List.mem_filterMap.mp hw
  have hm : w ∈ big := by first | exact List.mem_of_getElem? hi | exact List.getElem?_mem hi
  exact ⟨hm, good_of_word h1⟩
theorem goodIn_app {big a b : List Cond} (ha : GoodIn big a) (hb : GoodIn big b) : GoodIn big (a ++ b) := fun w h => (List.mem_append.mp h).elim (ha w) (hb w)
theorem goodIn_ca {big a b : List Cond} {c : Cond} (ha : GoodIn big (c :: a)) (hb : GoodIn big b) : GoodIn big (c :: (a ++ b)) := fun w h => (List.mem_cons.mp h).elim (fun e => ha w (List.mem_cons.mpr (Or.inl e))) (fun h => (List.mem_append.mp h).elim (fun h => ha w (List.mem_cons.mpr (Or.inr h))) (hb w))
theorem goodIn_sub {big ws : List Cond} (hm : ∀ w ∈ ws, w ∈ big) (h : ws.all goodWord = true) : GoodIn big ws := fun w hw => ⟨hm w hw, good_of_word (List.all_eq_true.mp h w hw)⟩
/-! ===== END ===== -/

/-! ===== BEGIN printed: names, fields, word lists, decode rows ===== -/
def RX0 : String := "LeanTower$Bells"
def TX0 : u_T := fun k => match k with
  | 0 => ("LeanTower$Bells", "nods", "[I", true)
  | 1 => ("LeanTower$Bells", "order", "[I", true)
  | 2 => ("LeanTower$Bells", "bells", "I", false)
  | 3 => ("LeanTower$Bells", "best", "[I", true)
  | _ => ("LeanTower$Bells", "least", "I", false)
def tyX0 : Nat → FieldType := fun k => match k with
  | 0 => .array .int
  | 1 => .array .int
  | 2 => .int
  | 3 => .array .int
  | _ => .int
abbrev wsX00 : List Cond := u_ws RX0 TX0 5
theorem nmX0 : ∀ a, a < 5 → ∀ b, b < 5 → a ≠ b → (TX0 a).2.1 ≠ (TX0 b).2.1 := by decide +kernel
theorem tyX0_ok : ∀ k, k < 5 → parseFieldDescriptor (TX0 k).2.2.1 = some (tyX0 k) := by decide +kernel
abbrev cX0_init : ByteArray := prog_2_method_1_code
def yX0_init : MethodName := ⟨RX0, "<init>", "()V"⟩
abbrev cX0_findBest : ByteArray := prog_2_method_2_code
def yX0_findBest : MethodName := ⟨RX0, "findBest", "([II)V"⟩
abbrev cX0_ringFrom : ByteArray := prog_2_method_3_code
def yX0_ringFrom : MethodName := ⟨RX0, "ringFrom", "(IIII)V"⟩
def RX1 : String := "LeanTower$Bishop"
def TX1 : u_T := fun k => match k with
  | 0 => ("LeanTower$Person", "number", "I", true)
  | 1 => ("LeanTower$Person", "burden", "I", true)
  | _ => ("LeanTower$Person", "pace", "I", true)
def tyX1 : Nat → FieldType := fun k => match k with
  | 0 => .int
  | 1 => .int
  | _ => .int
abbrev wsX10 : List Cond := u_ws RX1 TX1 3
theorem nmX1 : ∀ a, a < 3 → ∀ b, b < 3 → a ≠ b → (TX1 a).2.1 ≠ (TX1 b).2.1 := by decide +kernel
theorem tyX1_ok : ∀ k, k < 3 → parseFieldDescriptor (TX1 k).2.2.1 = some (tyX1 k) := by decide +kernel
abbrev cX1_init : ByteArray := prog_3_method_1_code
def yX1_init : MethodName := ⟨RX1, "<init>", "(III)V"⟩
abbrev cX1_ownKind : ByteArray := prog_3_method_2_code
def yX1_ownKind : MethodName := ⟨RX1, "ownKind", "()I"⟩
abbrev cX1_stride : ByteArray := prog_3_method_3_code
def yX1_stride : MethodName := ⟨RX1, "stride", "()I"⟩
abbrev cX1_size : ByteArray := prog_3_method_4_code
def yX1_size : MethodName := ⟨RX1, "size", "(LLeanTower$Trace;)I"⟩
def RX2 : String := "LeanTower$Boy"
def TX2 : u_T := fun k => match k with
  | 0 => ("LeanTower$Person", "number", "I", true)
  | 1 => ("LeanTower$Person", "burden", "I", true)
  | _ => ("LeanTower$Person", "pace", "I", true)
def tyX2 : Nat → FieldType := fun k => match k with
  | 0 => .int
  | 1 => .int
  | _ => .int
abbrev wsX20 : List Cond := u_ws RX2 TX2 3
theorem nmX2 : ∀ a, a < 3 → ∀ b, b < 3 → a ≠ b → (TX2 a).2.1 ≠ (TX2 b).2.1 := by decide +kernel
theorem tyX2_ok : ∀ k, k < 3 → parseFieldDescriptor (TX2 k).2.2.1 = some (tyX2 k) := by decide +kernel
abbrev cX2_init : ByteArray := prog_4_method_1_code
def yX2_init : MethodName := ⟨RX2, "<init>", "(III)V"⟩
abbrev cX2_ownKind : ByteArray := prog_4_method_2_code
def yX2_ownKind : MethodName := ⟨RX2, "ownKind", "()I"⟩
abbrev cX2_size : ByteArray := prog_4_method_3_code
def yX2_size : MethodName := ⟨RX2, "size", "(LLeanTower$Trace;)I"⟩
abbrev cX2_mark : ByteArray := prog_4_method_4_code
def yX2_mark : MethodName := ⟨RX2, "mark", "(LLeanTower$Trace;)I"⟩
def RX3 : String := "LeanTower$Monk"
def TX3 : u_T := fun k => match k with
  | 0 => ("LeanTower$Person", "number", "I", true)
  | 1 => ("LeanTower$Person", "burden", "I", true)
  | _ => ("LeanTower$Person", "pace", "I", true)
def tyX3 : Nat → FieldType := fun k => match k with
  | 0 => .int
  | 1 => .int
  | _ => .int
abbrev wsX30 : List Cond := u_ws RX3 TX3 3
theorem nmX3 : ∀ a, a < 3 → ∀ b, b < 3 → a ≠ b → (TX3 a).2.1 ≠ (TX3 b).2.1 := by decide +kernel
theorem tyX3_ok : ∀ k, k < 3 → parseFieldDescriptor (TX3 k).2.2.1 = some (tyX3 k) := by decide +kernel
abbrev cX3_init : ByteArray := prog_5_method_1_code
def yX3_init : MethodName := ⟨RX3, "<init>", "(III)V"⟩
abbrev cX3_ownKind : ByteArray := prog_5_method_2_code
def yX3_ownKind : MethodName := ⟨RX3, "ownKind", "()I"⟩
abbrev cX3_stride : ByteArray := prog_5_method_3_code
def yX3_stride : MethodName := ⟨RX3, "stride", "()I"⟩
abbrev cX3_size : ByteArray := prog_5_method_4_code
def yX3_size : MethodName := ⟨RX3, "size", "(LLeanTower$Trace;)I"⟩
abbrev cX3_mark : ByteArray := prog_5_method_5_code
def yX3_mark : MethodName := ⟨RX3, "mark", "(LLeanTower$Trace;)I"⟩
def RX4 : String := "LeanTower$Person"
def TX4 : u_T := fun k => match k with
  | _ => ("", "", "", false)
def tyX4 : Nat → FieldType := fun k => match k with
  | _ => .int
abbrev wsX40 : List Cond := u_ws RX4 TX4 0
theorem nmX4 : ∀ a, a < 0 → ∀ b, b < 0 → a ≠ b → (TX4 a).2.1 ≠ (TX4 b).2.1 := by decide +kernel
theorem tyX4_ok : ∀ k, k < 0 → parseFieldDescriptor (TX4 k).2.2.1 = some (tyX4 k) := by decide +kernel
abbrev cX4_init : ByteArray := prog_6_method_1_code
def yX4_init : MethodName := ⟨RX4, "<init>", "(III)V"⟩
abbrev cX4_stride : ByteArray := prog_6_method_3_code
def yX4_stride : MethodName := ⟨RX4, "stride", "()I"⟩
abbrev cX4_size : ByteArray := prog_6_method_4_code
def yX4_size : MethodName := ⟨RX4, "size", "(LLeanTower$Trace;)I"⟩
abbrev cX4_mark : ByteArray := prog_6_method_5_code
def yX4_mark : MethodName := ⟨RX4, "mark", "(LLeanTower$Trace;)I"⟩
def RX5 : String := "LeanTower$Pilgrim"
def TX5 : u_T := fun k => match k with
  | 0 => ("LeanTower$Person", "number", "I", true)
  | 1 => ("LeanTower$Person", "burden", "I", true)
  | _ => ("LeanTower$Person", "pace", "I", true)
def tyX5 : Nat → FieldType := fun k => match k with
  | 0 => .int
  | 1 => .int
  | _ => .int
abbrev wsX50 : List Cond := u_ws RX5 TX5 3
theorem nmX5 : ∀ a, a < 3 → ∀ b, b < 3 → a ≠ b → (TX5 a).2.1 ≠ (TX5 b).2.1 := by decide +kernel
theorem tyX5_ok : ∀ k, k < 3 → parseFieldDescriptor (TX5 k).2.2.1 = some (tyX5 k) := by decide +kernel
abbrev cX5_init : ByteArray := prog_7_method_1_code
def yX5_init : MethodName := ⟨RX5, "<init>", "(III)V"⟩
abbrev cX5_ownKind : ByteArray := prog_7_method_2_code
def yX5_ownKind : MethodName := ⟨RX5, "ownKind", "()I"⟩
abbrev cX5_size : ByteArray := prog_7_method_3_code
def yX5_size : MethodName := ⟨RX5, "size", "(LLeanTower$Trace;)I"⟩
abbrev cX5_mark : ByteArray := prog_7_method_4_code
def yX5_mark : MethodName := ⟨RX5, "mark", "(LLeanTower$Trace;)I"⟩
def RX6 : String := "LeanTower$Reader"
def TX6 : u_T := fun k => match k with
  | 0 => ("LeanTower$Reader", "tape", "[B", true)
  | 1 => ("LeanTower$Reader", "bytes", "I", false)
  | 2 => ("LeanTower$Reader", "latestFault", "I", false)
  | 3 => ("LeanTower$Reader", "faultPlace", "I", false)
  | 4 => ("LeanTower$Reader", "tokenStart", "I", false)
  | 5 => ("LeanTower$Reader", "tokenEnd", "I", false)
  | 6 => ("LeanTower$Reader", "token", "I", false)
  | _ => ("LeanTower$Reader", "tokenValue", "I", false)
def tyX6 : Nat → FieldType := fun k => match k with
  | 0 => .array .byte
  | 1 => .int
  | 2 => .int
  | 3 => .int
  | 4 => .int
  | 5 => .int
  | 6 => .int
  | _ => .int
abbrev wsX60 : List Cond := u_ws RX6 TX6 8
theorem nmX6 : ∀ a, a < 8 → ∀ b, b < 8 → a ≠ b → (TX6 a).2.1 ≠ (TX6 b).2.1 := by decide +kernel
theorem tyX6_ok : ∀ k, k < 8 → parseFieldDescriptor (TX6 k).2.2.1 = some (tyX6 k) := by decide +kernel
abbrev cX6_init : ByteArray := prog_8_method_1_code
def yX6_init : MethodName := ⟨RX6, "<init>", "()V"⟩
abbrev cX6_append : ByteArray := prog_8_method_2_code
def yX6_append : MethodName := ⟨RX6, "append", "(B)V"⟩
abbrev cX6_readInto : ByteArray := prog_8_method_3_code
def yX6_readInto : MethodName := ⟨RX6, "readInto", "(LLeanTower$Tower;)Z"⟩
abbrev cX6_readLaw : ByteArray := prog_8_method_4_code
def yX6_readLaw : MethodName := ⟨RX6, "readLaw", "(LLeanTower$Tower;)Z"⟩
abbrev cX6_readPerson : ByteArray := prog_8_method_5_code
def yX6_readPerson : MethodName := ⟨RX6, "readPerson", "(LLeanTower$Tower;)Z"⟩
abbrev cX6_readStone : ByteArray := prog_8_method_6_code
def yX6_readStone : MethodName := ⟨RX6, "readStone", "(LLeanTower$Tower;)Z"⟩
abbrev cX6_kindAtHand : ByteArray := prog_8_method_7_code
def yX6_kindAtHand : MethodName := ⟨RX6, "kindAtHand", "()I"⟩
abbrev cX6_newPerson : ByteArray := prog_8_method_8_code
def yX6_newPerson : MethodName := ⟨RX6, "newPerson", "(IIII)LLeanTower$Person;"⟩
abbrev cX6_number : ByteArray := prog_8_method_9_code
def yX6_number : MethodName := ⟨RX6, "number", "(II)I"⟩
abbrev cX6_passSemicolon : ByteArray := prog_8_method_10_code
def yX6_passSemicolon : MethodName := ⟨RX6, "passSemicolon", "()Z"⟩
abbrev cX6_refuse : ByteArray := prog_8_method_11_code
def yX6_refuse : MethodName := ⟨RX6, "refuse", "(I)Z"⟩
abbrev cX6_isWord : ByteArray := prog_8_method_12_code
def yX6_isWord : MethodName := ⟨RX6, "isWord", "(Ljava/lang/String;)Z"⟩
abbrev cX6_next : ByteArray := prog_8_method_13_code
def yX6_next : MethodName := ⟨RX6, "next", "()V"⟩
abbrev cX6_passLetters : ByteArray := prog_8_method_14_code
def yX6_passLetters : MethodName := ⟨RX6, "passLetters", "()V"⟩
abbrev cX6_passFigures : ByteArray := prog_8_method_15_code
def yX6_passFigures : MethodName := ⟨RX6, "passFigures", "()V"⟩
abbrev cX6_isBlank : ByteArray := prog_8_method_16_code
def yX6_isBlank : MethodName := ⟨RX6, "isBlank", "(B)Z"⟩
abbrev cX6_isLetter : ByteArray := prog_8_method_17_code
def yX6_isLetter : MethodName := ⟨RX6, "isLetter", "(B)Z"⟩
abbrev cX6_isFigure : ByteArray := prog_8_method_18_code
def yX6_isFigure : MethodName := ⟨RX6, "isFigure", "(B)Z"⟩
def RX7 : String := "LeanTower$Row"
def TX7 : u_T := fun k => match k with
  | 0 => ("LeanTower$Row", "items", "[I", true)
  | 1 => ("LeanTower$Row", "lane", "I", false)
  | _ => ("LeanTower$Row", "length", "I", false)
def tyX7 : Nat → FieldType := fun k => match k with
  | 0 => .array .int
  | 1 => .int
  | _ => .int
abbrev wsX70 : List Cond := u_ws RX7 TX7 3
theorem nmX7 : ∀ a, a < 3 → ∀ b, b < 3 → a ≠ b → (TX7 a).2.1 ≠ (TX7 b).2.1 := by decide +kernel
theorem tyX7_ok : ∀ k, k < 3 → parseFieldDescriptor (TX7 k).2.2.1 = some (tyX7 k) := by decide +kernel
abbrev cX7_init : ByteArray := prog_9_method_1_code
def yX7_init : MethodName := ⟨RX7, "<init>", "()V"⟩
abbrev cX7_isMissing : ByteArray := prog_9_method_2_code
def yX7_isMissing : MethodName := ⟨RX7, "isMissing", "()Z"⟩
abbrev cX7_begin : ByteArray := prog_9_method_3_code
def yX7_begin : MethodName := ⟨RX7, "begin", "(II)V"⟩
abbrev cX7_end : ByteArray := prog_9_method_4_code
def yX7_end : MethodName := ⟨RX7, "end", "()V"⟩
abbrev cX7_narrowed : ByteArray := prog_9_method_5_code
def yX7_narrowed : MethodName := ⟨RX7, "narrowed", "(I)I"⟩
abbrev cX7_reaches : ByteArray := prog_9_method_6_code
def yX7_reaches : MethodName := ⟨RX7, "reaches", "(II)Z"⟩
abbrev cX7_holds : ByteArray := prog_9_method_7_code
def yX7_holds : MethodName := ⟨RX7, "holds", "(III)Z"⟩
def RX8 : String := "LeanTower$Tower"
def TX8 : u_T := fun k => match k with
  | 0 => ("LeanTower$Tower", "steps", "I", false)
  | 1 => ("LeanTower$Tower", "law", "I", false)
  | 2 => ("LeanTower$Tower", "people", "I", false)
  | 3 => ("LeanTower$Tower", "stones", "I", false)
  | 4 => ("LeanTower$Tower", "persons", "[LLeanTower$Person;", true)
  | 5 => ("LeanTower$Tower", "step", "[I", true)
  | 6 => ("LeanTower$Tower", "way", "[I", true)
  | 7 => ("LeanTower$Tower", "stoneWeight", "[I", true)
  | 8 => ("LeanTower$Tower", "stoneSide", "[I", true)
  | 9 => ("LeanTower$Tower", "minute", "I", false)
  | 10 => ("LeanTower$Tower", "creptEast", "I", false)
  | _ => ("LeanTower$Tower", "creptNorth", "I", false)
def tyX8 : Nat → FieldType := fun k => match k with
  | 0 => .int
  | 1 => .int
  | 2 => .int
  | 3 => .int
  | 4 => .array (.object "LeanTower$Person")
  | 5 => .array .int
  | 6 => .array .int
  | 7 => .array .int
  | 8 => .array .int
  | 9 => .int
  | 10 => .int
  | _ => .int
abbrev wsX80 : List Cond := u_ws RX8 TX8 12
theorem nmX8 : ∀ a, a < 12 → ∀ b, b < 12 → a ≠ b → (TX8 a).2.1 ≠ (TX8 b).2.1 := by decide +kernel
theorem tyX8_ok : ∀ k, k < 12 → parseFieldDescriptor (TX8 k).2.2.1 = some (tyX8 k) := by decide +kernel
abbrev cX8_init : ByteArray := prog_10_method_1_code
def yX8_init : MethodName := ⟨RX8, "<init>", "()V"⟩
abbrev cX8_stands : ByteArray := prog_10_method_2_code
def yX8_stands : MethodName := ⟨RX8, "stands", "()Z"⟩
abbrev cX8_clear : ByteArray := prog_10_method_3_code
def yX8_clear : MethodName := ⟨RX8, "clear", "()V"⟩
abbrev cX8_takeFrom : ByteArray := prog_10_method_4_code
def yX8_takeFrom : MethodName := ⟨RX8, "takeFrom", "(LLeanTower$Tower;)V"⟩
abbrev cX8_addPerson : ByteArray := prog_10_method_5_code
def yX8_addPerson : MethodName := ⟨RX8, "addPerson", "(LLeanTower$Person;I)V"⟩
abbrev cX8_addStone : ByteArray := prog_10_method_6_code
def yX8_addStone : MethodName := ⟨RX8, "addStone", "(II)V"⟩
abbrev cX8_hasPerson : ByteArray := prog_10_method_7_code
def yX8_hasPerson : MethodName := ⟨RX8, "hasPerson", "(I)Z"⟩
abbrev cX8_hasStone : ByteArray := prog_10_method_8_code
def yX8_hasStone : MethodName := ⟨RX8, "hasStone", "(I)Z"⟩
abbrev cX8_who : ByteArray := prog_10_method_9_code
def yX8_who : MethodName := ⟨RX8, "who", "(I)LLeanTower$Person;"⟩
abbrev cX8_isOutside : ByteArray := prog_10_method_10_code
def yX8_isOutside : MethodName := ⟨RX8, "isOutside", "(I)Z"⟩
abbrev cX8_outsideSet : ByteArray := prog_10_method_11_code
def yX8_outsideSet : MethodName := ⟨RX8, "outsideSet", "()I"⟩
abbrev cX8_insideSet : ByteArray := prog_10_method_12_code
def yX8_insideSet : MethodName := ⟨RX8, "insideSet", "()I"⟩
abbrev cX8_sideOf : ByteArray := prog_10_method_13_code
def yX8_sideOf : MethodName := ⟨RX8, "sideOf", "(I)I"⟩
abbrev cX8_pull : ByteArray := prog_10_method_14_code
def yX8_pull : MethodName := ⟨RX8, "pull", "(III)I"⟩
abbrev cX8_leanWith : ByteArray := prog_10_method_15_code
def yX8_leanWith : MethodName := ⟨RX8, "leanWith", "(II)I"⟩
abbrev cX8_tiltWith : ByteArray := prog_10_method_16_code
def yX8_tiltWith : MethodName := ⟨RX8, "tiltWith", "(I)I"⟩
abbrev cX8_isBeyond : ByteArray := prog_10_method_17_code
def yX8_isBeyond : MethodName := ⟨RX8, "isBeyond", "()Z"⟩
abbrev cX8_passHalf : ByteArray := prog_10_method_18_code
def yX8_passHalf : MethodName := ⟨RX8, "passHalf", "()V"⟩
abbrev cX8_move : ByteArray := prog_10_method_19_code
def yX8_move : MethodName := ⟨RX8, "move", "(II)V"⟩
abbrev cX8_passYear : ByteArray := prog_10_method_20_code
def yX8_passYear : MethodName := ⟨RX8, "passYear", "()V"⟩
abbrev cX8_worstOver : ByteArray := prog_10_method_21_code
def yX8_worstOver : MethodName := ⟨RX8, "worstOver", "(I)I"⟩
abbrev cX8_firstBeyond : ByteArray := prog_10_method_22_code
def yX8_firstBeyond : MethodName := ⟨RX8, "firstBeyond", "(I)I"⟩
def RX9 : String := "LeanTower$Trace"
def TX9 : u_T := fun k => match k with
  | 0 => ("LeanTower$Trace", "numbers", "[I", true)
  | _ => ("LeanTower$Trace", "length", "I", false)
def tyX9 : Nat → FieldType := fun k => match k with
  | 0 => .array .int
  | _ => .int
abbrev wsX90 : List Cond := u_ws RX9 TX9 2
theorem nmX9 : ∀ a, a < 2 → ∀ b, b < 2 → a ≠ b → (TX9 a).2.1 ≠ (TX9 b).2.1 := by decide +kernel
theorem tyX9_ok : ∀ k, k < 2 → parseFieldDescriptor (TX9 k).2.2.1 = some (tyX9 k) := by decide +kernel
abbrev cX9_init : ByteArray := prog_11_method_1_code
def yX9_init : MethodName := ⟨RX9, "<init>", "()V"⟩
abbrev cX9_leave : ByteArray := prog_11_method_2_code
def yX9_leave : MethodName := ⟨RX9, "leave", "(I)V"⟩
def RX10 : String := "LeanTower$Widow"
def TX10 : u_T := fun k => match k with
  | 0 => ("LeanTower$Person", "number", "I", true)
  | 1 => ("LeanTower$Person", "burden", "I", true)
  | _ => ("LeanTower$Person", "pace", "I", true)
def tyX10 : Nat → FieldType := fun k => match k with
  | 0 => .int
  | 1 => .int
  | _ => .int
abbrev wsX100 : List Cond := u_ws RX10 TX10 3
theorem nmX10 : ∀ a, a < 3 → ∀ b, b < 3 → a ≠ b → (TX10 a).2.1 ≠ (TX10 b).2.1 := by decide +kernel
theorem tyX10_ok : ∀ k, k < 3 → parseFieldDescriptor (TX10 k).2.2.1 = some (tyX10 k) := by decide +kernel
abbrev cX10_init : ByteArray := prog_12_method_1_code
def yX10_init : MethodName := ⟨RX10, "<init>", "(III)V"⟩
abbrev cX10_ownKind : ByteArray := prog_12_method_2_code
def yX10_ownKind : MethodName := ⟨RX10, "ownKind", "()I"⟩
abbrev cX10_mark : ByteArray := prog_12_method_3_code
def yX10_mark : MethodName := ⟨RX10, "mark", "(LLeanTower$Trace;)I"⟩
def RX11 : String := "LeanTower"
def TX11 : u_T := fun k => match k with
  | 0 => ("LeanTower", "rows", "[LLeanTower$Row;", true)
  | 1 => ("LeanTower", "reader", "LLeanTower$Reader;", true)
  | 2 => ("LeanTower", "now", "LLeanTower$Tower;", true)
  | 3 => ("LeanTower", "trial", "LLeanTower$Tower;", true)
  | 4 => ("LeanTower", "before", "[LLeanTower$Tower;", true)
  | 5 => ("LeanTower", "oldestAct", "I", false)
  | 6 => ("LeanTower", "actCount", "I", false)
  | 7 => ("LeanTower", "images", "[LLeanTower$Tower;", true)
  | 8 => ("LeanTower", "bodies", "LLeanTower$Trace;", true)
  | 9 => ("LeanTower", "belfry", "LLeanTower$Bells;", true)
  | 10 => ("LeanTower", "rescuable", "[Z", true)
  | 11 => ("LeanTower", "reach", "[I", true)
  | _ => ("LeanTower", "latestFinding", "I", false)
def tyX11 : Nat → FieldType := fun k => match k with
  | 0 => .array (.object "LeanTower$Row")
  | 1 => .object "LeanTower$Reader"
  | 2 => .object "LeanTower$Tower"
  | 3 => .object "LeanTower$Tower"
  | 4 => .array (.object "LeanTower$Tower")
  | 5 => .int
  | 6 => .int
  | 7 => .array (.object "LeanTower$Tower")
  | 8 => .object "LeanTower$Trace"
  | 9 => .object "LeanTower$Bells"
  | 10 => .array .boolean
  | 11 => .array .int
  | _ => .int
abbrev wsX110 : List Cond := u_ws RX11 TX11 13
theorem nmX11 : ∀ a, a < 13 → ∀ b, b < 13 → a ≠ b → (TX11 a).2.1 ≠ (TX11 b).2.1 := by decide +kernel
theorem tyX11_ok : ∀ k, k < 13 → parseFieldDescriptor (TX11 k).2.2.1 = some (tyX11 k) := by decide +kernel
abbrev cX11_init : ByteArray := prog_1_method_1_code
def yX11_init : MethodName := ⟨RX11, "<init>", "()V"⟩
abbrev cX11_row : ByteArray := prog_1_method_2_code
def yX11_row : MethodName := ⟨RX11, "row", "(III)I"⟩
abbrev cX11_set : ByteArray := prog_1_method_3_code
def yX11_set : MethodName := ⟨RX11, "set", "(III)I"⟩
abbrev cX11_copy : ByteArray := prog_1_method_4_code
def yX11_copy : MethodName := ⟨RX11, "copy", "(IIIII)I"⟩
abbrev cX11_drop : ByteArray := prog_1_method_5_code
def yX11_drop : MethodName := ⟨RX11, "drop", "(I)I"⟩
abbrev cX11_feed : ByteArray := prog_1_method_6_code
def yX11_feed : MethodName := ⟨RX11, "feed", "(JI)I"⟩
abbrev cX11_tower : ByteArray := prog_1_method_7_code
def yX11_tower : MethodName := ⟨RX11, "tower", "()I"⟩
abbrev cX11_fault : ByteArray := prog_1_method_8_code
def yX11_fault : MethodName := ⟨RX11, "fault", "()I"⟩
abbrev cX11_go : ByteArray := prog_1_method_9_code
def yX11_go : MethodName := ⟨RX11, "go", "(II)I"⟩
abbrev cX11_hang : ByteArray := prog_1_method_10_code
def yX11_hang : MethodName := ⟨RX11, "hang", "(II)I"⟩
abbrev cX11_halves : ByteArray := prog_1_method_11_code
def yX11_halves : MethodName := ⟨RX11, "halves", "(I)I"⟩
abbrev cX11_year : ByteArray := prog_1_method_12_code
def yX11_year : MethodName := ⟨RX11, "year", "()I"⟩
abbrev cX11_undo : ByteArray := prog_1_method_13_code
def yX11_undo : MethodName := ⟨RX11, "undo", "()I"⟩
abbrev cX11_person : ByteArray := prog_1_method_14_code
def yX11_person : MethodName := ⟨RX11, "person", "(II)I"⟩
abbrev cX11_lean : ByteArray := prog_1_method_15_code
def yX11_lean : MethodName := ⟨RX11, "lean", "(I)I"⟩
abbrev cX11_worst : ByteArray := prog_1_method_16_code
def yX11_worst : MethodName := ⟨RX11, "worst", "(I)I"⟩
abbrev cX11_most : ByteArray := prog_1_method_17_code
def yX11_most : MethodName := ⟨RX11, "most", "()I"⟩
abbrev cX11_two : ByteArray := prog_1_method_18_code
def yX11_two : MethodName := ⟨RX11, "two", "(III)I"⟩
abbrev cX11_stones : ByteArray := prog_1_method_19_code
def yX11_stones : MethodName := ⟨RX11, "stones", "(I)I"⟩
abbrev cX11_marks : ByteArray := prog_1_method_20_code
def yX11_marks : MethodName := ⟨RX11, "marks", "(IIII)I"⟩
abbrev cX11_rescue : ByteArray := prog_1_method_21_code
def yX11_rescue : MethodName := ⟨RX11, "rescue", "(I)I"⟩
abbrev cX11_fall : ByteArray := prog_1_method_22_code
def yX11_fall : MethodName := ⟨RX11, "fall", "()I"⟩
abbrev cX11_bells : ByteArray := prog_1_method_23_code
def yX11_bells : MethodName := ⟨RX11, "bells", "(III)I"⟩
abbrev cX11_image : ByteArray := prog_1_method_24_code
def yX11_image : MethodName := ⟨RX11, "image", "(I)I"⟩
abbrev cX11_restore : ByteArray := prog_1_method_25_code
def yX11_restore : MethodName := ⟨RX11, "restore", "(I)I"⟩
abbrev cX11_kind : ByteArray := prog_1_method_26_code
def yX11_kind : MethodName := ⟨RX11, "kind", "(I)I"⟩
abbrev cX11_as : ByteArray := prog_1_method_27_code
def yX11_as : MethodName := ⟨RX11, "as", "(II)I"⟩
abbrev cX11_ask : ByteArray := prog_1_method_28_code
def yX11_ask : MethodName := ⟨RX11, "ask", "(II)I"⟩
abbrev cX11_trace : ByteArray := prog_1_method_29_code
def yX11_trace : MethodName := ⟨RX11, "trace", "(I)I"⟩
abbrev cX11_count : ByteArray := prog_1_method_30_code
def yX11_count : MethodName := ⟨RX11, "count", "(I)I"⟩
abbrev cX11_status : ByteArray := prog_1_method_31_code
def yX11_status : MethodName := ⟨RX11, "status", "()I"⟩
abbrev cX11_rowAt : ByteArray := prog_1_method_32_code
def yX11_rowAt : MethodName := ⟨RX11, "rowAt", "(I)LLeanTower$Row;"⟩
abbrev cX11_rowsThere : ByteArray := prog_1_method_33_code
def yX11_rowsThere : MethodName := ⟨RX11, "rowsThere", "()I"⟩
abbrev cX11_found : ByteArray := prog_1_method_34_code
def yX11_found : MethodName := ⟨RX11, "found", "(I)I"⟩
abbrev cX11_clean : ByteArray := prog_1_method_35_code
def yX11_clean : MethodName := ⟨RX11, "clean", "(I)I"⟩
abbrev cX11_keepAct : ByteArray := prog_1_method_36_code
def yX11_keepAct : MethodName := ⟨RX11, "keepAct", "()V"⟩
abbrev cX11_mayGoUp : ByteArray := prog_1_method_37_code
def yX11_mayGoUp : MethodName := ⟨RX11, "mayGoUp", "(I)Z"⟩
abbrev cX11_worstOfTwo : ByteArray := prog_1_method_38_code
def yX11_worstOfTwo : MethodName := ⟨RX11, "worstOfTwo", "(III)I"⟩
abbrev cX11_measureReach : ByteArray := prog_1_method_39_code
def yX11_measureReach : MethodName := ⟨RX11, "measureReach", "()V"⟩
abbrev cX11_worstOfHanging : ByteArray := prog_1_method_40_code
def yX11_worstOfHanging : MethodName := ⟨RX11, "worstOfHanging", "(I)I"⟩
abbrev cX11_sideIn : ByteArray := prog_1_method_41_code
def yX11_sideIn : MethodName := ⟨RX11, "sideIn", "(II)I"⟩
abbrev cX11_isMark : ByteArray := prog_1_method_42_code
def yX11_isMark : MethodName := ⟨RX11, "isMark", "(I)Z"⟩
abbrev cX11_setThatMakes : ByteArray := prog_1_method_43_code
def yX11_setThatMakes : MethodName := ⟨RX11, "setThatMakes", "(III)I"⟩
abbrev cX11_findRescuable : ByteArray := prog_1_method_44_code
def yX11_findRescuable : MethodName := ⟨RX11, "findRescuable", "(I)V"⟩
abbrev cX11_nextOut : ByteArray := prog_1_method_45_code
def yX11_nextOut : MethodName := ⟨RX11, "nextOut", "(I)I"⟩
abbrev cX11_isOne : ByteArray := prog_1_method_46_code
def yX11_isOne : MethodName := ⟨RX11, "isOne", "(LLeanTower$Person;I)Z"⟩
def RX12 : String := "LeanTowerModel"
def TX12 : u_T := fun k => match k with
  | 0 => ("LeanTowerModel", "w", "[I", true)
  | 1 => ("LeanTowerModel", "isKept", "[Z", true)
  | 2 => ("LeanTowerModel", "items", "[I", true)
  | 3 => ("LeanTowerModel", "lanes", "[I", true)
  | 4 => ("LeanTowerModel", "sizes", "[I", true)
  | 5 => ("LeanTowerModel", "tape", "[I", true)
  | 6 => ("LeanTowerModel", "taped", "I", false)
  | 7 => ("LeanTowerModel", "latest", "I", false)
  | 8 => ("LeanTowerModel", "status", "I", false)
  | 9 => ("LeanTowerModel", "undoable", "I", false)
  | 10 => ("LeanTowerModel", "hand", "[I", true)
  | 11 => ("LeanTowerModel", "at", "I", false)
  | 12 => ("LeanTowerModel", "from", "I", false)
  | 13 => ("LeanTowerModel", "token", "I", false)
  | 14 => ("LeanTowerModel", "letters", "J", false)
  | 15 => ("LeanTowerModel", "figures", "I", false)
  | 16 => ("LeanTowerModel", "fault", "I", false)
  | 17 => ("LeanTowerModel", "firstBeyond", "I", false)
  | 18 => ("LeanTowerModel", "canAll", "[Z", true)
  | 19 => ("LeanTowerModel", "traces", "[I", true)
  | _ => ("LeanTowerModel", "traced", "I", false)
def tyX12 : Nat → FieldType := fun k => match k with
  | 0 => .array .int
  | 1 => .array .boolean
  | 2 => .array .int
  | 3 => .array .int
  | 4 => .array .int
  | 5 => .array .int
  | 6 => .int
  | 7 => .int
  | 8 => .int
  | 9 => .int
  | 10 => .array .int
  | 11 => .int
  | 12 => .int
  | 13 => .int
  | 14 => .long
  | 15 => .int
  | 16 => .int
  | 17 => .int
  | 18 => .array .boolean
  | 19 => .array .int
  | _ => .int
abbrev wsX120 : List Cond := u_ws RX12 TX12 21
theorem nmX12 : ∀ a, a < 21 → ∀ b, b < 21 → a ≠ b → (TX12 a).2.1 ≠ (TX12 b).2.1 := by decide +kernel
theorem tyX12_ok : ∀ k, k < 21 → parseFieldDescriptor (TX12 k).2.2.1 = some (tyX12 k) := by decide +kernel
abbrev cX12_init : ByteArray := prog_14_method_1_code
def yX12_init : MethodName := ⟨RX12, "<init>", "()V"⟩
abbrev cX12_in : ByteArray := prog_14_method_3_code
def yX12_in : MethodName := ⟨RX12, "in", "(JJJ)Z"⟩
abbrev cX12_has : ByteArray := prog_14_method_4_code
def yX12_has : MethodName := ⟨RX12, "has", "(II)Z"⟩
abbrev cX12_sizeOf : ByteArray := prog_14_method_5_code
def yX12_sizeOf : MethodName := ⟨RX12, "sizeOf", "(I)I"⟩
abbrev cX12_greater : ByteArray := prog_14_method_6_code
def yX12_greater : MethodName := ⟨RX12, "greater", "(II)I"⟩
abbrev cX12_ones : ByteArray := prog_14_method_7_code
def yX12_ones : MethodName := ⟨RX12, "ones", "(I)I"⟩
abbrev cX12_copyAll : ByteArray := prog_14_method_8_code
def yX12_copyAll : MethodName := ⟨RX12, "copyAll", "(II)V"⟩
abbrev cX12_isRow : ByteArray := prog_14_method_9_code
def yX12_isRow : MethodName := ⟨RX12, "isRow", "(I)Z"⟩
abbrev cX12_met : ByteArray := prog_14_method_10_code
def yX12_met : MethodName := ⟨RX12, "met", "(I)I"⟩
abbrev cX12_fine : ByteArray := prog_14_method_11_code
def yX12_fine : MethodName := ⟨RX12, "fine", "(I)I"⟩
abbrev cX12_cut : ByteArray := prog_14_method_12_code
def yX12_cut : MethodName := ⟨RX12, "cut", "(II)I"⟩
abbrev cX12_row : ByteArray := prog_14_method_13_code
def yX12_row : MethodName := ⟨RX12, "row", "(III)I"⟩
abbrev cX12_set : ByteArray := prog_14_method_14_code
def yX12_set : MethodName := ⟨RX12, "set", "(III)I"⟩
abbrev cX12_copy : ByteArray := prog_14_method_15_code
def yX12_copy : MethodName := ⟨RX12, "copy", "(IIIII)I"⟩
abbrev cX12_drop : ByteArray := prog_14_method_16_code
def yX12_drop : MethodName := ⟨RX12, "drop", "(I)I"⟩
abbrev cX12_feed : ByteArray := prog_14_method_17_code
def yX12_feed : MethodName := ⟨RX12, "feed", "(JI)I"⟩
abbrev cX12_next : ByteArray := prog_14_method_18_code
def yX12_next : MethodName := ⟨RX12, "next", "()V"⟩
abbrev cX12_fails : ByteArray := prog_14_method_19_code
def yX12_fails : MethodName := ⟨RX12, "fails", "(I)I"⟩
abbrev cX12_takeNumber : ByteArray := prog_14_method_20_code
def yX12_takeNumber : MethodName := ⟨RX12, "takeNumber", "(III)I"⟩
abbrev cX12_takeSign : ByteArray := prog_14_method_21_code
def yX12_takeSign : MethodName := ⟨RX12, "takeSign", "()V"⟩
abbrev cX12_takeLaw : ByteArray := prog_14_method_22_code
def yX12_takeLaw : MethodName := ⟨RX12, "takeLaw", "()V"⟩
abbrev cX12_takePerson : ByteArray := prog_14_method_23_code
def yX12_takePerson : MethodName := ⟨RX12, "takePerson", "()V"⟩
abbrev cX12_takeStone : ByteArray := prog_14_method_24_code
def yX12_takeStone : MethodName := ⟨RX12, "takeStone", "()V"⟩
abbrev cX12_sortOf : ByteArray := prog_14_method_25_code
def yX12_sortOf : MethodName := ⟨RX12, "sortOf", "(J)I"⟩
abbrev cX12_tower : ByteArray := prog_14_method_26_code
def yX12_tower : MethodName := ⟨RX12, "tower", "()I"⟩
abbrev cX12_fault : ByteArray := prog_14_method_27_code
def yX12_fault : MethodName := ⟨RX12, "fault", "()I"⟩
abbrev cX12_isTower : ByteArray := prog_14_method_28_code
def yX12_isTower : MethodName := ⟨RX12, "isTower", "()Z"⟩
abbrev cX12_isOne : ByteArray := prog_14_method_29_code
def yX12_isOne : MethodName := ⟨RX12, "isOne", "(I)Z"⟩
abbrev cX12_burdenOf : ByteArray := prog_14_method_30_code
def yX12_burdenOf : MethodName := ⟨RX12, "burdenOf", "(I)I"⟩
abbrev cX12_sideOf : ByteArray := prog_14_method_31_code
def yX12_sideOf : MethodName := ⟨RX12, "sideOf", "(I)I"⟩
abbrev cX12_pull : ByteArray := prog_14_method_32_code
def yX12_pull : MethodName := ⟨RX12, "pull", "(IZ)I"⟩
abbrev cX12_leanOf : ByteArray := prog_14_method_33_code
def yX12_leanOf : MethodName := ⟨RX12, "leanOf", "(IZ)I"⟩
abbrev cX12_worstOf : ByteArray := prog_14_method_34_code
def yX12_worstOf : MethodName := ⟨RX12, "worstOf", "(I)I"⟩
abbrev cX12_half : ByteArray := prog_14_method_35_code
def yX12_half : MethodName := ⟨RX12, "half", "(I)V"⟩
abbrev cX12_minds : ByteArray := prog_14_method_36_code
def yX12_minds : MethodName := ⟨RX12, "minds", "()V"⟩
abbrev cX12_go : ByteArray := prog_14_method_37_code
def yX12_go : MethodName := ⟨RX12, "go", "(II)I"⟩
abbrev cX12_hang : ByteArray := prog_14_method_38_code
def yX12_hang : MethodName := ⟨RX12, "hang", "(II)I"⟩
abbrev cX12_halves : ByteArray := prog_14_method_39_code
def yX12_halves : MethodName := ⟨RX12, "halves", "(I)I"⟩
abbrev cX12_creep : ByteArray := prog_14_method_40_code
def yX12_creep : MethodName := ⟨RX12, "creep", "(I)V"⟩
abbrev cX12_year : ByteArray := prog_14_method_41_code
def yX12_year : MethodName := ⟨RX12, "year", "()I"⟩
abbrev cX12_undo : ByteArray := prog_14_method_42_code
def yX12_undo : MethodName := ⟨RX12, "undo", "()I"⟩
abbrev cX12_person : ByteArray := prog_14_method_43_code
def yX12_person : MethodName := ⟨RX12, "person", "(II)I"⟩
abbrev cX12_lean : ByteArray := prog_14_method_44_code
def yX12_lean : MethodName := ⟨RX12, "lean", "(I)I"⟩
abbrev cX12_foretell : ByteArray := prog_14_method_45_code
def yX12_foretell : MethodName := ⟨RX12, "foretell", "(II)I"⟩
abbrev cX12_foretellNow : ByteArray := prog_14_method_46_code
def yX12_foretellNow : MethodName := ⟨RX12, "foretellNow", "()I"⟩
abbrev cX12_worst : ByteArray := prog_14_method_47_code
def yX12_worst : MethodName := ⟨RX12, "worst", "(I)I"⟩
abbrev cX12_most : ByteArray := prog_14_method_48_code
def yX12_most : MethodName := ⟨RX12, "most", "()I"⟩
abbrev cX12_two : ByteArray := prog_14_method_49_code
def yX12_two : MethodName := ⟨RX12, "two", "(III)I"⟩
abbrev cX12_stones : ByteArray := prog_14_method_50_code
def yX12_stones : MethodName := ⟨RX12, "stones", "(I)I"⟩
abbrev cX12_marks : ByteArray := prog_14_method_51_code
def yX12_marks : MethodName := ⟨RX12, "marks", "(IIII)I"⟩
abbrev cX12_isSafe : ByteArray := prog_14_method_52_code
def yX12_isSafe : MethodName := ⟨RX12, "isSafe", "(I)Z"⟩
abbrev cX12_rescue : ByteArray := prog_14_method_53_code
def yX12_rescue : MethodName := ⟨RX12, "rescue", "(I)I"⟩
abbrev cX12_fall : ByteArray := prog_14_method_54_code
def yX12_fall : MethodName := ⟨RX12, "fall", "()I"⟩
abbrev cX12_bells : ByteArray := prog_14_method_55_code
def yX12_bells : MethodName := ⟨RX12, "bells", "(III)I"⟩
abbrev cX12_image : ByteArray := prog_14_method_56_code
def yX12_image : MethodName := ⟨RX12, "image", "(I)I"⟩
abbrev cX12_restore : ByteArray := prog_14_method_57_code
def yX12_restore : MethodName := ⟨RX12, "restore", "(I)I"⟩
abbrev cX12_kind : ByteArray := prog_14_method_58_code
def yX12_kind : MethodName := ⟨RX12, "kind", "(I)I"⟩
abbrev cX12_isOf : ByteArray := prog_14_method_59_code
def yX12_isOf : MethodName := ⟨RX12, "isOf", "(II)Z"⟩
abbrev cX12_as : ByteArray := prog_14_method_60_code
def yX12_as : MethodName := ⟨RX12, "as", "(II)I"⟩
abbrev cX12_leaves : ByteArray := prog_14_method_61_code
def yX12_leaves : MethodName := ⟨RX12, "leaves", "(III)V"⟩
abbrev cX12_plainMark : ByteArray := prog_14_method_62_code
def yX12_plainMark : MethodName := ⟨RX12, "plainMark", "(I)I"⟩
abbrev cX12_size : ByteArray := prog_14_method_63_code
def yX12_size : MethodName := ⟨RX12, "size", "(I)I"⟩
abbrev cX12_ask : ByteArray := prog_14_method_64_code
def yX12_ask : MethodName := ⟨RX12, "ask", "(II)I"⟩
abbrev cX12_trace : ByteArray := prog_14_method_65_code
def yX12_trace : MethodName := ⟨RX12, "trace", "(I)I"⟩
abbrev cX12_count : ByteArray := prog_14_method_66_code
def yX12_count : MethodName := ⟨RX12, "count", "(I)I"⟩
abbrev cX12_status : ByteArray := prog_14_method_67_code
def yX12_status : MethodName := ⟨RX12, "status", "()I"⟩
def RJ6 : String := "java/lang/Integer"
def TJ6 : u_T := fun k => match k with
  | _ => ("", "", "", false)
def tyJ6 : Nat → FieldType := fun k => match k with
  | _ => .int
abbrev wsJ60 : List Cond := u_ws RJ6 TJ6 0
theorem nmJ6 : ∀ a, a < 0 → ∀ b, b < 0 → a ≠ b → (TJ6 a).2.1 ≠ (TJ6 b).2.1 := by decide +kernel
theorem tyJ6_ok : ∀ k, k < 0 → parseFieldDescriptor (TJ6 k).2.2.1 = some (tyJ6 k) := by decide +kernel
abbrev cJ6_bitCount_0f7a4 : ByteArray := prog_15_method_49_code
def yJ6_bitCount_0f7a4 : MethodName := ⟨RJ6, "bitCount", "(I)I"⟩
def RJ9 : String := "java/lang/Math"
def TJ9 : u_T := fun k => match k with
  | _ => ("", "", "", false)
def tyJ9 : Nat → FieldType := fun k => match k with
  | _ => .int
abbrev wsJ90 : List Cond := u_ws RJ9 TJ9 0
theorem nmJ9 : ∀ a, a < 0 → ∀ b, b < 0 → a ≠ b → (TJ9 a).2.1 ≠ (TJ9 b).2.1 := by decide +kernel
theorem tyJ9_ok : ∀ k, k < 0 → parseFieldDescriptor (TJ9 k).2.2.1 = some (tyJ9 k) := by decide +kernel
abbrev cJ9_abs_0f7a4 : ByteArray := prog_16_method_59_code
def yJ9_abs_0f7a4 : MethodName := ⟨RJ9, "abs", "(I)I"⟩
abbrev cJ9_max_7cf53 : ByteArray := prog_16_method_65_code
def yJ9_max_7cf53 : MethodName := ⟨RJ9, "max", "(II)I"⟩
abbrev cJ9_min_7cf53 : ByteArray := prog_16_method_69_code
def yJ9_min_7cf53 : MethodName := ⟨RJ9, "min", "(II)I"⟩
def RJ0 : String := "java/lang/String"
def TJ0 : u_T := fun k => match k with
  | _ => ("", "", "", false)
def tyJ0 : Nat → FieldType := fun k => match k with
  | _ => .int
abbrev wsJ00 : List Cond := u_ws RJ0 TJ0 0
theorem nmJ0 : ∀ a, a < 0 → ∀ b, b < 0 → a ≠ b → (TJ0 a).2.1 ≠ (TJ0 b).2.1 := by decide +kernel
theorem tyJ0_ok : ∀ k, k < 0 → parseFieldDescriptor (TJ0 k).2.2.1 = some (tyJ0 k) := by decide +kernel
abbrev cJ0_length_8abf5 : ByteArray := prog_17_method_54_code
def yJ0_length_8abf5 : MethodName := ⟨RJ0, "length", "()I"⟩
abbrev cJ0_charAt_5068e : ByteArray := prog_17_method_56_code
def yJ0_charAt_5068e : MethodName := ⟨RJ0, "charAt", "(I)C"⟩
abbrev cJ0_coder_7d493 : ByteArray := prog_17_method_152_code
def yJ0_coder_7d493 : MethodName := ⟨RJ0, "coder", "()B"⟩
abbrev cJ0_isLatin1_aae02 : ByteArray := prog_17_method_154_code
def yJ0_isLatin1_aae02 : MethodName := ⟨RJ0, "isLatin1", "()Z"⟩
abbrev cJ0_checkIndex_df160 : ByteArray := prog_17_method_155_code
def yJ0_checkIndex_df160 : MethodName := ⟨RJ0, "checkIndex", "(II)V"⟩
def RJ1 : String := "java/lang/StringLatin1"
def TJ1 : u_T := fun k => match k with
  | _ => ("", "", "", false)
def tyJ1 : Nat → FieldType := fun k => match k with
  | _ => .int
abbrev wsJ10 : List Cond := u_ws RJ1 TJ1 0
theorem nmJ1 : ∀ a, a < 0 → ∀ b, b < 0 → a ≠ b → (TJ1 a).2.1 ≠ (TJ1 b).2.1 := by decide +kernel
theorem tyJ1_ok : ∀ k, k < 0 → parseFieldDescriptor (TJ1 k).2.2.1 = some (tyJ1 k) := by decide +kernel
abbrev cJ1_charAt_3b067 : ByteArray := prog_18_method_2_code
def yJ1_charAt_3b067 : MethodName := ⟨RJ1, "charAt", "([BI)C"⟩
def RJ2 : String := "java/lang/StringUTF16"
def TJ2 : u_T := fun k => match k with
  | _ => ("", "", "", false)
def tyJ2 : Nat → FieldType := fun k => match k with
  | _ => .int
abbrev wsJ20 : List Cond := u_ws RJ2 TJ2 0
theorem nmJ2 : ∀ a, a < 0 → ∀ b, b < 0 → a ≠ b → (TJ2 a).2.1 ≠ (TJ2 b).2.1 := by decide +kernel
theorem tyJ2_ok : ∀ k, k < 0 → parseFieldDescriptor (TJ2 k).2.2.1 = some (tyJ2 k) := by decide +kernel
abbrev cJ2_getChar_3b067 : ByteArray := prog_19_method_5_code
def yJ2_getChar_3b067 : MethodName := ⟨RJ2, "getChar", "([BI)C"⟩
abbrev cJ2_length_9d52b : ByteArray := prog_19_method_6_code
def yJ2_length_9d52b : MethodName := ⟨RJ2, "length", "([B)I"⟩
abbrev cJ2_charAt_3b067 : ByteArray := prog_19_method_83_code
def yJ2_charAt_3b067 : MethodName := ⟨RJ2, "charAt", "([BI)C"⟩
abbrev cJ2_checkIndex_2214a : ByteArray := prog_19_method_91_code
def yJ2_checkIndex_2214a : MethodName := ⟨RJ2, "checkIndex", "(I[B)V"⟩
def RJ10 : String := "java/lang/System"
def TJ10 : u_T := fun k => match k with
  | _ => ("", "", "", false)
def tyJ10 : Nat → FieldType := fun k => match k with
  | _ => .int
abbrev wsJ100 : List Cond := u_ws RJ10 TJ10 0
theorem nmJ10 : ∀ a, a < 0 → ∀ b, b < 0 → a ≠ b → (TJ10 a).2.1 ≠ (TJ10 b).2.1 := by decide +kernel
theorem tyJ10_ok : ∀ k, k < 0 → parseFieldDescriptor (TJ10 k).2.2.1 = some (tyJ10 k) := by decide +kernel
def RJ3 : String := "jdk/internal/util/Preconditions"
def TJ3 : u_T := fun k => match k with
  | _ => ("", "", "", false)
def tyJ3 : Nat → FieldType := fun k => match k with
  | _ => .int
abbrev wsJ30 : List Cond := u_ws RJ3 TJ3 0
theorem nmJ3 : ∀ a, a < 0 → ∀ b, b < 0 → a ≠ b → (TJ3 a).2.1 ≠ (TJ3 b).2.1 := by decide +kernel
theorem tyJ3_ok : ∀ k, k < 0 → parseFieldDescriptor (TJ3 k).2.2.1 = some (tyJ3 k) := by decide +kernel
abbrev cJ3_checkIndex_8e157 : ByteArray := prog_21_method_11_code
def yJ3_checkIndex_8e157 : MethodName := ⟨RJ3, "checkIndex", "(IILjava/util/function/BiFunction;)I"⟩
def RL : String := "LeanTowerLaw"
abbrev cL_law : ByteArray := code
def yL_law : MethodName := ⟨RL, "law", "([I)Z"⟩
abbrev vwCl : List vw_C := [(RX0, TX0, 5), (RX1, TX1, 3), (RX2, TX2, 3), (RX3, TX3, 3), (RX5, TX5, 3), (RX6, TX6, 8), (RX7, TX7, 3), (RX8, TX8, 12), (RX9, TX9, 2), (RX10, TX10, 3), (RX11, TX11, 13), (RX12, TX12, 21)]
end
section
theorem mt_1 {i : Nat} {w : Cond} (h : tables_1_1[i]? = some w) : w ∈ lw_tbl := List.mem_append_right _ (List.mem_append_left _ (List.mem_of_getElem? h))
theorem mt_2 {i : Nat} {w : Cond} (h : tables_1_2[i]? = some w) : w ∈ lw_tbl := List.mem_append_right _ (List.mem_append_right _ (List.mem_append_left _ (List.mem_of_getElem? h)))
theorem mt_3 {i : Nat} {w : Cond} (h : tables_1_3[i]? = some w) : w ∈ lw_tbl := List.mem_append_right _ (List.mem_append_right _ (List.mem_append_right _ (List.mem_append_left _ (List.mem_of_getElem? h))))
theorem mt_4 {i : Nat} {w : Cond} (h : tables_1_4[i]? = some w) : w ∈ lw_tbl := List.mem_append_right _ (List.mem_append_right _ (List.mem_append_right _ (List.mem_append_right _ (List.mem_append_left _ (List.mem_of_getElem? h)))))
theorem mt_5 {i : Nat} {w : Cond} (h : tables_1_5[i]? = some w) : w ∈ lw_tbl := List.mem_append_right _ (List.mem_append_right _ (List.mem_append_right _ (List.mem_append_right _ (List.mem_append_right _ (List.mem_append_left _ (List.mem_of_getElem? h))))))
theorem mt_6 {i : Nat} {w : Cond} (h : tables_1_6[i]? = some w) : w ∈ lw_tbl := List.mem_append_right _ (List.mem_append_right _ (List.mem_append_right _ (List.mem_append_right _ (List.mem_append_right _ (List.mem_append_right _ (List.mem_of_getElem? h))))))
theorem mt_0 {i : Nat} {w : Cond} (h : (k2_sels lw_privs)[i]? = some w) : w ∈ lw_tbl := List.mem_append_left _ (List.mem_of_getElem? h)
/-- the words that a callee may have: those that stand on the tables -/
def WA : List Cond := lw_tbl.filter goodWord
theorem wa_of {w : Cond} (h : w ∈ lw_tbl) (g : goodWord w = true) : w ∈ WA := List.mem_filter.mpr ⟨h, g⟩
theorem q1_0 : (Jvm.Cond.initialized "LeanTowerLaw") ∈ WA := wa_of (mt_1 (i := 0) rfl) rfl
theorem q1_1 : (Jvm.Cond.initialized "LeanTower") ∈ WA := wa_of (mt_1 (i := 1) rfl) rfl
theorem q1_2 : (Jvm.Cond.initialized "LeanTower$Reader") ∈ WA := wa_of (mt_1 (i := 2) rfl) rfl
theorem q1_3 : (Jvm.Cond.initialized "LeanTower$Tower") ∈ WA := wa_of (mt_1 (i := 3) rfl) rfl
theorem q1_4 : (Jvm.Cond.initialized "LeanTower$Trace") ∈ WA := wa_of (mt_1 (i := 4) rfl) rfl
theorem q1_5 : (Jvm.Cond.initialized "LeanTower$Bells") ∈ WA := wa_of (mt_1 (i := 5) rfl) rfl
theorem q1_6 : (Jvm.Cond.initialized "LeanTower$Row") ∈ WA := wa_of (mt_1 (i := 6) rfl) rfl
theorem q1_7 : (Jvm.Cond.initialized "LeanTowerModel") ∈ WA := wa_of (mt_1 (i := 7) rfl) rfl
theorem q1_8 : (Jvm.Cond.initialized "java/lang/System") ∈ WA := wa_of (mt_1 (i := 8) rfl) rfl
theorem q1_9 : (Jvm.Cond.initialized "java/lang/String") ∈ WA := wa_of (mt_1 (i := 9) rfl) rfl
theorem q1_10 : (Jvm.Cond.initialized "java/lang/StringLatin1") ∈ WA := wa_of (mt_1 (i := 10) rfl) rfl
theorem q1_11 : (Jvm.Cond.initialized "jdk/internal/util/Preconditions") ∈ WA := wa_of (mt_1 (i := 11) rfl) rfl
theorem q1_12 : (Jvm.Cond.initialized "java/lang/StringUTF16") ∈ WA := wa_of (mt_1 (i := 12) rfl) rfl
theorem q1_13 : (Jvm.Cond.initialized "LeanTower$Person") ∈ WA := wa_of (mt_1 (i := 13) rfl) rfl
theorem q1_14 : (Jvm.Cond.initialized "LeanTower$Pilgrim") ∈ WA := wa_of (mt_1 (i := 14) rfl) rfl
theorem q1_15 : (Jvm.Cond.initialized "LeanTower$Widow") ∈ WA := wa_of (mt_1 (i := 15) rfl) rfl
theorem q1_16 : (Jvm.Cond.initialized "LeanTower$Boy") ∈ WA := wa_of (mt_1 (i := 16) rfl) rfl
theorem q1_17 : (Jvm.Cond.initialized "LeanTower$Monk") ∈ WA := wa_of (mt_1 (i := 17) rfl) rfl
theorem q1_18 : (Jvm.Cond.initialized "LeanTower$Bishop") ∈ WA := wa_of (mt_1 (i := 18) rfl) rfl
theorem q1_19 : (Jvm.Cond.initialized "java/lang/Math") ∈ WA := wa_of (mt_1 (i := 19) rfl) rfl
theorem q1_20 : (Jvm.Cond.initialized "java/lang/Integer") ∈ WA := wa_of (mt_1 (i := 20) rfl) rfl
theorem q1_21 : (Jvm.Cond.classLink "LeanTowerLaw" (7 : Nat) "LeanTower") ∈ WA := wa_of (mt_1 (i := 21) rfl) rfl
theorem q1_22 : (Jvm.Cond.instantiable "LeanTower" (13 : Nat)) ∈ WA := wa_of (mt_1 (i := 22) rfl) rfl
theorem q1_23 : (Jvm.Cond.methodLink "LeanTowerLaw" (9 : Nat) ({ cls := "LeanTower", name := "<init>", desc := "()V" } : Jvm.MethodName)) ∈ WA := wa_of (mt_1 (i := 23) rfl) rfl
theorem q1_24 : (Jvm.Cond.instanceMethod ({ cls := "LeanTower", name := "<init>", desc := "()V" } : Jvm.MethodName)) ∈ WA := wa_of (mt_1 (i := 24) rfl) rfl
theorem q1_25 : (Jvm.Cond.code ({ cls := "LeanTower", name := "<init>", desc := "()V" } : Jvm.MethodName) prog_1_method_1_code (2 : Nat) (Option.none : Option Jvm.ClassFile.FieldType)) ∈ WA := wa_of (mt_1 (i := 25) rfl) rfl
theorem q1_26 : (Jvm.Cond.methodLink "LeanTower" (3 : Nat) ({ cls := "java/lang/Object", name := "<init>", desc := "()V" } : Jvm.MethodName)) ∈ WA := wa_of (mt_1 (i := 26) rfl) rfl
theorem q1_27 : (Jvm.Cond.instanceMethod ({ cls := "java/lang/Object", name := "<init>", desc := "()V" } : Jvm.MethodName)) ∈ WA := wa_of (mt_1 (i := 27) rfl) rfl
theorem q1_28 : (Jvm.Cond.code ({ cls := "java/lang/Object", name := "<init>", desc := "()V" } : Jvm.MethodName) object_method_1_code (1 : Nat) (Option.none : Option Jvm.ClassFile.FieldType)) ∈ WA := wa_of (mt_1 (i := 28) rfl) rfl
theorem q1_29 : (Jvm.Cond.classLink "LeanTower" (9 : Nat) "LeanTower$Row") ∈ WA := wa_of (mt_1 (i := 29) rfl) rfl
theorem q1_30 : (Jvm.Cond.arrayOver (Jvm.ClassFile.FieldType.object "LeanTower$Row")) ∈ lw_tbl := mt_1 (i := 30) rfl
theorem q1_31 : (Jvm.Cond.classLink "LeanTower" (15 : Nat) "LeanTower$Reader") ∈ WA := wa_of (mt_1 (i := 31) rfl) rfl
theorem q1_32 : (Jvm.Cond.instantiable "LeanTower$Reader" (8 : Nat)) ∈ WA := wa_of (mt_1 (i := 32) rfl) rfl
theorem q1_33 : (Jvm.Cond.methodLinkNest "LeanTower" (17 : Nat) ({ cls := "LeanTower$Reader", name := "<init>", desc := "()V" } : Jvm.MethodName) "LeanTower") ∈ lw_tbl := mt_1 (i := 33) rfl
theorem q1_34 : (Jvm.Cond.instanceMethod ({ cls := "LeanTower$Reader", name := "<init>", desc := "()V" } : Jvm.MethodName)) ∈ WA := wa_of (mt_1 (i := 34) rfl) rfl
theorem q1_35 : (Jvm.Cond.code ({ cls := "LeanTower$Reader", name := "<init>", desc := "()V" } : Jvm.MethodName) prog_8_method_1_code (1 : Nat) (Option.none : Option Jvm.ClassFile.FieldType)) ∈ WA := wa_of (mt_1 (i := 35) rfl) rfl
theorem q1_36 : (Jvm.Cond.methodLink "LeanTower$Reader" (3 : Nat) ({ cls := "java/lang/Object", name := "<init>", desc := "()V" } : Jvm.MethodName)) ∈ WA := wa_of (mt_1 (i := 36) rfl) rfl
theorem q1_37 : (Jvm.Cond.fieldLink "LeanTower$Reader" (11 : Nat) "LeanTower$Reader" "tape" "[B") ∈ WA := wa_of (mt_1 (i := 37) rfl) rfl
theorem q1_38 : (Jvm.Cond.fieldLink "LeanTower$Reader" (15 : Nat) "LeanTower$Reader" "bytes" "I") ∈ WA := wa_of (mt_1 (i := 38) rfl) rfl
theorem q1_39 : (Jvm.Cond.fieldLink "LeanTower" (108 : Nat) "LeanTower$Reader" "bytes" "I") ∈ WA := wa_of (mt_1 (i := 39) rfl) rfl
theorem q1_40 : (Jvm.Cond.fieldLink "LeanTower" (134 : Nat) "LeanTower$Reader" "latestFault" "I") ∈ WA := wa_of (mt_1 (i := 40) rfl) rfl
theorem q1_41 : (Jvm.Cond.fieldLink "LeanTower$Reader" (122 : Nat) "LeanTower$Reader" "latestFault" "I") ∈ WA := wa_of (mt_1 (i := 41) rfl) rfl
theorem q1_42 : (Jvm.Cond.fieldLink "LeanTower" (121 : Nat) "LeanTower$Reader" "faultPlace" "I") ∈ WA := wa_of (mt_1 (i := 42) rfl) rfl
theorem q1_43 : (Jvm.Cond.fieldLink "LeanTower$Reader" (128 : Nat) "LeanTower$Reader" "faultPlace" "I") ∈ WA := wa_of (mt_1 (i := 43) rfl) rfl
theorem q1_44 : (Jvm.Cond.fieldLink "LeanTower$Reader" (125 : Nat) "LeanTower$Reader" "tokenStart" "I") ∈ WA := wa_of (mt_1 (i := 44) rfl) rfl
theorem q1_45 : (Jvm.Cond.fieldLink "LeanTower$Reader" (24 : Nat) "LeanTower$Reader" "tokenEnd" "I") ∈ WA := wa_of (mt_1 (i := 45) rfl) rfl
theorem q1_46 : (Jvm.Cond.fieldLink "LeanTower$Reader" (48 : Nat) "LeanTower$Reader" "token" "I") ∈ WA := wa_of (mt_1 (i := 46) rfl) rfl
theorem q1_47 : (Jvm.Cond.fieldLink "LeanTower$Reader" (77 : Nat) "LeanTower$Reader" "tokenValue" "I") ∈ WA := wa_of (mt_1 (i := 47) rfl) rfl
theorem q1_48 : (Jvm.Cond.laysFinal "LeanTower$Reader" "LeanTower$Reader" "tape" "[B") ∈ WA := wa_of (mt_1 (i := 48) rfl) rfl
theorem q1_49 : (Jvm.Cond.soleField "LeanTower$Reader" "tape") ∈ WA := wa_of (mt_1 (i := 49) rfl) rfl
theorem q1_50 : (Jvm.Cond.lays "LeanTower$Reader" "LeanTower$Reader" "bytes" "I") ∈ WA := wa_of (mt_1 (i := 50) rfl) rfl
theorem q1_51 : (Jvm.Cond.soleField "LeanTower$Reader" "bytes") ∈ WA := wa_of (mt_1 (i := 51) rfl) rfl
theorem q1_52 : (Jvm.Cond.lays "LeanTower$Reader" "LeanTower$Reader" "latestFault" "I") ∈ WA := wa_of (mt_1 (i := 52) rfl) rfl
theorem q1_53 : (Jvm.Cond.soleField "LeanTower$Reader" "latestFault") ∈ WA := wa_of (mt_1 (i := 53) rfl) rfl
theorem q1_54 : (Jvm.Cond.lays "LeanTower$Reader" "LeanTower$Reader" "faultPlace" "I") ∈ WA := wa_of (mt_1 (i := 54) rfl) rfl
theorem q1_55 : (Jvm.Cond.soleField "LeanTower$Reader" "faultPlace") ∈ WA := wa_of (mt_1 (i := 55) rfl) rfl
theorem q1_56 : (Jvm.Cond.lays "LeanTower$Reader" "LeanTower$Reader" "tokenStart" "I") ∈ WA := wa_of (mt_1 (i := 56) rfl) rfl
theorem q1_57 : (Jvm.Cond.soleField "LeanTower$Reader" "tokenStart") ∈ WA := wa_of (mt_1 (i := 57) rfl) rfl
theorem q1_58 : (Jvm.Cond.lays "LeanTower$Reader" "LeanTower$Reader" "tokenEnd" "I") ∈ WA := wa_of (mt_1 (i := 58) rfl) rfl
theorem q1_59 : (Jvm.Cond.soleField "LeanTower$Reader" "tokenEnd") ∈ WA := wa_of (mt_1 (i := 59) rfl) rfl
theorem q1_60 : (Jvm.Cond.lays "LeanTower$Reader" "LeanTower$Reader" "token" "I") ∈ WA := wa_of (mt_1 (i := 60) rfl) rfl
theorem q1_61 : (Jvm.Cond.soleField "LeanTower$Reader" "token") ∈ WA := wa_of (mt_1 (i := 61) rfl) rfl
theorem q1_62 : (Jvm.Cond.lays "LeanTower$Reader" "LeanTower$Reader" "tokenValue" "I") ∈ WA := wa_of (mt_1 (i := 62) rfl) rfl
theorem q1_63 : (Jvm.Cond.soleField "LeanTower$Reader" "tokenValue") ∈ WA := wa_of (mt_1 (i := 63) rfl) rfl
theorem q1_64 : (Jvm.Cond.superclass "LeanTower$Reader" "java/lang/Object") ∈ WA := wa_of (mt_1 (i := 64) rfl) rfl
theorem q1_65 : (Jvm.Cond.arrayClass Jvm.ClassFile.FieldType.byte) ∈ WA := wa_of (mt_1 (i := 65) rfl) rfl
theorem q1_66 : (Jvm.Cond.classLink "LeanTower" (22 : Nat) "LeanTower$Tower") ∈ WA := wa_of (mt_1 (i := 66) rfl) rfl
theorem q1_67 : (Jvm.Cond.instantiable "LeanTower$Tower" (12 : Nat)) ∈ WA := wa_of (mt_1 (i := 67) rfl) rfl
theorem q1_68 : (Jvm.Cond.methodLinkNest "LeanTower" (24 : Nat) ({ cls := "LeanTower$Tower", name := "<init>", desc := "()V" } : Jvm.MethodName) "LeanTower") ∈ lw_tbl := mt_1 (i := 68) rfl
theorem q1_69 : (Jvm.Cond.instanceMethod ({ cls := "LeanTower$Tower", name := "<init>", desc := "()V" } : Jvm.MethodName)) ∈ WA := wa_of (mt_1 (i := 69) rfl) rfl
theorem q1_70 : (Jvm.Cond.code ({ cls := "LeanTower$Tower", name := "<init>", desc := "()V" } : Jvm.MethodName) prog_10_method_1_code (1 : Nat) (Option.none : Option Jvm.ClassFile.FieldType)) ∈ WA := wa_of (mt_1 (i := 70) rfl) rfl
theorem q1_71 : (Jvm.Cond.methodLink "LeanTower$Tower" (3 : Nat) ({ cls := "java/lang/Object", name := "<init>", desc := "()V" } : Jvm.MethodName)) ∈ WA := wa_of (mt_1 (i := 71) rfl) rfl
theorem q1_72 : (Jvm.Cond.classLink "LeanTower$Tower" (9 : Nat) "LeanTower$Person") ∈ WA := wa_of (mt_1 (i := 72) rfl) rfl
theorem q1_73 : (Jvm.Cond.arrayOver (Jvm.ClassFile.FieldType.object "LeanTower$Person")) ∈ lw_tbl := mt_1 (i := 73) rfl
theorem q1_74 : (Jvm.Cond.fieldLink "LeanTower$Tower" (30 : Nat) "LeanTower$Tower" "steps" "I") ∈ WA := wa_of (mt_1 (i := 74) rfl) rfl
theorem q1_75 : (Jvm.Cond.fieldLink "LeanTower$Reader" (61 : Nat) "LeanTower$Tower" "steps" "I") ∈ WA := wa_of (mt_1 (i := 75) rfl) rfl
theorem q1_76 : (Jvm.Cond.fieldLink "LeanTower" (246 : Nat) "LeanTower$Tower" "steps" "I") ∈ WA := wa_of (mt_1 (i := 76) rfl) rfl
theorem q1_77 : (Jvm.Cond.fieldLink "LeanTower$Tower" (34 : Nat) "LeanTower$Tower" "law" "I") ∈ WA := wa_of (mt_1 (i := 77) rfl) rfl
theorem q1_78 : (Jvm.Cond.fieldLink "LeanTower$Reader" (64 : Nat) "LeanTower$Tower" "law" "I") ∈ WA := wa_of (mt_1 (i := 78) rfl) rfl
theorem q1_79 : (Jvm.Cond.fieldLink "LeanTower" (313 : Nat) "LeanTower$Tower" "law" "I") ∈ WA := wa_of (mt_1 (i := 79) rfl) rfl
theorem q1_80 : (Jvm.Cond.fieldLink "LeanTower$Tower" (37 : Nat) "LeanTower$Tower" "people" "I") ∈ WA := wa_of (mt_1 (i := 80) rfl) rfl
theorem q1_81 : (Jvm.Cond.fieldLink "LeanTower$Reader" (70 : Nat) "LeanTower$Tower" "people" "I") ∈ WA := wa_of (mt_1 (i := 81) rfl) rfl
theorem q1_82 : (Jvm.Cond.fieldLink "LeanTower" (131 : Nat) "LeanTower$Tower" "people" "I") ∈ WA := wa_of (mt_1 (i := 82) rfl) rfl
theorem q1_83 : (Jvm.Cond.fieldLink "LeanTower$Tower" (40 : Nat) "LeanTower$Tower" "stones" "I") ∈ WA := wa_of (mt_1 (i := 83) rfl) rfl
theorem q1_84 : (Jvm.Cond.fieldLink "LeanTower$Reader" (88 : Nat) "LeanTower$Tower" "stones" "I") ∈ WA := wa_of (mt_1 (i := 84) rfl) rfl
theorem q1_85 : (Jvm.Cond.fieldLink "LeanTower" (234 : Nat) "LeanTower$Tower" "stones" "I") ∈ WA := wa_of (mt_1 (i := 85) rfl) rfl
theorem q1_86 : (Jvm.Cond.fieldLink "LeanTower$Tower" (11 : Nat) "LeanTower$Tower" "persons" "[LLeanTower$Person;") ∈ WA := wa_of (mt_1 (i := 86) rfl) rfl
theorem q1_87 : (Jvm.Cond.fieldLink "LeanTower$Tower" (17 : Nat) "LeanTower$Tower" "step" "[I") ∈ WA := wa_of (mt_1 (i := 87) rfl) rfl
theorem q1_88 : (Jvm.Cond.fieldLink "LeanTower" (188 : Nat) "LeanTower$Tower" "step" "[I") ∈ WA := wa_of (mt_1 (i := 88) rfl) rfl
theorem q1_89 : (Jvm.Cond.fieldLink "LeanTower$Tower" (21 : Nat) "LeanTower$Tower" "way" "[I") ∈ WA := wa_of (mt_1 (i := 89) rfl) rfl
theorem q1_90 : (Jvm.Cond.fieldLink "LeanTower" (141 : Nat) "LeanTower$Tower" "way" "[I") ∈ WA := wa_of (mt_1 (i := 90) rfl) rfl
theorem q1_91 : (Jvm.Cond.fieldLink "LeanTower$Tower" (24 : Nat) "LeanTower$Tower" "stoneWeight" "[I") ∈ WA := wa_of (mt_1 (i := 91) rfl) rfl
theorem q1_92 : (Jvm.Cond.fieldLink "LeanTower" (304 : Nat) "LeanTower$Tower" "stoneWeight" "[I") ∈ WA := wa_of (mt_1 (i := 92) rfl) rfl
theorem q1_93 : (Jvm.Cond.fieldLink "LeanTower$Tower" (27 : Nat) "LeanTower$Tower" "stoneSide" "[I") ∈ WA := wa_of (mt_1 (i := 93) rfl) rfl
theorem q1_94 : (Jvm.Cond.fieldLink "LeanTower" (150 : Nat) "LeanTower$Tower" "stoneSide" "[I") ∈ WA := wa_of (mt_1 (i := 94) rfl) rfl
theorem q1_95 : (Jvm.Cond.fieldLink "LeanTower$Tower" (43 : Nat) "LeanTower$Tower" "minute" "I") ∈ WA := wa_of (mt_1 (i := 95) rfl) rfl
theorem q1_96 : (Jvm.Cond.fieldLink "LeanTower" (157 : Nat) "LeanTower$Tower" "minute" "I") ∈ WA := wa_of (mt_1 (i := 96) rfl) rfl
theorem q1_97 : (Jvm.Cond.fieldLink "LeanTower$Tower" (46 : Nat) "LeanTower$Tower" "creptEast" "I") ∈ WA := wa_of (mt_1 (i := 97) rfl) rfl
theorem q1_98 : (Jvm.Cond.fieldLink "LeanTower" (167 : Nat) "LeanTower$Tower" "creptEast" "I") ∈ WA := wa_of (mt_1 (i := 98) rfl) rfl
theorem q1_99 : (Jvm.Cond.fieldLink "LeanTower$Tower" (49 : Nat) "LeanTower$Tower" "creptNorth" "I") ∈ WA := wa_of (mt_1 (i := 99) rfl) rfl
theorem q1_100 : (Jvm.Cond.fieldLink "LeanTower" (175 : Nat) "LeanTower$Tower" "creptNorth" "I") ∈ WA := wa_of (mt_1 (i := 100) rfl) rfl
theorem q1_101 : (Jvm.Cond.lays "LeanTower$Tower" "LeanTower$Tower" "steps" "I") ∈ WA := wa_of (mt_1 (i := 101) rfl) rfl
theorem q1_102 : (Jvm.Cond.soleField "LeanTower$Tower" "steps") ∈ WA := wa_of (mt_1 (i := 102) rfl) rfl
theorem q1_103 : (Jvm.Cond.lays "LeanTower$Tower" "LeanTower$Tower" "law" "I") ∈ WA := wa_of (mt_1 (i := 103) rfl) rfl
theorem q1_104 : (Jvm.Cond.soleField "LeanTower$Tower" "law") ∈ WA := wa_of (mt_1 (i := 104) rfl) rfl
theorem q1_105 : (Jvm.Cond.lays "LeanTower$Tower" "LeanTower$Tower" "people" "I") ∈ WA := wa_of (mt_1 (i := 105) rfl) rfl
theorem q1_106 : (Jvm.Cond.soleField "LeanTower$Tower" "people") ∈ WA := wa_of (mt_1 (i := 106) rfl) rfl
theorem q1_107 : (Jvm.Cond.lays "LeanTower$Tower" "LeanTower$Tower" "stones" "I") ∈ WA := wa_of (mt_1 (i := 107) rfl) rfl
theorem q1_108 : (Jvm.Cond.soleField "LeanTower$Tower" "stones") ∈ WA := wa_of (mt_1 (i := 108) rfl) rfl
theorem q1_109 : (Jvm.Cond.laysFinal "LeanTower$Tower" "LeanTower$Tower" "persons" "[LLeanTower$Person;") ∈ WA := wa_of (mt_1 (i := 109) rfl) rfl
theorem q1_110 : (Jvm.Cond.soleField "LeanTower$Tower" "persons") ∈ WA := wa_of (mt_1 (i := 110) rfl) rfl
theorem q1_111 : (Jvm.Cond.laysFinal "LeanTower$Tower" "LeanTower$Tower" "step" "[I") ∈ WA := wa_of (mt_1 (i := 111) rfl) rfl
theorem q1_112 : (Jvm.Cond.soleField "LeanTower$Tower" "step") ∈ WA := wa_of (mt_1 (i := 112) rfl) rfl
theorem q1_113 : (Jvm.Cond.laysFinal "LeanTower$Tower" "LeanTower$Tower" "way" "[I") ∈ WA := wa_of (mt_1 (i := 113) rfl) rfl
theorem q1_114 : (Jvm.Cond.soleField "LeanTower$Tower" "way") ∈ WA := wa_of (mt_1 (i := 114) rfl) rfl
theorem q1_115 : (Jvm.Cond.laysFinal "LeanTower$Tower" "LeanTower$Tower" "stoneWeight" "[I") ∈ WA := wa_of (mt_1 (i := 115) rfl) rfl
theorem q1_116 : (Jvm.Cond.soleField "LeanTower$Tower" "stoneWeight") ∈ WA := wa_of (mt_1 (i := 116) rfl) rfl
theorem q1_117 : (Jvm.Cond.laysFinal "LeanTower$Tower" "LeanTower$Tower" "stoneSide" "[I") ∈ WA := wa_of (mt_1 (i := 117) rfl) rfl
theorem q1_118 : (Jvm.Cond.soleField "LeanTower$Tower" "stoneSide") ∈ WA := wa_of (mt_1 (i := 118) rfl) rfl
theorem q1_119 : (Jvm.Cond.lays "LeanTower$Tower" "LeanTower$Tower" "minute" "I") ∈ WA := wa_of (mt_1 (i := 119) rfl) rfl
theorem q1_120 : (Jvm.Cond.soleField "LeanTower$Tower" "minute") ∈ WA := wa_of (mt_1 (i := 120) rfl) rfl
theorem q1_121 : (Jvm.Cond.lays "LeanTower$Tower" "LeanTower$Tower" "creptEast" "I") ∈ WA := wa_of (mt_1 (i := 121) rfl) rfl
theorem q1_122 : (Jvm.Cond.soleField "LeanTower$Tower" "creptEast") ∈ WA := wa_of (mt_1 (i := 122) rfl) rfl
theorem q1_123 : (Jvm.Cond.lays "LeanTower$Tower" "LeanTower$Tower" "creptNorth" "I") ∈ WA := wa_of (mt_1 (i := 123) rfl) rfl
theorem q1_124 : (Jvm.Cond.soleField "LeanTower$Tower" "creptNorth") ∈ WA := wa_of (mt_1 (i := 124) rfl) rfl
theorem q1_125 : (Jvm.Cond.superclass "LeanTower$Tower" "java/lang/Object") ∈ WA := wa_of (mt_1 (i := 125) rfl) rfl
theorem q1_126 : (Jvm.Cond.arrayClass Jvm.ClassFile.FieldType.int) ∈ WA := wa_of (mt_1 (i := 126) rfl) rfl
theorem q1_127 : (Jvm.Cond.arrayOver (Jvm.ClassFile.FieldType.object "LeanTower$Tower")) ∈ lw_tbl := mt_1 (i := 127) rfl
theorem q1_128 : (Jvm.Cond.classLink "LeanTower" (39 : Nat) "LeanTower$Trace") ∈ WA := wa_of (mt_1 (i := 128) rfl) rfl
theorem q1_129 : (Jvm.Cond.instantiable "LeanTower$Trace" (2 : Nat)) ∈ WA := wa_of (mt_1 (i := 129) rfl) rfl
theorem q1_130 : (Jvm.Cond.methodLinkNest "LeanTower" (41 : Nat) ({ cls := "LeanTower$Trace", name := "<init>", desc := "()V" } : Jvm.MethodName) "LeanTower") ∈ lw_tbl := mt_1 (i := 130) rfl
theorem q1_131 : (Jvm.Cond.instanceMethod ({ cls := "LeanTower$Trace", name := "<init>", desc := "()V" } : Jvm.MethodName)) ∈ WA := wa_of (mt_1 (i := 131) rfl) rfl
theorem q1_132 : (Jvm.Cond.code ({ cls := "LeanTower$Trace", name := "<init>", desc := "()V" } : Jvm.MethodName) prog_11_method_1_code (1 : Nat) (Option.none : Option Jvm.ClassFile.FieldType)) ∈ WA := wa_of (mt_1 (i := 132) rfl) rfl
theorem q1_133 : (Jvm.Cond.methodLink "LeanTower$Trace" (1 : Nat) ({ cls := "java/lang/Object", name := "<init>", desc := "()V" } : Jvm.MethodName)) ∈ WA := wa_of (mt_1 (i := 133) rfl) rfl
theorem q1_134 : (Jvm.Cond.fieldLink "LeanTower$Trace" (9 : Nat) "LeanTower$Trace" "numbers" "[I") ∈ WA := wa_of (mt_1 (i := 134) rfl) rfl
theorem q1_135 : (Jvm.Cond.fieldLink "LeanTower" (291 : Nat) "LeanTower$Trace" "numbers" "[I") ∈ WA := wa_of (mt_1 (i := 135) rfl) rfl
theorem q1_136 : (Jvm.Cond.fieldLink "LeanTower$Trace" (13 : Nat) "LeanTower$Trace" "length" "I") ∈ WA := wa_of (mt_1 (i := 136) rfl) rfl
theorem q1_137 : (Jvm.Cond.fieldLink "LeanTower" (283 : Nat) "LeanTower$Trace" "length" "I") ∈ WA := wa_of (mt_1 (i := 137) rfl) rfl
theorem q1_138 : (Jvm.Cond.laysFinal "LeanTower$Trace" "LeanTower$Trace" "numbers" "[I") ∈ WA := wa_of (mt_1 (i := 138) rfl) rfl
theorem q1_139 : (Jvm.Cond.soleField "LeanTower$Trace" "numbers") ∈ WA := wa_of (mt_1 (i := 139) rfl) rfl
theorem q1_140 : (Jvm.Cond.lays "LeanTower$Trace" "LeanTower$Trace" "length" "I") ∈ WA := wa_of (mt_1 (i := 140) rfl) rfl
theorem q1_141 : (Jvm.Cond.soleField "LeanTower$Trace" "length") ∈ WA := wa_of (mt_1 (i := 141) rfl) rfl
theorem q1_142 : (Jvm.Cond.superclass "LeanTower$Trace" "java/lang/Object") ∈ WA := wa_of (mt_1 (i := 142) rfl) rfl
theorem q1_143 : (Jvm.Cond.classLink "LeanTower" (46 : Nat) "LeanTower$Bells") ∈ WA := wa_of (mt_1 (i := 143) rfl) rfl
theorem q1_144 : (Jvm.Cond.instantiable "LeanTower$Bells" (5 : Nat)) ∈ WA := wa_of (mt_1 (i := 144) rfl) rfl
theorem q1_145 : (Jvm.Cond.methodLinkNest "LeanTower" (48 : Nat) ({ cls := "LeanTower$Bells", name := "<init>", desc := "()V" } : Jvm.MethodName) "LeanTower") ∈ lw_tbl := mt_1 (i := 145) rfl
theorem q1_146 : (Jvm.Cond.instanceMethod ({ cls := "LeanTower$Bells", name := "<init>", desc := "()V" } : Jvm.MethodName)) ∈ WA := wa_of (mt_1 (i := 146) rfl) rfl
theorem q1_147 : (Jvm.Cond.code ({ cls := "LeanTower$Bells", name := "<init>", desc := "()V" } : Jvm.MethodName) prog_2_method_1_code (1 : Nat) (Option.none : Option Jvm.ClassFile.FieldType)) ∈ WA := wa_of (mt_1 (i := 147) rfl) rfl
theorem q1_148 : (Jvm.Cond.methodLink "LeanTower$Bells" (3 : Nat) ({ cls := "java/lang/Object", name := "<init>", desc := "()V" } : Jvm.MethodName)) ∈ WA := wa_of (mt_1 (i := 148) rfl) rfl
theorem q1_149 : (Jvm.Cond.fieldLink "LeanTower$Bells" (9 : Nat) "LeanTower$Bells" "nods" "[I") ∈ WA := wa_of (mt_1 (i := 149) rfl) rfl
theorem q1_150 : (Jvm.Cond.fieldLink "LeanTower$Bells" (15 : Nat) "LeanTower$Bells" "order" "[I") ∈ WA := wa_of (mt_1 (i := 150) rfl) rfl
theorem q1_151 : (Jvm.Cond.fieldLink "LeanTower$Bells" (27 : Nat) "LeanTower$Bells" "bells" "I") ∈ WA := wa_of (mt_1 (i := 151) rfl) rfl
theorem q1_152 : (Jvm.Cond.fieldLink "LeanTower$Bells" (18 : Nat) "LeanTower$Bells" "best" "[I") ∈ WA := wa_of (mt_1 (i := 152) rfl) rfl
theorem q1_153 : (Jvm.Cond.fieldLink "LeanTower" (273 : Nat) "LeanTower$Bells" "best" "[I") ∈ WA := wa_of (mt_1 (i := 153) rfl) rfl
theorem q1_154 : (Jvm.Cond.fieldLink "LeanTower$Bells" (31 : Nat) "LeanTower$Bells" "least" "I") ∈ WA := wa_of (mt_1 (i := 154) rfl) rfl
theorem q1_155 : (Jvm.Cond.fieldLink "LeanTower" (270 : Nat) "LeanTower$Bells" "least" "I") ∈ WA := wa_of (mt_1 (i := 155) rfl) rfl
theorem q1_156 : (Jvm.Cond.laysFinal "LeanTower$Bells" "LeanTower$Bells" "nods" "[I") ∈ WA := wa_of (mt_1 (i := 156) rfl) rfl
theorem q1_157 : (Jvm.Cond.soleField "LeanTower$Bells" "nods") ∈ WA := wa_of (mt_1 (i := 157) rfl) rfl
theorem q1_158 : (Jvm.Cond.laysFinal "LeanTower$Bells" "LeanTower$Bells" "order" "[I") ∈ WA := wa_of (mt_1 (i := 158) rfl) rfl
theorem q1_159 : (Jvm.Cond.soleField "LeanTower$Bells" "order") ∈ WA := wa_of (mt_1 (i := 159) rfl) rfl
theorem q1_160 : (Jvm.Cond.lays "LeanTower$Bells" "LeanTower$Bells" "bells" "I") ∈ WA := wa_of (mt_1 (i := 160) rfl) rfl
theorem q1_161 : (Jvm.Cond.soleField "LeanTower$Bells" "bells") ∈ WA := wa_of (mt_1 (i := 161) rfl) rfl
theorem q1_162 : (Jvm.Cond.laysFinal "LeanTower$Bells" "LeanTower$Bells" "best" "[I") ∈ WA := wa_of (mt_1 (i := 162) rfl) rfl
theorem q1_163 : (Jvm.Cond.soleField "LeanTower$Bells" "best") ∈ WA := wa_of (mt_1 (i := 163) rfl) rfl
theorem q1_164 : (Jvm.Cond.lays "LeanTower$Bells" "LeanTower$Bells" "least" "I") ∈ WA := wa_of (mt_1 (i := 164) rfl) rfl
theorem q1_165 : (Jvm.Cond.soleField "LeanTower$Bells" "least") ∈ WA := wa_of (mt_1 (i := 165) rfl) rfl
theorem q1_166 : (Jvm.Cond.superclass "LeanTower$Bells" "java/lang/Object") ∈ WA := wa_of (mt_1 (i := 166) rfl) rfl
theorem q1_167 : (Jvm.Cond.instantiable "LeanTower$Row" (3 : Nat)) ∈ WA := wa_of (mt_1 (i := 167) rfl) rfl
theorem q1_168 : (Jvm.Cond.methodLinkNest "LeanTower" (61 : Nat) ({ cls := "LeanTower$Row", name := "<init>", desc := "()V" } : Jvm.MethodName) "LeanTower") ∈ lw_tbl := mt_1 (i := 168) rfl
theorem q1_169 : (Jvm.Cond.instanceMethod ({ cls := "LeanTower$Row", name := "<init>", desc := "()V" } : Jvm.MethodName)) ∈ WA := wa_of (mt_1 (i := 169) rfl) rfl
theorem q1_170 : (Jvm.Cond.code ({ cls := "LeanTower$Row", name := "<init>", desc := "()V" } : Jvm.MethodName) prog_9_method_1_code (1 : Nat) (Option.none : Option Jvm.ClassFile.FieldType)) ∈ WA := wa_of (mt_1 (i := 170) rfl) rfl
theorem q1_171 : (Jvm.Cond.methodLink "LeanTower$Row" (3 : Nat) ({ cls := "java/lang/Object", name := "<init>", desc := "()V" } : Jvm.MethodName)) ∈ WA := wa_of (mt_1 (i := 171) rfl) rfl
theorem q1_172 : (Jvm.Cond.fieldLink "LeanTower$Row" (9 : Nat) "LeanTower$Row" "items" "[I") ∈ WA := wa_of (mt_1 (i := 172) rfl) rfl
theorem q1_173 : (Jvm.Cond.fieldLink "LeanTower" (86 : Nat) "LeanTower$Row" "items" "[I") ∈ WA := wa_of (mt_1 (i := 173) rfl) rfl
theorem q1_174 : (Jvm.Cond.fieldLink "LeanTower$Row" (15 : Nat) "LeanTower$Row" "lane" "I") ∈ WA := wa_of (mt_1 (i := 174) rfl) rfl
theorem q1_175 : (Jvm.Cond.fieldLink "LeanTower" (92 : Nat) "LeanTower$Row" "lane" "I") ∈ WA := wa_of (mt_1 (i := 175) rfl) rfl
theorem q1_176 : (Jvm.Cond.fieldLink "LeanTower$Row" (19 : Nat) "LeanTower$Row" "length" "I") ∈ WA := wa_of (mt_1 (i := 176) rfl) rfl
theorem q1_177 : (Jvm.Cond.fieldLink "LeanTower" (82 : Nat) "LeanTower$Row" "length" "I") ∈ WA := wa_of (mt_1 (i := 177) rfl) rfl
theorem q1_178 : (Jvm.Cond.laysFinal "LeanTower$Row" "LeanTower$Row" "items" "[I") ∈ WA := wa_of (mt_1 (i := 178) rfl) rfl
theorem q1_179 : (Jvm.Cond.soleField "LeanTower$Row" "items") ∈ WA := wa_of (mt_1 (i := 179) rfl) rfl
theorem q1_180 : (Jvm.Cond.lays "LeanTower$Row" "LeanTower$Row" "lane" "I") ∈ WA := wa_of (mt_1 (i := 180) rfl) rfl
theorem q1_181 : (Jvm.Cond.soleField "LeanTower$Row" "lane") ∈ WA := wa_of (mt_1 (i := 181) rfl) rfl
theorem q1_182 : (Jvm.Cond.lays "LeanTower$Row" "LeanTower$Row" "length" "I") ∈ WA := wa_of (mt_1 (i := 182) rfl) rfl
theorem q1_183 : (Jvm.Cond.soleField "LeanTower$Row" "length") ∈ WA := wa_of (mt_1 (i := 183) rfl) rfl
theorem q1_184 : (Jvm.Cond.superclass "LeanTower$Row" "java/lang/Object") ∈ WA := wa_of (mt_1 (i := 184) rfl) rfl
theorem q1_185 : (Jvm.Cond.arrayClass Jvm.ClassFile.FieldType.boolean) ∈ WA := wa_of (mt_1 (i := 185) rfl) rfl
theorem q1_186 : (Jvm.Cond.fieldLink "LeanTower" (11 : Nat) "LeanTower" "rows" "[LLeanTower$Row;") ∈ WA := wa_of (mt_1 (i := 186) rfl) rfl
theorem q1_187 : (Jvm.Cond.fieldLink "LeanTower" (18 : Nat) "LeanTower" "reader" "LLeanTower$Reader;") ∈ WA := wa_of (mt_1 (i := 187) rfl) rfl
theorem q1_188 : (Jvm.Cond.fieldLink "LeanTower" (25 : Nat) "LeanTower" "now" "LLeanTower$Tower;") ∈ WA := wa_of (mt_1 (i := 188) rfl) rfl
theorem q1_189 : (Jvm.Cond.fieldLink "LeanTower" (29 : Nat) "LeanTower" "trial" "LLeanTower$Tower;") ∈ WA := wa_of (mt_1 (i := 189) rfl) rfl
theorem q1_190 : (Jvm.Cond.fieldLink "LeanTower" (32 : Nat) "LeanTower" "before" "[LLeanTower$Tower;") ∈ WA := wa_of (mt_1 (i := 190) rfl) rfl
theorem q1_191 : (Jvm.Cond.fieldLink "LeanTower" (181 : Nat) "LeanTower" "oldestAct" "I") ∈ WA := wa_of (mt_1 (i := 191) rfl) rfl
theorem q1_192 : (Jvm.Cond.fieldLink "LeanTower" (128 : Nat) "LeanTower" "actCount" "I") ∈ WA := wa_of (mt_1 (i := 192) rfl) rfl
theorem q1_193 : (Jvm.Cond.fieldLink "LeanTower" (36 : Nat) "LeanTower" "images" "[LLeanTower$Tower;") ∈ WA := wa_of (mt_1 (i := 193) rfl) rfl
theorem q1_194 : (Jvm.Cond.fieldLink "LeanTower" (42 : Nat) "LeanTower" "bodies" "LLeanTower$Trace;") ∈ WA := wa_of (mt_1 (i := 194) rfl) rfl
theorem q1_195 : (Jvm.Cond.fieldLink "LeanTower" (49 : Nat) "LeanTower" "belfry" "LLeanTower$Bells;") ∈ WA := wa_of (mt_1 (i := 195) rfl) rfl
theorem q1_196 : (Jvm.Cond.fieldLink "LeanTower" (53 : Nat) "LeanTower" "rescuable" "[Z") ∈ WA := wa_of (mt_1 (i := 196) rfl) rfl
theorem q1_197 : (Jvm.Cond.fieldLink "LeanTower" (57 : Nat) "LeanTower" "reach" "[I") ∈ WA := wa_of (mt_1 (i := 197) rfl) rfl
theorem q1_198 : (Jvm.Cond.fieldLink "LeanTower" (297 : Nat) "LeanTower" "latestFinding" "I") ∈ WA := wa_of (mt_1 (i := 198) rfl) rfl
theorem q1_199 : (Jvm.Cond.laysFinal "LeanTower" "LeanTower" "rows" "[LLeanTower$Row;") ∈ WA := wa_of (mt_1 (i := 199) rfl) rfl
theorem q1_200 : (Jvm.Cond.soleField "LeanTower" "rows") ∈ WA := wa_of (mt_1 (i := 200) rfl) rfl
theorem q1_201 : (Jvm.Cond.laysFinal "LeanTower" "LeanTower" "reader" "LLeanTower$Reader;") ∈ WA := wa_of (mt_1 (i := 201) rfl) rfl
theorem q1_202 : (Jvm.Cond.soleField "LeanTower" "reader") ∈ WA := wa_of (mt_1 (i := 202) rfl) rfl
theorem q1_203 : (Jvm.Cond.laysFinal "LeanTower" "LeanTower" "now" "LLeanTower$Tower;") ∈ WA := wa_of (mt_1 (i := 203) rfl) rfl
theorem q1_204 : (Jvm.Cond.soleField "LeanTower" "now") ∈ WA := wa_of (mt_1 (i := 204) rfl) rfl
theorem q1_205 : (Jvm.Cond.laysFinal "LeanTower" "LeanTower" "trial" "LLeanTower$Tower;") ∈ WA := wa_of (mt_1 (i := 205) rfl) rfl
theorem q1_206 : (Jvm.Cond.soleField "LeanTower" "trial") ∈ WA := wa_of (mt_1 (i := 206) rfl) rfl
theorem q1_207 : (Jvm.Cond.laysFinal "LeanTower" "LeanTower" "before" "[LLeanTower$Tower;") ∈ WA := wa_of (mt_1 (i := 207) rfl) rfl
theorem q1_208 : (Jvm.Cond.soleField "LeanTower" "before") ∈ WA := wa_of (mt_1 (i := 208) rfl) rfl
theorem q1_209 : (Jvm.Cond.lays "LeanTower" "LeanTower" "oldestAct" "I") ∈ WA := wa_of (mt_1 (i := 209) rfl) rfl
theorem q1_210 : (Jvm.Cond.soleField "LeanTower" "oldestAct") ∈ WA := wa_of (mt_1 (i := 210) rfl) rfl
theorem q1_211 : (Jvm.Cond.lays "LeanTower" "LeanTower" "actCount" "I") ∈ WA := wa_of (mt_1 (i := 211) rfl) rfl
theorem q1_212 : (Jvm.Cond.soleField "LeanTower" "actCount") ∈ WA := wa_of (mt_1 (i := 212) rfl) rfl
theorem q1_213 : (Jvm.Cond.laysFinal "LeanTower" "LeanTower" "images" "[LLeanTower$Tower;") ∈ WA := wa_of (mt_1 (i := 213) rfl) rfl
theorem q1_214 : (Jvm.Cond.soleField "LeanTower" "images") ∈ WA := wa_of (mt_1 (i := 214) rfl) rfl
theorem q1_215 : (Jvm.Cond.laysFinal "LeanTower" "LeanTower" "bodies" "LLeanTower$Trace;") ∈ WA := wa_of (mt_1 (i := 215) rfl) rfl
theorem q1_216 : (Jvm.Cond.soleField "LeanTower" "bodies") ∈ WA := wa_of (mt_1 (i := 216) rfl) rfl
theorem q1_217 : (Jvm.Cond.laysFinal "LeanTower" "LeanTower" "belfry" "LLeanTower$Bells;") ∈ WA := wa_of (mt_1 (i := 217) rfl) rfl
theorem q1_218 : (Jvm.Cond.soleField "LeanTower" "belfry") ∈ WA := wa_of (mt_1 (i := 218) rfl) rfl
theorem q1_219 : (Jvm.Cond.laysFinal "LeanTower" "LeanTower" "rescuable" "[Z") ∈ WA := wa_of (mt_1 (i := 219) rfl) rfl
theorem q1_220 : (Jvm.Cond.soleField "LeanTower" "rescuable") ∈ WA := wa_of (mt_1 (i := 220) rfl) rfl
theorem q1_221 : (Jvm.Cond.laysFinal "LeanTower" "LeanTower" "reach" "[I") ∈ WA := wa_of (mt_1 (i := 221) rfl) rfl
theorem q1_222 : (Jvm.Cond.soleField "LeanTower" "reach") ∈ WA := wa_of (mt_1 (i := 222) rfl) rfl
theorem q1_223 : (Jvm.Cond.lays "LeanTower" "LeanTower" "latestFinding" "I") ∈ WA := wa_of (mt_1 (i := 223) rfl) rfl
theorem q1_224 : (Jvm.Cond.soleField "LeanTower" "latestFinding") ∈ WA := wa_of (mt_1 (i := 224) rfl) rfl
theorem q1_225 : (Jvm.Cond.superclass "LeanTower" "java/lang/Object") ∈ WA := wa_of (mt_1 (i := 225) rfl) rfl
theorem q1_226 : (Jvm.Cond.methodLink "LeanTowerLaw" (13 : Nat) ({ cls := "LeanTower", name := "row", desc := "(III)I" } : Jvm.MethodName)) ∈ WA := wa_of (mt_1 (i := 226) rfl) rfl
theorem q1_227 : (Jvm.Cond.instanceMethod ({ cls := "LeanTower", name := "row", desc := "(III)I" } : Jvm.MethodName)) ∈ WA := wa_of (mt_1 (i := 227) rfl) rfl
theorem q1_228 : (Jvm.Cond.selects "LeanTower" ({ cls := "LeanTower", name := "row", desc := "(III)I" } : Jvm.MethodName) ({ cls := "LeanTower", name := "row", desc := "(III)I" } : Jvm.MethodName)) ∈ WA := wa_of (mt_1 (i := 228) rfl) rfl
theorem q1_229 : (Jvm.Cond.code ({ cls := "LeanTower", name := "row", desc := "(III)I" } : Jvm.MethodName) prog_1_method_2_code (5 : Nat) (Option.some Jvm.ClassFile.FieldType.int)) ∈ WA := wa_of (mt_1 (i := 229) rfl) rfl
theorem q1_230 : (Jvm.Cond.methodLink "LeanTower" (62 : Nat) ({ cls := "LeanTower", name := "rowAt", desc := "(I)LLeanTower$Row;" } : Jvm.MethodName)) ∈ WA := wa_of (mt_1 (i := 230) rfl) rfl
theorem q1_231 : (Jvm.Cond.privateMethod ({ cls := "LeanTower", name := "rowAt", desc := "(I)LLeanTower$Row;" } : Jvm.MethodName)) ∈ lw_tbl := mt_1 (i := 231) rfl
theorem q1_232 : (Jvm.Cond.instanceMethod ({ cls := "LeanTower", name := "rowAt", desc := "(I)LLeanTower$Row;" } : Jvm.MethodName)) ∈ WA := wa_of (mt_1 (i := 232) rfl) rfl
theorem q1_233 : (Jvm.Cond.code ({ cls := "LeanTower", name := "rowAt", desc := "(I)LLeanTower$Row;" } : Jvm.MethodName) prog_1_method_32_code (2 : Nat) (Option.some (Jvm.ClassFile.FieldType.object "LeanTower$Row"))) ∈ WA := wa_of (mt_1 (i := 233) rfl) rfl
theorem q1_234 : (Jvm.Cond.constant "LeanTower" (66 : Nat) (-1000001 : Int32)) ∈ WA := wa_of (mt_1 (i := 234) rfl) rfl
theorem q1_235 : (Jvm.Cond.methodLink "LeanTower" (67 : Nat) ({ cls := "LeanTower", name := "found", desc := "(I)I" } : Jvm.MethodName)) ∈ WA := wa_of (mt_1 (i := 235) rfl) rfl
theorem q1_236 : (Jvm.Cond.privateMethod ({ cls := "LeanTower", name := "found", desc := "(I)I" } : Jvm.MethodName)) ∈ lw_tbl := mt_1 (i := 236) rfl
theorem q1_237 : (Jvm.Cond.instanceMethod ({ cls := "LeanTower", name := "found", desc := "(I)I" } : Jvm.MethodName)) ∈ WA := wa_of (mt_1 (i := 237) rfl) rfl
theorem q1_238 : (Jvm.Cond.code ({ cls := "LeanTower", name := "found", desc := "(I)I" } : Jvm.MethodName) prog_1_method_34_code (2 : Nat) (Option.some Jvm.ClassFile.FieldType.int)) ∈ WA := wa_of (mt_1 (i := 238) rfl) rfl
theorem q1_239 : (Jvm.Cond.constant "LeanTower" (300 : Nat) (-1000010 : Int32)) ∈ WA := wa_of (mt_1 (i := 239) rfl) rfl
theorem q2_0 : (Jvm.Cond.methodLink "LeanTower" (71 : Nat) ({ cls := "LeanTower$Row", name := "begin", desc := "(II)V" } : Jvm.MethodName)) ∈ WA := wa_of (mt_2 (i := 0) rfl) rfl
theorem q2_1 : (Jvm.Cond.instanceMethod ({ cls := "LeanTower$Row", name := "begin", desc := "(II)V" } : Jvm.MethodName)) ∈ WA := wa_of (mt_2 (i := 1) rfl) rfl
theorem q2_2 : (Jvm.Cond.selects "LeanTower$Row" ({ cls := "LeanTower$Row", name := "begin", desc := "(II)V" } : Jvm.MethodName) ({ cls := "LeanTower$Row", name := "begin", desc := "(II)V" } : Jvm.MethodName)) ∈ WA := wa_of (mt_2 (i := 2) rfl) rfl
theorem q2_3 : (Jvm.Cond.code ({ cls := "LeanTower$Row", name := "begin", desc := "(II)V" } : Jvm.MethodName) prog_9_method_3_code (4 : Nat) (Option.none : Option Jvm.ClassFile.FieldType)) ∈ WA := wa_of (mt_2 (i := 3) rfl) rfl
theorem q2_4 : (Jvm.Cond.methodLink "LeanTower" (75 : Nat) ({ cls := "LeanTower", name := "clean", desc := "(I)I" } : Jvm.MethodName)) ∈ WA := wa_of (mt_2 (i := 4) rfl) rfl
theorem q2_5 : (Jvm.Cond.privateMethod ({ cls := "LeanTower", name := "clean", desc := "(I)I" } : Jvm.MethodName)) ∈ lw_tbl := mt_2 (i := 5) rfl
theorem q2_6 : (Jvm.Cond.instanceMethod ({ cls := "LeanTower", name := "clean", desc := "(I)I" } : Jvm.MethodName)) ∈ WA := wa_of (mt_2 (i := 6) rfl) rfl
theorem q2_7 : (Jvm.Cond.code ({ cls := "LeanTower", name := "clean", desc := "(I)I" } : Jvm.MethodName) prog_1_method_35_code (2 : Nat) (Option.some Jvm.ClassFile.FieldType.int)) ∈ WA := wa_of (mt_2 (i := 7) rfl) rfl
theorem q2_8 : (Jvm.Cond.methodLink "LeanTowerLaw" (18 : Nat) ({ cls := "LeanTower", name := "set", desc := "(III)I" } : Jvm.MethodName)) ∈ WA := wa_of (mt_2 (i := 8) rfl) rfl
theorem q2_9 : (Jvm.Cond.instanceMethod ({ cls := "LeanTower", name := "set", desc := "(III)I" } : Jvm.MethodName)) ∈ WA := wa_of (mt_2 (i := 9) rfl) rfl
theorem q2_10 : (Jvm.Cond.selects "LeanTower" ({ cls := "LeanTower", name := "set", desc := "(III)I" } : Jvm.MethodName) ({ cls := "LeanTower", name := "set", desc := "(III)I" } : Jvm.MethodName)) ∈ WA := wa_of (mt_2 (i := 10) rfl) rfl
theorem q2_11 : (Jvm.Cond.code ({ cls := "LeanTower", name := "set", desc := "(III)I" } : Jvm.MethodName) prog_1_method_3_code (5 : Nat) (Option.some Jvm.ClassFile.FieldType.int)) ∈ WA := wa_of (mt_2 (i := 11) rfl) rfl
theorem q2_12 : (Jvm.Cond.methodLink "LeanTower" (78 : Nat) ({ cls := "LeanTower$Row", name := "isMissing", desc := "()Z" } : Jvm.MethodName)) ∈ WA := wa_of (mt_2 (i := 12) rfl) rfl
theorem q2_13 : (Jvm.Cond.instanceMethod ({ cls := "LeanTower$Row", name := "isMissing", desc := "()Z" } : Jvm.MethodName)) ∈ WA := wa_of (mt_2 (i := 13) rfl) rfl
theorem q2_14 : (Jvm.Cond.selects "LeanTower$Row" ({ cls := "LeanTower$Row", name := "isMissing", desc := "()Z" } : Jvm.MethodName) ({ cls := "LeanTower$Row", name := "isMissing", desc := "()Z" } : Jvm.MethodName)) ∈ WA := wa_of (mt_2 (i := 14) rfl) rfl
theorem q2_15 : (Jvm.Cond.code ({ cls := "LeanTower$Row", name := "isMissing", desc := "()Z" } : Jvm.MethodName) prog_9_method_2_code (1 : Nat) (Option.some Jvm.ClassFile.FieldType.boolean)) ∈ WA := wa_of (mt_2 (i := 15) rfl) rfl
theorem q2_16 : (Jvm.Cond.methodLink "LeanTower" (89 : Nat) ({ cls := "LeanTower$Row", name := "narrowed", desc := "(I)I" } : Jvm.MethodName)) ∈ WA := wa_of (mt_2 (i := 16) rfl) rfl
theorem q2_17 : (Jvm.Cond.instanceMethod ({ cls := "LeanTower$Row", name := "narrowed", desc := "(I)I" } : Jvm.MethodName)) ∈ WA := wa_of (mt_2 (i := 17) rfl) rfl
theorem q2_18 : (Jvm.Cond.selects "LeanTower$Row" ({ cls := "LeanTower$Row", name := "narrowed", desc := "(I)I" } : Jvm.MethodName) ({ cls := "LeanTower$Row", name := "narrowed", desc := "(I)I" } : Jvm.MethodName)) ∈ WA := wa_of (mt_2 (i := 18) rfl) rfl
theorem q2_19 : (Jvm.Cond.code ({ cls := "LeanTower$Row", name := "narrowed", desc := "(I)I" } : Jvm.MethodName) prog_9_method_5_code (2 : Nat) (Option.some Jvm.ClassFile.FieldType.int)) ∈ WA := wa_of (mt_2 (i := 19) rfl) rfl
theorem q2_20 : (Jvm.Cond.methodLink "LeanTowerLaw" (22 : Nat) ({ cls := "LeanTower", name := "copy", desc := "(IIIII)I" } : Jvm.MethodName)) ∈ WA := wa_of (mt_2 (i := 20) rfl) rfl
theorem q2_21 : (Jvm.Cond.instanceMethod ({ cls := "LeanTower", name := "copy", desc := "(IIIII)I" } : Jvm.MethodName)) ∈ WA := wa_of (mt_2 (i := 21) rfl) rfl
theorem q2_22 : (Jvm.Cond.selects "LeanTower" ({ cls := "LeanTower", name := "copy", desc := "(IIIII)I" } : Jvm.MethodName) ({ cls := "LeanTower", name := "copy", desc := "(IIIII)I" } : Jvm.MethodName)) ∈ WA := wa_of (mt_2 (i := 22) rfl) rfl
theorem q2_23 : (Jvm.Cond.code ({ cls := "LeanTower", name := "copy", desc := "(IIIII)I" } : Jvm.MethodName) prog_1_method_4_code (8 : Nat) (Option.some Jvm.ClassFile.FieldType.int)) ∈ WA := wa_of (mt_2 (i := 23) rfl) rfl
theorem q2_24 : (Jvm.Cond.methodLink "LeanTower" (95 : Nat) ({ cls := "LeanTower$Row", name := "reaches", desc := "(II)Z" } : Jvm.MethodName)) ∈ WA := wa_of (mt_2 (i := 24) rfl) rfl
theorem q2_25 : (Jvm.Cond.instanceMethod ({ cls := "LeanTower$Row", name := "reaches", desc := "(II)Z" } : Jvm.MethodName)) ∈ WA := wa_of (mt_2 (i := 25) rfl) rfl
theorem q2_26 : (Jvm.Cond.selects "LeanTower$Row" ({ cls := "LeanTower$Row", name := "reaches", desc := "(II)Z" } : Jvm.MethodName) ({ cls := "LeanTower$Row", name := "reaches", desc := "(II)Z" } : Jvm.MethodName)) ∈ WA := wa_of (mt_2 (i := 26) rfl) rfl
theorem q2_27 : (Jvm.Cond.code ({ cls := "LeanTower$Row", name := "reaches", desc := "(II)Z" } : Jvm.MethodName) prog_9_method_6_code (3 : Nat) (Option.some Jvm.ClassFile.FieldType.boolean)) ∈ WA := wa_of (mt_2 (i := 27) rfl) rfl
theorem q2_28 : (Jvm.Cond.methodLink "LeanTower" (99 : Nat) ({ cls := "java/lang/System", name := "arraycopy", desc := "(Ljava/lang/Object;ILjava/lang/Object;II)V" } : Jvm.MethodName)) ∈ WA := wa_of (mt_2 (i := 28) rfl) rfl
theorem q2_29 : (Jvm.Cond.static ({ cls := "java/lang/System", name := "arraycopy", desc := "(Ljava/lang/Object;ILjava/lang/Object;II)V" } : Jvm.MethodName)) ∈ WA := wa_of (mt_2 (i := 29) rfl) rfl
theorem q2_30 : (Jvm.Cond.native ({ cls := "java/lang/System", name := "arraycopy", desc := "(Ljava/lang/Object;ILjava/lang/Object;II)V" } : Jvm.MethodName)) ∈ WA := wa_of (mt_2 (i := 30) rfl) rfl
theorem q2_31 : (Jvm.Cond.methodLink "LeanTowerLaw" (27 : Nat) ({ cls := "LeanTower", name := "drop", desc := "(I)I" } : Jvm.MethodName)) ∈ WA := wa_of (mt_2 (i := 31) rfl) rfl
theorem q2_32 : (Jvm.Cond.instanceMethod ({ cls := "LeanTower", name := "drop", desc := "(I)I" } : Jvm.MethodName)) ∈ WA := wa_of (mt_2 (i := 32) rfl) rfl
theorem q2_33 : (Jvm.Cond.selects "LeanTower" ({ cls := "LeanTower", name := "drop", desc := "(I)I" } : Jvm.MethodName) ({ cls := "LeanTower", name := "drop", desc := "(I)I" } : Jvm.MethodName)) ∈ WA := wa_of (mt_2 (i := 33) rfl) rfl
theorem q2_34 : (Jvm.Cond.code ({ cls := "LeanTower", name := "drop", desc := "(I)I" } : Jvm.MethodName) prog_1_method_5_code (4 : Nat) (Option.some Jvm.ClassFile.FieldType.int)) ∈ WA := wa_of (mt_2 (i := 34) rfl) rfl
theorem q2_35 : (Jvm.Cond.methodLink "LeanTower" (105 : Nat) ({ cls := "LeanTower$Row", name := "end", desc := "()V" } : Jvm.MethodName)) ∈ WA := wa_of (mt_2 (i := 35) rfl) rfl
theorem q2_36 : (Jvm.Cond.instanceMethod ({ cls := "LeanTower$Row", name := "end", desc := "()V" } : Jvm.MethodName)) ∈ WA := wa_of (mt_2 (i := 36) rfl) rfl
theorem q2_37 : (Jvm.Cond.selects "LeanTower$Row" ({ cls := "LeanTower$Row", name := "end", desc := "()V" } : Jvm.MethodName) ({ cls := "LeanTower$Row", name := "end", desc := "()V" } : Jvm.MethodName)) ∈ WA := wa_of (mt_2 (i := 37) rfl) rfl
theorem q2_38 : (Jvm.Cond.code ({ cls := "LeanTower$Row", name := "end", desc := "()V" } : Jvm.MethodName) prog_9_method_4_code (1 : Nat) (Option.none : Option Jvm.ClassFile.FieldType)) ∈ WA := wa_of (mt_2 (i := 38) rfl) rfl
theorem q2_39 : (Jvm.Cond.methodLink "LeanTowerLaw" (34 : Nat) ({ cls := "LeanTower", name := "feed", desc := "(JI)I" } : Jvm.MethodName)) ∈ WA := wa_of (mt_2 (i := 39) rfl) rfl
theorem q2_40 : (Jvm.Cond.instanceMethod ({ cls := "LeanTower", name := "feed", desc := "(JI)I" } : Jvm.MethodName)) ∈ WA := wa_of (mt_2 (i := 40) rfl) rfl
theorem q2_41 : (Jvm.Cond.selects "LeanTower" ({ cls := "LeanTower", name := "feed", desc := "(JI)I" } : Jvm.MethodName) ({ cls := "LeanTower", name := "feed", desc := "(JI)I" } : Jvm.MethodName)) ∈ WA := wa_of (mt_2 (i := 41) rfl) rfl
theorem q2_42 : (Jvm.Cond.code ({ cls := "LeanTower", name := "feed", desc := "(JI)I" } : Jvm.MethodName) prog_1_method_6_code (5 : Nat) (Option.some Jvm.ClassFile.FieldType.int)) ∈ WA := wa_of (mt_2 (i := 42) rfl) rfl
theorem q2_43 : (Jvm.Cond.constant "LeanTower" (111 : Nat) (-1000003 : Int32)) ∈ WA := wa_of (mt_2 (i := 43) rfl) rfl
theorem q2_44 : (Jvm.Cond.methodLink "LeanTower" (112 : Nat) ({ cls := "LeanTower$Reader", name := "append", desc := "(B)V" } : Jvm.MethodName)) ∈ WA := wa_of (mt_2 (i := 44) rfl) rfl
theorem q2_45 : (Jvm.Cond.instanceMethod ({ cls := "LeanTower$Reader", name := "append", desc := "(B)V" } : Jvm.MethodName)) ∈ WA := wa_of (mt_2 (i := 45) rfl) rfl
theorem q2_46 : (Jvm.Cond.selects "LeanTower$Reader" ({ cls := "LeanTower$Reader", name := "append", desc := "(B)V" } : Jvm.MethodName) ({ cls := "LeanTower$Reader", name := "append", desc := "(B)V" } : Jvm.MethodName)) ∈ WA := wa_of (mt_2 (i := 46) rfl) rfl
theorem q2_47 : (Jvm.Cond.code ({ cls := "LeanTower$Reader", name := "append", desc := "(B)V" } : Jvm.MethodName) prog_8_method_2_code (2 : Nat) (Option.none : Option Jvm.ClassFile.FieldType)) ∈ WA := wa_of (mt_2 (i := 47) rfl) rfl
theorem q2_48 : (Jvm.Cond.methodLink "LeanTowerLaw" (39 : Nat) ({ cls := "LeanTower", name := "tower", desc := "()I" } : Jvm.MethodName)) ∈ WA := wa_of (mt_2 (i := 48) rfl) rfl
theorem q2_49 : (Jvm.Cond.instanceMethod ({ cls := "LeanTower", name := "tower", desc := "()I" } : Jvm.MethodName)) ∈ WA := wa_of (mt_2 (i := 49) rfl) rfl
theorem q2_50 : (Jvm.Cond.selects "LeanTower" ({ cls := "LeanTower", name := "tower", desc := "()I" } : Jvm.MethodName) ({ cls := "LeanTower", name := "tower", desc := "()I" } : Jvm.MethodName)) ∈ WA := wa_of (mt_2 (i := 50) rfl) rfl
theorem q2_51 : (Jvm.Cond.code ({ cls := "LeanTower", name := "tower", desc := "()I" } : Jvm.MethodName) prog_1_method_7_code (1 : Nat) (Option.some Jvm.ClassFile.FieldType.int)) ∈ WA := wa_of (mt_2 (i := 51) rfl) rfl
theorem q2_52 : (Jvm.Cond.methodLink "LeanTower" (116 : Nat) ({ cls := "LeanTower$Reader", name := "readInto", desc := "(LLeanTower$Tower;)Z" } : Jvm.MethodName)) ∈ WA := wa_of (mt_2 (i := 52) rfl) rfl
theorem q2_53 : (Jvm.Cond.instanceMethod ({ cls := "LeanTower$Reader", name := "readInto", desc := "(LLeanTower$Tower;)Z" } : Jvm.MethodName)) ∈ WA := wa_of (mt_2 (i := 53) rfl) rfl
theorem q2_54 : (Jvm.Cond.selects "LeanTower$Reader" ({ cls := "LeanTower$Reader", name := "readInto", desc := "(LLeanTower$Tower;)Z" } : Jvm.MethodName) ({ cls := "LeanTower$Reader", name := "readInto", desc := "(LLeanTower$Tower;)Z" } : Jvm.MethodName)) ∈ WA := wa_of (mt_2 (i := 54) rfl) rfl
theorem q2_55 : (Jvm.Cond.code ({ cls := "LeanTower$Reader", name := "readInto", desc := "(LLeanTower$Tower;)Z" } : Jvm.MethodName) prog_8_method_3_code (4 : Nat) (Option.some Jvm.ClassFile.FieldType.boolean)) ∈ WA := wa_of (mt_2 (i := 55) rfl) rfl
theorem q2_56 : (Jvm.Cond.methodLink "LeanTower$Reader" (19 : Nat) ({ cls := "LeanTower$Tower", name := "clear", desc := "()V" } : Jvm.MethodName)) ∈ WA := wa_of (mt_2 (i := 56) rfl) rfl
theorem q2_57 : (Jvm.Cond.instanceMethod ({ cls := "LeanTower$Tower", name := "clear", desc := "()V" } : Jvm.MethodName)) ∈ WA := wa_of (mt_2 (i := 57) rfl) rfl
theorem q2_58 : (Jvm.Cond.selects "LeanTower$Tower" ({ cls := "LeanTower$Tower", name := "clear", desc := "()V" } : Jvm.MethodName) ({ cls := "LeanTower$Tower", name := "clear", desc := "()V" } : Jvm.MethodName)) ∈ WA := wa_of (mt_2 (i := 58) rfl) rfl
theorem q2_59 : (Jvm.Cond.code ({ cls := "LeanTower$Tower", name := "clear", desc := "()V" } : Jvm.MethodName) prog_10_method_3_code (1 : Nat) (Option.none : Option Jvm.ClassFile.FieldType)) ∈ WA := wa_of (mt_2 (i := 59) rfl) rfl
theorem q2_60 : (Jvm.Cond.methodLink "LeanTower$Reader" (27 : Nat) ({ cls := "LeanTower$Reader", name := "next", desc := "()V" } : Jvm.MethodName)) ∈ WA := wa_of (mt_2 (i := 60) rfl) rfl
theorem q2_61 : (Jvm.Cond.privateMethod ({ cls := "LeanTower$Reader", name := "next", desc := "()V" } : Jvm.MethodName)) ∈ lw_tbl := mt_2 (i := 61) rfl
theorem q2_62 : (Jvm.Cond.instanceMethod ({ cls := "LeanTower$Reader", name := "next", desc := "()V" } : Jvm.MethodName)) ∈ WA := wa_of (mt_2 (i := 62) rfl) rfl
theorem q2_63 : (Jvm.Cond.code ({ cls := "LeanTower$Reader", name := "next", desc := "()V" } : Jvm.MethodName) prog_8_method_13_code (1 : Nat) (Option.none : Option Jvm.ClassFile.FieldType)) ∈ WA := wa_of (mt_2 (i := 63) rfl) rfl
theorem q2_64 : (Jvm.Cond.methodLink "LeanTower$Reader" (140 : Nat) ({ cls := "LeanTower$Reader", name := "isBlank", desc := "(B)Z" } : Jvm.MethodName)) ∈ WA := wa_of (mt_2 (i := 64) rfl) rfl
theorem q2_65 : (Jvm.Cond.static ({ cls := "LeanTower$Reader", name := "isBlank", desc := "(B)Z" } : Jvm.MethodName)) ∈ WA := wa_of (mt_2 (i := 65) rfl) rfl
theorem q2_66 : (Jvm.Cond.code ({ cls := "LeanTower$Reader", name := "isBlank", desc := "(B)Z" } : Jvm.MethodName) prog_8_method_16_code (1 : Nat) (Option.some Jvm.ClassFile.FieldType.boolean)) ∈ WA := wa_of (mt_2 (i := 66) rfl) rfl
theorem q2_67 : (Jvm.Cond.methodLink "LeanTower$Reader" (144 : Nat) ({ cls := "LeanTower$Reader", name := "isLetter", desc := "(B)Z" } : Jvm.MethodName)) ∈ WA := wa_of (mt_2 (i := 67) rfl) rfl
theorem q2_68 : (Jvm.Cond.static ({ cls := "LeanTower$Reader", name := "isLetter", desc := "(B)Z" } : Jvm.MethodName)) ∈ WA := wa_of (mt_2 (i := 68) rfl) rfl
theorem q2_69 : (Jvm.Cond.code ({ cls := "LeanTower$Reader", name := "isLetter", desc := "(B)Z" } : Jvm.MethodName) prog_8_method_17_code (1 : Nat) (Option.some Jvm.ClassFile.FieldType.boolean)) ∈ WA := wa_of (mt_2 (i := 69) rfl) rfl
theorem q2_70 : (Jvm.Cond.methodLink "LeanTower$Reader" (147 : Nat) ({ cls := "LeanTower$Reader", name := "passLetters", desc := "()V" } : Jvm.MethodName)) ∈ WA := wa_of (mt_2 (i := 70) rfl) rfl
theorem q2_71 : (Jvm.Cond.privateMethod ({ cls := "LeanTower$Reader", name := "passLetters", desc := "()V" } : Jvm.MethodName)) ∈ lw_tbl := mt_2 (i := 71) rfl
theorem q2_72 : (Jvm.Cond.instanceMethod ({ cls := "LeanTower$Reader", name := "passLetters", desc := "()V" } : Jvm.MethodName)) ∈ WA := wa_of (mt_2 (i := 72) rfl) rfl
theorem q2_73 : (Jvm.Cond.code ({ cls := "LeanTower$Reader", name := "passLetters", desc := "()V" } : Jvm.MethodName) prog_8_method_14_code (1 : Nat) (Option.none : Option Jvm.ClassFile.FieldType)) ∈ WA := wa_of (mt_2 (i := 73) rfl) rfl
theorem q2_74 : (Jvm.Cond.methodLink "LeanTower$Reader" (150 : Nat) ({ cls := "LeanTower$Reader", name := "isFigure", desc := "(B)Z" } : Jvm.MethodName)) ∈ WA := wa_of (mt_2 (i := 74) rfl) rfl
theorem q2_75 : (Jvm.Cond.static ({ cls := "LeanTower$Reader", name := "isFigure", desc := "(B)Z" } : Jvm.MethodName)) ∈ WA := wa_of (mt_2 (i := 75) rfl) rfl
theorem q2_76 : (Jvm.Cond.code ({ cls := "LeanTower$Reader", name := "isFigure", desc := "(B)Z" } : Jvm.MethodName) prog_8_method_18_code (1 : Nat) (Option.some Jvm.ClassFile.FieldType.boolean)) ∈ WA := wa_of (mt_2 (i := 76) rfl) rfl
theorem q2_77 : (Jvm.Cond.methodLink "LeanTower$Reader" (153 : Nat) ({ cls := "LeanTower$Reader", name := "passFigures", desc := "()V" } : Jvm.MethodName)) ∈ WA := wa_of (mt_2 (i := 77) rfl) rfl
theorem q2_78 : (Jvm.Cond.privateMethod ({ cls := "LeanTower$Reader", name := "passFigures", desc := "()V" } : Jvm.MethodName)) ∈ lw_tbl := mt_2 (i := 78) rfl
theorem q2_79 : (Jvm.Cond.instanceMethod ({ cls := "LeanTower$Reader", name := "passFigures", desc := "()V" } : Jvm.MethodName)) ∈ WA := wa_of (mt_2 (i := 79) rfl) rfl
theorem q2_80 : (Jvm.Cond.code ({ cls := "LeanTower$Reader", name := "passFigures", desc := "()V" } : Jvm.MethodName) prog_8_method_15_code (1 : Nat) (Option.none : Option Jvm.ClassFile.FieldType)) ∈ WA := wa_of (mt_2 (i := 80) rfl) rfl
theorem q2_81 : (Jvm.Cond.methodLink "LeanTower$Reader" (30 : Nat) ({ cls := "LeanTower$Reader", name := "readLaw", desc := "(LLeanTower$Tower;)Z" } : Jvm.MethodName)) ∈ WA := wa_of (mt_2 (i := 81) rfl) rfl
theorem q2_82 : (Jvm.Cond.privateMethod ({ cls := "LeanTower$Reader", name := "readLaw", desc := "(LLeanTower$Tower;)Z" } : Jvm.MethodName)) ∈ lw_tbl := mt_2 (i := 82) rfl
theorem q2_83 : (Jvm.Cond.instanceMethod ({ cls := "LeanTower$Reader", name := "readLaw", desc := "(LLeanTower$Tower;)Z" } : Jvm.MethodName)) ∈ WA := wa_of (mt_2 (i := 83) rfl) rfl
theorem q2_84 : (Jvm.Cond.code ({ cls := "LeanTower$Reader", name := "readLaw", desc := "(LLeanTower$Tower;)Z" } : Jvm.MethodName) prog_8_method_4_code (2 : Nat) (Option.some Jvm.ClassFile.FieldType.boolean)) ∈ WA := wa_of (mt_2 (i := 84) rfl) rfl
theorem q2_85 : (Jvm.Cond.stringRef "LeanTower$Reader" (55 : Nat) "law") ∈ lw_tbl := mt_2 (i := 85) rfl
theorem q2_86 : (Jvm.Cond.methodLink "LeanTower$Reader" (36 : Nat) ({ cls := "LeanTower$Reader", name := "isWord", desc := "(Ljava/lang/String;)Z" } : Jvm.MethodName)) ∈ WA := wa_of (mt_2 (i := 86) rfl) rfl
theorem q2_87 : (Jvm.Cond.privateMethod ({ cls := "LeanTower$Reader", name := "isWord", desc := "(Ljava/lang/String;)Z" } : Jvm.MethodName)) ∈ lw_tbl := mt_2 (i := 87) rfl
theorem q2_88 : (Jvm.Cond.instanceMethod ({ cls := "LeanTower$Reader", name := "isWord", desc := "(Ljava/lang/String;)Z" } : Jvm.MethodName)) ∈ WA := wa_of (mt_2 (i := 88) rfl) rfl
theorem q2_89 : (Jvm.Cond.code ({ cls := "LeanTower$Reader", name := "isWord", desc := "(Ljava/lang/String;)Z" } : Jvm.MethodName) prog_8_method_12_code (3 : Nat) (Option.some Jvm.ClassFile.FieldType.boolean)) ∈ WA := wa_of (mt_2 (i := 89) rfl) rfl
theorem q2_90 : (Jvm.Cond.methodLink "LeanTower$Reader" (131 : Nat) ({ cls := "java/lang/String", name := "length", desc := "()I" } : Jvm.MethodName)) ∈ WA := wa_of (mt_2 (i := 90) rfl) rfl
theorem q2_91 : (Jvm.Cond.instanceMethod ({ cls := "java/lang/String", name := "length", desc := "()I" } : Jvm.MethodName)) ∈ WA := wa_of (mt_2 (i := 91) rfl) rfl
theorem q2_92 : (Jvm.Cond.selects "java/lang/String" ({ cls := "java/lang/String", name := "length", desc := "()I" } : Jvm.MethodName) ({ cls := "java/lang/String", name := "length", desc := "()I" } : Jvm.MethodName)) ∈ WA := wa_of (mt_2 (i := 92) rfl) rfl
theorem q2_93 : (Jvm.Cond.code ({ cls := "java/lang/String", name := "length", desc := "()I" } : Jvm.MethodName) prog_17_method_54_code (1 : Nat) (Option.some Jvm.ClassFile.FieldType.int)) ∈ WA := wa_of (mt_2 (i := 93) rfl) rfl
theorem q2_94 : (Jvm.Cond.methodLink "java/lang/String" (335 : Nat) ({ cls := "java/lang/String", name := "coder", desc := "()B" } : Jvm.MethodName)) ∈ WA := wa_of (mt_2 (i := 94) rfl) rfl
theorem q2_95 : (Jvm.Cond.instanceMethod ({ cls := "java/lang/String", name := "coder", desc := "()B" } : Jvm.MethodName)) ∈ WA := wa_of (mt_2 (i := 95) rfl) rfl
theorem q2_96 : (Jvm.Cond.selects "java/lang/String" ({ cls := "java/lang/String", name := "coder", desc := "()B" } : Jvm.MethodName) ({ cls := "java/lang/String", name := "coder", desc := "()B" } : Jvm.MethodName)) ∈ WA := wa_of (mt_2 (i := 96) rfl) rfl
theorem q2_97 : (Jvm.Cond.code ({ cls := "java/lang/String", name := "coder", desc := "()B" } : Jvm.MethodName) prog_17_method_152_code (1 : Nat) (Option.some Jvm.ClassFile.FieldType.byte)) ∈ WA := wa_of (mt_2 (i := 97) rfl) rfl
theorem q2_98 : (Jvm.Cond.fieldLink "java/lang/String" (38 : Nat) "java/lang/String" "COMPACT_STRINGS" "Z") ∈ WA := wa_of (mt_2 (i := 98) rfl) rfl
theorem q2_99 : (Jvm.Cond.laysStatic "java/lang/String" "COMPACT_STRINGS" "Z") ∈ lw_tbl := mt_2 (i := 99) rfl
theorem q2_100 : (Jvm.Cond.methodLink "LeanTower$Reader" (136 : Nat) ({ cls := "java/lang/String", name := "charAt", desc := "(I)C" } : Jvm.MethodName)) ∈ WA := wa_of (mt_2 (i := 100) rfl) rfl
theorem q2_101 : (Jvm.Cond.instanceMethod ({ cls := "java/lang/String", name := "charAt", desc := "(I)C" } : Jvm.MethodName)) ∈ WA := wa_of (mt_2 (i := 101) rfl) rfl
theorem q2_102 : (Jvm.Cond.selects "java/lang/String" ({ cls := "java/lang/String", name := "charAt", desc := "(I)C" } : Jvm.MethodName) ({ cls := "java/lang/String", name := "charAt", desc := "(I)C" } : Jvm.MethodName)) ∈ WA := wa_of (mt_2 (i := 102) rfl) rfl
theorem q2_103 : (Jvm.Cond.code ({ cls := "java/lang/String", name := "charAt", desc := "(I)C" } : Jvm.MethodName) prog_17_method_56_code (2 : Nat) (Option.some Jvm.ClassFile.FieldType.char)) ∈ WA := wa_of (mt_2 (i := 103) rfl) rfl
theorem q2_104 : (Jvm.Cond.methodLink "java/lang/String" (492 : Nat) ({ cls := "java/lang/String", name := "isLatin1", desc := "()Z" } : Jvm.MethodName)) ∈ WA := wa_of (mt_2 (i := 104) rfl) rfl
theorem q2_105 : (Jvm.Cond.instanceMethod ({ cls := "java/lang/String", name := "isLatin1", desc := "()Z" } : Jvm.MethodName)) ∈ WA := wa_of (mt_2 (i := 105) rfl) rfl
theorem q2_106 : (Jvm.Cond.selects "java/lang/String" ({ cls := "java/lang/String", name := "isLatin1", desc := "()Z" } : Jvm.MethodName) ({ cls := "java/lang/String", name := "isLatin1", desc := "()Z" } : Jvm.MethodName)) ∈ WA := wa_of (mt_2 (i := 106) rfl) rfl
theorem q2_107 : (Jvm.Cond.code ({ cls := "java/lang/String", name := "isLatin1", desc := "()Z" } : Jvm.MethodName) prog_17_method_154_code (1 : Nat) (Option.some Jvm.ClassFile.FieldType.boolean)) ∈ WA := wa_of (mt_2 (i := 107) rfl) rfl
theorem q2_108 : (Jvm.Cond.methodLink "java/lang/String" (495 : Nat) ({ cls := "java/lang/StringLatin1", name := "charAt", desc := "([BI)C" } : Jvm.MethodName)) ∈ WA := wa_of (mt_2 (i := 108) rfl) rfl
theorem q2_109 : (Jvm.Cond.static ({ cls := "java/lang/StringLatin1", name := "charAt", desc := "([BI)C" } : Jvm.MethodName)) ∈ WA := wa_of (mt_2 (i := 109) rfl) rfl
theorem q2_110 : (Jvm.Cond.code ({ cls := "java/lang/StringLatin1", name := "charAt", desc := "([BI)C" } : Jvm.MethodName) prog_18_method_2_code (2 : Nat) (Option.some Jvm.ClassFile.FieldType.char)) ∈ WA := wa_of (mt_2 (i := 110) rfl) rfl
theorem q2_111 : (Jvm.Cond.methodLink "java/lang/StringLatin1" (9 : Nat) ({ cls := "java/lang/String", name := "checkIndex", desc := "(II)V" } : Jvm.MethodName)) ∈ WA := wa_of (mt_2 (i := 111) rfl) rfl
theorem q2_112 : (Jvm.Cond.static ({ cls := "java/lang/String", name := "checkIndex", desc := "(II)V" } : Jvm.MethodName)) ∈ WA := wa_of (mt_2 (i := 112) rfl) rfl
theorem q2_113 : (Jvm.Cond.code ({ cls := "java/lang/String", name := "checkIndex", desc := "(II)V" } : Jvm.MethodName) prog_17_method_155_code (2 : Nat) (Option.none : Option Jvm.ClassFile.FieldType)) ∈ WA := wa_of (mt_2 (i := 113) rfl) rfl
theorem q2_114 : (Jvm.Cond.fieldLink "java/lang/String" (1053 : Nat) "jdk/internal/util/Preconditions" "SIOOBE_FORMATTER" "Ljava/util/function/BiFunction;") ∈ WA := wa_of (mt_2 (i := 114) rfl) rfl
theorem q2_115 : (Jvm.Cond.laysStatic "jdk/internal/util/Preconditions" "SIOOBE_FORMATTER" "Ljava/util/function/BiFunction;") ∈ lw_tbl := mt_2 (i := 115) rfl
theorem q2_116 : (Jvm.Cond.methodLink "java/lang/String" (1059 : Nat) ({ cls := "jdk/internal/util/Preconditions", name := "checkIndex", desc := "(IILjava/util/function/BiFunction;)I" } : Jvm.MethodName)) ∈ WA := wa_of (mt_2 (i := 116) rfl) rfl
theorem q2_117 : (Jvm.Cond.static ({ cls := "jdk/internal/util/Preconditions", name := "checkIndex", desc := "(IILjava/util/function/BiFunction;)I" } : Jvm.MethodName)) ∈ WA := wa_of (mt_2 (i := 117) rfl) rfl
theorem q2_118 : (Jvm.Cond.code ({ cls := "jdk/internal/util/Preconditions", name := "checkIndex", desc := "(IILjava/util/function/BiFunction;)I" } : Jvm.MethodName) prog_21_method_11_code (3 : Nat) (Option.some Jvm.ClassFile.FieldType.int)) ∈ WA := wa_of (mt_2 (i := 118) rfl) rfl
theorem q2_119 : (Jvm.Cond.methodLink "java/lang/String" (498 : Nat) ({ cls := "java/lang/StringUTF16", name := "charAt", desc := "([BI)C" } : Jvm.MethodName)) ∈ WA := wa_of (mt_2 (i := 119) rfl) rfl
theorem q2_120 : (Jvm.Cond.static ({ cls := "java/lang/StringUTF16", name := "charAt", desc := "([BI)C" } : Jvm.MethodName)) ∈ WA := wa_of (mt_2 (i := 120) rfl) rfl
theorem q2_121 : (Jvm.Cond.code ({ cls := "java/lang/StringUTF16", name := "charAt", desc := "([BI)C" } : Jvm.MethodName) prog_19_method_83_code (2 : Nat) (Option.some Jvm.ClassFile.FieldType.char)) ∈ WA := wa_of (mt_2 (i := 121) rfl) rfl
theorem q2_122 : (Jvm.Cond.methodLink "java/lang/StringUTF16" (67 : Nat) ({ cls := "java/lang/StringUTF16", name := "checkIndex", desc := "(I[B)V" } : Jvm.MethodName)) ∈ WA := wa_of (mt_2 (i := 122) rfl) rfl
theorem q2_123 : (Jvm.Cond.static ({ cls := "java/lang/StringUTF16", name := "checkIndex", desc := "(I[B)V" } : Jvm.MethodName)) ∈ WA := wa_of (mt_2 (i := 123) rfl) rfl
theorem q2_124 : (Jvm.Cond.code ({ cls := "java/lang/StringUTF16", name := "checkIndex", desc := "(I[B)V" } : Jvm.MethodName) prog_19_method_91_code (2 : Nat) (Option.none : Option Jvm.ClassFile.FieldType)) ∈ WA := wa_of (mt_2 (i := 124) rfl) rfl
theorem q2_125 : (Jvm.Cond.methodLink "java/lang/StringUTF16" (48 : Nat) ({ cls := "java/lang/StringUTF16", name := "length", desc := "([B)I" } : Jvm.MethodName)) ∈ WA := wa_of (mt_2 (i := 125) rfl) rfl
theorem q2_126 : (Jvm.Cond.static ({ cls := "java/lang/StringUTF16", name := "length", desc := "([B)I" } : Jvm.MethodName)) ∈ WA := wa_of (mt_2 (i := 126) rfl) rfl
theorem q2_127 : (Jvm.Cond.code ({ cls := "java/lang/StringUTF16", name := "length", desc := "([B)I" } : Jvm.MethodName) prog_19_method_6_code (1 : Nat) (Option.some Jvm.ClassFile.FieldType.int)) ∈ WA := wa_of (mt_2 (i := 127) rfl) rfl
theorem q2_128 : (Jvm.Cond.methodLink "java/lang/StringUTF16" (414 : Nat) ({ cls := "java/lang/String", name := "checkIndex", desc := "(II)V" } : Jvm.MethodName)) ∈ WA := wa_of (mt_2 (i := 128) rfl) rfl
theorem q2_129 : (Jvm.Cond.methodLink "java/lang/StringUTF16" (71 : Nat) ({ cls := "java/lang/StringUTF16", name := "getChar", desc := "([BI)C" } : Jvm.MethodName)) ∈ WA := wa_of (mt_2 (i := 129) rfl) rfl
theorem q2_130 : (Jvm.Cond.static ({ cls := "java/lang/StringUTF16", name := "getChar", desc := "([BI)C" } : Jvm.MethodName)) ∈ WA := wa_of (mt_2 (i := 130) rfl) rfl
theorem q2_131 : (Jvm.Cond.code ({ cls := "java/lang/StringUTF16", name := "getChar", desc := "([BI)C" } : Jvm.MethodName) prog_19_method_5_code (2 : Nat) (Option.some Jvm.ClassFile.FieldType.char)) ∈ WA := wa_of (mt_2 (i := 131) rfl) rfl
theorem q2_132 : (Jvm.Cond.fieldLink "java/lang/StringUTF16" (44 : Nat) "java/lang/StringUTF16" "$assertionsDisabled" "Z") ∈ WA := wa_of (mt_2 (i := 132) rfl) rfl
theorem q2_133 : (Jvm.Cond.laysStatic "java/lang/StringUTF16" "$assertionsDisabled" "Z") ∈ lw_tbl := mt_2 (i := 133) rfl
theorem q2_134 : (Jvm.Cond.fieldLink "java/lang/StringUTF16" (59 : Nat) "java/lang/StringUTF16" "HI_BYTE_SHIFT" "I") ∈ WA := wa_of (mt_2 (i := 134) rfl) rfl
theorem q2_135 : (Jvm.Cond.laysStatic "java/lang/StringUTF16" "HI_BYTE_SHIFT" "I") ∈ lw_tbl := mt_2 (i := 135) rfl
theorem q2_136 : (Jvm.Cond.fieldLink "java/lang/StringUTF16" (63 : Nat) "java/lang/StringUTF16" "LO_BYTE_SHIFT" "I") ∈ WA := wa_of (mt_2 (i := 136) rfl) rfl
theorem q2_137 : (Jvm.Cond.laysStatic "java/lang/StringUTF16" "LO_BYTE_SHIFT" "I") ∈ lw_tbl := mt_2 (i := 137) rfl
theorem q2_138 : (Jvm.Cond.methodLink "LeanTower$Reader" (51 : Nat) ({ cls := "LeanTower$Reader", name := "refuse", desc := "(I)Z" } : Jvm.MethodName)) ∈ WA := wa_of (mt_2 (i := 138) rfl) rfl
theorem q2_139 : (Jvm.Cond.privateMethod ({ cls := "LeanTower$Reader", name := "refuse", desc := "(I)Z" } : Jvm.MethodName)) ∈ lw_tbl := mt_2 (i := 139) rfl
theorem q2_140 : (Jvm.Cond.instanceMethod ({ cls := "LeanTower$Reader", name := "refuse", desc := "(I)Z" } : Jvm.MethodName)) ∈ WA := wa_of (mt_2 (i := 140) rfl) rfl
theorem q2_141 : (Jvm.Cond.code ({ cls := "LeanTower$Reader", name := "refuse", desc := "(I)Z" } : Jvm.MethodName) prog_8_method_11_code (2 : Nat) (Option.some Jvm.ClassFile.FieldType.boolean)) ∈ WA := wa_of (mt_2 (i := 141) rfl) rfl
theorem q2_142 : (Jvm.Cond.methodLink "LeanTower$Reader" (57 : Nat) ({ cls := "LeanTower$Reader", name := "number", desc := "(II)I" } : Jvm.MethodName)) ∈ WA := wa_of (mt_2 (i := 142) rfl) rfl
theorem q2_143 : (Jvm.Cond.privateMethod ({ cls := "LeanTower$Reader", name := "number", desc := "(II)I" } : Jvm.MethodName)) ∈ lw_tbl := mt_2 (i := 143) rfl
theorem q2_144 : (Jvm.Cond.instanceMethod ({ cls := "LeanTower$Reader", name := "number", desc := "(II)I" } : Jvm.MethodName)) ∈ WA := wa_of (mt_2 (i := 144) rfl) rfl
theorem q2_145 : (Jvm.Cond.code ({ cls := "LeanTower$Reader", name := "number", desc := "(II)I" } : Jvm.MethodName) prog_8_method_9_code (4 : Nat) (Option.some Jvm.ClassFile.FieldType.int)) ∈ WA := wa_of (mt_2 (i := 145) rfl) rfl
theorem q2_146 : (Jvm.Cond.methodLink "LeanTower$Reader" (66 : Nat) ({ cls := "LeanTower$Reader", name := "passSemicolon", desc := "()Z" } : Jvm.MethodName)) ∈ WA := wa_of (mt_2 (i := 146) rfl) rfl
theorem q2_147 : (Jvm.Cond.privateMethod ({ cls := "LeanTower$Reader", name := "passSemicolon", desc := "()Z" } : Jvm.MethodName)) ∈ lw_tbl := mt_2 (i := 147) rfl
theorem q2_148 : (Jvm.Cond.instanceMethod ({ cls := "LeanTower$Reader", name := "passSemicolon", desc := "()Z" } : Jvm.MethodName)) ∈ WA := wa_of (mt_2 (i := 148) rfl) rfl
theorem q2_149 : (Jvm.Cond.code ({ cls := "LeanTower$Reader", name := "passSemicolon", desc := "()Z" } : Jvm.MethodName) prog_8_method_10_code (1 : Nat) (Option.some Jvm.ClassFile.FieldType.boolean)) ∈ WA := wa_of (mt_2 (i := 149) rfl) rfl
theorem q2_150 : (Jvm.Cond.stringRef "LeanTower$Reader" (34 : Nat) "person") ∈ lw_tbl := mt_2 (i := 150) rfl
theorem q2_151 : (Jvm.Cond.methodLink "LeanTower$Reader" (40 : Nat) ({ cls := "LeanTower$Reader", name := "readPerson", desc := "(LLeanTower$Tower;)Z" } : Jvm.MethodName)) ∈ WA := wa_of (mt_2 (i := 151) rfl) rfl
theorem q2_152 : (Jvm.Cond.privateMethod ({ cls := "LeanTower$Reader", name := "readPerson", desc := "(LLeanTower$Tower;)Z" } : Jvm.MethodName)) ∈ lw_tbl := mt_2 (i := 152) rfl
theorem q2_153 : (Jvm.Cond.instanceMethod ({ cls := "LeanTower$Reader", name := "readPerson", desc := "(LLeanTower$Tower;)Z" } : Jvm.MethodName)) ∈ WA := wa_of (mt_2 (i := 153) rfl) rfl
theorem q2_154 : (Jvm.Cond.code ({ cls := "LeanTower$Reader", name := "readPerson", desc := "(LLeanTower$Tower;)Z" } : Jvm.MethodName) prog_8_method_5_code (7 : Nat) (Option.some Jvm.ClassFile.FieldType.boolean)) ∈ WA := wa_of (mt_2 (i := 154) rfl) rfl
theorem q2_155 : (Jvm.Cond.methodLink "LeanTower$Reader" (73 : Nat) ({ cls := "LeanTower$Reader", name := "kindAtHand", desc := "()I" } : Jvm.MethodName)) ∈ WA := wa_of (mt_2 (i := 155) rfl) rfl
theorem q2_156 : (Jvm.Cond.privateMethod ({ cls := "LeanTower$Reader", name := "kindAtHand", desc := "()I" } : Jvm.MethodName)) ∈ lw_tbl := mt_2 (i := 156) rfl
theorem q2_157 : (Jvm.Cond.instanceMethod ({ cls := "LeanTower$Reader", name := "kindAtHand", desc := "()I" } : Jvm.MethodName)) ∈ WA := wa_of (mt_2 (i := 157) rfl) rfl
theorem q2_158 : (Jvm.Cond.code ({ cls := "LeanTower$Reader", name := "kindAtHand", desc := "()I" } : Jvm.MethodName) prog_8_method_7_code (1 : Nat) (Option.some Jvm.ClassFile.FieldType.int)) ∈ WA := wa_of (mt_2 (i := 158) rfl) rfl
theorem q2_159 : (Jvm.Cond.stringRef "LeanTower$Reader" (95 : Nat) "pilgrim") ∈ lw_tbl := mt_2 (i := 159) rfl
theorem q2_160 : (Jvm.Cond.stringRef "LeanTower$Reader" (97 : Nat) "widow") ∈ lw_tbl := mt_2 (i := 160) rfl
theorem q2_161 : (Jvm.Cond.stringRef "LeanTower$Reader" (99 : Nat) "boy") ∈ lw_tbl := mt_2 (i := 161) rfl
theorem q2_162 : (Jvm.Cond.stringRef "LeanTower$Reader" (101 : Nat) "monk") ∈ lw_tbl := mt_2 (i := 162) rfl
theorem q2_163 : (Jvm.Cond.stringRef "LeanTower$Reader" (103 : Nat) "bishop") ∈ lw_tbl := mt_2 (i := 163) rfl
theorem q2_164 : (Jvm.Cond.methodLink "LeanTower$Reader" (80 : Nat) ({ cls := "LeanTower$Reader", name := "newPerson", desc := "(IIII)LLeanTower$Person;" } : Jvm.MethodName)) ∈ WA := wa_of (mt_2 (i := 164) rfl) rfl
theorem q2_165 : (Jvm.Cond.static ({ cls := "LeanTower$Reader", name := "newPerson", desc := "(IIII)LLeanTower$Person;" } : Jvm.MethodName)) ∈ WA := wa_of (mt_2 (i := 165) rfl) rfl
theorem q2_166 : (Jvm.Cond.code ({ cls := "LeanTower$Reader", name := "newPerson", desc := "(IIII)LLeanTower$Person;" } : Jvm.MethodName) prog_8_method_8_code (4 : Nat) (Option.some (Jvm.ClassFile.FieldType.object "LeanTower$Person"))) ∈ WA := wa_of (mt_2 (i := 166) rfl) rfl
theorem q2_167 : (Jvm.Cond.classLink "LeanTower$Reader" (105 : Nat) "LeanTower$Widow") ∈ WA := wa_of (mt_2 (i := 167) rfl) rfl
theorem q2_168 : (Jvm.Cond.instantiable "LeanTower$Widow" (3 : Nat)) ∈ WA := wa_of (mt_2 (i := 168) rfl) rfl
theorem q2_169 : (Jvm.Cond.methodLink "LeanTower$Reader" (107 : Nat) ({ cls := "LeanTower$Widow", name := "<init>", desc := "(III)V" } : Jvm.MethodName)) ∈ WA := wa_of (mt_2 (i := 169) rfl) rfl
theorem q2_170 : (Jvm.Cond.instanceMethod ({ cls := "LeanTower$Widow", name := "<init>", desc := "(III)V" } : Jvm.MethodName)) ∈ WA := wa_of (mt_2 (i := 170) rfl) rfl
theorem q2_171 : (Jvm.Cond.code ({ cls := "LeanTower$Widow", name := "<init>", desc := "(III)V" } : Jvm.MethodName) prog_12_method_1_code (4 : Nat) (Option.none : Option Jvm.ClassFile.FieldType)) ∈ WA := wa_of (mt_2 (i := 171) rfl) rfl
theorem q2_172 : (Jvm.Cond.methodLink "LeanTower$Widow" (3 : Nat) ({ cls := "LeanTower$Pilgrim", name := "<init>", desc := "(III)V" } : Jvm.MethodName)) ∈ WA := wa_of (mt_2 (i := 172) rfl) rfl
theorem q2_173 : (Jvm.Cond.instanceMethod ({ cls := "LeanTower$Pilgrim", name := "<init>", desc := "(III)V" } : Jvm.MethodName)) ∈ WA := wa_of (mt_2 (i := 173) rfl) rfl
theorem q2_174 : (Jvm.Cond.code ({ cls := "LeanTower$Pilgrim", name := "<init>", desc := "(III)V" } : Jvm.MethodName) prog_7_method_1_code (4 : Nat) (Option.none : Option Jvm.ClassFile.FieldType)) ∈ WA := wa_of (mt_2 (i := 174) rfl) rfl
theorem q2_175 : (Jvm.Cond.methodLink "LeanTower$Pilgrim" (3 : Nat) ({ cls := "LeanTower$Person", name := "<init>", desc := "(III)V" } : Jvm.MethodName)) ∈ WA := wa_of (mt_2 (i := 175) rfl) rfl
theorem q2_176 : (Jvm.Cond.instanceMethod ({ cls := "LeanTower$Person", name := "<init>", desc := "(III)V" } : Jvm.MethodName)) ∈ WA := wa_of (mt_2 (i := 176) rfl) rfl
theorem q2_177 : (Jvm.Cond.code ({ cls := "LeanTower$Person", name := "<init>", desc := "(III)V" } : Jvm.MethodName) prog_6_method_1_code (4 : Nat) (Option.none : Option Jvm.ClassFile.FieldType)) ∈ WA := wa_of (mt_2 (i := 177) rfl) rfl
theorem q2_178 : (Jvm.Cond.methodLink "LeanTower$Person" (1 : Nat) ({ cls := "java/lang/Object", name := "<init>", desc := "()V" } : Jvm.MethodName)) ∈ WA := wa_of (mt_2 (i := 178) rfl) rfl
theorem q2_179 : (Jvm.Cond.fieldLink "LeanTower$Person" (7 : Nat) "LeanTower$Person" "number" "I") ∈ WA := wa_of (mt_2 (i := 179) rfl) rfl
theorem q2_180 : (Jvm.Cond.fieldLink "LeanTower$Person" (13 : Nat) "LeanTower$Person" "burden" "I") ∈ WA := wa_of (mt_2 (i := 180) rfl) rfl
theorem q2_181 : (Jvm.Cond.fieldLink "LeanTower" (191 : Nat) "LeanTower$Person" "burden" "I") ∈ WA := wa_of (mt_2 (i := 181) rfl) rfl
theorem q2_182 : (Jvm.Cond.fieldLink "LeanTower$Tower" (65 : Nat) "LeanTower$Person" "burden" "I") ∈ WA := wa_of (mt_2 (i := 182) rfl) rfl
theorem q2_183 : (Jvm.Cond.fieldLink "LeanTower$Person" (16 : Nat) "LeanTower$Person" "pace" "I") ∈ WA := wa_of (mt_2 (i := 183) rfl) rfl
theorem q2_184 : (Jvm.Cond.fieldLink "LeanTower$Pilgrim" (25 : Nat) "LeanTower$Pilgrim" "pace" "I") ∈ WA := wa_of (mt_2 (i := 184) rfl) rfl
theorem q2_185 : (Jvm.Cond.sameField "LeanTower$Pilgrim" "LeanTower$Person" "pace" "I") ∈ WA := wa_of (mt_2 (i := 185) rfl) rfl
theorem q2_186 : (Jvm.Cond.fieldLink "LeanTower" (196 : Nat) "LeanTower$Person" "pace" "I") ∈ WA := wa_of (mt_2 (i := 186) rfl) rfl
theorem q2_187 : (Jvm.Cond.fieldLink "LeanTower$Tower" (87 : Nat) "LeanTower$Person" "pace" "I") ∈ WA := wa_of (mt_2 (i := 187) rfl) rfl
theorem q2_188 : (Jvm.Cond.laysFinal "LeanTower$Widow" "LeanTower$Person" "number" "I") ∈ WA := wa_of (mt_2 (i := 188) rfl) rfl
theorem q2_189 : (Jvm.Cond.soleField "LeanTower$Person" "number") ∈ WA := wa_of (mt_2 (i := 189) rfl) rfl
theorem q2_190 : (Jvm.Cond.laysFinal "LeanTower$Widow" "LeanTower$Person" "burden" "I") ∈ WA := wa_of (mt_2 (i := 190) rfl) rfl
theorem q2_191 : (Jvm.Cond.soleField "LeanTower$Person" "burden") ∈ WA := wa_of (mt_2 (i := 191) rfl) rfl
theorem q2_192 : (Jvm.Cond.laysFinal "LeanTower$Widow" "LeanTower$Person" "pace" "I") ∈ WA := wa_of (mt_2 (i := 192) rfl) rfl
theorem q2_193 : (Jvm.Cond.soleField "LeanTower$Person" "pace") ∈ WA := wa_of (mt_2 (i := 193) rfl) rfl
theorem q2_194 : (Jvm.Cond.superclass "LeanTower$Widow" "LeanTower$Pilgrim") ∈ WA := wa_of (mt_2 (i := 194) rfl) rfl
theorem q2_195 : (Jvm.Cond.classLink "LeanTower$Reader" (110 : Nat) "LeanTower$Boy") ∈ WA := wa_of (mt_2 (i := 195) rfl) rfl
theorem q2_196 : (Jvm.Cond.instantiable "LeanTower$Boy" (3 : Nat)) ∈ WA := wa_of (mt_2 (i := 196) rfl) rfl
theorem q2_197 : (Jvm.Cond.methodLink "LeanTower$Reader" (112 : Nat) ({ cls := "LeanTower$Boy", name := "<init>", desc := "(III)V" } : Jvm.MethodName)) ∈ WA := wa_of (mt_2 (i := 197) rfl) rfl
theorem q2_198 : (Jvm.Cond.instanceMethod ({ cls := "LeanTower$Boy", name := "<init>", desc := "(III)V" } : Jvm.MethodName)) ∈ WA := wa_of (mt_2 (i := 198) rfl) rfl
theorem q2_199 : (Jvm.Cond.code ({ cls := "LeanTower$Boy", name := "<init>", desc := "(III)V" } : Jvm.MethodName) prog_4_method_1_code (4 : Nat) (Option.none : Option Jvm.ClassFile.FieldType)) ∈ WA := wa_of (mt_2 (i := 199) rfl) rfl
theorem q2_200 : (Jvm.Cond.methodLink "LeanTower$Boy" (3 : Nat) ({ cls := "LeanTower$Pilgrim", name := "<init>", desc := "(III)V" } : Jvm.MethodName)) ∈ WA := wa_of (mt_2 (i := 200) rfl) rfl
theorem q2_201 : (Jvm.Cond.laysFinal "LeanTower$Boy" "LeanTower$Person" "number" "I") ∈ WA := wa_of (mt_2 (i := 201) rfl) rfl
theorem q2_202 : (Jvm.Cond.laysFinal "LeanTower$Boy" "LeanTower$Person" "burden" "I") ∈ WA := wa_of (mt_2 (i := 202) rfl) rfl
theorem q2_203 : (Jvm.Cond.laysFinal "LeanTower$Boy" "LeanTower$Person" "pace" "I") ∈ WA := wa_of (mt_2 (i := 203) rfl) rfl
theorem q2_204 : (Jvm.Cond.superclass "LeanTower$Boy" "LeanTower$Pilgrim") ∈ WA := wa_of (mt_2 (i := 204) rfl) rfl
theorem q2_205 : (Jvm.Cond.classLink "LeanTower$Reader" (113 : Nat) "LeanTower$Monk") ∈ WA := wa_of (mt_2 (i := 205) rfl) rfl
theorem q2_206 : (Jvm.Cond.instantiable "LeanTower$Monk" (3 : Nat)) ∈ WA := wa_of (mt_2 (i := 206) rfl) rfl
theorem q2_207 : (Jvm.Cond.methodLink "LeanTower$Reader" (115 : Nat) ({ cls := "LeanTower$Monk", name := "<init>", desc := "(III)V" } : Jvm.MethodName)) ∈ WA := wa_of (mt_2 (i := 207) rfl) rfl
theorem q2_208 : (Jvm.Cond.instanceMethod ({ cls := "LeanTower$Monk", name := "<init>", desc := "(III)V" } : Jvm.MethodName)) ∈ WA := wa_of (mt_2 (i := 208) rfl) rfl
theorem q2_209 : (Jvm.Cond.code ({ cls := "LeanTower$Monk", name := "<init>", desc := "(III)V" } : Jvm.MethodName) prog_5_method_1_code (4 : Nat) (Option.none : Option Jvm.ClassFile.FieldType)) ∈ WA := wa_of (mt_2 (i := 209) rfl) rfl
theorem q2_210 : (Jvm.Cond.methodLink "LeanTower$Monk" (3 : Nat) ({ cls := "LeanTower$Person", name := "<init>", desc := "(III)V" } : Jvm.MethodName)) ∈ WA := wa_of (mt_2 (i := 210) rfl) rfl
theorem q2_211 : (Jvm.Cond.laysFinal "LeanTower$Monk" "LeanTower$Person" "number" "I") ∈ WA := wa_of (mt_2 (i := 211) rfl) rfl
theorem q2_212 : (Jvm.Cond.laysFinal "LeanTower$Monk" "LeanTower$Person" "burden" "I") ∈ WA := wa_of (mt_2 (i := 212) rfl) rfl
theorem q2_213 : (Jvm.Cond.laysFinal "LeanTower$Monk" "LeanTower$Person" "pace" "I") ∈ WA := wa_of (mt_2 (i := 213) rfl) rfl
theorem q2_214 : (Jvm.Cond.superclass "LeanTower$Monk" "LeanTower$Person") ∈ WA := wa_of (mt_2 (i := 214) rfl) rfl
theorem q2_215 : (Jvm.Cond.classLink "LeanTower$Reader" (116 : Nat) "LeanTower$Bishop") ∈ WA := wa_of (mt_2 (i := 215) rfl) rfl
theorem q2_216 : (Jvm.Cond.instantiable "LeanTower$Bishop" (3 : Nat)) ∈ WA := wa_of (mt_2 (i := 216) rfl) rfl
theorem q2_217 : (Jvm.Cond.methodLink "LeanTower$Reader" (118 : Nat) ({ cls := "LeanTower$Bishop", name := "<init>", desc := "(III)V" } : Jvm.MethodName)) ∈ WA := wa_of (mt_2 (i := 217) rfl) rfl
theorem q2_218 : (Jvm.Cond.instanceMethod ({ cls := "LeanTower$Bishop", name := "<init>", desc := "(III)V" } : Jvm.MethodName)) ∈ WA := wa_of (mt_2 (i := 218) rfl) rfl
theorem q2_219 : (Jvm.Cond.code ({ cls := "LeanTower$Bishop", name := "<init>", desc := "(III)V" } : Jvm.MethodName) prog_3_method_1_code (4 : Nat) (Option.none : Option Jvm.ClassFile.FieldType)) ∈ WA := wa_of (mt_2 (i := 219) rfl) rfl
theorem q2_220 : (Jvm.Cond.methodLink "LeanTower$Bishop" (3 : Nat) ({ cls := "LeanTower$Monk", name := "<init>", desc := "(III)V" } : Jvm.MethodName)) ∈ WA := wa_of (mt_2 (i := 220) rfl) rfl
theorem q2_221 : (Jvm.Cond.laysFinal "LeanTower$Bishop" "LeanTower$Person" "number" "I") ∈ WA := wa_of (mt_2 (i := 221) rfl) rfl
theorem q2_222 : (Jvm.Cond.laysFinal "LeanTower$Bishop" "LeanTower$Person" "burden" "I") ∈ WA := wa_of (mt_2 (i := 222) rfl) rfl
theorem q2_223 : (Jvm.Cond.laysFinal "LeanTower$Bishop" "LeanTower$Person" "pace" "I") ∈ WA := wa_of (mt_2 (i := 223) rfl) rfl
theorem q2_224 : (Jvm.Cond.superclass "LeanTower$Bishop" "LeanTower$Monk") ∈ WA := wa_of (mt_2 (i := 224) rfl) rfl
theorem q2_225 : (Jvm.Cond.classLink "LeanTower$Reader" (119 : Nat) "LeanTower$Pilgrim") ∈ WA := wa_of (mt_2 (i := 225) rfl) rfl
theorem q2_226 : (Jvm.Cond.instantiable "LeanTower$Pilgrim" (3 : Nat)) ∈ WA := wa_of (mt_2 (i := 226) rfl) rfl
theorem q2_227 : (Jvm.Cond.methodLink "LeanTower$Reader" (121 : Nat) ({ cls := "LeanTower$Pilgrim", name := "<init>", desc := "(III)V" } : Jvm.MethodName)) ∈ WA := wa_of (mt_2 (i := 227) rfl) rfl
theorem q2_228 : (Jvm.Cond.laysFinal "LeanTower$Pilgrim" "LeanTower$Person" "number" "I") ∈ WA := wa_of (mt_2 (i := 228) rfl) rfl
theorem q2_229 : (Jvm.Cond.laysFinal "LeanTower$Pilgrim" "LeanTower$Person" "burden" "I") ∈ WA := wa_of (mt_2 (i := 229) rfl) rfl
theorem q2_230 : (Jvm.Cond.laysFinal "LeanTower$Pilgrim" "LeanTower$Person" "pace" "I") ∈ WA := wa_of (mt_2 (i := 230) rfl) rfl
theorem q2_231 : (Jvm.Cond.superclass "LeanTower$Pilgrim" "LeanTower$Person") ∈ WA := wa_of (mt_2 (i := 231) rfl) rfl
theorem q2_232 : (Jvm.Cond.methodLink "LeanTower$Reader" (84 : Nat) ({ cls := "LeanTower$Tower", name := "addPerson", desc := "(LLeanTower$Person;I)V" } : Jvm.MethodName)) ∈ WA := wa_of (mt_2 (i := 232) rfl) rfl
theorem q2_233 : (Jvm.Cond.instanceMethod ({ cls := "LeanTower$Tower", name := "addPerson", desc := "(LLeanTower$Person;I)V" } : Jvm.MethodName)) ∈ WA := wa_of (mt_2 (i := 233) rfl) rfl
theorem q2_234 : (Jvm.Cond.selects "LeanTower$Tower" ({ cls := "LeanTower$Tower", name := "addPerson", desc := "(LLeanTower$Person;I)V" } : Jvm.MethodName) ({ cls := "LeanTower$Tower", name := "addPerson", desc := "(LLeanTower$Person;I)V" } : Jvm.MethodName)) ∈ WA := wa_of (mt_2 (i := 234) rfl) rfl
theorem q2_235 : (Jvm.Cond.code ({ cls := "LeanTower$Tower", name := "addPerson", desc := "(LLeanTower$Person;I)V" } : Jvm.MethodName) prog_10_method_5_code (3 : Nat) (Option.none : Option Jvm.ClassFile.FieldType)) ∈ WA := wa_of (mt_2 (i := 235) rfl) rfl
theorem q2_236 : (Jvm.Cond.stringRef "LeanTower$Reader" (43 : Nat) "stone") ∈ lw_tbl := mt_2 (i := 236) rfl
theorem q2_237 : (Jvm.Cond.methodLink "LeanTower$Reader" (45 : Nat) ({ cls := "LeanTower$Reader", name := "readStone", desc := "(LLeanTower$Tower;)Z" } : Jvm.MethodName)) ∈ WA := wa_of (mt_2 (i := 237) rfl) rfl
theorem q2_238 : (Jvm.Cond.privateMethod ({ cls := "LeanTower$Reader", name := "readStone", desc := "(LLeanTower$Tower;)Z" } : Jvm.MethodName)) ∈ lw_tbl := mt_2 (i := 238) rfl
theorem q2_239 : (Jvm.Cond.instanceMethod ({ cls := "LeanTower$Reader", name := "readStone", desc := "(LLeanTower$Tower;)Z" } : Jvm.MethodName)) ∈ WA := wa_of (mt_2 (i := 239) rfl) rfl
theorem q3_0 : (Jvm.Cond.code ({ cls := "LeanTower$Reader", name := "readStone", desc := "(LLeanTower$Tower;)Z" } : Jvm.MethodName) prog_8_method_6_code (4 : Nat) (Option.some Jvm.ClassFile.FieldType.boolean)) ∈ WA := wa_of (mt_3 (i := 0) rfl) rfl
theorem q3_1 : (Jvm.Cond.methodLink "LeanTower$Reader" (91 : Nat) ({ cls := "LeanTower$Tower", name := "addStone", desc := "(II)V" } : Jvm.MethodName)) ∈ WA := wa_of (mt_3 (i := 1) rfl) rfl
theorem q3_2 : (Jvm.Cond.instanceMethod ({ cls := "LeanTower$Tower", name := "addStone", desc := "(II)V" } : Jvm.MethodName)) ∈ WA := wa_of (mt_3 (i := 2) rfl) rfl
theorem q3_3 : (Jvm.Cond.selects "LeanTower$Tower" ({ cls := "LeanTower$Tower", name := "addStone", desc := "(II)V" } : Jvm.MethodName) ({ cls := "LeanTower$Tower", name := "addStone", desc := "(II)V" } : Jvm.MethodName)) ∈ WA := wa_of (mt_3 (i := 3) rfl) rfl
theorem q3_4 : (Jvm.Cond.code ({ cls := "LeanTower$Tower", name := "addStone", desc := "(II)V" } : Jvm.MethodName) prog_10_method_6_code (3 : Nat) (Option.none : Option Jvm.ClassFile.FieldType)) ∈ WA := wa_of (mt_3 (i := 4) rfl) rfl
theorem q3_5 : (Jvm.Cond.constant "LeanTower" (120 : Nat) (-1000100 : Int32)) ∈ WA := wa_of (mt_3 (i := 5) rfl) rfl
theorem q3_6 : (Jvm.Cond.methodLink "LeanTower" (124 : Nat) ({ cls := "LeanTower$Tower", name := "takeFrom", desc := "(LLeanTower$Tower;)V" } : Jvm.MethodName)) ∈ WA := wa_of (mt_3 (i := 6) rfl) rfl
theorem q3_7 : (Jvm.Cond.instanceMethod ({ cls := "LeanTower$Tower", name := "takeFrom", desc := "(LLeanTower$Tower;)V" } : Jvm.MethodName)) ∈ WA := wa_of (mt_3 (i := 7) rfl) rfl
theorem q3_8 : (Jvm.Cond.selects "LeanTower$Tower" ({ cls := "LeanTower$Tower", name := "takeFrom", desc := "(LLeanTower$Tower;)V" } : Jvm.MethodName) ({ cls := "LeanTower$Tower", name := "takeFrom", desc := "(LLeanTower$Tower;)V" } : Jvm.MethodName)) ∈ WA := wa_of (mt_3 (i := 8) rfl) rfl
theorem q3_9 : (Jvm.Cond.code ({ cls := "LeanTower$Tower", name := "takeFrom", desc := "(LLeanTower$Tower;)V" } : Jvm.MethodName) prog_10_method_4_code (3 : Nat) (Option.none : Option Jvm.ClassFile.FieldType)) ∈ WA := wa_of (mt_3 (i := 9) rfl) rfl
theorem q3_10 : (Jvm.Cond.methodLink "LeanTowerLaw" (44 : Nat) ({ cls := "LeanTower", name := "fault", desc := "()I" } : Jvm.MethodName)) ∈ WA := wa_of (mt_3 (i := 10) rfl) rfl
theorem q3_11 : (Jvm.Cond.instanceMethod ({ cls := "LeanTower", name := "fault", desc := "()I" } : Jvm.MethodName)) ∈ WA := wa_of (mt_3 (i := 11) rfl) rfl
theorem q3_12 : (Jvm.Cond.selects "LeanTower" ({ cls := "LeanTower", name := "fault", desc := "()I" } : Jvm.MethodName) ({ cls := "LeanTower", name := "fault", desc := "()I" } : Jvm.MethodName)) ∈ WA := wa_of (mt_3 (i := 12) rfl) rfl
theorem q3_13 : (Jvm.Cond.code ({ cls := "LeanTower", name := "fault", desc := "()I" } : Jvm.MethodName) prog_1_method_8_code (1 : Nat) (Option.some Jvm.ClassFile.FieldType.int)) ∈ WA := wa_of (mt_3 (i := 13) rfl) rfl
theorem q3_14 : (Jvm.Cond.methodLink "LeanTowerLaw" (48 : Nat) ({ cls := "LeanTower", name := "go", desc := "(II)I" } : Jvm.MethodName)) ∈ WA := wa_of (mt_3 (i := 14) rfl) rfl
theorem q3_15 : (Jvm.Cond.instanceMethod ({ cls := "LeanTower", name := "go", desc := "(II)I" } : Jvm.MethodName)) ∈ WA := wa_of (mt_3 (i := 15) rfl) rfl
theorem q3_16 : (Jvm.Cond.selects "LeanTower" ({ cls := "LeanTower", name := "go", desc := "(II)I" } : Jvm.MethodName) ({ cls := "LeanTower", name := "go", desc := "(II)I" } : Jvm.MethodName)) ∈ WA := wa_of (mt_3 (i := 16) rfl) rfl
theorem q3_17 : (Jvm.Cond.code ({ cls := "LeanTower", name := "go", desc := "(II)I" } : Jvm.MethodName) prog_1_method_9_code (4 : Nat) (Option.some Jvm.ClassFile.FieldType.int)) ∈ WA := wa_of (mt_3 (i := 17) rfl) rfl
theorem q3_18 : (Jvm.Cond.methodLink "LeanTower" (137 : Nat) ({ cls := "LeanTower$Tower", name := "hasPerson", desc := "(I)Z" } : Jvm.MethodName)) ∈ WA := wa_of (mt_3 (i := 18) rfl) rfl
theorem q3_19 : (Jvm.Cond.instanceMethod ({ cls := "LeanTower$Tower", name := "hasPerson", desc := "(I)Z" } : Jvm.MethodName)) ∈ WA := wa_of (mt_3 (i := 19) rfl) rfl
theorem q3_20 : (Jvm.Cond.selects "LeanTower$Tower" ({ cls := "LeanTower$Tower", name := "hasPerson", desc := "(I)Z" } : Jvm.MethodName) ({ cls := "LeanTower$Tower", name := "hasPerson", desc := "(I)Z" } : Jvm.MethodName)) ∈ WA := wa_of (mt_3 (i := 20) rfl) rfl
theorem q3_21 : (Jvm.Cond.code ({ cls := "LeanTower$Tower", name := "hasPerson", desc := "(I)Z" } : Jvm.MethodName) prog_10_method_7_code (2 : Nat) (Option.some Jvm.ClassFile.FieldType.boolean)) ∈ WA := wa_of (mt_3 (i := 21) rfl) rfl
theorem q3_22 : (Jvm.Cond.methodLink "LeanTower" (144 : Nat) ({ cls := "LeanTower", name := "keepAct", desc := "()V" } : Jvm.MethodName)) ∈ WA := wa_of (mt_3 (i := 22) rfl) rfl
theorem q3_23 : (Jvm.Cond.privateMethod ({ cls := "LeanTower", name := "keepAct", desc := "()V" } : Jvm.MethodName)) ∈ lw_tbl := mt_3 (i := 23) rfl
theorem q3_24 : (Jvm.Cond.instanceMethod ({ cls := "LeanTower", name := "keepAct", desc := "()V" } : Jvm.MethodName)) ∈ WA := wa_of (mt_3 (i := 24) rfl) rfl
theorem q3_25 : (Jvm.Cond.code ({ cls := "LeanTower", name := "keepAct", desc := "()V" } : Jvm.MethodName) prog_1_method_36_code (1 : Nat) (Option.none : Option Jvm.ClassFile.FieldType)) ∈ WA := wa_of (mt_3 (i := 25) rfl) rfl
theorem q3_26 : (Jvm.Cond.methodLink "LeanTowerLaw" (53 : Nat) ({ cls := "LeanTower", name := "hang", desc := "(II)I" } : Jvm.MethodName)) ∈ WA := wa_of (mt_3 (i := 26) rfl) rfl
theorem q3_27 : (Jvm.Cond.instanceMethod ({ cls := "LeanTower", name := "hang", desc := "(II)I" } : Jvm.MethodName)) ∈ WA := wa_of (mt_3 (i := 27) rfl) rfl
theorem q3_28 : (Jvm.Cond.selects "LeanTower" ({ cls := "LeanTower", name := "hang", desc := "(II)I" } : Jvm.MethodName) ({ cls := "LeanTower", name := "hang", desc := "(II)I" } : Jvm.MethodName)) ∈ WA := wa_of (mt_3 (i := 28) rfl) rfl
theorem q3_29 : (Jvm.Cond.code ({ cls := "LeanTower", name := "hang", desc := "(II)I" } : Jvm.MethodName) prog_1_method_10_code (4 : Nat) (Option.some Jvm.ClassFile.FieldType.int)) ∈ WA := wa_of (mt_3 (i := 29) rfl) rfl
theorem q3_30 : (Jvm.Cond.methodLink "LeanTower" (147 : Nat) ({ cls := "LeanTower$Tower", name := "hasStone", desc := "(I)Z" } : Jvm.MethodName)) ∈ WA := wa_of (mt_3 (i := 30) rfl) rfl
theorem q3_31 : (Jvm.Cond.instanceMethod ({ cls := "LeanTower$Tower", name := "hasStone", desc := "(I)Z" } : Jvm.MethodName)) ∈ WA := wa_of (mt_3 (i := 31) rfl) rfl
theorem q3_32 : (Jvm.Cond.selects "LeanTower$Tower" ({ cls := "LeanTower$Tower", name := "hasStone", desc := "(I)Z" } : Jvm.MethodName) ({ cls := "LeanTower$Tower", name := "hasStone", desc := "(I)Z" } : Jvm.MethodName)) ∈ WA := wa_of (mt_3 (i := 32) rfl) rfl
theorem q3_33 : (Jvm.Cond.code ({ cls := "LeanTower$Tower", name := "hasStone", desc := "(I)Z" } : Jvm.MethodName) prog_10_method_8_code (2 : Nat) (Option.some Jvm.ClassFile.FieldType.boolean)) ∈ WA := wa_of (mt_3 (i := 33) rfl) rfl
theorem q3_34 : (Jvm.Cond.methodLink "LeanTowerLaw" (57 : Nat) ({ cls := "LeanTower", name := "halves", desc := "(I)I" } : Jvm.MethodName)) ∈ WA := wa_of (mt_3 (i := 34) rfl) rfl
theorem q3_35 : (Jvm.Cond.instanceMethod ({ cls := "LeanTower", name := "halves", desc := "(I)I" } : Jvm.MethodName)) ∈ WA := wa_of (mt_3 (i := 35) rfl) rfl
theorem q3_36 : (Jvm.Cond.selects "LeanTower" ({ cls := "LeanTower", name := "halves", desc := "(I)I" } : Jvm.MethodName) ({ cls := "LeanTower", name := "halves", desc := "(I)I" } : Jvm.MethodName)) ∈ WA := wa_of (mt_3 (i := 36) rfl) rfl
theorem q3_37 : (Jvm.Cond.code ({ cls := "LeanTower", name := "halves", desc := "(I)I" } : Jvm.MethodName) prog_1_method_11_code (4 : Nat) (Option.some Jvm.ClassFile.FieldType.int)) ∈ WA := wa_of (mt_3 (i := 37) rfl) rfl
theorem q3_38 : (Jvm.Cond.methodLink "LeanTower" (153 : Nat) ({ cls := "LeanTower$Tower", name := "stands", desc := "()Z" } : Jvm.MethodName)) ∈ WA := wa_of (mt_3 (i := 38) rfl) rfl
theorem q3_39 : (Jvm.Cond.instanceMethod ({ cls := "LeanTower$Tower", name := "stands", desc := "()Z" } : Jvm.MethodName)) ∈ WA := wa_of (mt_3 (i := 39) rfl) rfl
theorem q3_40 : (Jvm.Cond.selects "LeanTower$Tower" ({ cls := "LeanTower$Tower", name := "stands", desc := "()Z" } : Jvm.MethodName) ({ cls := "LeanTower$Tower", name := "stands", desc := "()Z" } : Jvm.MethodName)) ∈ WA := wa_of (mt_3 (i := 40) rfl) rfl
theorem q3_41 : (Jvm.Cond.code ({ cls := "LeanTower$Tower", name := "stands", desc := "()Z" } : Jvm.MethodName) prog_10_method_2_code (1 : Nat) (Option.some Jvm.ClassFile.FieldType.boolean)) ∈ WA := wa_of (mt_3 (i := 41) rfl) rfl
theorem q3_42 : (Jvm.Cond.constant "LeanTower" (156 : Nat) (-1000002 : Int32)) ∈ WA := wa_of (mt_3 (i := 42) rfl) rfl
theorem q3_43 : (Jvm.Cond.constant "LeanTower" (160 : Nat) (-1000000 : Int32)) ∈ WA := wa_of (mt_3 (i := 43) rfl) rfl
theorem q3_44 : (Jvm.Cond.methodLink "LeanTower" (161 : Nat) ({ cls := "LeanTower$Tower", name := "passHalf", desc := "()V" } : Jvm.MethodName)) ∈ WA := wa_of (mt_3 (i := 44) rfl) rfl
theorem q3_45 : (Jvm.Cond.instanceMethod ({ cls := "LeanTower$Tower", name := "passHalf", desc := "()V" } : Jvm.MethodName)) ∈ WA := wa_of (mt_3 (i := 45) rfl) rfl
theorem q3_46 : (Jvm.Cond.selects "LeanTower$Tower" ({ cls := "LeanTower$Tower", name := "passHalf", desc := "()V" } : Jvm.MethodName) ({ cls := "LeanTower$Tower", name := "passHalf", desc := "()V" } : Jvm.MethodName)) ∈ WA := wa_of (mt_3 (i := 46) rfl) rfl
theorem q3_47 : (Jvm.Cond.code ({ cls := "LeanTower$Tower", name := "passHalf", desc := "()V" } : Jvm.MethodName) prog_10_method_18_code (3 : Nat) (Option.none : Option Jvm.ClassFile.FieldType)) ∈ WA := wa_of (mt_3 (i := 47) rfl) rfl
theorem q3_48 : (Jvm.Cond.methodLink "LeanTower$Tower" (90 : Nat) ({ cls := "LeanTower$Person", name := "stride", desc := "()I" } : Jvm.MethodName)) ∈ WA := wa_of (mt_3 (i := 48) rfl) rfl
theorem q3_49 : (Jvm.Cond.instanceMethod ({ cls := "LeanTower$Person", name := "stride", desc := "()I" } : Jvm.MethodName)) ∈ WA := wa_of (mt_3 (i := 49) rfl) rfl
theorem q3_50 : (Jvm.Cond.sameMethod "LeanTower$Person" "LeanTower$Person" "stride" "()I") ∈ WA := wa_of (mt_3 (i := 50) rfl) rfl
theorem q3_51 : (Jvm.Cond.selects "LeanTower$Bishop" ({ cls := "LeanTower$Person", name := "stride", desc := "()I" } : Jvm.MethodName) ({ cls := "LeanTower$Bishop", name := "stride", desc := "()I" } : Jvm.MethodName)) ∈ WA := wa_of (mt_3 (i := 51) rfl) rfl
theorem q3_52 : (Jvm.Cond.instanceMethod ({ cls := "LeanTower$Bishop", name := "stride", desc := "()I" } : Jvm.MethodName)) ∈ WA := wa_of (mt_3 (i := 52) rfl) rfl
theorem q3_53 : (Jvm.Cond.code ({ cls := "LeanTower$Bishop", name := "stride", desc := "()I" } : Jvm.MethodName) prog_3_method_3_code (1 : Nat) (Option.some Jvm.ClassFile.FieldType.int)) ∈ WA := wa_of (mt_3 (i := 53) rfl) rfl
theorem q3_54 : (Jvm.Cond.selects "LeanTower$Boy" ({ cls := "LeanTower$Person", name := "stride", desc := "()I" } : Jvm.MethodName) ({ cls := "LeanTower$Person", name := "stride", desc := "()I" } : Jvm.MethodName)) ∈ WA := wa_of (mt_3 (i := 54) rfl) rfl
theorem q3_55 : (Jvm.Cond.selects "LeanTower$Monk" ({ cls := "LeanTower$Person", name := "stride", desc := "()I" } : Jvm.MethodName) ({ cls := "LeanTower$Monk", name := "stride", desc := "()I" } : Jvm.MethodName)) ∈ WA := wa_of (mt_3 (i := 55) rfl) rfl
theorem q3_56 : (Jvm.Cond.instanceMethod ({ cls := "LeanTower$Monk", name := "stride", desc := "()I" } : Jvm.MethodName)) ∈ WA := wa_of (mt_3 (i := 56) rfl) rfl
theorem q3_57 : (Jvm.Cond.code ({ cls := "LeanTower$Monk", name := "stride", desc := "()I" } : Jvm.MethodName) prog_5_method_3_code (1 : Nat) (Option.some Jvm.ClassFile.FieldType.int)) ∈ WA := wa_of (mt_3 (i := 57) rfl) rfl
theorem q3_58 : (Jvm.Cond.selects "LeanTower$Pilgrim" ({ cls := "LeanTower$Person", name := "stride", desc := "()I" } : Jvm.MethodName) ({ cls := "LeanTower$Person", name := "stride", desc := "()I" } : Jvm.MethodName)) ∈ WA := wa_of (mt_3 (i := 58) rfl) rfl
theorem q3_59 : (Jvm.Cond.selects "LeanTower$Widow" ({ cls := "LeanTower$Person", name := "stride", desc := "()I" } : Jvm.MethodName) ({ cls := "LeanTower$Person", name := "stride", desc := "()I" } : Jvm.MethodName)) ∈ WA := wa_of (mt_3 (i := 59) rfl) rfl
theorem q3_60 : (Jvm.Cond.code ({ cls := "LeanTower$Person", name := "stride", desc := "()I" } : Jvm.MethodName) prog_6_method_3_code (1 : Nat) (Option.some Jvm.ClassFile.FieldType.int)) ∈ WA := wa_of (mt_3 (i := 60) rfl) rfl
theorem q3_61 : (Jvm.Cond.methodLink "LeanTower$Tower" (93 : Nat) ({ cls := "LeanTower$Tower", name := "move", desc := "(II)V" } : Jvm.MethodName)) ∈ WA := wa_of (mt_3 (i := 61) rfl) rfl
theorem q3_62 : (Jvm.Cond.privateMethod ({ cls := "LeanTower$Tower", name := "move", desc := "(II)V" } : Jvm.MethodName)) ∈ lw_tbl := mt_3 (i := 62) rfl
theorem q3_63 : (Jvm.Cond.instanceMethod ({ cls := "LeanTower$Tower", name := "move", desc := "(II)V" } : Jvm.MethodName)) ∈ WA := wa_of (mt_3 (i := 63) rfl) rfl
theorem q3_64 : (Jvm.Cond.code ({ cls := "LeanTower$Tower", name := "move", desc := "(II)V" } : Jvm.MethodName) prog_10_method_19_code (5 : Nat) (Option.none : Option Jvm.ClassFile.FieldType)) ∈ WA := wa_of (mt_3 (i := 64) rfl) rfl
theorem q3_65 : (Jvm.Cond.methodLink "LeanTower$Tower" (76 : Nat) ({ cls := "java/lang/Math", name := "abs", desc := "(I)I" } : Jvm.MethodName)) ∈ WA := wa_of (mt_3 (i := 65) rfl) rfl
theorem q3_66 : (Jvm.Cond.static ({ cls := "java/lang/Math", name := "abs", desc := "(I)I" } : Jvm.MethodName)) ∈ WA := wa_of (mt_3 (i := 66) rfl) rfl
theorem q3_67 : (Jvm.Cond.code ({ cls := "java/lang/Math", name := "abs", desc := "(I)I" } : Jvm.MethodName) prog_16_method_59_code (1 : Nat) (Option.some Jvm.ClassFile.FieldType.int)) ∈ WA := wa_of (mt_3 (i := 67) rfl) rfl
theorem q3_68 : (Jvm.Cond.methodLink "LeanTower$Tower" (97 : Nat) ({ cls := "java/lang/Math", name := "min", desc := "(II)I" } : Jvm.MethodName)) ∈ WA := wa_of (mt_3 (i := 68) rfl) rfl
theorem q3_69 : (Jvm.Cond.static ({ cls := "java/lang/Math", name := "min", desc := "(II)I" } : Jvm.MethodName)) ∈ WA := wa_of (mt_3 (i := 69) rfl) rfl
theorem q3_70 : (Jvm.Cond.code ({ cls := "java/lang/Math", name := "min", desc := "(II)I" } : Jvm.MethodName) prog_16_method_69_code (2 : Nat) (Option.some Jvm.ClassFile.FieldType.int)) ∈ WA := wa_of (mt_3 (i := 70) rfl) rfl
theorem q3_71 : (Jvm.Cond.methodLink "LeanTower" (164 : Nat) ({ cls := "LeanTower$Tower", name := "isBeyond", desc := "()Z" } : Jvm.MethodName)) ∈ WA := wa_of (mt_3 (i := 71) rfl) rfl
theorem q3_72 : (Jvm.Cond.instanceMethod ({ cls := "LeanTower$Tower", name := "isBeyond", desc := "()Z" } : Jvm.MethodName)) ∈ WA := wa_of (mt_3 (i := 72) rfl) rfl
theorem q3_73 : (Jvm.Cond.selects "LeanTower$Tower" ({ cls := "LeanTower$Tower", name := "isBeyond", desc := "()Z" } : Jvm.MethodName) ({ cls := "LeanTower$Tower", name := "isBeyond", desc := "()Z" } : Jvm.MethodName)) ∈ WA := wa_of (mt_3 (i := 73) rfl) rfl
theorem q3_74 : (Jvm.Cond.code ({ cls := "LeanTower$Tower", name := "isBeyond", desc := "()Z" } : Jvm.MethodName) prog_10_method_17_code (1 : Nat) (Option.some Jvm.ClassFile.FieldType.boolean)) ∈ WA := wa_of (mt_3 (i := 74) rfl) rfl
theorem q3_75 : (Jvm.Cond.methodLink "LeanTower$Tower" (84 : Nat) ({ cls := "LeanTower$Tower", name := "tiltWith", desc := "(I)I" } : Jvm.MethodName)) ∈ WA := wa_of (mt_3 (i := 75) rfl) rfl
theorem q3_76 : (Jvm.Cond.instanceMethod ({ cls := "LeanTower$Tower", name := "tiltWith", desc := "(I)I" } : Jvm.MethodName)) ∈ WA := wa_of (mt_3 (i := 76) rfl) rfl
theorem q3_77 : (Jvm.Cond.selects "LeanTower$Tower" ({ cls := "LeanTower$Tower", name := "tiltWith", desc := "(I)I" } : Jvm.MethodName) ({ cls := "LeanTower$Tower", name := "tiltWith", desc := "(I)I" } : Jvm.MethodName)) ∈ WA := wa_of (mt_3 (i := 77) rfl) rfl
theorem q3_78 : (Jvm.Cond.code ({ cls := "LeanTower$Tower", name := "tiltWith", desc := "(I)I" } : Jvm.MethodName) prog_10_method_16_code (2 : Nat) (Option.some Jvm.ClassFile.FieldType.int)) ∈ WA := wa_of (mt_3 (i := 78) rfl) rfl
theorem q3_79 : (Jvm.Cond.methodLink "LeanTower$Tower" (72 : Nat) ({ cls := "LeanTower$Tower", name := "leanWith", desc := "(II)I" } : Jvm.MethodName)) ∈ WA := wa_of (mt_3 (i := 79) rfl) rfl
theorem q3_80 : (Jvm.Cond.instanceMethod ({ cls := "LeanTower$Tower", name := "leanWith", desc := "(II)I" } : Jvm.MethodName)) ∈ WA := wa_of (mt_3 (i := 80) rfl) rfl
theorem q3_81 : (Jvm.Cond.selects "LeanTower$Tower" ({ cls := "LeanTower$Tower", name := "leanWith", desc := "(II)I" } : Jvm.MethodName) ({ cls := "LeanTower$Tower", name := "leanWith", desc := "(II)I" } : Jvm.MethodName)) ∈ WA := wa_of (mt_3 (i := 81) rfl) rfl
theorem q3_82 : (Jvm.Cond.code ({ cls := "LeanTower$Tower", name := "leanWith", desc := "(II)I" } : Jvm.MethodName) prog_10_method_15_code (6 : Nat) (Option.some Jvm.ClassFile.FieldType.int)) ∈ WA := wa_of (mt_3 (i := 82) rfl) rfl
theorem q3_83 : (Jvm.Cond.methodLink "LeanTower$Tower" (61 : Nat) ({ cls := "LeanTower$Tower", name := "pull", desc := "(III)I" } : Jvm.MethodName)) ∈ WA := wa_of (mt_3 (i := 83) rfl) rfl
theorem q3_84 : (Jvm.Cond.static ({ cls := "LeanTower$Tower", name := "pull", desc := "(III)I" } : Jvm.MethodName)) ∈ WA := wa_of (mt_3 (i := 84) rfl) rfl
theorem q3_85 : (Jvm.Cond.code ({ cls := "LeanTower$Tower", name := "pull", desc := "(III)I" } : Jvm.MethodName) prog_10_method_14_code (3 : Nat) (Option.some Jvm.ClassFile.FieldType.int)) ∈ WA := wa_of (mt_3 (i := 85) rfl) rfl
theorem q3_86 : (Jvm.Cond.methodLink "LeanTower$Tower" (68 : Nat) ({ cls := "LeanTower$Tower", name := "sideOf", desc := "(I)I" } : Jvm.MethodName)) ∈ WA := wa_of (mt_3 (i := 86) rfl) rfl
theorem q3_87 : (Jvm.Cond.instanceMethod ({ cls := "LeanTower$Tower", name := "sideOf", desc := "(I)I" } : Jvm.MethodName)) ∈ WA := wa_of (mt_3 (i := 87) rfl) rfl
theorem q3_88 : (Jvm.Cond.selects "LeanTower$Tower" ({ cls := "LeanTower$Tower", name := "sideOf", desc := "(I)I" } : Jvm.MethodName) ({ cls := "LeanTower$Tower", name := "sideOf", desc := "(I)I" } : Jvm.MethodName)) ∈ WA := wa_of (mt_3 (i := 88) rfl) rfl
theorem q3_89 : (Jvm.Cond.code ({ cls := "LeanTower$Tower", name := "sideOf", desc := "(I)I" } : Jvm.MethodName) prog_10_method_13_code (3 : Nat) (Option.some Jvm.ClassFile.FieldType.int)) ∈ WA := wa_of (mt_3 (i := 89) rfl) rfl
theorem q3_90 : (Jvm.Cond.constant "LeanTower$Tower" (60 : Nat) (-1000000 : Int32)) ∈ WA := wa_of (mt_3 (i := 90) rfl) rfl
theorem q3_91 : (Jvm.Cond.methodLink "LeanTower$Tower" (81 : Nat) ({ cls := "java/lang/Math", name := "max", desc := "(II)I" } : Jvm.MethodName)) ∈ WA := wa_of (mt_3 (i := 91) rfl) rfl
theorem q3_92 : (Jvm.Cond.static ({ cls := "java/lang/Math", name := "max", desc := "(II)I" } : Jvm.MethodName)) ∈ WA := wa_of (mt_3 (i := 92) rfl) rfl
theorem q3_93 : (Jvm.Cond.code ({ cls := "java/lang/Math", name := "max", desc := "(II)I" } : Jvm.MethodName) prog_16_method_65_code (2 : Nat) (Option.some Jvm.ClassFile.FieldType.int)) ∈ WA := wa_of (mt_3 (i := 93) rfl) rfl
theorem q3_94 : (Jvm.Cond.methodLink "LeanTowerLaw" (61 : Nat) ({ cls := "LeanTower", name := "year", desc := "()I" } : Jvm.MethodName)) ∈ WA := wa_of (mt_3 (i := 94) rfl) rfl
theorem q3_95 : (Jvm.Cond.instanceMethod ({ cls := "LeanTower", name := "year", desc := "()I" } : Jvm.MethodName)) ∈ WA := wa_of (mt_3 (i := 95) rfl) rfl
theorem q3_96 : (Jvm.Cond.selects "LeanTower" ({ cls := "LeanTower", name := "year", desc := "()I" } : Jvm.MethodName) ({ cls := "LeanTower", name := "year", desc := "()I" } : Jvm.MethodName)) ∈ WA := wa_of (mt_3 (i := 96) rfl) rfl
theorem q3_97 : (Jvm.Cond.code ({ cls := "LeanTower", name := "year", desc := "()I" } : Jvm.MethodName) prog_1_method_12_code (1 : Nat) (Option.some Jvm.ClassFile.FieldType.int)) ∈ WA := wa_of (mt_3 (i := 97) rfl) rfl
theorem q3_98 : (Jvm.Cond.methodLink "LeanTower" (170 : Nat) ({ cls := "java/lang/Math", name := "abs", desc := "(I)I" } : Jvm.MethodName)) ∈ WA := wa_of (mt_3 (i := 98) rfl) rfl
theorem q3_99 : (Jvm.Cond.methodLink "LeanTower" (178 : Nat) ({ cls := "LeanTower$Tower", name := "passYear", desc := "()V" } : Jvm.MethodName)) ∈ WA := wa_of (mt_3 (i := 99) rfl) rfl
theorem q3_100 : (Jvm.Cond.instanceMethod ({ cls := "LeanTower$Tower", name := "passYear", desc := "()V" } : Jvm.MethodName)) ∈ WA := wa_of (mt_3 (i := 100) rfl) rfl
theorem q3_101 : (Jvm.Cond.selects "LeanTower$Tower" ({ cls := "LeanTower$Tower", name := "passYear", desc := "()V" } : Jvm.MethodName) ({ cls := "LeanTower$Tower", name := "passYear", desc := "()V" } : Jvm.MethodName)) ∈ WA := wa_of (mt_3 (i := 101) rfl) rfl
theorem q3_102 : (Jvm.Cond.code ({ cls := "LeanTower$Tower", name := "passYear", desc := "()V" } : Jvm.MethodName) prog_10_method_20_code (3 : Nat) (Option.none : Option Jvm.ClassFile.FieldType)) ∈ WA := wa_of (mt_3 (i := 102) rfl) rfl
theorem q3_103 : (Jvm.Cond.methodLink "LeanTowerLaw" (65 : Nat) ({ cls := "LeanTower", name := "undo", desc := "()I" } : Jvm.MethodName)) ∈ WA := wa_of (mt_3 (i := 103) rfl) rfl
theorem q3_104 : (Jvm.Cond.instanceMethod ({ cls := "LeanTower", name := "undo", desc := "()I" } : Jvm.MethodName)) ∈ WA := wa_of (mt_3 (i := 104) rfl) rfl
theorem q3_105 : (Jvm.Cond.selects "LeanTower" ({ cls := "LeanTower", name := "undo", desc := "()I" } : Jvm.MethodName) ({ cls := "LeanTower", name := "undo", desc := "()I" } : Jvm.MethodName)) ∈ WA := wa_of (mt_3 (i := 105) rfl) rfl
theorem q3_106 : (Jvm.Cond.code ({ cls := "LeanTower", name := "undo", desc := "()I" } : Jvm.MethodName) prog_1_method_13_code (1 : Nat) (Option.some Jvm.ClassFile.FieldType.int)) ∈ WA := wa_of (mt_3 (i := 106) rfl) rfl
theorem q3_107 : (Jvm.Cond.methodLink "LeanTowerLaw" (69 : Nat) ({ cls := "LeanTower", name := "person", desc := "(II)I" } : Jvm.MethodName)) ∈ WA := wa_of (mt_3 (i := 107) rfl) rfl
theorem q3_108 : (Jvm.Cond.instanceMethod ({ cls := "LeanTower", name := "person", desc := "(II)I" } : Jvm.MethodName)) ∈ WA := wa_of (mt_3 (i := 108) rfl) rfl
theorem q3_109 : (Jvm.Cond.selects "LeanTower" ({ cls := "LeanTower", name := "person", desc := "(II)I" } : Jvm.MethodName) ({ cls := "LeanTower", name := "person", desc := "(II)I" } : Jvm.MethodName)) ∈ WA := wa_of (mt_3 (i := 109) rfl) rfl
theorem q3_110 : (Jvm.Cond.code ({ cls := "LeanTower", name := "person", desc := "(II)I" } : Jvm.MethodName) prog_1_method_14_code (4 : Nat) (Option.some Jvm.ClassFile.FieldType.int)) ∈ WA := wa_of (mt_3 (i := 110) rfl) rfl
theorem q3_111 : (Jvm.Cond.methodLink "LeanTower" (184 : Nat) ({ cls := "LeanTower$Tower", name := "who", desc := "(I)LLeanTower$Person;" } : Jvm.MethodName)) ∈ WA := wa_of (mt_3 (i := 111) rfl) rfl
theorem q3_112 : (Jvm.Cond.instanceMethod ({ cls := "LeanTower$Tower", name := "who", desc := "(I)LLeanTower$Person;" } : Jvm.MethodName)) ∈ WA := wa_of (mt_3 (i := 112) rfl) rfl
theorem q3_113 : (Jvm.Cond.selects "LeanTower$Tower" ({ cls := "LeanTower$Tower", name := "who", desc := "(I)LLeanTower$Person;" } : Jvm.MethodName) ({ cls := "LeanTower$Tower", name := "who", desc := "(I)LLeanTower$Person;" } : Jvm.MethodName)) ∈ WA := wa_of (mt_3 (i := 113) rfl) rfl
theorem q3_114 : (Jvm.Cond.code ({ cls := "LeanTower$Tower", name := "who", desc := "(I)LLeanTower$Person;" } : Jvm.MethodName) prog_10_method_9_code (2 : Nat) (Option.some (Jvm.ClassFile.FieldType.object "LeanTower$Person"))) ∈ WA := wa_of (mt_3 (i := 114) rfl) rfl
theorem q3_115 : (Jvm.Cond.methodLink "LeanTower$Tower" (52 : Nat) ({ cls := "LeanTower$Tower", name := "hasPerson", desc := "(I)Z" } : Jvm.MethodName)) ∈ WA := wa_of (mt_3 (i := 115) rfl) rfl
theorem q3_116 : (Jvm.Cond.methodLink "LeanTower" (199 : Nat) ({ cls := "LeanTower$Tower", name := "sideOf", desc := "(I)I" } : Jvm.MethodName)) ∈ WA := wa_of (mt_3 (i := 116) rfl) rfl
theorem q3_117 : (Jvm.Cond.methodLink "LeanTowerLaw" (73 : Nat) ({ cls := "LeanTower", name := "lean", desc := "(I)I" } : Jvm.MethodName)) ∈ WA := wa_of (mt_3 (i := 117) rfl) rfl
theorem q3_118 : (Jvm.Cond.instanceMethod ({ cls := "LeanTower", name := "lean", desc := "(I)I" } : Jvm.MethodName)) ∈ WA := wa_of (mt_3 (i := 118) rfl) rfl
theorem q3_119 : (Jvm.Cond.selects "LeanTower" ({ cls := "LeanTower", name := "lean", desc := "(I)I" } : Jvm.MethodName) ({ cls := "LeanTower", name := "lean", desc := "(I)I" } : Jvm.MethodName)) ∈ WA := wa_of (mt_3 (i := 119) rfl) rfl
theorem q3_120 : (Jvm.Cond.code ({ cls := "LeanTower", name := "lean", desc := "(I)I" } : Jvm.MethodName) prog_1_method_15_code (2 : Nat) (Option.some Jvm.ClassFile.FieldType.int)) ∈ WA := wa_of (mt_3 (i := 120) rfl) rfl
theorem q3_121 : (Jvm.Cond.methodLink "LeanTower" (202 : Nat) ({ cls := "LeanTower$Tower", name := "leanWith", desc := "(II)I" } : Jvm.MethodName)) ∈ WA := wa_of (mt_3 (i := 121) rfl) rfl
theorem q3_122 : (Jvm.Cond.methodLink "LeanTowerLaw" (77 : Nat) ({ cls := "LeanTower", name := "worst", desc := "(I)I" } : Jvm.MethodName)) ∈ WA := wa_of (mt_3 (i := 122) rfl) rfl
theorem q3_123 : (Jvm.Cond.instanceMethod ({ cls := "LeanTower", name := "worst", desc := "(I)I" } : Jvm.MethodName)) ∈ WA := wa_of (mt_3 (i := 123) rfl) rfl
theorem q3_124 : (Jvm.Cond.selects "LeanTower" ({ cls := "LeanTower", name := "worst", desc := "(I)I" } : Jvm.MethodName) ({ cls := "LeanTower", name := "worst", desc := "(I)I" } : Jvm.MethodName)) ∈ WA := wa_of (mt_3 (i := 124) rfl) rfl
theorem q3_125 : (Jvm.Cond.code ({ cls := "LeanTower", name := "worst", desc := "(I)I" } : Jvm.MethodName) prog_1_method_16_code (2 : Nat) (Option.some Jvm.ClassFile.FieldType.int)) ∈ WA := wa_of (mt_3 (i := 125) rfl) rfl
theorem q3_126 : (Jvm.Cond.methodLink "LeanTower" (206 : Nat) ({ cls := "LeanTower$Tower", name := "worstOver", desc := "(I)I" } : Jvm.MethodName)) ∈ WA := wa_of (mt_3 (i := 126) rfl) rfl
theorem q3_127 : (Jvm.Cond.instanceMethod ({ cls := "LeanTower$Tower", name := "worstOver", desc := "(I)I" } : Jvm.MethodName)) ∈ WA := wa_of (mt_3 (i := 127) rfl) rfl
theorem q3_128 : (Jvm.Cond.selects "LeanTower$Tower" ({ cls := "LeanTower$Tower", name := "worstOver", desc := "(I)I" } : Jvm.MethodName) ({ cls := "LeanTower$Tower", name := "worstOver", desc := "(I)I" } : Jvm.MethodName)) ∈ WA := wa_of (mt_3 (i := 128) rfl) rfl
theorem q3_129 : (Jvm.Cond.code ({ cls := "LeanTower$Tower", name := "worstOver", desc := "(I)I" } : Jvm.MethodName) prog_10_method_21_code (4 : Nat) (Option.some Jvm.ClassFile.FieldType.int)) ∈ WA := wa_of (mt_3 (i := 129) rfl) rfl
theorem q3_130 : (Jvm.Cond.methodLink "LeanTower$Tower" (100 : Nat) ({ cls := "LeanTower$Tower", name := "passHalf", desc := "()V" } : Jvm.MethodName)) ∈ WA := wa_of (mt_3 (i := 130) rfl) rfl
theorem q3_131 : (Jvm.Cond.methodLink "LeanTower" (209 : Nat) ({ cls := "LeanTower$Tower", name := "firstBeyond", desc := "(I)I" } : Jvm.MethodName)) ∈ WA := wa_of (mt_3 (i := 131) rfl) rfl
theorem q3_132 : (Jvm.Cond.instanceMethod ({ cls := "LeanTower$Tower", name := "firstBeyond", desc := "(I)I" } : Jvm.MethodName)) ∈ WA := wa_of (mt_3 (i := 132) rfl) rfl
theorem q3_133 : (Jvm.Cond.selects "LeanTower$Tower" ({ cls := "LeanTower$Tower", name := "firstBeyond", desc := "(I)I" } : Jvm.MethodName) ({ cls := "LeanTower$Tower", name := "firstBeyond", desc := "(I)I" } : Jvm.MethodName)) ∈ WA := wa_of (mt_3 (i := 133) rfl) rfl
theorem q3_134 : (Jvm.Cond.code ({ cls := "LeanTower$Tower", name := "firstBeyond", desc := "(I)I" } : Jvm.MethodName) prog_10_method_22_code (3 : Nat) (Option.some Jvm.ClassFile.FieldType.int)) ∈ WA := wa_of (mt_3 (i := 134) rfl) rfl
theorem q3_135 : (Jvm.Cond.methodLink "LeanTower$Tower" (103 : Nat) ({ cls := "LeanTower$Tower", name := "isBeyond", desc := "()Z" } : Jvm.MethodName)) ∈ WA := wa_of (mt_3 (i := 135) rfl) rfl
theorem q3_136 : (Jvm.Cond.methodLink "LeanTowerLaw" (81 : Nat) ({ cls := "LeanTower", name := "most", desc := "()I" } : Jvm.MethodName)) ∈ WA := wa_of (mt_3 (i := 136) rfl) rfl
theorem q3_137 : (Jvm.Cond.instanceMethod ({ cls := "LeanTower", name := "most", desc := "()I" } : Jvm.MethodName)) ∈ WA := wa_of (mt_3 (i := 137) rfl) rfl
theorem q3_138 : (Jvm.Cond.selects "LeanTower" ({ cls := "LeanTower", name := "most", desc := "()I" } : Jvm.MethodName) ({ cls := "LeanTower", name := "most", desc := "()I" } : Jvm.MethodName)) ∈ WA := wa_of (mt_3 (i := 138) rfl) rfl
theorem q3_139 : (Jvm.Cond.code ({ cls := "LeanTower", name := "most", desc := "()I" } : Jvm.MethodName) prog_1_method_17_code (6 : Nat) (Option.some Jvm.ClassFile.FieldType.int)) ∈ WA := wa_of (mt_3 (i := 139) rfl) rfl
theorem q3_140 : (Jvm.Cond.methodLink "LeanTower" (212 : Nat) ({ cls := "LeanTower$Tower", name := "outsideSet", desc := "()I" } : Jvm.MethodName)) ∈ WA := wa_of (mt_3 (i := 140) rfl) rfl
theorem q3_141 : (Jvm.Cond.instanceMethod ({ cls := "LeanTower$Tower", name := "outsideSet", desc := "()I" } : Jvm.MethodName)) ∈ WA := wa_of (mt_3 (i := 141) rfl) rfl
theorem q3_142 : (Jvm.Cond.selects "LeanTower$Tower" ({ cls := "LeanTower$Tower", name := "outsideSet", desc := "()I" } : Jvm.MethodName) ({ cls := "LeanTower$Tower", name := "outsideSet", desc := "()I" } : Jvm.MethodName)) ∈ WA := wa_of (mt_3 (i := 142) rfl) rfl
theorem q3_143 : (Jvm.Cond.code ({ cls := "LeanTower$Tower", name := "outsideSet", desc := "()I" } : Jvm.MethodName) prog_10_method_11_code (3 : Nat) (Option.some Jvm.ClassFile.FieldType.int)) ∈ WA := wa_of (mt_3 (i := 143) rfl) rfl
theorem q3_144 : (Jvm.Cond.methodLink "LeanTower" (216 : Nat) ({ cls := "java/lang/Integer", name := "bitCount", desc := "(I)I" } : Jvm.MethodName)) ∈ WA := wa_of (mt_3 (i := 144) rfl) rfl
theorem q3_145 : (Jvm.Cond.static ({ cls := "java/lang/Integer", name := "bitCount", desc := "(I)I" } : Jvm.MethodName)) ∈ WA := wa_of (mt_3 (i := 145) rfl) rfl
theorem q3_146 : (Jvm.Cond.code ({ cls := "java/lang/Integer", name := "bitCount", desc := "(I)I" } : Jvm.MethodName) prog_15_method_49_code (1 : Nat) (Option.some Jvm.ClassFile.FieldType.int)) ∈ WA := wa_of (mt_3 (i := 146) rfl) rfl
theorem q3_147 : (Jvm.Cond.constant "java/lang/Integer" (265 : Nat) (1431655765 : Int32)) ∈ WA := wa_of (mt_3 (i := 147) rfl) rfl
theorem q3_148 : (Jvm.Cond.constant "java/lang/Integer" (266 : Nat) (858993459 : Int32)) ∈ WA := wa_of (mt_3 (i := 148) rfl) rfl
theorem q3_149 : (Jvm.Cond.constant "java/lang/Integer" (267 : Nat) (252645135 : Int32)) ∈ WA := wa_of (mt_3 (i := 149) rfl) rfl
theorem q3_150 : (Jvm.Cond.methodLink "LeanTower" (221 : Nat) ({ cls := "LeanTower", name := "mayGoUp", desc := "(I)Z" } : Jvm.MethodName)) ∈ WA := wa_of (mt_3 (i := 150) rfl) rfl
theorem q3_151 : (Jvm.Cond.privateMethod ({ cls := "LeanTower", name := "mayGoUp", desc := "(I)Z" } : Jvm.MethodName)) ∈ lw_tbl := mt_3 (i := 151) rfl
theorem q3_152 : (Jvm.Cond.instanceMethod ({ cls := "LeanTower", name := "mayGoUp", desc := "(I)Z" } : Jvm.MethodName)) ∈ WA := wa_of (mt_3 (i := 152) rfl) rfl
theorem q3_153 : (Jvm.Cond.code ({ cls := "LeanTower", name := "mayGoUp", desc := "(I)Z" } : Jvm.MethodName) prog_1_method_37_code (3 : Nat) (Option.some Jvm.ClassFile.FieldType.boolean)) ∈ WA := wa_of (mt_3 (i := 153) rfl) rfl
theorem q3_154 : (Jvm.Cond.methodLink "LeanTowerLaw" (85 : Nat) ({ cls := "LeanTower", name := "two", desc := "(III)I" } : Jvm.MethodName)) ∈ WA := wa_of (mt_3 (i := 154) rfl) rfl
theorem q3_155 : (Jvm.Cond.instanceMethod ({ cls := "LeanTower", name := "two", desc := "(III)I" } : Jvm.MethodName)) ∈ WA := wa_of (mt_3 (i := 155) rfl) rfl
theorem q3_156 : (Jvm.Cond.selects "LeanTower" ({ cls := "LeanTower", name := "two", desc := "(III)I" } : Jvm.MethodName) ({ cls := "LeanTower", name := "two", desc := "(III)I" } : Jvm.MethodName)) ∈ WA := wa_of (mt_3 (i := 156) rfl) rfl
theorem q3_157 : (Jvm.Cond.code ({ cls := "LeanTower", name := "two", desc := "(III)I" } : Jvm.MethodName) prog_1_method_18_code (8 : Nat) (Option.some Jvm.ClassFile.FieldType.int)) ∈ WA := wa_of (mt_3 (i := 157) rfl) rfl
theorem q3_158 : (Jvm.Cond.methodLink "LeanTower" (224 : Nat) ({ cls := "LeanTower$Tower", name := "isOutside", desc := "(I)Z" } : Jvm.MethodName)) ∈ WA := wa_of (mt_3 (i := 158) rfl) rfl
theorem q3_159 : (Jvm.Cond.instanceMethod ({ cls := "LeanTower$Tower", name := "isOutside", desc := "(I)Z" } : Jvm.MethodName)) ∈ WA := wa_of (mt_3 (i := 159) rfl) rfl
theorem q3_160 : (Jvm.Cond.selects "LeanTower$Tower" ({ cls := "LeanTower$Tower", name := "isOutside", desc := "(I)Z" } : Jvm.MethodName) ({ cls := "LeanTower$Tower", name := "isOutside", desc := "(I)Z" } : Jvm.MethodName)) ∈ WA := wa_of (mt_3 (i := 160) rfl) rfl
theorem q3_161 : (Jvm.Cond.code ({ cls := "LeanTower$Tower", name := "isOutside", desc := "(I)Z" } : Jvm.MethodName) prog_10_method_10_code (2 : Nat) (Option.some Jvm.ClassFile.FieldType.boolean)) ∈ WA := wa_of (mt_3 (i := 161) rfl) rfl
theorem q3_162 : (Jvm.Cond.methodLink "LeanTower" (227 : Nat) ({ cls := "LeanTower", name := "worstOfTwo", desc := "(III)I" } : Jvm.MethodName)) ∈ WA := wa_of (mt_3 (i := 162) rfl) rfl
theorem q3_163 : (Jvm.Cond.privateMethod ({ cls := "LeanTower", name := "worstOfTwo", desc := "(III)I" } : Jvm.MethodName)) ∈ lw_tbl := mt_3 (i := 163) rfl
theorem q3_164 : (Jvm.Cond.instanceMethod ({ cls := "LeanTower", name := "worstOfTwo", desc := "(III)I" } : Jvm.MethodName)) ∈ WA := wa_of (mt_3 (i := 164) rfl) rfl
theorem q3_165 : (Jvm.Cond.code ({ cls := "LeanTower", name := "worstOfTwo", desc := "(III)I" } : Jvm.MethodName) prog_1_method_38_code (5 : Nat) (Option.some Jvm.ClassFile.FieldType.int)) ∈ WA := wa_of (mt_3 (i := 165) rfl) rfl
theorem q3_166 : (Jvm.Cond.methodLink "LeanTower" (301 : Nat) ({ cls := "java/lang/Math", name := "max", desc := "(II)I" } : Jvm.MethodName)) ∈ WA := wa_of (mt_3 (i := 166) rfl) rfl
theorem q3_167 : (Jvm.Cond.methodLink "LeanTowerLaw" (89 : Nat) ({ cls := "LeanTower", name := "stones", desc := "(I)I" } : Jvm.MethodName)) ∈ WA := wa_of (mt_3 (i := 167) rfl) rfl
theorem q3_168 : (Jvm.Cond.instanceMethod ({ cls := "LeanTower", name := "stones", desc := "(I)I" } : Jvm.MethodName)) ∈ WA := wa_of (mt_3 (i := 168) rfl) rfl
theorem q3_169 : (Jvm.Cond.selects "LeanTower" ({ cls := "LeanTower", name := "stones", desc := "(I)I" } : Jvm.MethodName) ({ cls := "LeanTower", name := "stones", desc := "(I)I" } : Jvm.MethodName)) ∈ WA := wa_of (mt_3 (i := 169) rfl) rfl
theorem q3_170 : (Jvm.Cond.code ({ cls := "LeanTower", name := "stones", desc := "(I)I" } : Jvm.MethodName) prog_1_method_19_code (7 : Nat) (Option.some Jvm.ClassFile.FieldType.int)) ∈ WA := wa_of (mt_3 (i := 170) rfl) rfl
theorem q3_171 : (Jvm.Cond.methodLink "LeanTower" (231 : Nat) ({ cls := "LeanTower", name := "measureReach", desc := "()V" } : Jvm.MethodName)) ∈ WA := wa_of (mt_3 (i := 171) rfl) rfl
theorem q3_172 : (Jvm.Cond.privateMethod ({ cls := "LeanTower", name := "measureReach", desc := "()V" } : Jvm.MethodName)) ∈ lw_tbl := mt_3 (i := 172) rfl
theorem q3_173 : (Jvm.Cond.instanceMethod ({ cls := "LeanTower", name := "measureReach", desc := "()V" } : Jvm.MethodName)) ∈ WA := wa_of (mt_3 (i := 173) rfl) rfl
theorem q3_174 : (Jvm.Cond.code ({ cls := "LeanTower", name := "measureReach", desc := "()V" } : Jvm.MethodName) prog_1_method_39_code (4 : Nat) (Option.none : Option Jvm.ClassFile.FieldType)) ∈ WA := wa_of (mt_3 (i := 174) rfl) rfl
theorem q3_175 : (Jvm.Cond.methodLink "LeanTower" (237 : Nat) ({ cls := "LeanTower", name := "worstOfHanging", desc := "(I)I" } : Jvm.MethodName)) ∈ WA := wa_of (mt_3 (i := 175) rfl) rfl
theorem q3_176 : (Jvm.Cond.privateMethod ({ cls := "LeanTower", name := "worstOfHanging", desc := "(I)I" } : Jvm.MethodName)) ∈ lw_tbl := mt_3 (i := 176) rfl
theorem q3_177 : (Jvm.Cond.instanceMethod ({ cls := "LeanTower", name := "worstOfHanging", desc := "(I)I" } : Jvm.MethodName)) ∈ WA := wa_of (mt_3 (i := 177) rfl) rfl
theorem q3_178 : (Jvm.Cond.code ({ cls := "LeanTower", name := "worstOfHanging", desc := "(I)I" } : Jvm.MethodName) prog_1_method_40_code (6 : Nat) (Option.some Jvm.ClassFile.FieldType.int)) ∈ WA := wa_of (mt_3 (i := 178) rfl) rfl
theorem q3_179 : (Jvm.Cond.methodLink "LeanTower" (240 : Nat) ({ cls := "LeanTower", name := "sideIn", desc := "(II)I" } : Jvm.MethodName)) ∈ WA := wa_of (mt_3 (i := 179) rfl) rfl
theorem q3_180 : (Jvm.Cond.privateMethod ({ cls := "LeanTower", name := "sideIn", desc := "(II)I" } : Jvm.MethodName)) ∈ lw_tbl := mt_3 (i := 180) rfl
theorem q3_181 : (Jvm.Cond.instanceMethod ({ cls := "LeanTower", name := "sideIn", desc := "(II)I" } : Jvm.MethodName)) ∈ WA := wa_of (mt_3 (i := 181) rfl) rfl
theorem q3_182 : (Jvm.Cond.code ({ cls := "LeanTower", name := "sideIn", desc := "(II)I" } : Jvm.MethodName) prog_1_method_41_code (3 : Nat) (Option.some Jvm.ClassFile.FieldType.int)) ∈ WA := wa_of (mt_3 (i := 182) rfl) rfl
theorem q3_183 : (Jvm.Cond.methodLink "LeanTower" (307 : Nat) ({ cls := "LeanTower$Tower", name := "pull", desc := "(III)I" } : Jvm.MethodName)) ∈ WA := wa_of (mt_3 (i := 183) rfl) rfl
theorem q3_184 : (Jvm.Cond.methodLink "LeanTowerLaw" (93 : Nat) ({ cls := "LeanTower", name := "marks", desc := "(IIII)I" } : Jvm.MethodName)) ∈ WA := wa_of (mt_3 (i := 184) rfl) rfl
theorem q3_185 : (Jvm.Cond.instanceMethod ({ cls := "LeanTower", name := "marks", desc := "(IIII)I" } : Jvm.MethodName)) ∈ WA := wa_of (mt_3 (i := 185) rfl) rfl
theorem q3_186 : (Jvm.Cond.selects "LeanTower" ({ cls := "LeanTower", name := "marks", desc := "(IIII)I" } : Jvm.MethodName) ({ cls := "LeanTower", name := "marks", desc := "(IIII)I" } : Jvm.MethodName)) ∈ WA := wa_of (mt_3 (i := 186) rfl) rfl
theorem q3_187 : (Jvm.Cond.code ({ cls := "LeanTower", name := "marks", desc := "(IIII)I" } : Jvm.MethodName) prog_1_method_20_code (6 : Nat) (Option.some Jvm.ClassFile.FieldType.int)) ∈ WA := wa_of (mt_3 (i := 187) rfl) rfl
theorem q3_188 : (Jvm.Cond.methodLink "LeanTower" (243 : Nat) ({ cls := "LeanTower", name := "isMark", desc := "(I)Z" } : Jvm.MethodName)) ∈ WA := wa_of (mt_3 (i := 188) rfl) rfl
theorem q3_189 : (Jvm.Cond.static ({ cls := "LeanTower", name := "isMark", desc := "(I)Z" } : Jvm.MethodName)) ∈ WA := wa_of (mt_3 (i := 189) rfl) rfl
theorem q3_190 : (Jvm.Cond.code ({ cls := "LeanTower", name := "isMark", desc := "(I)Z" } : Jvm.MethodName) prog_1_method_42_code (1 : Nat) (Option.some Jvm.ClassFile.FieldType.boolean)) ∈ WA := wa_of (mt_3 (i := 190) rfl) rfl
theorem q3_191 : (Jvm.Cond.methodLink "LeanTower" (249 : Nat) ({ cls := "LeanTower$Row", name := "holds", desc := "(III)Z" } : Jvm.MethodName)) ∈ WA := wa_of (mt_3 (i := 191) rfl) rfl
theorem q3_192 : (Jvm.Cond.instanceMethod ({ cls := "LeanTower$Row", name := "holds", desc := "(III)Z" } : Jvm.MethodName)) ∈ WA := wa_of (mt_3 (i := 192) rfl) rfl
theorem q3_193 : (Jvm.Cond.selects "LeanTower$Row" ({ cls := "LeanTower$Row", name := "holds", desc := "(III)Z" } : Jvm.MethodName) ({ cls := "LeanTower$Row", name := "holds", desc := "(III)Z" } : Jvm.MethodName)) ∈ WA := wa_of (mt_3 (i := 193) rfl) rfl
theorem q3_194 : (Jvm.Cond.code ({ cls := "LeanTower$Row", name := "holds", desc := "(III)Z" } : Jvm.MethodName) prog_9_method_7_code (5 : Nat) (Option.some Jvm.ClassFile.FieldType.boolean)) ∈ WA := wa_of (mt_3 (i := 194) rfl) rfl
theorem q3_195 : (Jvm.Cond.methodLink "LeanTower" (253 : Nat) ({ cls := "LeanTower", name := "setThatMakes", desc := "(III)I" } : Jvm.MethodName)) ∈ WA := wa_of (mt_3 (i := 195) rfl) rfl
theorem q3_196 : (Jvm.Cond.privateMethod ({ cls := "LeanTower", name := "setThatMakes", desc := "(III)I" } : Jvm.MethodName)) ∈ lw_tbl := mt_3 (i := 196) rfl
theorem q3_197 : (Jvm.Cond.instanceMethod ({ cls := "LeanTower", name := "setThatMakes", desc := "(III)I" } : Jvm.MethodName)) ∈ WA := wa_of (mt_3 (i := 197) rfl) rfl
theorem q3_198 : (Jvm.Cond.code ({ cls := "LeanTower", name := "setThatMakes", desc := "(III)I" } : Jvm.MethodName) prog_1_method_43_code (6 : Nat) (Option.some Jvm.ClassFile.FieldType.int)) ∈ WA := wa_of (mt_3 (i := 198) rfl) rfl
theorem q3_199 : (Jvm.Cond.methodLink "LeanTowerLaw" (98 : Nat) ({ cls := "LeanTower", name := "rescue", desc := "(I)I" } : Jvm.MethodName)) ∈ WA := wa_of (mt_3 (i := 199) rfl) rfl
theorem q3_200 : (Jvm.Cond.instanceMethod ({ cls := "LeanTower", name := "rescue", desc := "(I)I" } : Jvm.MethodName)) ∈ WA := wa_of (mt_3 (i := 200) rfl) rfl
theorem q3_201 : (Jvm.Cond.selects "LeanTower" ({ cls := "LeanTower", name := "rescue", desc := "(I)I" } : Jvm.MethodName) ({ cls := "LeanTower", name := "rescue", desc := "(I)I" } : Jvm.MethodName)) ∈ WA := wa_of (mt_3 (i := 201) rfl) rfl
theorem q3_202 : (Jvm.Cond.code ({ cls := "LeanTower", name := "rescue", desc := "(I)I" } : Jvm.MethodName) prog_1_method_21_code (5 : Nat) (Option.some Jvm.ClassFile.FieldType.int)) ∈ WA := wa_of (mt_3 (i := 202) rfl) rfl
theorem q3_203 : (Jvm.Cond.methodLink "LeanTower" (256 : Nat) ({ cls := "LeanTower$Tower", name := "insideSet", desc := "()I" } : Jvm.MethodName)) ∈ WA := wa_of (mt_3 (i := 203) rfl) rfl
theorem q3_204 : (Jvm.Cond.instanceMethod ({ cls := "LeanTower$Tower", name := "insideSet", desc := "()I" } : Jvm.MethodName)) ∈ WA := wa_of (mt_3 (i := 204) rfl) rfl
theorem q3_205 : (Jvm.Cond.selects "LeanTower$Tower" ({ cls := "LeanTower$Tower", name := "insideSet", desc := "()I" } : Jvm.MethodName) ({ cls := "LeanTower$Tower", name := "insideSet", desc := "()I" } : Jvm.MethodName)) ∈ WA := wa_of (mt_3 (i := 205) rfl) rfl
theorem q3_206 : (Jvm.Cond.code ({ cls := "LeanTower$Tower", name := "insideSet", desc := "()I" } : Jvm.MethodName) prog_10_method_12_code (1 : Nat) (Option.some Jvm.ClassFile.FieldType.int)) ∈ WA := wa_of (mt_3 (i := 206) rfl) rfl
theorem q3_207 : (Jvm.Cond.methodLink "LeanTower$Tower" (56 : Nat) ({ cls := "LeanTower$Tower", name := "outsideSet", desc := "()I" } : Jvm.MethodName)) ∈ WA := wa_of (mt_3 (i := 207) rfl) rfl
theorem q3_208 : (Jvm.Cond.methodLink "LeanTower" (259 : Nat) ({ cls := "LeanTower", name := "findRescuable", desc := "(I)V" } : Jvm.MethodName)) ∈ WA := wa_of (mt_3 (i := 208) rfl) rfl
theorem q3_209 : (Jvm.Cond.privateMethod ({ cls := "LeanTower", name := "findRescuable", desc := "(I)V" } : Jvm.MethodName)) ∈ lw_tbl := mt_3 (i := 209) rfl
theorem q3_210 : (Jvm.Cond.instanceMethod ({ cls := "LeanTower", name := "findRescuable", desc := "(I)V" } : Jvm.MethodName)) ∈ WA := wa_of (mt_3 (i := 210) rfl) rfl
theorem q3_211 : (Jvm.Cond.code ({ cls := "LeanTower", name := "findRescuable", desc := "(I)V" } : Jvm.MethodName) prog_1_method_44_code (4 : Nat) (Option.none : Option Jvm.ClassFile.FieldType)) ∈ WA := wa_of (mt_3 (i := 211) rfl) rfl
theorem q3_212 : (Jvm.Cond.methodLink "LeanTower" (310 : Nat) ({ cls := "LeanTower$Tower", name := "tiltWith", desc := "(I)I" } : Jvm.MethodName)) ∈ WA := wa_of (mt_3 (i := 212) rfl) rfl
theorem q3_213 : (Jvm.Cond.methodLink "LeanTower" (263 : Nat) ({ cls := "LeanTower", name := "nextOut", desc := "(I)I" } : Jvm.MethodName)) ∈ WA := wa_of (mt_3 (i := 213) rfl) rfl
theorem q3_214 : (Jvm.Cond.privateMethod ({ cls := "LeanTower", name := "nextOut", desc := "(I)I" } : Jvm.MethodName)) ∈ lw_tbl := mt_3 (i := 214) rfl
theorem q3_215 : (Jvm.Cond.instanceMethod ({ cls := "LeanTower", name := "nextOut", desc := "(I)I" } : Jvm.MethodName)) ∈ WA := wa_of (mt_3 (i := 215) rfl) rfl
theorem q3_216 : (Jvm.Cond.code ({ cls := "LeanTower", name := "nextOut", desc := "(I)I" } : Jvm.MethodName) prog_1_method_45_code (3 : Nat) (Option.some Jvm.ClassFile.FieldType.int)) ∈ WA := wa_of (mt_3 (i := 216) rfl) rfl
theorem q3_217 : (Jvm.Cond.methodLink "LeanTowerLaw" (102 : Nat) ({ cls := "LeanTower", name := "fall", desc := "()I" } : Jvm.MethodName)) ∈ WA := wa_of (mt_3 (i := 217) rfl) rfl
theorem q3_218 : (Jvm.Cond.instanceMethod ({ cls := "LeanTower", name := "fall", desc := "()I" } : Jvm.MethodName)) ∈ WA := wa_of (mt_3 (i := 218) rfl) rfl
theorem q3_219 : (Jvm.Cond.selects "LeanTower" ({ cls := "LeanTower", name := "fall", desc := "()I" } : Jvm.MethodName) ({ cls := "LeanTower", name := "fall", desc := "()I" } : Jvm.MethodName)) ∈ WA := wa_of (mt_3 (i := 219) rfl) rfl
theorem q3_220 : (Jvm.Cond.code ({ cls := "LeanTower", name := "fall", desc := "()I" } : Jvm.MethodName) prog_1_method_22_code (2 : Nat) (Option.some Jvm.ClassFile.FieldType.int)) ∈ WA := wa_of (mt_3 (i := 220) rfl) rfl
theorem q3_221 : (Jvm.Cond.methodLink "LeanTowerLaw" (106 : Nat) ({ cls := "LeanTower", name := "bells", desc := "(III)I" } : Jvm.MethodName)) ∈ WA := wa_of (mt_3 (i := 221) rfl) rfl
theorem q3_222 : (Jvm.Cond.instanceMethod ({ cls := "LeanTower", name := "bells", desc := "(III)I" } : Jvm.MethodName)) ∈ WA := wa_of (mt_3 (i := 222) rfl) rfl
theorem q3_223 : (Jvm.Cond.selects "LeanTower" ({ cls := "LeanTower", name := "bells", desc := "(III)I" } : Jvm.MethodName) ({ cls := "LeanTower", name := "bells", desc := "(III)I" } : Jvm.MethodName)) ∈ WA := wa_of (mt_3 (i := 223) rfl) rfl
theorem q3_224 : (Jvm.Cond.code ({ cls := "LeanTower", name := "bells", desc := "(III)I" } : Jvm.MethodName) prog_1_method_23_code (5 : Nat) (Option.some Jvm.ClassFile.FieldType.int)) ∈ WA := wa_of (mt_3 (i := 224) rfl) rfl
theorem q3_225 : (Jvm.Cond.methodLink "LeanTower" (266 : Nat) ({ cls := "LeanTower$Bells", name := "findBest", desc := "([II)V" } : Jvm.MethodName)) ∈ WA := wa_of (mt_3 (i := 225) rfl) rfl
theorem q3_226 : (Jvm.Cond.instanceMethod ({ cls := "LeanTower$Bells", name := "findBest", desc := "([II)V" } : Jvm.MethodName)) ∈ WA := wa_of (mt_3 (i := 226) rfl) rfl
theorem q3_227 : (Jvm.Cond.selects "LeanTower$Bells" ({ cls := "LeanTower$Bells", name := "findBest", desc := "([II)V" } : Jvm.MethodName) ({ cls := "LeanTower$Bells", name := "findBest", desc := "([II)V" } : Jvm.MethodName)) ∈ WA := wa_of (mt_3 (i := 227) rfl) rfl
theorem q3_228 : (Jvm.Cond.code ({ cls := "LeanTower$Bells", name := "findBest", desc := "([II)V" } : Jvm.MethodName) prog_2_method_2_code (4 : Nat) (Option.none : Option Jvm.ClassFile.FieldType)) ∈ WA := wa_of (mt_3 (i := 228) rfl) rfl
theorem q3_229 : (Jvm.Cond.methodLink "LeanTower$Bells" (21 : Nat) ({ cls := "java/lang/Math", name := "min", desc := "(II)I" } : Jvm.MethodName)) ∈ WA := wa_of (mt_3 (i := 229) rfl) rfl
theorem q3_230 : (Jvm.Cond.methodLink "LeanTower$Bells" (34 : Nat) ({ cls := "LeanTower$Bells", name := "ringFrom", desc := "(IIII)V" } : Jvm.MethodName)) ∈ WA := wa_of (mt_3 (i := 230) rfl) rfl
theorem q3_231 : (Jvm.Cond.privateMethod ({ cls := "LeanTower$Bells", name := "ringFrom", desc := "(IIII)V" } : Jvm.MethodName)) ∈ lw_tbl := mt_3 (i := 231) rfl
theorem q3_232 : (Jvm.Cond.instanceMethod ({ cls := "LeanTower$Bells", name := "ringFrom", desc := "(IIII)V" } : Jvm.MethodName)) ∈ WA := wa_of (mt_3 (i := 232) rfl) rfl
theorem q3_233 : (Jvm.Cond.code ({ cls := "LeanTower$Bells", name := "ringFrom", desc := "(IIII)V" } : Jvm.MethodName) prog_2_method_3_code (8 : Nat) (Option.none : Option Jvm.ClassFile.FieldType)) ∈ WA := wa_of (mt_3 (i := 233) rfl) rfl
theorem q3_234 : (Jvm.Cond.methodLink "LeanTower$Bells" (38 : Nat) ({ cls := "java/lang/System", name := "arraycopy", desc := "(Ljava/lang/Object;ILjava/lang/Object;II)V" } : Jvm.MethodName)) ∈ WA := wa_of (mt_3 (i := 234) rfl) rfl
theorem q3_235 : (Jvm.Cond.methodLink "LeanTower$Bells" (44 : Nat) ({ cls := "java/lang/Math", name := "abs", desc := "(I)I" } : Jvm.MethodName)) ∈ WA := wa_of (mt_3 (i := 235) rfl) rfl
theorem q3_236 : (Jvm.Cond.methodLink "LeanTower$Bells" (48 : Nat) ({ cls := "java/lang/Math", name := "max", desc := "(II)I" } : Jvm.MethodName)) ∈ WA := wa_of (mt_3 (i := 236) rfl) rfl
theorem q3_237 : (Jvm.Cond.methodLink "LeanTowerLaw" (110 : Nat) ({ cls := "LeanTower", name := "image", desc := "(I)I" } : Jvm.MethodName)) ∈ WA := wa_of (mt_3 (i := 237) rfl) rfl
theorem q3_238 : (Jvm.Cond.instanceMethod ({ cls := "LeanTower", name := "image", desc := "(I)I" } : Jvm.MethodName)) ∈ WA := wa_of (mt_3 (i := 238) rfl) rfl
theorem q3_239 : (Jvm.Cond.selects "LeanTower" ({ cls := "LeanTower", name := "image", desc := "(I)I" } : Jvm.MethodName) ({ cls := "LeanTower", name := "image", desc := "(I)I" } : Jvm.MethodName)) ∈ WA := wa_of (mt_3 (i := 239) rfl) rfl
theorem q4_0 : (Jvm.Cond.code ({ cls := "LeanTower", name := "image", desc := "(I)I" } : Jvm.MethodName) prog_1_method_24_code (2 : Nat) (Option.some Jvm.ClassFile.FieldType.int)) ∈ WA := wa_of (mt_4 (i := 0) rfl) rfl
theorem q4_1 : (Jvm.Cond.methodLink "LeanTowerLaw" (114 : Nat) ({ cls := "LeanTower", name := "restore", desc := "(I)I" } : Jvm.MethodName)) ∈ WA := wa_of (mt_4 (i := 1) rfl) rfl
theorem q4_2 : (Jvm.Cond.instanceMethod ({ cls := "LeanTower", name := "restore", desc := "(I)I" } : Jvm.MethodName)) ∈ WA := wa_of (mt_4 (i := 2) rfl) rfl
theorem q4_3 : (Jvm.Cond.selects "LeanTower" ({ cls := "LeanTower", name := "restore", desc := "(I)I" } : Jvm.MethodName) ({ cls := "LeanTower", name := "restore", desc := "(I)I" } : Jvm.MethodName)) ∈ WA := wa_of (mt_4 (i := 3) rfl) rfl
theorem q4_4 : (Jvm.Cond.code ({ cls := "LeanTower", name := "restore", desc := "(I)I" } : Jvm.MethodName) prog_1_method_25_code (2 : Nat) (Option.some Jvm.ClassFile.FieldType.int)) ∈ WA := wa_of (mt_4 (i := 4) rfl) rfl
theorem q4_5 : (Jvm.Cond.methodLink "LeanTowerLaw" (118 : Nat) ({ cls := "LeanTower", name := "kind", desc := "(I)I" } : Jvm.MethodName)) ∈ WA := wa_of (mt_4 (i := 5) rfl) rfl
theorem q4_6 : (Jvm.Cond.instanceMethod ({ cls := "LeanTower", name := "kind", desc := "(I)I" } : Jvm.MethodName)) ∈ WA := wa_of (mt_4 (i := 6) rfl) rfl
theorem q4_7 : (Jvm.Cond.selects "LeanTower" ({ cls := "LeanTower", name := "kind", desc := "(I)I" } : Jvm.MethodName) ({ cls := "LeanTower", name := "kind", desc := "(I)I" } : Jvm.MethodName)) ∈ WA := wa_of (mt_4 (i := 7) rfl) rfl
theorem q4_8 : (Jvm.Cond.code ({ cls := "LeanTower", name := "kind", desc := "(I)I" } : Jvm.MethodName) prog_1_method_26_code (3 : Nat) (Option.some Jvm.ClassFile.FieldType.int)) ∈ WA := wa_of (mt_4 (i := 8) rfl) rfl
theorem q4_9 : (Jvm.Cond.methodLink "LeanTower" (276 : Nat) ({ cls := "LeanTower$Person", name := "ownKind", desc := "()I" } : Jvm.MethodName)) ∈ WA := wa_of (mt_4 (i := 9) rfl) rfl
theorem q4_10 : (Jvm.Cond.declares ({ cls := "LeanTower$Person", name := "ownKind", desc := "()I" } : Jvm.MethodName)) ∈ lw_tbl := mt_4 (i := 10) rfl
theorem q4_11 : (Jvm.Cond.sameMethod "LeanTower$Person" "LeanTower$Person" "ownKind" "()I") ∈ WA := wa_of (mt_4 (i := 11) rfl) rfl
theorem q4_12 : (Jvm.Cond.selects "LeanTower$Bishop" ({ cls := "LeanTower$Person", name := "ownKind", desc := "()I" } : Jvm.MethodName) ({ cls := "LeanTower$Bishop", name := "ownKind", desc := "()I" } : Jvm.MethodName)) ∈ WA := wa_of (mt_4 (i := 12) rfl) rfl
theorem q4_13 : (Jvm.Cond.instanceMethod ({ cls := "LeanTower$Bishop", name := "ownKind", desc := "()I" } : Jvm.MethodName)) ∈ WA := wa_of (mt_4 (i := 13) rfl) rfl
theorem q4_14 : (Jvm.Cond.code ({ cls := "LeanTower$Bishop", name := "ownKind", desc := "()I" } : Jvm.MethodName) prog_3_method_2_code (1 : Nat) (Option.some Jvm.ClassFile.FieldType.int)) ∈ WA := wa_of (mt_4 (i := 14) rfl) rfl
theorem q4_15 : (Jvm.Cond.selects "LeanTower$Boy" ({ cls := "LeanTower$Person", name := "ownKind", desc := "()I" } : Jvm.MethodName) ({ cls := "LeanTower$Boy", name := "ownKind", desc := "()I" } : Jvm.MethodName)) ∈ WA := wa_of (mt_4 (i := 15) rfl) rfl
theorem q4_16 : (Jvm.Cond.instanceMethod ({ cls := "LeanTower$Boy", name := "ownKind", desc := "()I" } : Jvm.MethodName)) ∈ WA := wa_of (mt_4 (i := 16) rfl) rfl
theorem q4_17 : (Jvm.Cond.code ({ cls := "LeanTower$Boy", name := "ownKind", desc := "()I" } : Jvm.MethodName) prog_4_method_2_code (1 : Nat) (Option.some Jvm.ClassFile.FieldType.int)) ∈ WA := wa_of (mt_4 (i := 17) rfl) rfl
theorem q4_18 : (Jvm.Cond.selects "LeanTower$Monk" ({ cls := "LeanTower$Person", name := "ownKind", desc := "()I" } : Jvm.MethodName) ({ cls := "LeanTower$Monk", name := "ownKind", desc := "()I" } : Jvm.MethodName)) ∈ WA := wa_of (mt_4 (i := 18) rfl) rfl
theorem q4_19 : (Jvm.Cond.instanceMethod ({ cls := "LeanTower$Monk", name := "ownKind", desc := "()I" } : Jvm.MethodName)) ∈ WA := wa_of (mt_4 (i := 19) rfl) rfl
theorem q4_20 : (Jvm.Cond.code ({ cls := "LeanTower$Monk", name := "ownKind", desc := "()I" } : Jvm.MethodName) prog_5_method_2_code (1 : Nat) (Option.some Jvm.ClassFile.FieldType.int)) ∈ WA := wa_of (mt_4 (i := 20) rfl) rfl
theorem q4_21 : (Jvm.Cond.selects "LeanTower$Pilgrim" ({ cls := "LeanTower$Person", name := "ownKind", desc := "()I" } : Jvm.MethodName) ({ cls := "LeanTower$Pilgrim", name := "ownKind", desc := "()I" } : Jvm.MethodName)) ∈ WA := wa_of (mt_4 (i := 21) rfl) rfl
theorem q4_22 : (Jvm.Cond.instanceMethod ({ cls := "LeanTower$Pilgrim", name := "ownKind", desc := "()I" } : Jvm.MethodName)) ∈ WA := wa_of (mt_4 (i := 22) rfl) rfl
theorem q4_23 : (Jvm.Cond.code ({ cls := "LeanTower$Pilgrim", name := "ownKind", desc := "()I" } : Jvm.MethodName) prog_7_method_2_code (1 : Nat) (Option.some Jvm.ClassFile.FieldType.int)) ∈ WA := wa_of (mt_4 (i := 23) rfl) rfl
theorem q4_24 : (Jvm.Cond.selects "LeanTower$Widow" ({ cls := "LeanTower$Person", name := "ownKind", desc := "()I" } : Jvm.MethodName) ({ cls := "LeanTower$Widow", name := "ownKind", desc := "()I" } : Jvm.MethodName)) ∈ WA := wa_of (mt_4 (i := 24) rfl) rfl
theorem q4_25 : (Jvm.Cond.instanceMethod ({ cls := "LeanTower$Widow", name := "ownKind", desc := "()I" } : Jvm.MethodName)) ∈ WA := wa_of (mt_4 (i := 25) rfl) rfl
theorem q4_26 : (Jvm.Cond.code ({ cls := "LeanTower$Widow", name := "ownKind", desc := "()I" } : Jvm.MethodName) prog_12_method_2_code (1 : Nat) (Option.some Jvm.ClassFile.FieldType.int)) ∈ WA := wa_of (mt_4 (i := 26) rfl) rfl
theorem q4_27 : (Jvm.Cond.methodLink "LeanTowerLaw" (122 : Nat) ({ cls := "LeanTower", name := "as", desc := "(II)I" } : Jvm.MethodName)) ∈ WA := wa_of (mt_4 (i := 27) rfl) rfl
theorem q4_28 : (Jvm.Cond.instanceMethod ({ cls := "LeanTower", name := "as", desc := "(II)I" } : Jvm.MethodName)) ∈ WA := wa_of (mt_4 (i := 28) rfl) rfl
theorem q4_29 : (Jvm.Cond.selects "LeanTower" ({ cls := "LeanTower", name := "as", desc := "(II)I" } : Jvm.MethodName) ({ cls := "LeanTower", name := "as", desc := "(II)I" } : Jvm.MethodName)) ∈ WA := wa_of (mt_4 (i := 29) rfl) rfl
theorem q4_30 : (Jvm.Cond.code ({ cls := "LeanTower", name := "as", desc := "(II)I" } : Jvm.MethodName) prog_1_method_27_code (4 : Nat) (Option.some Jvm.ClassFile.FieldType.int)) ∈ WA := wa_of (mt_4 (i := 30) rfl) rfl
theorem q4_31 : (Jvm.Cond.methodLink "LeanTower" (279 : Nat) ({ cls := "LeanTower", name := "isOne", desc := "(LLeanTower$Person;I)Z" } : Jvm.MethodName)) ∈ WA := wa_of (mt_4 (i := 31) rfl) rfl
theorem q4_32 : (Jvm.Cond.static ({ cls := "LeanTower", name := "isOne", desc := "(LLeanTower$Person;I)Z" } : Jvm.MethodName)) ∈ WA := wa_of (mt_4 (i := 32) rfl) rfl
theorem q4_33 : (Jvm.Cond.code ({ cls := "LeanTower", name := "isOne", desc := "(LLeanTower$Person;I)Z" } : Jvm.MethodName) prog_1_method_46_code (2 : Nat) (Option.some Jvm.ClassFile.FieldType.boolean)) ∈ WA := wa_of (mt_4 (i := 33) rfl) rfl
theorem q4_34 : (Jvm.Cond.classLink "LeanTower" (316 : Nat) "LeanTower$Pilgrim") ∈ WA := wa_of (mt_4 (i := 34) rfl) rfl
theorem q4_35 : (Jvm.Cond.classLink "LeanTower" (318 : Nat) "LeanTower$Widow") ∈ WA := wa_of (mt_4 (i := 35) rfl) rfl
theorem q4_36 : (Jvm.Cond.classLink "LeanTower" (320 : Nat) "LeanTower$Boy") ∈ WA := wa_of (mt_4 (i := 36) rfl) rfl
theorem q4_37 : (Jvm.Cond.classLink "LeanTower" (322 : Nat) "LeanTower$Monk") ∈ WA := wa_of (mt_4 (i := 37) rfl) rfl
theorem q4_38 : (Jvm.Cond.classLink "LeanTower" (324 : Nat) "LeanTower$Bishop") ∈ WA := wa_of (mt_4 (i := 38) rfl) rfl
theorem q4_39 : (Jvm.Cond.methodLink "LeanTowerLaw" (126 : Nat) ({ cls := "LeanTower", name := "ask", desc := "(II)I" } : Jvm.MethodName)) ∈ WA := wa_of (mt_4 (i := 39) rfl) rfl
theorem q4_40 : (Jvm.Cond.instanceMethod ({ cls := "LeanTower", name := "ask", desc := "(II)I" } : Jvm.MethodName)) ∈ WA := wa_of (mt_4 (i := 40) rfl) rfl
theorem q4_41 : (Jvm.Cond.selects "LeanTower" ({ cls := "LeanTower", name := "ask", desc := "(II)I" } : Jvm.MethodName) ({ cls := "LeanTower", name := "ask", desc := "(II)I" } : Jvm.MethodName)) ∈ WA := wa_of (mt_4 (i := 41) rfl) rfl
theorem q4_42 : (Jvm.Cond.code ({ cls := "LeanTower", name := "ask", desc := "(II)I" } : Jvm.MethodName) prog_1_method_28_code (4 : Nat) (Option.some Jvm.ClassFile.FieldType.int)) ∈ WA := wa_of (mt_4 (i := 42) rfl) rfl
theorem q4_43 : (Jvm.Cond.methodLink "LeanTower" (284 : Nat) ({ cls := "LeanTower$Person", name := "size", desc := "(LLeanTower$Trace;)I" } : Jvm.MethodName)) ∈ WA := wa_of (mt_4 (i := 43) rfl) rfl
theorem q4_44 : (Jvm.Cond.instanceMethod ({ cls := "LeanTower$Person", name := "size", desc := "(LLeanTower$Trace;)I" } : Jvm.MethodName)) ∈ WA := wa_of (mt_4 (i := 44) rfl) rfl
theorem q4_45 : (Jvm.Cond.sameMethod "LeanTower$Person" "LeanTower$Person" "size" "(LLeanTower$Trace;)I") ∈ WA := wa_of (mt_4 (i := 45) rfl) rfl
theorem q4_46 : (Jvm.Cond.selects "LeanTower$Bishop" ({ cls := "LeanTower$Person", name := "size", desc := "(LLeanTower$Trace;)I" } : Jvm.MethodName) ({ cls := "LeanTower$Bishop", name := "size", desc := "(LLeanTower$Trace;)I" } : Jvm.MethodName)) ∈ WA := wa_of (mt_4 (i := 46) rfl) rfl
theorem q4_47 : (Jvm.Cond.instanceMethod ({ cls := "LeanTower$Bishop", name := "size", desc := "(LLeanTower$Trace;)I" } : Jvm.MethodName)) ∈ WA := wa_of (mt_4 (i := 47) rfl) rfl
theorem q4_48 : (Jvm.Cond.code ({ cls := "LeanTower$Bishop", name := "size", desc := "(LLeanTower$Trace;)I" } : Jvm.MethodName) prog_3_method_4_code (2 : Nat) (Option.some Jvm.ClassFile.FieldType.int)) ∈ WA := wa_of (mt_4 (i := 48) rfl) rfl
theorem q4_49 : (Jvm.Cond.methodLink "LeanTower$Bishop" (9 : Nat) ({ cls := "LeanTower$Trace", name := "leave", desc := "(I)V" } : Jvm.MethodName)) ∈ WA := wa_of (mt_4 (i := 49) rfl) rfl
theorem q4_50 : (Jvm.Cond.instanceMethod ({ cls := "LeanTower$Trace", name := "leave", desc := "(I)V" } : Jvm.MethodName)) ∈ WA := wa_of (mt_4 (i := 50) rfl) rfl
theorem q4_51 : (Jvm.Cond.selects "LeanTower$Trace" ({ cls := "LeanTower$Trace", name := "leave", desc := "(I)V" } : Jvm.MethodName) ({ cls := "LeanTower$Trace", name := "leave", desc := "(I)V" } : Jvm.MethodName)) ∈ WA := wa_of (mt_4 (i := 51) rfl) rfl
theorem q4_52 : (Jvm.Cond.code ({ cls := "LeanTower$Trace", name := "leave", desc := "(I)V" } : Jvm.MethodName) prog_11_method_2_code (2 : Nat) (Option.none : Option Jvm.ClassFile.FieldType)) ∈ WA := wa_of (mt_4 (i := 52) rfl) rfl
theorem q4_53 : (Jvm.Cond.methodLink "LeanTower$Bishop" (15 : Nat) ({ cls := "LeanTower$Monk", name := "size", desc := "(LLeanTower$Trace;)I" } : Jvm.MethodName)) ∈ WA := wa_of (mt_4 (i := 53) rfl) rfl
theorem q4_54 : (Jvm.Cond.instanceMethod ({ cls := "LeanTower$Monk", name := "size", desc := "(LLeanTower$Trace;)I" } : Jvm.MethodName)) ∈ WA := wa_of (mt_4 (i := 54) rfl) rfl
theorem q4_55 : (Jvm.Cond.code ({ cls := "LeanTower$Monk", name := "size", desc := "(LLeanTower$Trace;)I" } : Jvm.MethodName) prog_5_method_4_code (2 : Nat) (Option.some Jvm.ClassFile.FieldType.int)) ∈ WA := wa_of (mt_4 (i := 55) rfl) rfl
theorem q4_56 : (Jvm.Cond.methodLink "LeanTower$Monk" (9 : Nat) ({ cls := "LeanTower$Trace", name := "leave", desc := "(I)V" } : Jvm.MethodName)) ∈ WA := wa_of (mt_4 (i := 56) rfl) rfl
theorem q4_57 : (Jvm.Cond.methodLink "LeanTower$Monk" (15 : Nat) ({ cls := "LeanTower$Person", name := "size", desc := "(LLeanTower$Trace;)I" } : Jvm.MethodName)) ∈ WA := wa_of (mt_4 (i := 57) rfl) rfl
theorem q4_58 : (Jvm.Cond.selects "LeanTower$Boy" ({ cls := "LeanTower$Person", name := "size", desc := "(LLeanTower$Trace;)I" } : Jvm.MethodName) ({ cls := "LeanTower$Boy", name := "size", desc := "(LLeanTower$Trace;)I" } : Jvm.MethodName)) ∈ WA := wa_of (mt_4 (i := 58) rfl) rfl
theorem q4_59 : (Jvm.Cond.instanceMethod ({ cls := "LeanTower$Boy", name := "size", desc := "(LLeanTower$Trace;)I" } : Jvm.MethodName)) ∈ WA := wa_of (mt_4 (i := 59) rfl) rfl
theorem q4_60 : (Jvm.Cond.code ({ cls := "LeanTower$Boy", name := "size", desc := "(LLeanTower$Trace;)I" } : Jvm.MethodName) prog_4_method_3_code (2 : Nat) (Option.some Jvm.ClassFile.FieldType.int)) ∈ WA := wa_of (mt_4 (i := 60) rfl) rfl
theorem q4_61 : (Jvm.Cond.methodLink "LeanTower$Boy" (9 : Nat) ({ cls := "LeanTower$Trace", name := "leave", desc := "(I)V" } : Jvm.MethodName)) ∈ WA := wa_of (mt_4 (i := 61) rfl) rfl
theorem q4_62 : (Jvm.Cond.methodLink "LeanTower$Boy" (15 : Nat) ({ cls := "LeanTower$Pilgrim", name := "size", desc := "(LLeanTower$Trace;)I" } : Jvm.MethodName)) ∈ WA := wa_of (mt_4 (i := 62) rfl) rfl
theorem q4_63 : (Jvm.Cond.instanceMethod ({ cls := "LeanTower$Pilgrim", name := "size", desc := "(LLeanTower$Trace;)I" } : Jvm.MethodName)) ∈ WA := wa_of (mt_4 (i := 63) rfl) rfl
theorem q4_64 : (Jvm.Cond.code ({ cls := "LeanTower$Pilgrim", name := "size", desc := "(LLeanTower$Trace;)I" } : Jvm.MethodName) prog_7_method_3_code (3 : Nat) (Option.some Jvm.ClassFile.FieldType.int)) ∈ WA := wa_of (mt_4 (i := 64) rfl) rfl
theorem q4_65 : (Jvm.Cond.methodLink "LeanTower$Pilgrim" (9 : Nat) ({ cls := "LeanTower$Trace", name := "leave", desc := "(I)V" } : Jvm.MethodName)) ∈ WA := wa_of (mt_4 (i := 65) rfl) rfl
theorem q4_66 : (Jvm.Cond.methodLink "LeanTower$Pilgrim" (15 : Nat) ({ cls := "LeanTower$Person", name := "size", desc := "(LLeanTower$Trace;)I" } : Jvm.MethodName)) ∈ WA := wa_of (mt_4 (i := 66) rfl) rfl
theorem q4_67 : (Jvm.Cond.methodLink "LeanTower$Pilgrim" (19 : Nat) ({ cls := "LeanTower$Pilgrim", name := "mark", desc := "(LLeanTower$Trace;)I" } : Jvm.MethodName)) ∈ WA := wa_of (mt_4 (i := 67) rfl) rfl
theorem q4_68 : (Jvm.Cond.instanceMethod ({ cls := "LeanTower$Pilgrim", name := "mark", desc := "(LLeanTower$Trace;)I" } : Jvm.MethodName)) ∈ WA := wa_of (mt_4 (i := 68) rfl) rfl
theorem q4_69 : (Jvm.Cond.selects "LeanTower$Pilgrim" ({ cls := "LeanTower$Pilgrim", name := "mark", desc := "(LLeanTower$Trace;)I" } : Jvm.MethodName) ({ cls := "LeanTower$Pilgrim", name := "mark", desc := "(LLeanTower$Trace;)I" } : Jvm.MethodName)) ∈ WA := wa_of (mt_4 (i := 69) rfl) rfl
theorem q4_70 : (Jvm.Cond.sameMethod "LeanTower$Pilgrim" "LeanTower$Pilgrim" "mark" "(LLeanTower$Trace;)I") ∈ WA := wa_of (mt_4 (i := 70) rfl) rfl
theorem q4_71 : (Jvm.Cond.selects "LeanTower$Boy" ({ cls := "LeanTower$Pilgrim", name := "mark", desc := "(LLeanTower$Trace;)I" } : Jvm.MethodName) ({ cls := "LeanTower$Boy", name := "mark", desc := "(LLeanTower$Trace;)I" } : Jvm.MethodName)) ∈ WA := wa_of (mt_4 (i := 71) rfl) rfl
theorem q4_72 : (Jvm.Cond.instanceMethod ({ cls := "LeanTower$Boy", name := "mark", desc := "(LLeanTower$Trace;)I" } : Jvm.MethodName)) ∈ WA := wa_of (mt_4 (i := 72) rfl) rfl
theorem q4_73 : (Jvm.Cond.code ({ cls := "LeanTower$Boy", name := "mark", desc := "(LLeanTower$Trace;)I" } : Jvm.MethodName) prog_4_method_4_code (2 : Nat) (Option.some Jvm.ClassFile.FieldType.int)) ∈ WA := wa_of (mt_4 (i := 73) rfl) rfl
theorem q4_74 : (Jvm.Cond.methodLink "LeanTower$Boy" (19 : Nat) ({ cls := "LeanTower$Pilgrim", name := "mark", desc := "(LLeanTower$Trace;)I" } : Jvm.MethodName)) ∈ WA := wa_of (mt_4 (i := 74) rfl) rfl
theorem q4_75 : (Jvm.Cond.selects "LeanTower$Widow" ({ cls := "LeanTower$Pilgrim", name := "mark", desc := "(LLeanTower$Trace;)I" } : Jvm.MethodName) ({ cls := "LeanTower$Widow", name := "mark", desc := "(LLeanTower$Trace;)I" } : Jvm.MethodName)) ∈ WA := wa_of (mt_4 (i := 75) rfl) rfl
theorem q4_76 : (Jvm.Cond.instanceMethod ({ cls := "LeanTower$Widow", name := "mark", desc := "(LLeanTower$Trace;)I" } : Jvm.MethodName)) ∈ WA := wa_of (mt_4 (i := 76) rfl) rfl
theorem q4_77 : (Jvm.Cond.code ({ cls := "LeanTower$Widow", name := "mark", desc := "(LLeanTower$Trace;)I" } : Jvm.MethodName) prog_12_method_3_code (2 : Nat) (Option.some Jvm.ClassFile.FieldType.int)) ∈ WA := wa_of (mt_4 (i := 77) rfl) rfl
theorem q4_78 : (Jvm.Cond.methodLink "LeanTower$Widow" (9 : Nat) ({ cls := "LeanTower$Trace", name := "leave", desc := "(I)V" } : Jvm.MethodName)) ∈ WA := wa_of (mt_4 (i := 78) rfl) rfl
theorem q4_79 : (Jvm.Cond.methodLink "LeanTower$Widow" (15 : Nat) ({ cls := "LeanTower$Pilgrim", name := "mark", desc := "(LLeanTower$Trace;)I" } : Jvm.MethodName)) ∈ WA := wa_of (mt_4 (i := 79) rfl) rfl
theorem q4_80 : (Jvm.Cond.code ({ cls := "LeanTower$Pilgrim", name := "mark", desc := "(LLeanTower$Trace;)I" } : Jvm.MethodName) prog_7_method_4_code (2 : Nat) (Option.some Jvm.ClassFile.FieldType.int)) ∈ WA := wa_of (mt_4 (i := 80) rfl) rfl
theorem q4_81 : (Jvm.Cond.methodLink "LeanTower$Pilgrim" (24 : Nat) ({ cls := "LeanTower$Person", name := "mark", desc := "(LLeanTower$Trace;)I" } : Jvm.MethodName)) ∈ WA := wa_of (mt_4 (i := 81) rfl) rfl
theorem q4_82 : (Jvm.Cond.instanceMethod ({ cls := "LeanTower$Person", name := "mark", desc := "(LLeanTower$Trace;)I" } : Jvm.MethodName)) ∈ WA := wa_of (mt_4 (i := 82) rfl) rfl
theorem q4_83 : (Jvm.Cond.code ({ cls := "LeanTower$Person", name := "mark", desc := "(LLeanTower$Trace;)I" } : Jvm.MethodName) prog_6_method_5_code (2 : Nat) (Option.some Jvm.ClassFile.FieldType.int)) ∈ WA := wa_of (mt_4 (i := 83) rfl) rfl
theorem q4_84 : (Jvm.Cond.methodLink "LeanTower$Person" (19 : Nat) ({ cls := "LeanTower$Trace", name := "leave", desc := "(I)V" } : Jvm.MethodName)) ∈ WA := wa_of (mt_4 (i := 84) rfl) rfl
theorem q4_85 : (Jvm.Cond.selects "LeanTower$Monk" ({ cls := "LeanTower$Person", name := "size", desc := "(LLeanTower$Trace;)I" } : Jvm.MethodName) ({ cls := "LeanTower$Monk", name := "size", desc := "(LLeanTower$Trace;)I" } : Jvm.MethodName)) ∈ WA := wa_of (mt_4 (i := 85) rfl) rfl
theorem q4_86 : (Jvm.Cond.selects "LeanTower$Pilgrim" ({ cls := "LeanTower$Person", name := "size", desc := "(LLeanTower$Trace;)I" } : Jvm.MethodName) ({ cls := "LeanTower$Pilgrim", name := "size", desc := "(LLeanTower$Trace;)I" } : Jvm.MethodName)) ∈ WA := wa_of (mt_4 (i := 86) rfl) rfl
theorem q4_87 : (Jvm.Cond.selects "LeanTower$Widow" ({ cls := "LeanTower$Person", name := "size", desc := "(LLeanTower$Trace;)I" } : Jvm.MethodName) ({ cls := "LeanTower$Pilgrim", name := "size", desc := "(LLeanTower$Trace;)I" } : Jvm.MethodName)) ∈ WA := wa_of (mt_4 (i := 87) rfl) rfl
theorem q4_88 : (Jvm.Cond.code ({ cls := "LeanTower$Person", name := "size", desc := "(LLeanTower$Trace;)I" } : Jvm.MethodName) prog_6_method_4_code (2 : Nat) (Option.some Jvm.ClassFile.FieldType.int)) ∈ WA := wa_of (mt_4 (i := 88) rfl) rfl
theorem q4_89 : (Jvm.Cond.methodLink "LeanTower" (288 : Nat) ({ cls := "LeanTower$Person", name := "mark", desc := "(LLeanTower$Trace;)I" } : Jvm.MethodName)) ∈ WA := wa_of (mt_4 (i := 89) rfl) rfl
theorem q4_90 : (Jvm.Cond.instanceMethod ({ cls := "LeanTower$Monk", name := "mark", desc := "(LLeanTower$Trace;)I" } : Jvm.MethodName)) ∈ WA := wa_of (mt_4 (i := 90) rfl) rfl
theorem q4_91 : (Jvm.Cond.code ({ cls := "LeanTower$Monk", name := "mark", desc := "(LLeanTower$Trace;)I" } : Jvm.MethodName) prog_5_method_5_code (3 : Nat) (Option.some Jvm.ClassFile.FieldType.int)) ∈ WA := wa_of (mt_4 (i := 91) rfl) rfl
theorem q4_92 : (Jvm.Cond.methodLink "LeanTower$Monk" (19 : Nat) ({ cls := "LeanTower$Person", name := "mark", desc := "(LLeanTower$Trace;)I" } : Jvm.MethodName)) ∈ WA := wa_of (mt_4 (i := 92) rfl) rfl
theorem q4_93 : (Jvm.Cond.methodLink "LeanTower$Monk" (22 : Nat) ({ cls := "LeanTower$Monk", name := "size", desc := "(LLeanTower$Trace;)I" } : Jvm.MethodName)) ∈ WA := wa_of (mt_4 (i := 93) rfl) rfl
theorem q4_94 : (Jvm.Cond.methodLink "LeanTowerLaw" (130 : Nat) ({ cls := "LeanTower", name := "trace", desc := "(I)I" } : Jvm.MethodName)) ∈ WA := wa_of (mt_4 (i := 94) rfl) rfl
theorem q4_95 : (Jvm.Cond.instanceMethod ({ cls := "LeanTower", name := "trace", desc := "(I)I" } : Jvm.MethodName)) ∈ WA := wa_of (mt_4 (i := 95) rfl) rfl
theorem q4_96 : (Jvm.Cond.selects "LeanTower" ({ cls := "LeanTower", name := "trace", desc := "(I)I" } : Jvm.MethodName) ({ cls := "LeanTower", name := "trace", desc := "(I)I" } : Jvm.MethodName)) ∈ WA := wa_of (mt_4 (i := 96) rfl) rfl
theorem q4_97 : (Jvm.Cond.code ({ cls := "LeanTower", name := "trace", desc := "(I)I" } : Jvm.MethodName) prog_1_method_29_code (2 : Nat) (Option.some Jvm.ClassFile.FieldType.int)) ∈ WA := wa_of (mt_4 (i := 97) rfl) rfl
theorem q4_98 : (Jvm.Cond.methodLink "LeanTowerLaw" (134 : Nat) ({ cls := "LeanTower", name := "count", desc := "(I)I" } : Jvm.MethodName)) ∈ WA := wa_of (mt_4 (i := 98) rfl) rfl
theorem q4_99 : (Jvm.Cond.instanceMethod ({ cls := "LeanTower", name := "count", desc := "(I)I" } : Jvm.MethodName)) ∈ WA := wa_of (mt_4 (i := 99) rfl) rfl
theorem q4_100 : (Jvm.Cond.selects "LeanTower" ({ cls := "LeanTower", name := "count", desc := "(I)I" } : Jvm.MethodName) ({ cls := "LeanTower", name := "count", desc := "(I)I" } : Jvm.MethodName)) ∈ WA := wa_of (mt_4 (i := 100) rfl) rfl
theorem q4_101 : (Jvm.Cond.code ({ cls := "LeanTower", name := "count", desc := "(I)I" } : Jvm.MethodName) prog_1_method_30_code (2 : Nat) (Option.some Jvm.ClassFile.FieldType.int)) ∈ WA := wa_of (mt_4 (i := 101) rfl) rfl
theorem q4_102 : (Jvm.Cond.methodLink "LeanTower" (294 : Nat) ({ cls := "LeanTower", name := "rowsThere", desc := "()I" } : Jvm.MethodName)) ∈ WA := wa_of (mt_4 (i := 102) rfl) rfl
theorem q4_103 : (Jvm.Cond.privateMethod ({ cls := "LeanTower", name := "rowsThere", desc := "()I" } : Jvm.MethodName)) ∈ lw_tbl := mt_4 (i := 103) rfl
theorem q4_104 : (Jvm.Cond.instanceMethod ({ cls := "LeanTower", name := "rowsThere", desc := "()I" } : Jvm.MethodName)) ∈ WA := wa_of (mt_4 (i := 104) rfl) rfl
theorem q4_105 : (Jvm.Cond.code ({ cls := "LeanTower", name := "rowsThere", desc := "()I" } : Jvm.MethodName) prog_1_method_33_code (3 : Nat) (Option.some Jvm.ClassFile.FieldType.int)) ∈ WA := wa_of (mt_4 (i := 105) rfl) rfl
theorem q4_106 : (Jvm.Cond.methodLink "LeanTowerLaw" (138 : Nat) ({ cls := "LeanTower", name := "status", desc := "()I" } : Jvm.MethodName)) ∈ WA := wa_of (mt_4 (i := 106) rfl) rfl
theorem q4_107 : (Jvm.Cond.instanceMethod ({ cls := "LeanTower", name := "status", desc := "()I" } : Jvm.MethodName)) ∈ WA := wa_of (mt_4 (i := 107) rfl) rfl
theorem q4_108 : (Jvm.Cond.selects "LeanTower" ({ cls := "LeanTower", name := "status", desc := "()I" } : Jvm.MethodName) ({ cls := "LeanTower", name := "status", desc := "()I" } : Jvm.MethodName)) ∈ WA := wa_of (mt_4 (i := 108) rfl) rfl
theorem q4_109 : (Jvm.Cond.code ({ cls := "LeanTower", name := "status", desc := "()I" } : Jvm.MethodName) prog_1_method_31_code (1 : Nat) (Option.some Jvm.ClassFile.FieldType.int)) ∈ WA := wa_of (mt_4 (i := 109) rfl) rfl
theorem q4_110 : (Jvm.Cond.classLink "LeanTowerLaw" (10 : Nat) "LeanTowerModel") ∈ WA := wa_of (mt_4 (i := 110) rfl) rfl
theorem q4_111 : (Jvm.Cond.instantiable "LeanTowerModel" (21 : Nat)) ∈ WA := wa_of (mt_4 (i := 111) rfl) rfl
theorem q4_112 : (Jvm.Cond.methodLink "LeanTowerLaw" (12 : Nat) ({ cls := "LeanTowerModel", name := "<init>", desc := "()V" } : Jvm.MethodName)) ∈ WA := wa_of (mt_4 (i := 112) rfl) rfl
theorem q4_113 : (Jvm.Cond.instanceMethod ({ cls := "LeanTowerModel", name := "<init>", desc := "()V" } : Jvm.MethodName)) ∈ WA := wa_of (mt_4 (i := 113) rfl) rfl
theorem q4_114 : (Jvm.Cond.code ({ cls := "LeanTowerModel", name := "<init>", desc := "()V" } : Jvm.MethodName) prog_14_method_1_code (2 : Nat) (Option.none : Option Jvm.ClassFile.FieldType)) ∈ WA := wa_of (mt_4 (i := 114) rfl) rfl
theorem q4_115 : (Jvm.Cond.methodLink "LeanTowerModel" (1 : Nat) ({ cls := "java/lang/Object", name := "<init>", desc := "()V" } : Jvm.MethodName)) ∈ WA := wa_of (mt_4 (i := 115) rfl) rfl
theorem q4_116 : (Jvm.Cond.fieldLink "LeanTowerModel" (7 : Nat) "LeanTowerModel" "w" "[I") ∈ WA := wa_of (mt_4 (i := 116) rfl) rfl
theorem q4_117 : (Jvm.Cond.fieldLink "LeanTowerModel" (13 : Nat) "LeanTowerModel" "isKept" "[Z") ∈ WA := wa_of (mt_4 (i := 117) rfl) rfl
theorem q4_118 : (Jvm.Cond.fieldLink "LeanTowerModel" (17 : Nat) "LeanTowerModel" "items" "[I") ∈ WA := wa_of (mt_4 (i := 118) rfl) rfl
theorem q4_119 : (Jvm.Cond.fieldLink "LeanTowerModel" (20 : Nat) "LeanTowerModel" "lanes" "[I") ∈ WA := wa_of (mt_4 (i := 119) rfl) rfl
theorem q4_120 : (Jvm.Cond.fieldLink "LeanTowerModel" (23 : Nat) "LeanTowerModel" "sizes" "[I") ∈ WA := wa_of (mt_4 (i := 120) rfl) rfl
theorem q4_121 : (Jvm.Cond.fieldLink "LeanTowerModel" (26 : Nat) "LeanTowerModel" "tape" "[I") ∈ WA := wa_of (mt_4 (i := 121) rfl) rfl
theorem q4_122 : (Jvm.Cond.fieldLink "LeanTowerModel" (69 : Nat) "LeanTowerModel" "taped" "I") ∈ WA := wa_of (mt_4 (i := 122) rfl) rfl
theorem q4_123 : (Jvm.Cond.fieldLink "LeanTowerModel" (150 : Nat) "LeanTowerModel" "latest" "I") ∈ WA := wa_of (mt_4 (i := 123) rfl) rfl
theorem q4_124 : (Jvm.Cond.fieldLink "LeanTowerModel" (44 : Nat) "LeanTowerModel" "status" "I") ∈ WA := wa_of (mt_4 (i := 124) rfl) rfl
theorem q4_125 : (Jvm.Cond.fieldLink "LeanTowerModel" (158 : Nat) "LeanTowerModel" "undoable" "I") ∈ WA := wa_of (mt_4 (i := 125) rfl) rfl
theorem q4_126 : (Jvm.Cond.fieldLink "LeanTowerModel" (29 : Nat) "LeanTowerModel" "hand" "[I") ∈ WA := wa_of (mt_4 (i := 126) rfl) rfl
theorem q4_127 : (Jvm.Cond.fieldLink "LeanTowerModel" (75 : Nat) "LeanTowerModel" "at" "I") ∈ WA := wa_of (mt_4 (i := 127) rfl) rfl
theorem q4_128 : (Jvm.Cond.fieldLink "LeanTowerModel" (78 : Nat) "LeanTowerModel" "from" "I") ∈ WA := wa_of (mt_4 (i := 128) rfl) rfl
theorem q4_129 : (Jvm.Cond.fieldLink "LeanTowerModel" (81 : Nat) "LeanTowerModel" "token" "I") ∈ WA := wa_of (mt_4 (i := 129) rfl) rfl
theorem q4_130 : (Jvm.Cond.fieldLink "LeanTowerModel" (84 : Nat) "LeanTowerModel" "letters" "J") ∈ WA := wa_of (mt_4 (i := 130) rfl) rfl
theorem q4_131 : (Jvm.Cond.fieldLink "LeanTowerModel" (88 : Nat) "LeanTowerModel" "figures" "I") ∈ WA := wa_of (mt_4 (i := 131) rfl) rfl
theorem q4_132 : (Jvm.Cond.fieldLink "LeanTowerModel" (105 : Nat) "LeanTowerModel" "fault" "I") ∈ WA := wa_of (mt_4 (i := 132) rfl) rfl
theorem q4_133 : (Jvm.Cond.fieldLink "LeanTowerModel" (208 : Nat) "LeanTowerModel" "firstBeyond" "I") ∈ WA := wa_of (mt_4 (i := 133) rfl) rfl
theorem q4_134 : (Jvm.Cond.fieldLink "LeanTowerModel" (32 : Nat) "LeanTowerModel" "canAll" "[Z") ∈ WA := wa_of (mt_4 (i := 134) rfl) rfl
theorem q4_135 : (Jvm.Cond.fieldLink "LeanTowerModel" (35 : Nat) "LeanTowerModel" "traces" "[I") ∈ WA := wa_of (mt_4 (i := 135) rfl) rfl
theorem q4_136 : (Jvm.Cond.fieldLink "LeanTowerModel" (239 : Nat) "LeanTowerModel" "traced" "I") ∈ WA := wa_of (mt_4 (i := 136) rfl) rfl
theorem q4_137 : (Jvm.Cond.laysFinal "LeanTowerModel" "LeanTowerModel" "w" "[I") ∈ WA := wa_of (mt_4 (i := 137) rfl) rfl
theorem q4_138 : (Jvm.Cond.soleField "LeanTowerModel" "w") ∈ WA := wa_of (mt_4 (i := 138) rfl) rfl
theorem q4_139 : (Jvm.Cond.laysFinal "LeanTowerModel" "LeanTowerModel" "isKept" "[Z") ∈ WA := wa_of (mt_4 (i := 139) rfl) rfl
theorem q4_140 : (Jvm.Cond.soleField "LeanTowerModel" "isKept") ∈ WA := wa_of (mt_4 (i := 140) rfl) rfl
theorem q4_141 : (Jvm.Cond.laysFinal "LeanTowerModel" "LeanTowerModel" "items" "[I") ∈ WA := wa_of (mt_4 (i := 141) rfl) rfl
theorem q4_142 : (Jvm.Cond.soleField "LeanTowerModel" "items") ∈ WA := wa_of (mt_4 (i := 142) rfl) rfl
theorem q4_143 : (Jvm.Cond.laysFinal "LeanTowerModel" "LeanTowerModel" "lanes" "[I") ∈ WA := wa_of (mt_4 (i := 143) rfl) rfl
theorem q4_144 : (Jvm.Cond.soleField "LeanTowerModel" "lanes") ∈ WA := wa_of (mt_4 (i := 144) rfl) rfl
theorem q4_145 : (Jvm.Cond.laysFinal "LeanTowerModel" "LeanTowerModel" "sizes" "[I") ∈ WA := wa_of (mt_4 (i := 145) rfl) rfl
theorem q4_146 : (Jvm.Cond.soleField "LeanTowerModel" "sizes") ∈ WA := wa_of (mt_4 (i := 146) rfl) rfl
theorem q4_147 : (Jvm.Cond.laysFinal "LeanTowerModel" "LeanTowerModel" "tape" "[I") ∈ WA := wa_of (mt_4 (i := 147) rfl) rfl
theorem q4_148 : (Jvm.Cond.soleField "LeanTowerModel" "tape") ∈ WA := wa_of (mt_4 (i := 148) rfl) rfl
theorem q4_149 : (Jvm.Cond.lays "LeanTowerModel" "LeanTowerModel" "taped" "I") ∈ WA := wa_of (mt_4 (i := 149) rfl) rfl
theorem q4_150 : (Jvm.Cond.soleField "LeanTowerModel" "taped") ∈ WA := wa_of (mt_4 (i := 150) rfl) rfl
theorem q4_151 : (Jvm.Cond.lays "LeanTowerModel" "LeanTowerModel" "latest" "I") ∈ WA := wa_of (mt_4 (i := 151) rfl) rfl
theorem q4_152 : (Jvm.Cond.soleField "LeanTowerModel" "latest") ∈ WA := wa_of (mt_4 (i := 152) rfl) rfl
theorem q4_153 : (Jvm.Cond.lays "LeanTowerModel" "LeanTowerModel" "status" "I") ∈ WA := wa_of (mt_4 (i := 153) rfl) rfl
theorem q4_154 : (Jvm.Cond.soleField "LeanTowerModel" "status") ∈ WA := wa_of (mt_4 (i := 154) rfl) rfl
theorem q4_155 : (Jvm.Cond.lays "LeanTowerModel" "LeanTowerModel" "undoable" "I") ∈ WA := wa_of (mt_4 (i := 155) rfl) rfl
theorem q4_156 : (Jvm.Cond.soleField "LeanTowerModel" "undoable") ∈ WA := wa_of (mt_4 (i := 156) rfl) rfl
theorem q4_157 : (Jvm.Cond.laysFinal "LeanTowerModel" "LeanTowerModel" "hand" "[I") ∈ WA := wa_of (mt_4 (i := 157) rfl) rfl
theorem q4_158 : (Jvm.Cond.soleField "LeanTowerModel" "hand") ∈ WA := wa_of (mt_4 (i := 158) rfl) rfl
theorem q4_159 : (Jvm.Cond.lays "LeanTowerModel" "LeanTowerModel" "at" "I") ∈ WA := wa_of (mt_4 (i := 159) rfl) rfl
theorem q4_160 : (Jvm.Cond.soleField "LeanTowerModel" "at") ∈ WA := wa_of (mt_4 (i := 160) rfl) rfl
theorem q4_161 : (Jvm.Cond.lays "LeanTowerModel" "LeanTowerModel" "from" "I") ∈ WA := wa_of (mt_4 (i := 161) rfl) rfl
theorem q4_162 : (Jvm.Cond.soleField "LeanTowerModel" "from") ∈ WA := wa_of (mt_4 (i := 162) rfl) rfl
theorem q4_163 : (Jvm.Cond.lays "LeanTowerModel" "LeanTowerModel" "token" "I") ∈ WA := wa_of (mt_4 (i := 163) rfl) rfl
theorem q4_164 : (Jvm.Cond.soleField "LeanTowerModel" "token") ∈ WA := wa_of (mt_4 (i := 164) rfl) rfl
theorem q4_165 : (Jvm.Cond.lays "LeanTowerModel" "LeanTowerModel" "letters" "J") ∈ WA := wa_of (mt_4 (i := 165) rfl) rfl
theorem q4_166 : (Jvm.Cond.soleField "LeanTowerModel" "letters") ∈ WA := wa_of (mt_4 (i := 166) rfl) rfl
theorem q4_167 : (Jvm.Cond.lays "LeanTowerModel" "LeanTowerModel" "figures" "I") ∈ WA := wa_of (mt_4 (i := 167) rfl) rfl
theorem q4_168 : (Jvm.Cond.soleField "LeanTowerModel" "figures") ∈ WA := wa_of (mt_4 (i := 168) rfl) rfl
theorem q4_169 : (Jvm.Cond.lays "LeanTowerModel" "LeanTowerModel" "fault" "I") ∈ WA := wa_of (mt_4 (i := 169) rfl) rfl
theorem q4_170 : (Jvm.Cond.soleField "LeanTowerModel" "fault") ∈ WA := wa_of (mt_4 (i := 170) rfl) rfl
theorem q4_171 : (Jvm.Cond.lays "LeanTowerModel" "LeanTowerModel" "firstBeyond" "I") ∈ WA := wa_of (mt_4 (i := 171) rfl) rfl
theorem q4_172 : (Jvm.Cond.soleField "LeanTowerModel" "firstBeyond") ∈ WA := wa_of (mt_4 (i := 172) rfl) rfl
theorem q4_173 : (Jvm.Cond.laysFinal "LeanTowerModel" "LeanTowerModel" "canAll" "[Z") ∈ WA := wa_of (mt_4 (i := 173) rfl) rfl
theorem q4_174 : (Jvm.Cond.soleField "LeanTowerModel" "canAll") ∈ WA := wa_of (mt_4 (i := 174) rfl) rfl
theorem q4_175 : (Jvm.Cond.laysFinal "LeanTowerModel" "LeanTowerModel" "traces" "[I") ∈ WA := wa_of (mt_4 (i := 175) rfl) rfl
theorem q4_176 : (Jvm.Cond.soleField "LeanTowerModel" "traces") ∈ WA := wa_of (mt_4 (i := 176) rfl) rfl
theorem q4_177 : (Jvm.Cond.lays "LeanTowerModel" "LeanTowerModel" "traced" "I") ∈ WA := wa_of (mt_4 (i := 177) rfl) rfl
theorem q4_178 : (Jvm.Cond.soleField "LeanTowerModel" "traced") ∈ WA := wa_of (mt_4 (i := 178) rfl) rfl
theorem q4_179 : (Jvm.Cond.superclass "LeanTowerModel" "java/lang/Object") ∈ WA := wa_of (mt_4 (i := 179) rfl) rfl
theorem q4_180 : (Jvm.Cond.methodLink "LeanTowerLaw" (17 : Nat) ({ cls := "LeanTowerModel", name := "row", desc := "(III)I" } : Jvm.MethodName)) ∈ WA := wa_of (mt_4 (i := 180) rfl) rfl
theorem q4_181 : (Jvm.Cond.instanceMethod ({ cls := "LeanTowerModel", name := "row", desc := "(III)I" } : Jvm.MethodName)) ∈ WA := wa_of (mt_4 (i := 181) rfl) rfl
theorem q4_182 : (Jvm.Cond.selects "LeanTowerModel" ({ cls := "LeanTowerModel", name := "row", desc := "(III)I" } : Jvm.MethodName) ({ cls := "LeanTowerModel", name := "row", desc := "(III)I" } : Jvm.MethodName)) ∈ WA := wa_of (mt_4 (i := 182) rfl) rfl
theorem q4_183 : (Jvm.Cond.code ({ cls := "LeanTowerModel", name := "row", desc := "(III)I" } : Jvm.MethodName) prog_14_method_13_code (5 : Nat) (Option.some Jvm.ClassFile.FieldType.int)) ∈ WA := wa_of (mt_4 (i := 183) rfl) rfl
theorem q4_184 : (Jvm.Cond.methodLink "LeanTowerModel" (49 : Nat) ({ cls := "LeanTowerModel", name := "isRow", desc := "(I)Z" } : Jvm.MethodName)) ∈ WA := wa_of (mt_4 (i := 184) rfl) rfl
theorem q4_185 : (Jvm.Cond.static ({ cls := "LeanTowerModel", name := "isRow", desc := "(I)Z" } : Jvm.MethodName)) ∈ WA := wa_of (mt_4 (i := 185) rfl) rfl
theorem q4_186 : (Jvm.Cond.code ({ cls := "LeanTowerModel", name := "isRow", desc := "(I)Z" } : Jvm.MethodName) prog_14_method_9_code (1 : Nat) (Option.some Jvm.ClassFile.FieldType.boolean)) ∈ WA := wa_of (mt_4 (i := 186) rfl) rfl
theorem q4_187 : (Jvm.Cond.constantLong "LeanTowerModel" (38 : Nat) (7 : Int64)) ∈ WA := wa_of (mt_4 (i := 187) rfl) rfl
theorem q4_188 : (Jvm.Cond.methodLink "LeanTowerModel" (40 : Nat) ({ cls := "LeanTowerModel", name := "in", desc := "(JJJ)Z" } : Jvm.MethodName)) ∈ WA := wa_of (mt_4 (i := 188) rfl) rfl
theorem q4_189 : (Jvm.Cond.static ({ cls := "LeanTowerModel", name := "in", desc := "(JJJ)Z" } : Jvm.MethodName)) ∈ WA := wa_of (mt_4 (i := 189) rfl) rfl
theorem q4_190 : (Jvm.Cond.code ({ cls := "LeanTowerModel", name := "in", desc := "(JJJ)Z" } : Jvm.MethodName) prog_14_method_3_code (6 : Nat) (Option.some Jvm.ClassFile.FieldType.boolean)) ∈ WA := wa_of (mt_4 (i := 190) rfl) rfl
theorem q4_191 : (Jvm.Cond.constantLong "LeanTowerModel" (53 : Nat) (2 : Int64)) ∈ WA := wa_of (mt_4 (i := 191) rfl) rfl
theorem q4_192 : (Jvm.Cond.constant "LeanTowerModel" (55 : Nat) (-1000001 : Int32)) ∈ WA := wa_of (mt_4 (i := 192) rfl) rfl
theorem q4_193 : (Jvm.Cond.methodLink "LeanTowerModel" (56 : Nat) ({ cls := "LeanTowerModel", name := "met", desc := "(I)I" } : Jvm.MethodName)) ∈ WA := wa_of (mt_4 (i := 193) rfl) rfl
theorem q4_194 : (Jvm.Cond.privateMethod ({ cls := "LeanTowerModel", name := "met", desc := "(I)I" } : Jvm.MethodName)) ∈ lw_tbl := mt_4 (i := 194) rfl
theorem q4_195 : (Jvm.Cond.instanceMethod ({ cls := "LeanTowerModel", name := "met", desc := "(I)I" } : Jvm.MethodName)) ∈ WA := wa_of (mt_4 (i := 195) rfl) rfl
theorem q4_196 : (Jvm.Cond.code ({ cls := "LeanTowerModel", name := "met", desc := "(I)I" } : Jvm.MethodName) prog_14_method_10_code (2 : Nat) (Option.some Jvm.ClassFile.FieldType.int)) ∈ WA := wa_of (mt_4 (i := 196) rfl) rfl
theorem q4_197 : (Jvm.Cond.constant "LeanTowerModel" (48 : Nat) (-1000010 : Int32)) ∈ WA := wa_of (mt_4 (i := 197) rfl) rfl
theorem q4_198 : (Jvm.Cond.methodLink "LeanTowerModel" (60 : Nat) ({ cls := "LeanTowerModel", name := "fine", desc := "(I)I" } : Jvm.MethodName)) ∈ WA := wa_of (mt_4 (i := 198) rfl) rfl
theorem q4_199 : (Jvm.Cond.privateMethod ({ cls := "LeanTowerModel", name := "fine", desc := "(I)I" } : Jvm.MethodName)) ∈ lw_tbl := mt_4 (i := 199) rfl
theorem q4_200 : (Jvm.Cond.instanceMethod ({ cls := "LeanTowerModel", name := "fine", desc := "(I)I" } : Jvm.MethodName)) ∈ WA := wa_of (mt_4 (i := 200) rfl) rfl
theorem q4_201 : (Jvm.Cond.code ({ cls := "LeanTowerModel", name := "fine", desc := "(I)I" } : Jvm.MethodName) prog_14_method_11_code (2 : Nat) (Option.some Jvm.ClassFile.FieldType.int)) ∈ WA := wa_of (mt_4 (i := 201) rfl) rfl
theorem q4_202 : (Jvm.Cond.methodLink "LeanTowerLaw" (21 : Nat) ({ cls := "LeanTowerModel", name := "set", desc := "(III)I" } : Jvm.MethodName)) ∈ WA := wa_of (mt_4 (i := 202) rfl) rfl
theorem q4_203 : (Jvm.Cond.instanceMethod ({ cls := "LeanTowerModel", name := "set", desc := "(III)I" } : Jvm.MethodName)) ∈ WA := wa_of (mt_4 (i := 203) rfl) rfl
theorem q4_204 : (Jvm.Cond.selects "LeanTowerModel" ({ cls := "LeanTowerModel", name := "set", desc := "(III)I" } : Jvm.MethodName) ({ cls := "LeanTowerModel", name := "set", desc := "(III)I" } : Jvm.MethodName)) ∈ WA := wa_of (mt_4 (i := 204) rfl) rfl
theorem q4_205 : (Jvm.Cond.code ({ cls := "LeanTowerModel", name := "set", desc := "(III)I" } : Jvm.MethodName) prog_14_method_14_code (4 : Nat) (Option.some Jvm.ClassFile.FieldType.int)) ∈ WA := wa_of (mt_4 (i := 205) rfl) rfl
theorem q4_206 : (Jvm.Cond.methodLink "LeanTowerModel" (63 : Nat) ({ cls := "LeanTowerModel", name := "cut", desc := "(II)I" } : Jvm.MethodName)) ∈ WA := wa_of (mt_4 (i := 206) rfl) rfl
theorem q4_207 : (Jvm.Cond.static ({ cls := "LeanTowerModel", name := "cut", desc := "(II)I" } : Jvm.MethodName)) ∈ WA := wa_of (mt_4 (i := 207) rfl) rfl
theorem q4_208 : (Jvm.Cond.code ({ cls := "LeanTowerModel", name := "cut", desc := "(II)I" } : Jvm.MethodName) prog_14_method_12_code (2 : Nat) (Option.some Jvm.ClassFile.FieldType.int)) ∈ WA := wa_of (mt_4 (i := 208) rfl) rfl
theorem q4_209 : (Jvm.Cond.methodLink "LeanTowerLaw" (26 : Nat) ({ cls := "LeanTowerModel", name := "copy", desc := "(IIIII)I" } : Jvm.MethodName)) ∈ WA := wa_of (mt_4 (i := 209) rfl) rfl
theorem q4_210 : (Jvm.Cond.instanceMethod ({ cls := "LeanTowerModel", name := "copy", desc := "(IIIII)I" } : Jvm.MethodName)) ∈ WA := wa_of (mt_4 (i := 210) rfl) rfl
theorem q4_211 : (Jvm.Cond.selects "LeanTowerModel" ({ cls := "LeanTowerModel", name := "copy", desc := "(IIIII)I" } : Jvm.MethodName) ({ cls := "LeanTowerModel", name := "copy", desc := "(IIIII)I" } : Jvm.MethodName)) ∈ WA := wa_of (mt_4 (i := 211) rfl) rfl
theorem q4_212 : (Jvm.Cond.code ({ cls := "LeanTowerModel", name := "copy", desc := "(IIIII)I" } : Jvm.MethodName) prog_14_method_15_code (7 : Nat) (Option.some Jvm.ClassFile.FieldType.int)) ∈ WA := wa_of (mt_4 (i := 212) rfl) rfl
theorem q4_213 : (Jvm.Cond.methodLink "LeanTowerLaw" (31 : Nat) ({ cls := "LeanTowerModel", name := "drop", desc := "(I)I" } : Jvm.MethodName)) ∈ WA := wa_of (mt_4 (i := 213) rfl) rfl
theorem q4_214 : (Jvm.Cond.instanceMethod ({ cls := "LeanTowerModel", name := "drop", desc := "(I)I" } : Jvm.MethodName)) ∈ WA := wa_of (mt_4 (i := 214) rfl) rfl
theorem q4_215 : (Jvm.Cond.selects "LeanTowerModel" ({ cls := "LeanTowerModel", name := "drop", desc := "(I)I" } : Jvm.MethodName) ({ cls := "LeanTowerModel", name := "drop", desc := "(I)I" } : Jvm.MethodName)) ∈ WA := wa_of (mt_4 (i := 215) rfl) rfl
theorem q4_216 : (Jvm.Cond.code ({ cls := "LeanTowerModel", name := "drop", desc := "(I)I" } : Jvm.MethodName) prog_14_method_16_code (2 : Nat) (Option.some Jvm.ClassFile.FieldType.int)) ∈ WA := wa_of (mt_4 (i := 216) rfl) rfl
theorem q4_217 : (Jvm.Cond.methodLink "LeanTowerLaw" (38 : Nat) ({ cls := "LeanTowerModel", name := "feed", desc := "(JI)I" } : Jvm.MethodName)) ∈ WA := wa_of (mt_4 (i := 217) rfl) rfl
theorem q4_218 : (Jvm.Cond.instanceMethod ({ cls := "LeanTowerModel", name := "feed", desc := "(JI)I" } : Jvm.MethodName)) ∈ WA := wa_of (mt_4 (i := 218) rfl) rfl
theorem q4_219 : (Jvm.Cond.selects "LeanTowerModel" ({ cls := "LeanTowerModel", name := "feed", desc := "(JI)I" } : Jvm.MethodName) ({ cls := "LeanTowerModel", name := "feed", desc := "(JI)I" } : Jvm.MethodName)) ∈ WA := wa_of (mt_4 (i := 219) rfl) rfl
theorem q4_220 : (Jvm.Cond.code ({ cls := "LeanTowerModel", name := "feed", desc := "(JI)I" } : Jvm.MethodName) prog_14_method_17_code (5 : Nat) (Option.some Jvm.ClassFile.FieldType.int)) ∈ WA := wa_of (mt_4 (i := 220) rfl) rfl
theorem q4_221 : (Jvm.Cond.constantLong "LeanTowerModel" (67 : Nat) (8 : Int64)) ∈ WA := wa_of (mt_4 (i := 221) rfl) rfl
theorem q4_222 : (Jvm.Cond.constant "LeanTowerModel" (72 : Nat) (-1000003 : Int32)) ∈ WA := wa_of (mt_4 (i := 222) rfl) rfl
theorem q4_223 : (Jvm.Cond.constantLong "LeanTowerModel" (73 : Nat) (255 : Int64)) ∈ WA := wa_of (mt_4 (i := 223) rfl) rfl
theorem q4_224 : (Jvm.Cond.methodLink "LeanTowerLaw" (43 : Nat) ({ cls := "LeanTowerModel", name := "tower", desc := "()I" } : Jvm.MethodName)) ∈ WA := wa_of (mt_4 (i := 224) rfl) rfl
theorem q4_225 : (Jvm.Cond.instanceMethod ({ cls := "LeanTowerModel", name := "tower", desc := "()I" } : Jvm.MethodName)) ∈ WA := wa_of (mt_4 (i := 225) rfl) rfl
theorem q4_226 : (Jvm.Cond.selects "LeanTowerModel" ({ cls := "LeanTowerModel", name := "tower", desc := "()I" } : Jvm.MethodName) ({ cls := "LeanTowerModel", name := "tower", desc := "()I" } : Jvm.MethodName)) ∈ WA := wa_of (mt_4 (i := 226) rfl) rfl
theorem q4_227 : (Jvm.Cond.code ({ cls := "LeanTowerModel", name := "tower", desc := "()I" } : Jvm.MethodName) prog_14_method_26_code (2 : Nat) (Option.some Jvm.ClassFile.FieldType.int)) ∈ WA := wa_of (mt_4 (i := 227) rfl) rfl
theorem q4_228 : (Jvm.Cond.methodLink "LeanTowerModel" (111 : Nat) ({ cls := "LeanTowerModel", name := "next", desc := "()V" } : Jvm.MethodName)) ∈ WA := wa_of (mt_4 (i := 228) rfl) rfl
theorem q4_229 : (Jvm.Cond.privateMethod ({ cls := "LeanTowerModel", name := "next", desc := "()V" } : Jvm.MethodName)) ∈ lw_tbl := mt_4 (i := 229) rfl
theorem q4_230 : (Jvm.Cond.instanceMethod ({ cls := "LeanTowerModel", name := "next", desc := "()V" } : Jvm.MethodName)) ∈ WA := wa_of (mt_4 (i := 230) rfl) rfl
theorem q4_231 : (Jvm.Cond.code ({ cls := "LeanTowerModel", name := "next", desc := "()V" } : Jvm.MethodName) prog_14_method_18_code (1 : Nat) (Option.none : Option Jvm.ClassFile.FieldType)) ∈ WA := wa_of (mt_4 (i := 231) rfl) rfl
theorem q4_232 : (Jvm.Cond.constantLong "LeanTowerModel" (91 : Nat) (97 : Int64)) ∈ WA := wa_of (mt_4 (i := 232) rfl) rfl
theorem q4_233 : (Jvm.Cond.constantLong "LeanTowerModel" (93 : Nat) (122 : Int64)) ∈ WA := wa_of (mt_4 (i := 233) rfl) rfl
theorem q4_234 : (Jvm.Cond.constantLong "LeanTowerModel" (95 : Nat) (32 : Int64)) ∈ WA := wa_of (mt_4 (i := 234) rfl) rfl
theorem q4_235 : (Jvm.Cond.constantLong "LeanTowerModel" (97 : Nat) (96 : Int64)) ∈ WA := wa_of (mt_4 (i := 235) rfl) rfl
theorem q4_236 : (Jvm.Cond.constantLong "LeanTowerModel" (99 : Nat) (-1 : Int64)) ∈ WA := wa_of (mt_4 (i := 236) rfl) rfl
theorem q4_237 : (Jvm.Cond.constantLong "LeanTowerModel" (101 : Nat) (48 : Int64)) ∈ WA := wa_of (mt_4 (i := 237) rfl) rfl
theorem q4_238 : (Jvm.Cond.constantLong "LeanTowerModel" (103 : Nat) (57 : Int64)) ∈ WA := wa_of (mt_4 (i := 238) rfl) rfl
theorem q4_239 : (Jvm.Cond.methodLink "LeanTowerModel" (137 : Nat) ({ cls := "LeanTowerModel", name := "takeLaw", desc := "()V" } : Jvm.MethodName)) ∈ WA := wa_of (mt_4 (i := 239) rfl) rfl
theorem q5_0 : (Jvm.Cond.privateMethod ({ cls := "LeanTowerModel", name := "takeLaw", desc := "()V" } : Jvm.MethodName)) ∈ lw_tbl := mt_5 (i := 0) rfl
theorem q5_1 : (Jvm.Cond.instanceMethod ({ cls := "LeanTowerModel", name := "takeLaw", desc := "()V" } : Jvm.MethodName)) ∈ WA := wa_of (mt_5 (i := 1) rfl) rfl
theorem q5_2 : (Jvm.Cond.code ({ cls := "LeanTowerModel", name := "takeLaw", desc := "()V" } : Jvm.MethodName) prog_14_method_22_code (1 : Nat) (Option.none : Option Jvm.ClassFile.FieldType)) ∈ WA := wa_of (mt_5 (i := 2) rfl) rfl
theorem q5_3 : (Jvm.Cond.constantLong "LeanTowerModel" (114 : Nat) (12343 : Int64)) ∈ WA := wa_of (mt_5 (i := 3) rfl) rfl
theorem q5_4 : (Jvm.Cond.methodLink "LeanTowerModel" (116 : Nat) ({ cls := "LeanTowerModel", name := "takeNumber", desc := "(III)I" } : Jvm.MethodName)) ∈ WA := wa_of (mt_5 (i := 4) rfl) rfl
theorem q5_5 : (Jvm.Cond.privateMethod ({ cls := "LeanTowerModel", name := "takeNumber", desc := "(III)I" } : Jvm.MethodName)) ∈ lw_tbl := mt_5 (i := 5) rfl
theorem q5_6 : (Jvm.Cond.instanceMethod ({ cls := "LeanTowerModel", name := "takeNumber", desc := "(III)I" } : Jvm.MethodName)) ∈ WA := wa_of (mt_5 (i := 6) rfl) rfl
theorem q5_7 : (Jvm.Cond.code ({ cls := "LeanTowerModel", name := "takeNumber", desc := "(III)I" } : Jvm.MethodName) prog_14_method_20_code (5 : Nat) (Option.some Jvm.ClassFile.FieldType.int)) ∈ WA := wa_of (mt_5 (i := 7) rfl) rfl
theorem q5_8 : (Jvm.Cond.methodLink "LeanTowerModel" (108 : Nat) ({ cls := "LeanTowerModel", name := "fails", desc := "(I)I" } : Jvm.MethodName)) ∈ WA := wa_of (mt_5 (i := 8) rfl) rfl
theorem q5_9 : (Jvm.Cond.privateMethod ({ cls := "LeanTowerModel", name := "fails", desc := "(I)I" } : Jvm.MethodName)) ∈ lw_tbl := mt_5 (i := 9) rfl
theorem q5_10 : (Jvm.Cond.instanceMethod ({ cls := "LeanTowerModel", name := "fails", desc := "(I)I" } : Jvm.MethodName)) ∈ WA := wa_of (mt_5 (i := 10) rfl) rfl
theorem q5_11 : (Jvm.Cond.code ({ cls := "LeanTowerModel", name := "fails", desc := "(I)I" } : Jvm.MethodName) prog_14_method_19_code (2 : Nat) (Option.some Jvm.ClassFile.FieldType.int)) ∈ WA := wa_of (mt_5 (i := 11) rfl) rfl
theorem q5_12 : (Jvm.Cond.methodLink "LeanTowerModel" (120 : Nat) ({ cls := "LeanTowerModel", name := "takeSign", desc := "()V" } : Jvm.MethodName)) ∈ WA := wa_of (mt_5 (i := 12) rfl) rfl
theorem q5_13 : (Jvm.Cond.privateMethod ({ cls := "LeanTowerModel", name := "takeSign", desc := "()V" } : Jvm.MethodName)) ∈ lw_tbl := mt_5 (i := 13) rfl
theorem q5_14 : (Jvm.Cond.instanceMethod ({ cls := "LeanTowerModel", name := "takeSign", desc := "()V" } : Jvm.MethodName)) ∈ WA := wa_of (mt_5 (i := 14) rfl) rfl
theorem q5_15 : (Jvm.Cond.code ({ cls := "LeanTowerModel", name := "takeSign", desc := "()V" } : Jvm.MethodName) prog_14_method_21_code (1 : Nat) (Option.none : Option Jvm.ClassFile.FieldType)) ∈ WA := wa_of (mt_5 (i := 15) rfl) rfl
theorem q5_16 : (Jvm.Cond.constantLong "LeanTowerModel" (140 : Nat) (542723566 : Int64)) ∈ WA := wa_of (mt_5 (i := 16) rfl) rfl
theorem q5_17 : (Jvm.Cond.methodLink "LeanTowerModel" (142 : Nat) ({ cls := "LeanTowerModel", name := "takePerson", desc := "()V" } : Jvm.MethodName)) ∈ WA := wa_of (mt_5 (i := 17) rfl) rfl
theorem q5_18 : (Jvm.Cond.privateMethod ({ cls := "LeanTowerModel", name := "takePerson", desc := "()V" } : Jvm.MethodName)) ∈ lw_tbl := mt_5 (i := 18) rfl
theorem q5_19 : (Jvm.Cond.instanceMethod ({ cls := "LeanTowerModel", name := "takePerson", desc := "()V" } : Jvm.MethodName)) ∈ WA := wa_of (mt_5 (i := 19) rfl) rfl
theorem q5_20 : (Jvm.Cond.code ({ cls := "LeanTowerModel", name := "takePerson", desc := "()V" } : Jvm.MethodName) prog_14_method_23_code (4 : Nat) (Option.none : Option Jvm.ClassFile.FieldType)) ∈ WA := wa_of (mt_5 (i := 20) rfl) rfl
theorem q5_21 : (Jvm.Cond.methodLink "LeanTowerModel" (123 : Nat) ({ cls := "LeanTowerModel", name := "sortOf", desc := "(J)I" } : Jvm.MethodName)) ∈ WA := wa_of (mt_5 (i := 21) rfl) rfl
theorem q5_22 : (Jvm.Cond.static ({ cls := "LeanTowerModel", name := "sortOf", desc := "(J)I" } : Jvm.MethodName)) ∈ WA := wa_of (mt_5 (i := 22) rfl) rfl
theorem q5_23 : (Jvm.Cond.code ({ cls := "LeanTowerModel", name := "sortOf", desc := "(J)I" } : Jvm.MethodName) prog_14_method_25_code (2 : Nat) (Option.some Jvm.ClassFile.FieldType.int)) ∈ WA := wa_of (mt_5 (i := 23) rfl) rfl
theorem q5_24 : (Jvm.Cond.constantLong "LeanTowerModel" (127 : Nat) (17494690093 : Int64)) ∈ WA := wa_of (mt_5 (i := 24) rfl) rfl
theorem q5_25 : (Jvm.Cond.constantLong "LeanTowerModel" (129 : Nat) (441803 : Int64)) ∈ WA := wa_of (mt_5 (i := 25) rfl) rfl
theorem q5_26 : (Jvm.Cond.constantLong "LeanTowerModel" (131 : Nat) (24416759 : Int64)) ∈ WA := wa_of (mt_5 (i := 26) rfl) rfl
theorem q5_27 : (Jvm.Cond.constantLong "LeanTowerModel" (133 : Nat) (77177328 : Int64)) ∈ WA := wa_of (mt_5 (i := 27) rfl) rfl
theorem q5_28 : (Jvm.Cond.constantLong "LeanTowerModel" (135 : Nat) (2553 : Int64)) ∈ WA := wa_of (mt_5 (i := 28) rfl) rfl
theorem q5_29 : (Jvm.Cond.constantLong "LeanTowerModel" (145 : Nat) (20594117 : Int64)) ∈ WA := wa_of (mt_5 (i := 29) rfl) rfl
theorem q5_30 : (Jvm.Cond.methodLink "LeanTowerModel" (147 : Nat) ({ cls := "LeanTowerModel", name := "takeStone", desc := "()V" } : Jvm.MethodName)) ∈ WA := wa_of (mt_5 (i := 30) rfl) rfl
theorem q5_31 : (Jvm.Cond.privateMethod ({ cls := "LeanTowerModel", name := "takeStone", desc := "()V" } : Jvm.MethodName)) ∈ lw_tbl := mt_5 (i := 31) rfl
theorem q5_32 : (Jvm.Cond.instanceMethod ({ cls := "LeanTowerModel", name := "takeStone", desc := "()V" } : Jvm.MethodName)) ∈ WA := wa_of (mt_5 (i := 32) rfl) rfl
theorem q5_33 : (Jvm.Cond.code ({ cls := "LeanTowerModel", name := "takeStone", desc := "()V" } : Jvm.MethodName) prog_14_method_24_code (2 : Nat) (Option.none : Option Jvm.ClassFile.FieldType)) ∈ WA := wa_of (mt_5 (i := 33) rfl) rfl
theorem q5_34 : (Jvm.Cond.constant "LeanTowerModel" (153 : Nat) (-1000100 : Int32)) ∈ WA := wa_of (mt_5 (i := 34) rfl) rfl
theorem q5_35 : (Jvm.Cond.methodLink "LeanTowerModel" (154 : Nat) ({ cls := "LeanTowerModel", name := "copyAll", desc := "(II)V" } : Jvm.MethodName)) ∈ WA := wa_of (mt_5 (i := 35) rfl) rfl
theorem q5_36 : (Jvm.Cond.privateMethod ({ cls := "LeanTowerModel", name := "copyAll", desc := "(II)V" } : Jvm.MethodName)) ∈ lw_tbl := mt_5 (i := 36) rfl
theorem q5_37 : (Jvm.Cond.instanceMethod ({ cls := "LeanTowerModel", name := "copyAll", desc := "(II)V" } : Jvm.MethodName)) ∈ WA := wa_of (mt_5 (i := 37) rfl) rfl
theorem q5_38 : (Jvm.Cond.code ({ cls := "LeanTowerModel", name := "copyAll", desc := "(II)V" } : Jvm.MethodName) prog_14_method_8_code (4 : Nat) (Option.none : Option Jvm.ClassFile.FieldType)) ∈ WA := wa_of (mt_5 (i := 38) rfl) rfl
theorem q5_39 : (Jvm.Cond.methodLink "LeanTowerLaw" (47 : Nat) ({ cls := "LeanTowerModel", name := "fault", desc := "()I" } : Jvm.MethodName)) ∈ WA := wa_of (mt_5 (i := 39) rfl) rfl
theorem q5_40 : (Jvm.Cond.instanceMethod ({ cls := "LeanTowerModel", name := "fault", desc := "()I" } : Jvm.MethodName)) ∈ WA := wa_of (mt_5 (i := 40) rfl) rfl
theorem q5_41 : (Jvm.Cond.selects "LeanTowerModel" ({ cls := "LeanTowerModel", name := "fault", desc := "()I" } : Jvm.MethodName) ({ cls := "LeanTowerModel", name := "fault", desc := "()I" } : Jvm.MethodName)) ∈ WA := wa_of (mt_5 (i := 41) rfl) rfl
theorem q5_42 : (Jvm.Cond.code ({ cls := "LeanTowerModel", name := "fault", desc := "()I" } : Jvm.MethodName) prog_14_method_27_code (1 : Nat) (Option.some Jvm.ClassFile.FieldType.int)) ∈ WA := wa_of (mt_5 (i := 42) rfl) rfl
theorem q5_43 : (Jvm.Cond.methodLink "LeanTowerLaw" (52 : Nat) ({ cls := "LeanTowerModel", name := "go", desc := "(II)I" } : Jvm.MethodName)) ∈ WA := wa_of (mt_5 (i := 43) rfl) rfl
theorem q5_44 : (Jvm.Cond.instanceMethod ({ cls := "LeanTowerModel", name := "go", desc := "(II)I" } : Jvm.MethodName)) ∈ WA := wa_of (mt_5 (i := 44) rfl) rfl
theorem q5_45 : (Jvm.Cond.selects "LeanTowerModel" ({ cls := "LeanTowerModel", name := "go", desc := "(II)I" } : Jvm.MethodName) ({ cls := "LeanTowerModel", name := "go", desc := "(II)I" } : Jvm.MethodName)) ∈ WA := wa_of (mt_5 (i := 45) rfl) rfl
theorem q5_46 : (Jvm.Cond.code ({ cls := "LeanTowerModel", name := "go", desc := "(II)I" } : Jvm.MethodName) prog_14_method_37_code (4 : Nat) (Option.some Jvm.ClassFile.FieldType.int)) ∈ WA := wa_of (mt_5 (i := 46) rfl) rfl
theorem q5_47 : (Jvm.Cond.methodLink "LeanTowerModel" (180 : Nat) ({ cls := "LeanTowerModel", name := "isOne", desc := "(I)Z" } : Jvm.MethodName)) ∈ WA := wa_of (mt_5 (i := 47) rfl) rfl
theorem q5_48 : (Jvm.Cond.privateMethod ({ cls := "LeanTowerModel", name := "isOne", desc := "(I)Z" } : Jvm.MethodName)) ∈ lw_tbl := mt_5 (i := 48) rfl
theorem q5_49 : (Jvm.Cond.instanceMethod ({ cls := "LeanTowerModel", name := "isOne", desc := "(I)Z" } : Jvm.MethodName)) ∈ WA := wa_of (mt_5 (i := 49) rfl) rfl
theorem q5_50 : (Jvm.Cond.code ({ cls := "LeanTowerModel", name := "isOne", desc := "(I)Z" } : Jvm.MethodName) prog_14_method_29_code (2 : Nat) (Option.some Jvm.ClassFile.FieldType.boolean)) ∈ WA := wa_of (mt_5 (i := 50) rfl) rfl
theorem q5_51 : (Jvm.Cond.methodLink "LeanTowerModel" (183 : Nat) ({ cls := "LeanTowerModel", name := "minds", desc := "()V" } : Jvm.MethodName)) ∈ WA := wa_of (mt_5 (i := 51) rfl) rfl
theorem q5_52 : (Jvm.Cond.privateMethod ({ cls := "LeanTowerModel", name := "minds", desc := "()V" } : Jvm.MethodName)) ∈ lw_tbl := mt_5 (i := 52) rfl
theorem q5_53 : (Jvm.Cond.instanceMethod ({ cls := "LeanTowerModel", name := "minds", desc := "()V" } : Jvm.MethodName)) ∈ WA := wa_of (mt_5 (i := 53) rfl) rfl
theorem q5_54 : (Jvm.Cond.code ({ cls := "LeanTowerModel", name := "minds", desc := "()V" } : Jvm.MethodName) prog_14_method_36_code (2 : Nat) (Option.none : Option Jvm.ClassFile.FieldType)) ∈ WA := wa_of (mt_5 (i := 54) rfl) rfl
theorem q5_55 : (Jvm.Cond.methodLink "LeanTowerLaw" (56 : Nat) ({ cls := "LeanTowerModel", name := "hang", desc := "(II)I" } : Jvm.MethodName)) ∈ WA := wa_of (mt_5 (i := 55) rfl) rfl
theorem q5_56 : (Jvm.Cond.instanceMethod ({ cls := "LeanTowerModel", name := "hang", desc := "(II)I" } : Jvm.MethodName)) ∈ WA := wa_of (mt_5 (i := 56) rfl) rfl
theorem q5_57 : (Jvm.Cond.selects "LeanTowerModel" ({ cls := "LeanTowerModel", name := "hang", desc := "(II)I" } : Jvm.MethodName) ({ cls := "LeanTowerModel", name := "hang", desc := "(II)I" } : Jvm.MethodName)) ∈ WA := wa_of (mt_5 (i := 57) rfl) rfl
theorem q5_58 : (Jvm.Cond.code ({ cls := "LeanTowerModel", name := "hang", desc := "(II)I" } : Jvm.MethodName) prog_14_method_38_code (4 : Nat) (Option.some Jvm.ClassFile.FieldType.int)) ∈ WA := wa_of (mt_5 (i := 58) rfl) rfl
theorem q5_59 : (Jvm.Cond.constantLong "LeanTowerModel" (186 : Nat) (3 : Int64)) ∈ WA := wa_of (mt_5 (i := 59) rfl) rfl
theorem q5_60 : (Jvm.Cond.methodLink "LeanTowerLaw" (60 : Nat) ({ cls := "LeanTowerModel", name := "halves", desc := "(I)I" } : Jvm.MethodName)) ∈ WA := wa_of (mt_5 (i := 60) rfl) rfl
theorem q5_61 : (Jvm.Cond.instanceMethod ({ cls := "LeanTowerModel", name := "halves", desc := "(I)I" } : Jvm.MethodName)) ∈ WA := wa_of (mt_5 (i := 61) rfl) rfl
theorem q5_62 : (Jvm.Cond.selects "LeanTowerModel" ({ cls := "LeanTowerModel", name := "halves", desc := "(I)I" } : Jvm.MethodName) ({ cls := "LeanTowerModel", name := "halves", desc := "(I)I" } : Jvm.MethodName)) ∈ WA := wa_of (mt_5 (i := 62) rfl) rfl
theorem q5_63 : (Jvm.Cond.code ({ cls := "LeanTowerModel", name := "halves", desc := "(I)I" } : Jvm.MethodName) prog_14_method_39_code (4 : Nat) (Option.some Jvm.ClassFile.FieldType.int)) ∈ WA := wa_of (mt_5 (i := 63) rfl) rfl
theorem q5_64 : (Jvm.Cond.methodLink "LeanTowerModel" (188 : Nat) ({ cls := "LeanTowerModel", name := "isTower", desc := "()Z" } : Jvm.MethodName)) ∈ WA := wa_of (mt_5 (i := 64) rfl) rfl
theorem q5_65 : (Jvm.Cond.privateMethod ({ cls := "LeanTowerModel", name := "isTower", desc := "()Z" } : Jvm.MethodName)) ∈ lw_tbl := mt_5 (i := 65) rfl
theorem q5_66 : (Jvm.Cond.instanceMethod ({ cls := "LeanTowerModel", name := "isTower", desc := "()Z" } : Jvm.MethodName)) ∈ WA := wa_of (mt_5 (i := 66) rfl) rfl
theorem q5_67 : (Jvm.Cond.code ({ cls := "LeanTowerModel", name := "isTower", desc := "()Z" } : Jvm.MethodName) prog_14_method_28_code (1 : Nat) (Option.some Jvm.ClassFile.FieldType.boolean)) ∈ WA := wa_of (mt_5 (i := 67) rfl) rfl
theorem q5_68 : (Jvm.Cond.constant "LeanTowerModel" (192 : Nat) (-1000002 : Int32)) ∈ WA := wa_of (mt_5 (i := 68) rfl) rfl
theorem q5_69 : (Jvm.Cond.constantLong "LeanTowerModel" (193 : Nat) (64 : Int64)) ∈ WA := wa_of (mt_5 (i := 69) rfl) rfl
theorem q5_70 : (Jvm.Cond.constant "LeanTowerModel" (195 : Nat) (-1000000 : Int32)) ∈ WA := wa_of (mt_5 (i := 70) rfl) rfl
theorem q5_71 : (Jvm.Cond.methodLink "LeanTowerModel" (196 : Nat) ({ cls := "LeanTowerModel", name := "half", desc := "(I)V" } : Jvm.MethodName)) ∈ WA := wa_of (mt_5 (i := 71) rfl) rfl
theorem q5_72 : (Jvm.Cond.privateMethod ({ cls := "LeanTowerModel", name := "half", desc := "(I)V" } : Jvm.MethodName)) ∈ lw_tbl := mt_5 (i := 72) rfl
theorem q5_73 : (Jvm.Cond.instanceMethod ({ cls := "LeanTowerModel", name := "half", desc := "(I)V" } : Jvm.MethodName)) ∈ WA := wa_of (mt_5 (i := 73) rfl) rfl
theorem q5_74 : (Jvm.Cond.code ({ cls := "LeanTowerModel", name := "half", desc := "(I)V" } : Jvm.MethodName) prog_14_method_35_code (5 : Nat) (Option.none : Option Jvm.ClassFile.FieldType)) ∈ WA := wa_of (mt_5 (i := 74) rfl) rfl
theorem q5_75 : (Jvm.Cond.methodLink "LeanTowerModel" (200 : Nat) ({ cls := "LeanTowerModel", name := "worstOf", desc := "(I)I" } : Jvm.MethodName)) ∈ WA := wa_of (mt_5 (i := 75) rfl) rfl
theorem q5_76 : (Jvm.Cond.privateMethod ({ cls := "LeanTowerModel", name := "worstOf", desc := "(I)I" } : Jvm.MethodName)) ∈ lw_tbl := mt_5 (i := 76) rfl
theorem q5_77 : (Jvm.Cond.instanceMethod ({ cls := "LeanTowerModel", name := "worstOf", desc := "(I)I" } : Jvm.MethodName)) ∈ WA := wa_of (mt_5 (i := 77) rfl) rfl
theorem q5_78 : (Jvm.Cond.code ({ cls := "LeanTowerModel", name := "worstOf", desc := "(I)I" } : Jvm.MethodName) prog_14_method_34_code (2 : Nat) (Option.some Jvm.ClassFile.FieldType.int)) ∈ WA := wa_of (mt_5 (i := 78) rfl) rfl
theorem q5_79 : (Jvm.Cond.methodLink "LeanTowerModel" (171 : Nat) ({ cls := "LeanTowerModel", name := "leanOf", desc := "(IZ)I" } : Jvm.MethodName)) ∈ WA := wa_of (mt_5 (i := 79) rfl) rfl
theorem q5_80 : (Jvm.Cond.privateMethod ({ cls := "LeanTowerModel", name := "leanOf", desc := "(IZ)I" } : Jvm.MethodName)) ∈ lw_tbl := mt_5 (i := 80) rfl
theorem q5_81 : (Jvm.Cond.instanceMethod ({ cls := "LeanTowerModel", name := "leanOf", desc := "(IZ)I" } : Jvm.MethodName)) ∈ WA := wa_of (mt_5 (i := 81) rfl) rfl
theorem q5_82 : (Jvm.Cond.code ({ cls := "LeanTowerModel", name := "leanOf", desc := "(IZ)I" } : Jvm.MethodName) prog_14_method_33_code (5 : Nat) (Option.some Jvm.ClassFile.FieldType.int)) ∈ WA := wa_of (mt_5 (i := 82) rfl) rfl
theorem q5_83 : (Jvm.Cond.methodLink "LeanTowerModel" (161 : Nat) ({ cls := "LeanTowerModel", name := "burdenOf", desc := "(I)I" } : Jvm.MethodName)) ∈ WA := wa_of (mt_5 (i := 83) rfl) rfl
theorem q5_84 : (Jvm.Cond.privateMethod ({ cls := "LeanTowerModel", name := "burdenOf", desc := "(I)I" } : Jvm.MethodName)) ∈ lw_tbl := mt_5 (i := 84) rfl
theorem q5_85 : (Jvm.Cond.instanceMethod ({ cls := "LeanTowerModel", name := "burdenOf", desc := "(I)I" } : Jvm.MethodName)) ∈ WA := wa_of (mt_5 (i := 85) rfl) rfl
theorem q5_86 : (Jvm.Cond.code ({ cls := "LeanTowerModel", name := "burdenOf", desc := "(I)I" } : Jvm.MethodName) prog_14_method_30_code (3 : Nat) (Option.some Jvm.ClassFile.FieldType.int)) ∈ WA := wa_of (mt_5 (i := 86) rfl) rfl
theorem q5_87 : (Jvm.Cond.methodLink "LeanTowerModel" (164 : Nat) ({ cls := "LeanTowerModel", name := "sideOf", desc := "(I)I" } : Jvm.MethodName)) ∈ WA := wa_of (mt_5 (i := 87) rfl) rfl
theorem q5_88 : (Jvm.Cond.privateMethod ({ cls := "LeanTowerModel", name := "sideOf", desc := "(I)I" } : Jvm.MethodName)) ∈ lw_tbl := mt_5 (i := 88) rfl
theorem q5_89 : (Jvm.Cond.instanceMethod ({ cls := "LeanTowerModel", name := "sideOf", desc := "(I)I" } : Jvm.MethodName)) ∈ WA := wa_of (mt_5 (i := 89) rfl) rfl
theorem q5_90 : (Jvm.Cond.code ({ cls := "LeanTowerModel", name := "sideOf", desc := "(I)I" } : Jvm.MethodName) prog_14_method_31_code (2 : Nat) (Option.some Jvm.ClassFile.FieldType.int)) ∈ WA := wa_of (mt_5 (i := 90) rfl) rfl
theorem q5_91 : (Jvm.Cond.methodLink "LeanTowerModel" (167 : Nat) ({ cls := "LeanTowerModel", name := "pull", desc := "(IZ)I" } : Jvm.MethodName)) ∈ WA := wa_of (mt_5 (i := 91) rfl) rfl
theorem q5_92 : (Jvm.Cond.static ({ cls := "LeanTowerModel", name := "pull", desc := "(IZ)I" } : Jvm.MethodName)) ∈ WA := wa_of (mt_5 (i := 92) rfl) rfl
theorem q5_93 : (Jvm.Cond.code ({ cls := "LeanTowerModel", name := "pull", desc := "(IZ)I" } : Jvm.MethodName) prog_14_method_32_code (2 : Nat) (Option.some Jvm.ClassFile.FieldType.int)) ∈ WA := wa_of (mt_5 (i := 93) rfl) rfl
theorem q5_94 : (Jvm.Cond.methodLink "LeanTowerModel" (174 : Nat) ({ cls := "LeanTowerModel", name := "sizeOf", desc := "(I)I" } : Jvm.MethodName)) ∈ WA := wa_of (mt_5 (i := 94) rfl) rfl
theorem q5_95 : (Jvm.Cond.static ({ cls := "LeanTowerModel", name := "sizeOf", desc := "(I)I" } : Jvm.MethodName)) ∈ WA := wa_of (mt_5 (i := 95) rfl) rfl
theorem q5_96 : (Jvm.Cond.code ({ cls := "LeanTowerModel", name := "sizeOf", desc := "(I)I" } : Jvm.MethodName) prog_14_method_5_code (1 : Nat) (Option.some Jvm.ClassFile.FieldType.int)) ∈ WA := wa_of (mt_5 (i := 96) rfl) rfl
theorem q5_97 : (Jvm.Cond.methodLink "LeanTowerModel" (177 : Nat) ({ cls := "LeanTowerModel", name := "greater", desc := "(II)I" } : Jvm.MethodName)) ∈ WA := wa_of (mt_5 (i := 97) rfl) rfl
theorem q5_98 : (Jvm.Cond.static ({ cls := "LeanTowerModel", name := "greater", desc := "(II)I" } : Jvm.MethodName)) ∈ WA := wa_of (mt_5 (i := 98) rfl) rfl
theorem q5_99 : (Jvm.Cond.code ({ cls := "LeanTowerModel", name := "greater", desc := "(II)I" } : Jvm.MethodName) prog_14_method_6_code (2 : Nat) (Option.some Jvm.ClassFile.FieldType.int)) ∈ WA := wa_of (mt_5 (i := 99) rfl) rfl
theorem q5_100 : (Jvm.Cond.methodLink "LeanTowerLaw" (64 : Nat) ({ cls := "LeanTowerModel", name := "year", desc := "()I" } : Jvm.MethodName)) ∈ WA := wa_of (mt_5 (i := 100) rfl) rfl
theorem q5_101 : (Jvm.Cond.instanceMethod ({ cls := "LeanTowerModel", name := "year", desc := "()I" } : Jvm.MethodName)) ∈ WA := wa_of (mt_5 (i := 101) rfl) rfl
theorem q5_102 : (Jvm.Cond.selects "LeanTowerModel" ({ cls := "LeanTowerModel", name := "year", desc := "()I" } : Jvm.MethodName) ({ cls := "LeanTowerModel", name := "year", desc := "()I" } : Jvm.MethodName)) ∈ WA := wa_of (mt_5 (i := 102) rfl) rfl
theorem q5_103 : (Jvm.Cond.code ({ cls := "LeanTowerModel", name := "year", desc := "()I" } : Jvm.MethodName) prog_14_method_41_code (1 : Nat) (Option.some Jvm.ClassFile.FieldType.int)) ∈ WA := wa_of (mt_5 (i := 103) rfl) rfl
theorem q5_104 : (Jvm.Cond.methodLink "LeanTowerModel" (203 : Nat) ({ cls := "LeanTowerModel", name := "creep", desc := "(I)V" } : Jvm.MethodName)) ∈ WA := wa_of (mt_5 (i := 104) rfl) rfl
theorem q5_105 : (Jvm.Cond.privateMethod ({ cls := "LeanTowerModel", name := "creep", desc := "(I)V" } : Jvm.MethodName)) ∈ lw_tbl := mt_5 (i := 105) rfl
theorem q5_106 : (Jvm.Cond.instanceMethod ({ cls := "LeanTowerModel", name := "creep", desc := "(I)V" } : Jvm.MethodName)) ∈ WA := wa_of (mt_5 (i := 106) rfl) rfl
theorem q5_107 : (Jvm.Cond.code ({ cls := "LeanTowerModel", name := "creep", desc := "(I)V" } : Jvm.MethodName) prog_14_method_40_code (4 : Nat) (Option.none : Option Jvm.ClassFile.FieldType)) ∈ WA := wa_of (mt_5 (i := 107) rfl) rfl
theorem q5_108 : (Jvm.Cond.methodLink "LeanTowerLaw" (68 : Nat) ({ cls := "LeanTowerModel", name := "undo", desc := "()I" } : Jvm.MethodName)) ∈ WA := wa_of (mt_5 (i := 108) rfl) rfl
theorem q5_109 : (Jvm.Cond.instanceMethod ({ cls := "LeanTowerModel", name := "undo", desc := "()I" } : Jvm.MethodName)) ∈ WA := wa_of (mt_5 (i := 109) rfl) rfl
theorem q5_110 : (Jvm.Cond.selects "LeanTowerModel" ({ cls := "LeanTowerModel", name := "undo", desc := "()I" } : Jvm.MethodName) ({ cls := "LeanTowerModel", name := "undo", desc := "()I" } : Jvm.MethodName)) ∈ WA := wa_of (mt_5 (i := 110) rfl) rfl
theorem q5_111 : (Jvm.Cond.code ({ cls := "LeanTowerModel", name := "undo", desc := "()I" } : Jvm.MethodName) prog_14_method_42_code (1 : Nat) (Option.some Jvm.ClassFile.FieldType.int)) ∈ WA := wa_of (mt_5 (i := 111) rfl) rfl
theorem q5_112 : (Jvm.Cond.methodLink "LeanTowerLaw" (72 : Nat) ({ cls := "LeanTowerModel", name := "person", desc := "(II)I" } : Jvm.MethodName)) ∈ WA := wa_of (mt_5 (i := 112) rfl) rfl
theorem q5_113 : (Jvm.Cond.instanceMethod ({ cls := "LeanTowerModel", name := "person", desc := "(II)I" } : Jvm.MethodName)) ∈ WA := wa_of (mt_5 (i := 113) rfl) rfl
theorem q5_114 : (Jvm.Cond.selects "LeanTowerModel" ({ cls := "LeanTowerModel", name := "person", desc := "(II)I" } : Jvm.MethodName) ({ cls := "LeanTowerModel", name := "person", desc := "(II)I" } : Jvm.MethodName)) ∈ WA := wa_of (mt_5 (i := 114) rfl) rfl
theorem q5_115 : (Jvm.Cond.code ({ cls := "LeanTowerModel", name := "person", desc := "(II)I" } : Jvm.MethodName) prog_14_method_43_code (4 : Nat) (Option.some Jvm.ClassFile.FieldType.int)) ∈ WA := wa_of (mt_5 (i := 115) rfl) rfl
theorem q5_116 : (Jvm.Cond.constantLong "LeanTowerModel" (206 : Nat) (4 : Int64)) ∈ WA := wa_of (mt_5 (i := 116) rfl) rfl
theorem q5_117 : (Jvm.Cond.methodLink "LeanTowerLaw" (76 : Nat) ({ cls := "LeanTowerModel", name := "lean", desc := "(I)I" } : Jvm.MethodName)) ∈ WA := wa_of (mt_5 (i := 117) rfl) rfl
theorem q5_118 : (Jvm.Cond.instanceMethod ({ cls := "LeanTowerModel", name := "lean", desc := "(I)I" } : Jvm.MethodName)) ∈ WA := wa_of (mt_5 (i := 118) rfl) rfl
theorem q5_119 : (Jvm.Cond.selects "LeanTowerModel" ({ cls := "LeanTowerModel", name := "lean", desc := "(I)I" } : Jvm.MethodName) ({ cls := "LeanTowerModel", name := "lean", desc := "(I)I" } : Jvm.MethodName)) ∈ WA := wa_of (mt_5 (i := 119) rfl) rfl
theorem q5_120 : (Jvm.Cond.code ({ cls := "LeanTowerModel", name := "lean", desc := "(I)I" } : Jvm.MethodName) prog_14_method_44_code (2 : Nat) (Option.some Jvm.ClassFile.FieldType.int)) ∈ WA := wa_of (mt_5 (i := 120) rfl) rfl
theorem q5_121 : (Jvm.Cond.methodLink "LeanTowerLaw" (80 : Nat) ({ cls := "LeanTowerModel", name := "worst", desc := "(I)I" } : Jvm.MethodName)) ∈ WA := wa_of (mt_5 (i := 121) rfl) rfl
theorem q5_122 : (Jvm.Cond.instanceMethod ({ cls := "LeanTowerModel", name := "worst", desc := "(I)I" } : Jvm.MethodName)) ∈ WA := wa_of (mt_5 (i := 122) rfl) rfl
theorem q5_123 : (Jvm.Cond.selects "LeanTowerModel" ({ cls := "LeanTowerModel", name := "worst", desc := "(I)I" } : Jvm.MethodName) ({ cls := "LeanTowerModel", name := "worst", desc := "(I)I" } : Jvm.MethodName)) ∈ WA := wa_of (mt_5 (i := 123) rfl) rfl
theorem q5_124 : (Jvm.Cond.code ({ cls := "LeanTowerModel", name := "worst", desc := "(I)I" } : Jvm.MethodName) prog_14_method_47_code (3 : Nat) (Option.some Jvm.ClassFile.FieldType.int)) ∈ WA := wa_of (mt_5 (i := 124) rfl) rfl
theorem q5_125 : (Jvm.Cond.methodLink "LeanTowerModel" (214 : Nat) ({ cls := "LeanTowerModel", name := "foretellNow", desc := "()I" } : Jvm.MethodName)) ∈ WA := wa_of (mt_5 (i := 125) rfl) rfl
theorem q5_126 : (Jvm.Cond.privateMethod ({ cls := "LeanTowerModel", name := "foretellNow", desc := "()I" } : Jvm.MethodName)) ∈ lw_tbl := mt_5 (i := 126) rfl
theorem q5_127 : (Jvm.Cond.instanceMethod ({ cls := "LeanTowerModel", name := "foretellNow", desc := "()I" } : Jvm.MethodName)) ∈ WA := wa_of (mt_5 (i := 127) rfl) rfl
theorem q5_128 : (Jvm.Cond.code ({ cls := "LeanTowerModel", name := "foretellNow", desc := "()I" } : Jvm.MethodName) prog_14_method_46_code (1 : Nat) (Option.some Jvm.ClassFile.FieldType.int)) ∈ WA := wa_of (mt_5 (i := 128) rfl) rfl
theorem q5_129 : (Jvm.Cond.methodLink "LeanTowerModel" (211 : Nat) ({ cls := "LeanTowerModel", name := "foretell", desc := "(II)I" } : Jvm.MethodName)) ∈ WA := wa_of (mt_5 (i := 129) rfl) rfl
theorem q5_130 : (Jvm.Cond.privateMethod ({ cls := "LeanTowerModel", name := "foretell", desc := "(II)I" } : Jvm.MethodName)) ∈ lw_tbl := mt_5 (i := 130) rfl
theorem q5_131 : (Jvm.Cond.instanceMethod ({ cls := "LeanTowerModel", name := "foretell", desc := "(II)I" } : Jvm.MethodName)) ∈ WA := wa_of (mt_5 (i := 131) rfl) rfl
theorem q5_132 : (Jvm.Cond.code ({ cls := "LeanTowerModel", name := "foretell", desc := "(II)I" } : Jvm.MethodName) prog_14_method_45_code (6 : Nat) (Option.some Jvm.ClassFile.FieldType.int)) ∈ WA := wa_of (mt_5 (i := 132) rfl) rfl
theorem q5_133 : (Jvm.Cond.methodLink "LeanTowerLaw" (84 : Nat) ({ cls := "LeanTowerModel", name := "most", desc := "()I" } : Jvm.MethodName)) ∈ WA := wa_of (mt_5 (i := 133) rfl) rfl
theorem q5_134 : (Jvm.Cond.instanceMethod ({ cls := "LeanTowerModel", name := "most", desc := "()I" } : Jvm.MethodName)) ∈ WA := wa_of (mt_5 (i := 134) rfl) rfl
theorem q5_135 : (Jvm.Cond.selects "LeanTowerModel" ({ cls := "LeanTowerModel", name := "most", desc := "()I" } : Jvm.MethodName) ({ cls := "LeanTowerModel", name := "most", desc := "()I" } : Jvm.MethodName)) ∈ WA := wa_of (mt_5 (i := 135) rfl) rfl
theorem q5_136 : (Jvm.Cond.code ({ cls := "LeanTowerModel", name := "most", desc := "()I" } : Jvm.MethodName) prog_14_method_48_code (5 : Nat) (Option.some Jvm.ClassFile.FieldType.int)) ∈ WA := wa_of (mt_5 (i := 136) rfl) rfl
theorem q5_137 : (Jvm.Cond.methodLink "LeanTowerModel" (218 : Nat) ({ cls := "LeanTowerModel", name := "ones", desc := "(I)I" } : Jvm.MethodName)) ∈ WA := wa_of (mt_5 (i := 137) rfl) rfl
theorem q5_138 : (Jvm.Cond.static ({ cls := "LeanTowerModel", name := "ones", desc := "(I)I" } : Jvm.MethodName)) ∈ WA := wa_of (mt_5 (i := 138) rfl) rfl
theorem q5_139 : (Jvm.Cond.code ({ cls := "LeanTowerModel", name := "ones", desc := "(I)I" } : Jvm.MethodName) prog_14_method_7_code (3 : Nat) (Option.some Jvm.ClassFile.FieldType.int)) ∈ WA := wa_of (mt_5 (i := 139) rfl) rfl
theorem q5_140 : (Jvm.Cond.methodLink "LeanTowerModel" (221 : Nat) ({ cls := "LeanTowerModel", name := "has", desc := "(II)Z" } : Jvm.MethodName)) ∈ WA := wa_of (mt_5 (i := 140) rfl) rfl
theorem q5_141 : (Jvm.Cond.static ({ cls := "LeanTowerModel", name := "has", desc := "(II)Z" } : Jvm.MethodName)) ∈ WA := wa_of (mt_5 (i := 141) rfl) rfl
theorem q5_142 : (Jvm.Cond.code ({ cls := "LeanTowerModel", name := "has", desc := "(II)Z" } : Jvm.MethodName) prog_14_method_4_code (2 : Nat) (Option.some Jvm.ClassFile.FieldType.boolean)) ∈ WA := wa_of (mt_5 (i := 142) rfl) rfl
theorem q5_143 : (Jvm.Cond.methodLink "LeanTowerLaw" (88 : Nat) ({ cls := "LeanTowerModel", name := "two", desc := "(III)I" } : Jvm.MethodName)) ∈ WA := wa_of (mt_5 (i := 143) rfl) rfl
theorem q5_144 : (Jvm.Cond.instanceMethod ({ cls := "LeanTowerModel", name := "two", desc := "(III)I" } : Jvm.MethodName)) ∈ WA := wa_of (mt_5 (i := 144) rfl) rfl
theorem q5_145 : (Jvm.Cond.selects "LeanTowerModel" ({ cls := "LeanTowerModel", name := "two", desc := "(III)I" } : Jvm.MethodName) ({ cls := "LeanTowerModel", name := "two", desc := "(III)I" } : Jvm.MethodName)) ∈ WA := wa_of (mt_5 (i := 145) rfl) rfl
theorem q5_146 : (Jvm.Cond.code ({ cls := "LeanTowerModel", name := "two", desc := "(III)I" } : Jvm.MethodName) prog_14_method_49_code (8 : Nat) (Option.some Jvm.ClassFile.FieldType.int)) ∈ WA := wa_of (mt_5 (i := 146) rfl) rfl
theorem q5_147 : (Jvm.Cond.methodLink "LeanTowerLaw" (92 : Nat) ({ cls := "LeanTowerModel", name := "stones", desc := "(I)I" } : Jvm.MethodName)) ∈ WA := wa_of (mt_5 (i := 147) rfl) rfl
theorem q5_148 : (Jvm.Cond.instanceMethod ({ cls := "LeanTowerModel", name := "stones", desc := "(I)I" } : Jvm.MethodName)) ∈ WA := wa_of (mt_5 (i := 148) rfl) rfl
theorem q5_149 : (Jvm.Cond.selects "LeanTowerModel" ({ cls := "LeanTowerModel", name := "stones", desc := "(I)I" } : Jvm.MethodName) ({ cls := "LeanTowerModel", name := "stones", desc := "(I)I" } : Jvm.MethodName)) ∈ WA := wa_of (mt_5 (i := 149) rfl) rfl
theorem q5_150 : (Jvm.Cond.code ({ cls := "LeanTowerModel", name := "stones", desc := "(I)I" } : Jvm.MethodName) prog_14_method_50_code (7 : Nat) (Option.some Jvm.ClassFile.FieldType.int)) ∈ WA := wa_of (mt_5 (i := 150) rfl) rfl
theorem q5_151 : (Jvm.Cond.methodLink "LeanTowerLaw" (97 : Nat) ({ cls := "LeanTowerModel", name := "marks", desc := "(IIII)I" } : Jvm.MethodName)) ∈ WA := wa_of (mt_5 (i := 151) rfl) rfl
theorem q5_152 : (Jvm.Cond.instanceMethod ({ cls := "LeanTowerModel", name := "marks", desc := "(IIII)I" } : Jvm.MethodName)) ∈ WA := wa_of (mt_5 (i := 152) rfl) rfl
theorem q5_153 : (Jvm.Cond.selects "LeanTowerModel" ({ cls := "LeanTowerModel", name := "marks", desc := "(IIII)I" } : Jvm.MethodName) ({ cls := "LeanTowerModel", name := "marks", desc := "(IIII)I" } : Jvm.MethodName)) ∈ WA := wa_of (mt_5 (i := 153) rfl) rfl
theorem q5_154 : (Jvm.Cond.code ({ cls := "LeanTowerModel", name := "marks", desc := "(IIII)I" } : Jvm.MethodName) prog_14_method_51_code (8 : Nat) (Option.some Jvm.ClassFile.FieldType.int)) ∈ WA := wa_of (mt_5 (i := 154) rfl) rfl
theorem q5_155 : (Jvm.Cond.constantLong "LeanTowerModel" (225 : Nat) (-999 : Int64)) ∈ WA := wa_of (mt_5 (i := 155) rfl) rfl
theorem q5_156 : (Jvm.Cond.constantLong "LeanTowerModel" (227 : Nat) (999 : Int64)) ∈ WA := wa_of (mt_5 (i := 156) rfl) rfl
theorem q5_157 : (Jvm.Cond.methodLink "LeanTowerLaw" (101 : Nat) ({ cls := "LeanTowerModel", name := "rescue", desc := "(I)I" } : Jvm.MethodName)) ∈ WA := wa_of (mt_5 (i := 157) rfl) rfl
theorem q5_158 : (Jvm.Cond.instanceMethod ({ cls := "LeanTowerModel", name := "rescue", desc := "(I)I" } : Jvm.MethodName)) ∈ WA := wa_of (mt_5 (i := 158) rfl) rfl
theorem q5_159 : (Jvm.Cond.selects "LeanTowerModel" ({ cls := "LeanTowerModel", name := "rescue", desc := "(I)I" } : Jvm.MethodName) ({ cls := "LeanTowerModel", name := "rescue", desc := "(I)I" } : Jvm.MethodName)) ∈ WA := wa_of (mt_5 (i := 159) rfl) rfl
theorem q5_160 : (Jvm.Cond.code ({ cls := "LeanTowerModel", name := "rescue", desc := "(I)I" } : Jvm.MethodName) prog_14_method_53_code (7 : Nat) (Option.some Jvm.ClassFile.FieldType.int)) ∈ WA := wa_of (mt_5 (i := 160) rfl) rfl
theorem q5_161 : (Jvm.Cond.methodLink "LeanTowerModel" (229 : Nat) ({ cls := "LeanTowerModel", name := "isSafe", desc := "(I)Z" } : Jvm.MethodName)) ∈ WA := wa_of (mt_5 (i := 161) rfl) rfl
theorem q5_162 : (Jvm.Cond.privateMethod ({ cls := "LeanTowerModel", name := "isSafe", desc := "(I)Z" } : Jvm.MethodName)) ∈ lw_tbl := mt_5 (i := 162) rfl
theorem q5_163 : (Jvm.Cond.instanceMethod ({ cls := "LeanTowerModel", name := "isSafe", desc := "(I)Z" } : Jvm.MethodName)) ∈ WA := wa_of (mt_5 (i := 163) rfl) rfl
theorem q5_164 : (Jvm.Cond.code ({ cls := "LeanTowerModel", name := "isSafe", desc := "(I)Z" } : Jvm.MethodName) prog_14_method_52_code (3 : Nat) (Option.some Jvm.ClassFile.FieldType.boolean)) ∈ WA := wa_of (mt_5 (i := 164) rfl) rfl
theorem q5_165 : (Jvm.Cond.methodLink "LeanTowerLaw" (105 : Nat) ({ cls := "LeanTowerModel", name := "fall", desc := "()I" } : Jvm.MethodName)) ∈ WA := wa_of (mt_5 (i := 165) rfl) rfl
theorem q5_166 : (Jvm.Cond.instanceMethod ({ cls := "LeanTowerModel", name := "fall", desc := "()I" } : Jvm.MethodName)) ∈ WA := wa_of (mt_5 (i := 166) rfl) rfl
theorem q5_167 : (Jvm.Cond.selects "LeanTowerModel" ({ cls := "LeanTowerModel", name := "fall", desc := "()I" } : Jvm.MethodName) ({ cls := "LeanTowerModel", name := "fall", desc := "()I" } : Jvm.MethodName)) ∈ WA := wa_of (mt_5 (i := 167) rfl) rfl
theorem q5_168 : (Jvm.Cond.code ({ cls := "LeanTowerModel", name := "fall", desc := "()I" } : Jvm.MethodName) prog_14_method_54_code (2 : Nat) (Option.some Jvm.ClassFile.FieldType.int)) ∈ WA := wa_of (mt_5 (i := 168) rfl) rfl
theorem q5_169 : (Jvm.Cond.methodLink "LeanTowerLaw" (109 : Nat) ({ cls := "LeanTowerModel", name := "bells", desc := "(III)I" } : Jvm.MethodName)) ∈ WA := wa_of (mt_5 (i := 169) rfl) rfl
theorem q5_170 : (Jvm.Cond.instanceMethod ({ cls := "LeanTowerModel", name := "bells", desc := "(III)I" } : Jvm.MethodName)) ∈ WA := wa_of (mt_5 (i := 170) rfl) rfl
theorem q5_171 : (Jvm.Cond.selects "LeanTowerModel" ({ cls := "LeanTowerModel", name := "bells", desc := "(III)I" } : Jvm.MethodName) ({ cls := "LeanTowerModel", name := "bells", desc := "(III)I" } : Jvm.MethodName)) ∈ WA := wa_of (mt_5 (i := 171) rfl) rfl
theorem q5_172 : (Jvm.Cond.code ({ cls := "LeanTowerModel", name := "bells", desc := "(III)I" } : Jvm.MethodName) prog_14_method_55_code (14 : Nat) (Option.some Jvm.ClassFile.FieldType.int)) ∈ WA := wa_of (mt_5 (i := 172) rfl) rfl
theorem q5_173 : (Jvm.Cond.constantLong "LeanTowerModel" (232 : Nat) (5 : Int64)) ∈ WA := wa_of (mt_5 (i := 173) rfl) rfl
theorem q5_174 : (Jvm.Cond.constantLong "LeanTowerModel" (234 : Nat) (20 : Int64)) ∈ WA := wa_of (mt_5 (i := 174) rfl) rfl
theorem q5_175 : (Jvm.Cond.methodLink "LeanTowerLaw" (113 : Nat) ({ cls := "LeanTowerModel", name := "image", desc := "(I)I" } : Jvm.MethodName)) ∈ WA := wa_of (mt_5 (i := 175) rfl) rfl
theorem q5_176 : (Jvm.Cond.instanceMethod ({ cls := "LeanTowerModel", name := "image", desc := "(I)I" } : Jvm.MethodName)) ∈ WA := wa_of (mt_5 (i := 176) rfl) rfl
theorem q5_177 : (Jvm.Cond.selects "LeanTowerModel" ({ cls := "LeanTowerModel", name := "image", desc := "(I)I" } : Jvm.MethodName) ({ cls := "LeanTowerModel", name := "image", desc := "(I)I" } : Jvm.MethodName)) ∈ WA := wa_of (mt_5 (i := 177) rfl) rfl
theorem q5_178 : (Jvm.Cond.code ({ cls := "LeanTowerModel", name := "image", desc := "(I)I" } : Jvm.MethodName) prog_14_method_56_code (2 : Nat) (Option.some Jvm.ClassFile.FieldType.int)) ∈ WA := wa_of (mt_5 (i := 178) rfl) rfl
theorem q5_179 : (Jvm.Cond.methodLink "LeanTowerLaw" (117 : Nat) ({ cls := "LeanTowerModel", name := "restore", desc := "(I)I" } : Jvm.MethodName)) ∈ WA := wa_of (mt_5 (i := 179) rfl) rfl
theorem q5_180 : (Jvm.Cond.instanceMethod ({ cls := "LeanTowerModel", name := "restore", desc := "(I)I" } : Jvm.MethodName)) ∈ WA := wa_of (mt_5 (i := 180) rfl) rfl
theorem q5_181 : (Jvm.Cond.selects "LeanTowerModel" ({ cls := "LeanTowerModel", name := "restore", desc := "(I)I" } : Jvm.MethodName) ({ cls := "LeanTowerModel", name := "restore", desc := "(I)I" } : Jvm.MethodName)) ∈ WA := wa_of (mt_5 (i := 181) rfl) rfl
theorem q5_182 : (Jvm.Cond.code ({ cls := "LeanTowerModel", name := "restore", desc := "(I)I" } : Jvm.MethodName) prog_14_method_57_code (2 : Nat) (Option.some Jvm.ClassFile.FieldType.int)) ∈ WA := wa_of (mt_5 (i := 182) rfl) rfl
theorem q5_183 : (Jvm.Cond.methodLink "LeanTowerLaw" (121 : Nat) ({ cls := "LeanTowerModel", name := "kind", desc := "(I)I" } : Jvm.MethodName)) ∈ WA := wa_of (mt_5 (i := 183) rfl) rfl
theorem q5_184 : (Jvm.Cond.instanceMethod ({ cls := "LeanTowerModel", name := "kind", desc := "(I)I" } : Jvm.MethodName)) ∈ WA := wa_of (mt_5 (i := 184) rfl) rfl
theorem q5_185 : (Jvm.Cond.selects "LeanTowerModel" ({ cls := "LeanTowerModel", name := "kind", desc := "(I)I" } : Jvm.MethodName) ({ cls := "LeanTowerModel", name := "kind", desc := "(I)I" } : Jvm.MethodName)) ∈ WA := wa_of (mt_5 (i := 185) rfl) rfl
theorem q5_186 : (Jvm.Cond.code ({ cls := "LeanTowerModel", name := "kind", desc := "(I)I" } : Jvm.MethodName) prog_14_method_58_code (2 : Nat) (Option.some Jvm.ClassFile.FieldType.int)) ∈ WA := wa_of (mt_5 (i := 186) rfl) rfl
theorem q5_187 : (Jvm.Cond.methodLink "LeanTowerLaw" (125 : Nat) ({ cls := "LeanTowerModel", name := "as", desc := "(II)I" } : Jvm.MethodName)) ∈ WA := wa_of (mt_5 (i := 187) rfl) rfl
theorem q5_188 : (Jvm.Cond.instanceMethod ({ cls := "LeanTowerModel", name := "as", desc := "(II)I" } : Jvm.MethodName)) ∈ WA := wa_of (mt_5 (i := 188) rfl) rfl
theorem q5_189 : (Jvm.Cond.selects "LeanTowerModel" ({ cls := "LeanTowerModel", name := "as", desc := "(II)I" } : Jvm.MethodName) ({ cls := "LeanTowerModel", name := "as", desc := "(II)I" } : Jvm.MethodName)) ∈ WA := wa_of (mt_5 (i := 189) rfl) rfl
theorem q5_190 : (Jvm.Cond.code ({ cls := "LeanTowerModel", name := "as", desc := "(II)I" } : Jvm.MethodName) prog_14_method_60_code (3 : Nat) (Option.some Jvm.ClassFile.FieldType.int)) ∈ WA := wa_of (mt_5 (i := 190) rfl) rfl
theorem q5_191 : (Jvm.Cond.methodLink "LeanTowerModel" (236 : Nat) ({ cls := "LeanTowerModel", name := "isOf", desc := "(II)Z" } : Jvm.MethodName)) ∈ WA := wa_of (mt_5 (i := 191) rfl) rfl
theorem q5_192 : (Jvm.Cond.static ({ cls := "LeanTowerModel", name := "isOf", desc := "(II)Z" } : Jvm.MethodName)) ∈ WA := wa_of (mt_5 (i := 192) rfl) rfl
theorem q5_193 : (Jvm.Cond.code ({ cls := "LeanTowerModel", name := "isOf", desc := "(II)Z" } : Jvm.MethodName) prog_14_method_59_code (2 : Nat) (Option.some Jvm.ClassFile.FieldType.boolean)) ∈ WA := wa_of (mt_5 (i := 193) rfl) rfl
theorem q5_194 : (Jvm.Cond.methodLink "LeanTowerLaw" (129 : Nat) ({ cls := "LeanTowerModel", name := "ask", desc := "(II)I" } : Jvm.MethodName)) ∈ WA := wa_of (mt_5 (i := 194) rfl) rfl
theorem q5_195 : (Jvm.Cond.instanceMethod ({ cls := "LeanTowerModel", name := "ask", desc := "(II)I" } : Jvm.MethodName)) ∈ WA := wa_of (mt_5 (i := 195) rfl) rfl
theorem q5_196 : (Jvm.Cond.selects "LeanTowerModel" ({ cls := "LeanTowerModel", name := "ask", desc := "(II)I" } : Jvm.MethodName) ({ cls := "LeanTowerModel", name := "ask", desc := "(II)I" } : Jvm.MethodName)) ∈ WA := wa_of (mt_5 (i := 196) rfl) rfl
theorem q5_197 : (Jvm.Cond.code ({ cls := "LeanTowerModel", name := "ask", desc := "(II)I" } : Jvm.MethodName) prog_14_method_64_code (3 : Nat) (Option.some Jvm.ClassFile.FieldType.int)) ∈ WA := wa_of (mt_5 (i := 197) rfl) rfl
theorem q5_198 : (Jvm.Cond.methodLink "LeanTowerModel" (249 : Nat) ({ cls := "LeanTowerModel", name := "size", desc := "(I)I" } : Jvm.MethodName)) ∈ WA := wa_of (mt_5 (i := 198) rfl) rfl
theorem q5_199 : (Jvm.Cond.privateMethod ({ cls := "LeanTowerModel", name := "size", desc := "(I)I" } : Jvm.MethodName)) ∈ lw_tbl := mt_5 (i := 199) rfl
theorem q5_200 : (Jvm.Cond.instanceMethod ({ cls := "LeanTowerModel", name := "size", desc := "(I)I" } : Jvm.MethodName)) ∈ WA := wa_of (mt_5 (i := 200) rfl) rfl
theorem q5_201 : (Jvm.Cond.code ({ cls := "LeanTowerModel", name := "size", desc := "(I)I" } : Jvm.MethodName) prog_14_method_63_code (3 : Nat) (Option.some Jvm.ClassFile.FieldType.int)) ∈ WA := wa_of (mt_5 (i := 201) rfl) rfl
theorem q5_202 : (Jvm.Cond.methodLink "LeanTowerModel" (242 : Nat) ({ cls := "LeanTowerModel", name := "leaves", desc := "(III)V" } : Jvm.MethodName)) ∈ WA := wa_of (mt_5 (i := 202) rfl) rfl
theorem q5_203 : (Jvm.Cond.privateMethod ({ cls := "LeanTowerModel", name := "leaves", desc := "(III)V" } : Jvm.MethodName)) ∈ lw_tbl := mt_5 (i := 203) rfl
theorem q5_204 : (Jvm.Cond.instanceMethod ({ cls := "LeanTowerModel", name := "leaves", desc := "(III)V" } : Jvm.MethodName)) ∈ WA := wa_of (mt_5 (i := 204) rfl) rfl
theorem q5_205 : (Jvm.Cond.code ({ cls := "LeanTowerModel", name := "leaves", desc := "(III)V" } : Jvm.MethodName) prog_14_method_61_code (4 : Nat) (Option.none : Option Jvm.ClassFile.FieldType)) ∈ WA := wa_of (mt_5 (i := 205) rfl) rfl
theorem q5_206 : (Jvm.Cond.methodLink "LeanTowerModel" (246 : Nat) ({ cls := "LeanTowerModel", name := "plainMark", desc := "(I)I" } : Jvm.MethodName)) ∈ WA := wa_of (mt_5 (i := 206) rfl) rfl
theorem q5_207 : (Jvm.Cond.privateMethod ({ cls := "LeanTowerModel", name := "plainMark", desc := "(I)I" } : Jvm.MethodName)) ∈ lw_tbl := mt_5 (i := 207) rfl
theorem q5_208 : (Jvm.Cond.instanceMethod ({ cls := "LeanTowerModel", name := "plainMark", desc := "(I)I" } : Jvm.MethodName)) ∈ WA := wa_of (mt_5 (i := 208) rfl) rfl
theorem q5_209 : (Jvm.Cond.code ({ cls := "LeanTowerModel", name := "plainMark", desc := "(I)I" } : Jvm.MethodName) prog_14_method_62_code (3 : Nat) (Option.some Jvm.ClassFile.FieldType.int)) ∈ WA := wa_of (mt_5 (i := 209) rfl) rfl
theorem q5_210 : (Jvm.Cond.methodLink "LeanTowerLaw" (133 : Nat) ({ cls := "LeanTowerModel", name := "trace", desc := "(I)I" } : Jvm.MethodName)) ∈ WA := wa_of (mt_5 (i := 210) rfl) rfl
theorem q5_211 : (Jvm.Cond.instanceMethod ({ cls := "LeanTowerModel", name := "trace", desc := "(I)I" } : Jvm.MethodName)) ∈ WA := wa_of (mt_5 (i := 211) rfl) rfl
theorem q5_212 : (Jvm.Cond.selects "LeanTowerModel" ({ cls := "LeanTowerModel", name := "trace", desc := "(I)I" } : Jvm.MethodName) ({ cls := "LeanTowerModel", name := "trace", desc := "(I)I" } : Jvm.MethodName)) ∈ WA := wa_of (mt_5 (i := 212) rfl) rfl
theorem q5_213 : (Jvm.Cond.code ({ cls := "LeanTowerModel", name := "trace", desc := "(I)I" } : Jvm.MethodName) prog_14_method_65_code (2 : Nat) (Option.some Jvm.ClassFile.FieldType.int)) ∈ WA := wa_of (mt_5 (i := 213) rfl) rfl
theorem q5_214 : (Jvm.Cond.methodLink "LeanTowerLaw" (137 : Nat) ({ cls := "LeanTowerModel", name := "count", desc := "(I)I" } : Jvm.MethodName)) ∈ WA := wa_of (mt_5 (i := 214) rfl) rfl
theorem q5_215 : (Jvm.Cond.instanceMethod ({ cls := "LeanTowerModel", name := "count", desc := "(I)I" } : Jvm.MethodName)) ∈ WA := wa_of (mt_5 (i := 215) rfl) rfl
theorem q5_216 : (Jvm.Cond.selects "LeanTowerModel" ({ cls := "LeanTowerModel", name := "count", desc := "(I)I" } : Jvm.MethodName) ({ cls := "LeanTowerModel", name := "count", desc := "(I)I" } : Jvm.MethodName)) ∈ WA := wa_of (mt_5 (i := 216) rfl) rfl
theorem q5_217 : (Jvm.Cond.code ({ cls := "LeanTowerModel", name := "count", desc := "(I)I" } : Jvm.MethodName) prog_14_method_66_code (5 : Nat) (Option.some Jvm.ClassFile.FieldType.int)) ∈ WA := wa_of (mt_5 (i := 217) rfl) rfl
theorem q5_218 : (Jvm.Cond.methodLink "LeanTowerLaw" (141 : Nat) ({ cls := "LeanTowerModel", name := "status", desc := "()I" } : Jvm.MethodName)) ∈ WA := wa_of (mt_5 (i := 218) rfl) rfl
theorem q5_219 : (Jvm.Cond.instanceMethod ({ cls := "LeanTowerModel", name := "status", desc := "()I" } : Jvm.MethodName)) ∈ WA := wa_of (mt_5 (i := 219) rfl) rfl
theorem q5_220 : (Jvm.Cond.selects "LeanTowerModel" ({ cls := "LeanTowerModel", name := "status", desc := "()I" } : Jvm.MethodName) ({ cls := "LeanTowerModel", name := "status", desc := "()I" } : Jvm.MethodName)) ∈ WA := wa_of (mt_5 (i := 220) rfl) rfl
theorem q5_221 : (Jvm.Cond.code ({ cls := "LeanTowerModel", name := "status", desc := "()I" } : Jvm.MethodName) prog_14_method_67_code (1 : Nat) (Option.some Jvm.ClassFile.FieldType.int)) ∈ WA := wa_of (mt_5 (i := 221) rfl) rfl
theorem q5_222 : (Jvm.Cond.constantLong "LeanTowerLaw" (32 : Nat) (4294967295 : Int64)) ∈ WA := wa_of (mt_5 (i := 222) rfl) rfl
theorem q5_223 : (Jvm.Cond.sameMethod "LeanTower$Monk" "LeanTower$Monk" "size" "(LLeanTower$Trace;)I") ∈ WA := wa_of (mt_5 (i := 223) rfl) rfl
theorem q5_224 : (Jvm.Cond.sameMethod "LeanTower$Pilgrim" "LeanTower$Pilgrim" "size" "(LLeanTower$Trace;)I") ∈ WA := wa_of (mt_5 (i := 224) rfl) rfl
theorem q5_225 : (Jvm.Cond.sameMethod "LeanTower$Person" "LeanTower$Person" "mark" "(LLeanTower$Trace;)I") ∈ WA := wa_of (mt_5 (i := 225) rfl) rfl
theorem q5_226 : (Jvm.Cond.selects "LeanTower$Bishop" ({ cls := "LeanTower$Person", name := "mark", desc := "(LLeanTower$Trace;)I" } : Jvm.MethodName) ({ cls := "LeanTower$Monk", name := "mark", desc := "(LLeanTower$Trace;)I" } : Jvm.MethodName)) ∈ WA := wa_of (mt_5 (i := 226) rfl) rfl
theorem q5_227 : (Jvm.Cond.selects "LeanTower$Bishop" ({ cls := "LeanTower$Monk", name := "size", desc := "(LLeanTower$Trace;)I" } : Jvm.MethodName) ({ cls := "LeanTower$Bishop", name := "size", desc := "(LLeanTower$Trace;)I" } : Jvm.MethodName)) ∈ WA := wa_of (mt_5 (i := 227) rfl) rfl
theorem q5_228 : (Jvm.Cond.selects "LeanTower$Monk" ({ cls := "LeanTower$Monk", name := "size", desc := "(LLeanTower$Trace;)I" } : Jvm.MethodName) ({ cls := "LeanTower$Monk", name := "size", desc := "(LLeanTower$Trace;)I" } : Jvm.MethodName)) ∈ WA := wa_of (mt_5 (i := 228) rfl) rfl
theorem q5_229 : (Jvm.Cond.selects "LeanTower$Boy" ({ cls := "LeanTower$Person", name := "mark", desc := "(LLeanTower$Trace;)I" } : Jvm.MethodName) ({ cls := "LeanTower$Boy", name := "mark", desc := "(LLeanTower$Trace;)I" } : Jvm.MethodName)) ∈ WA := wa_of (mt_5 (i := 229) rfl) rfl
theorem q5_230 : (Jvm.Cond.selects "LeanTower$Monk" ({ cls := "LeanTower$Person", name := "mark", desc := "(LLeanTower$Trace;)I" } : Jvm.MethodName) ({ cls := "LeanTower$Monk", name := "mark", desc := "(LLeanTower$Trace;)I" } : Jvm.MethodName)) ∈ WA := wa_of (mt_5 (i := 230) rfl) rfl
theorem q5_231 : (Jvm.Cond.selects "LeanTower$Pilgrim" ({ cls := "LeanTower$Person", name := "mark", desc := "(LLeanTower$Trace;)I" } : Jvm.MethodName) ({ cls := "LeanTower$Pilgrim", name := "mark", desc := "(LLeanTower$Trace;)I" } : Jvm.MethodName)) ∈ WA := wa_of (mt_5 (i := 231) rfl) rfl
theorem q5_232 : (Jvm.Cond.selects "LeanTower$Widow" ({ cls := "LeanTower$Person", name := "mark", desc := "(LLeanTower$Trace;)I" } : Jvm.MethodName) ({ cls := "LeanTower$Widow", name := "mark", desc := "(LLeanTower$Trace;)I" } : Jvm.MethodName)) ∈ WA := wa_of (mt_5 (i := 232) rfl) rfl
theorem q5_233 : (Jvm.Cond.castable "LeanTower$Boy" "LeanTower$Pilgrim") ∈ lw_tbl := mt_5 (i := 233) rfl
theorem q5_234 : (Jvm.Cond.castable "LeanTower$Widow" "LeanTower$Pilgrim") ∈ lw_tbl := mt_5 (i := 234) rfl
theorem q5_235 : (Jvm.Cond.castable "LeanTower$Bishop" "LeanTower$Monk") ∈ lw_tbl := mt_5 (i := 235) rfl
theorem q5_236 : (Jvm.Cond.castable "LeanTower$Widow" "LeanTower$Person") ∈ lw_tbl := mt_5 (i := 236) rfl
theorem q5_237 : (Jvm.Cond.castable "LeanTower$Boy" "LeanTower$Person") ∈ lw_tbl := mt_5 (i := 237) rfl
theorem q5_238 : (Jvm.Cond.castable "LeanTower$Monk" "LeanTower$Person") ∈ lw_tbl := mt_5 (i := 238) rfl
theorem q5_239 : (Jvm.Cond.castable "LeanTower$Bishop" "LeanTower$Person") ∈ lw_tbl := mt_5 (i := 239) rfl
theorem q6_0 : (Jvm.Cond.castable "LeanTower$Pilgrim" "LeanTower$Person") ∈ lw_tbl := mt_6 (i := 0) rfl
theorem q6_1 : (Jvm.Cond.fieldLink "java/lang/String" (9 : Nat) "java/lang/String" "value" "[B") ∈ WA := wa_of (mt_6 (i := 1) rfl) rfl
theorem q6_2 : (Jvm.Cond.fieldLink "java/lang/String" (15 : Nat) "java/lang/String" "coder" "B") ∈ WA := wa_of (mt_6 (i := 2) rfl) rfl
theorem q0_0 : Cond.selects "LeanTower" ⟨"LeanTower", "rowAt", "(I)LLeanTower$Row;"⟩ ⟨"LeanTower", "rowAt", "(I)LLeanTower$Row;"⟩ ∈ WA := wa_of (mt_0 (i := 0) rfl) rfl
theorem q0_1 : Cond.selects "LeanTower" ⟨"LeanTower", "found", "(I)I"⟩ ⟨"LeanTower", "found", "(I)I"⟩ ∈ WA := wa_of (mt_0 (i := 1) rfl) rfl
theorem q0_2 : Cond.selects "LeanTower" ⟨"LeanTower", "clean", "(I)I"⟩ ⟨"LeanTower", "clean", "(I)I"⟩ ∈ WA := wa_of (mt_0 (i := 2) rfl) rfl
theorem q0_3 : Cond.selects "LeanTower$Reader" ⟨"LeanTower$Reader", "next", "()V"⟩ ⟨"LeanTower$Reader", "next", "()V"⟩ ∈ WA := wa_of (mt_0 (i := 3) rfl) rfl
theorem q0_4 : Cond.selects "LeanTower$Reader" ⟨"LeanTower$Reader", "passLetters", "()V"⟩ ⟨"LeanTower$Reader", "passLetters", "()V"⟩ ∈ WA := wa_of (mt_0 (i := 4) rfl) rfl
theorem q0_5 : Cond.selects "LeanTower$Reader" ⟨"LeanTower$Reader", "passFigures", "()V"⟩ ⟨"LeanTower$Reader", "passFigures", "()V"⟩ ∈ WA := wa_of (mt_0 (i := 5) rfl) rfl
theorem q0_6 : Cond.selects "LeanTower$Reader" ⟨"LeanTower$Reader", "readLaw", "(LLeanTower$Tower;)Z"⟩ ⟨"LeanTower$Reader", "readLaw", "(LLeanTower$Tower;)Z"⟩ ∈ WA := wa_of (mt_0 (i := 6) rfl) rfl
theorem q0_7 : Cond.selects "LeanTower$Reader" ⟨"LeanTower$Reader", "isWord", "(Ljava/lang/String;)Z"⟩ ⟨"LeanTower$Reader", "isWord", "(Ljava/lang/String;)Z"⟩ ∈ WA := wa_of (mt_0 (i := 7) rfl) rfl
theorem q0_8 : Cond.selects "LeanTower$Reader" ⟨"LeanTower$Reader", "refuse", "(I)Z"⟩ ⟨"LeanTower$Reader", "refuse", "(I)Z"⟩ ∈ WA := wa_of (mt_0 (i := 8) rfl) rfl
theorem q0_9 : Cond.selects "LeanTower$Reader" ⟨"LeanTower$Reader", "number", "(II)I"⟩ ⟨"LeanTower$Reader", "number", "(II)I"⟩ ∈ WA := wa_of (mt_0 (i := 9) rfl) rfl
theorem q0_10 : Cond.selects "LeanTower$Reader" ⟨"LeanTower$Reader", "passSemicolon", "()Z"⟩ ⟨"LeanTower$Reader", "passSemicolon", "()Z"⟩ ∈ WA := wa_of (mt_0 (i := 10) rfl) rfl
theorem q0_11 : Cond.selects "LeanTower$Reader" ⟨"LeanTower$Reader", "readPerson", "(LLeanTower$Tower;)Z"⟩ ⟨"LeanTower$Reader", "readPerson", "(LLeanTower$Tower;)Z"⟩ ∈ WA := wa_of (mt_0 (i := 11) rfl) rfl
theorem q0_12 : Cond.selects "LeanTower$Reader" ⟨"LeanTower$Reader", "kindAtHand", "()I"⟩ ⟨"LeanTower$Reader", "kindAtHand", "()I"⟩ ∈ WA := wa_of (mt_0 (i := 12) rfl) rfl
theorem q0_13 : Cond.selects "LeanTower$Reader" ⟨"LeanTower$Reader", "readStone", "(LLeanTower$Tower;)Z"⟩ ⟨"LeanTower$Reader", "readStone", "(LLeanTower$Tower;)Z"⟩ ∈ WA := wa_of (mt_0 (i := 13) rfl) rfl
theorem q0_14 : Cond.selects "LeanTower" ⟨"LeanTower", "keepAct", "()V"⟩ ⟨"LeanTower", "keepAct", "()V"⟩ ∈ WA := wa_of (mt_0 (i := 14) rfl) rfl
theorem q0_15 : Cond.selects "LeanTower$Tower" ⟨"LeanTower$Tower", "move", "(II)V"⟩ ⟨"LeanTower$Tower", "move", "(II)V"⟩ ∈ WA := wa_of (mt_0 (i := 15) rfl) rfl
theorem q0_16 : Cond.selects "LeanTower" ⟨"LeanTower", "mayGoUp", "(I)Z"⟩ ⟨"LeanTower", "mayGoUp", "(I)Z"⟩ ∈ WA := wa_of (mt_0 (i := 16) rfl) rfl
theorem q0_17 : Cond.selects "LeanTower" ⟨"LeanTower", "worstOfTwo", "(III)I"⟩ ⟨"LeanTower", "worstOfTwo", "(III)I"⟩ ∈ WA := wa_of (mt_0 (i := 17) rfl) rfl
theorem q0_18 : Cond.selects "LeanTower" ⟨"LeanTower", "measureReach", "()V"⟩ ⟨"LeanTower", "measureReach", "()V"⟩ ∈ WA := wa_of (mt_0 (i := 18) rfl) rfl
theorem q0_19 : Cond.selects "LeanTower" ⟨"LeanTower", "worstOfHanging", "(I)I"⟩ ⟨"LeanTower", "worstOfHanging", "(I)I"⟩ ∈ WA := wa_of (mt_0 (i := 19) rfl) rfl
theorem q0_20 : Cond.selects "LeanTower" ⟨"LeanTower", "sideIn", "(II)I"⟩ ⟨"LeanTower", "sideIn", "(II)I"⟩ ∈ WA := wa_of (mt_0 (i := 20) rfl) rfl
theorem q0_21 : Cond.selects "LeanTower" ⟨"LeanTower", "setThatMakes", "(III)I"⟩ ⟨"LeanTower", "setThatMakes", "(III)I"⟩ ∈ WA := wa_of (mt_0 (i := 21) rfl) rfl
theorem q0_22 : Cond.selects "LeanTower" ⟨"LeanTower", "findRescuable", "(I)V"⟩ ⟨"LeanTower", "findRescuable", "(I)V"⟩ ∈ WA := wa_of (mt_0 (i := 22) rfl) rfl
theorem q0_23 : Cond.selects "LeanTower" ⟨"LeanTower", "nextOut", "(I)I"⟩ ⟨"LeanTower", "nextOut", "(I)I"⟩ ∈ WA := wa_of (mt_0 (i := 23) rfl) rfl
theorem q0_24 : Cond.selects "LeanTower$Bells" ⟨"LeanTower$Bells", "ringFrom", "(IIII)V"⟩ ⟨"LeanTower$Bells", "ringFrom", "(IIII)V"⟩ ∈ WA := wa_of (mt_0 (i := 24) rfl) rfl
theorem q0_25 : Cond.selects "LeanTower" ⟨"LeanTower", "rowsThere", "()I"⟩ ⟨"LeanTower", "rowsThere", "()I"⟩ ∈ WA := wa_of (mt_0 (i := 25) rfl) rfl
theorem q0_26 : Cond.selects "LeanTowerModel" ⟨"LeanTowerModel", "met", "(I)I"⟩ ⟨"LeanTowerModel", "met", "(I)I"⟩ ∈ WA := wa_of (mt_0 (i := 26) rfl) rfl
theorem q0_27 : Cond.selects "LeanTowerModel" ⟨"LeanTowerModel", "fine", "(I)I"⟩ ⟨"LeanTowerModel", "fine", "(I)I"⟩ ∈ WA := wa_of (mt_0 (i := 27) rfl) rfl
theorem q0_28 : Cond.selects "LeanTowerModel" ⟨"LeanTowerModel", "next", "()V"⟩ ⟨"LeanTowerModel", "next", "()V"⟩ ∈ WA := wa_of (mt_0 (i := 28) rfl) rfl
theorem q0_29 : Cond.selects "LeanTowerModel" ⟨"LeanTowerModel", "takeLaw", "()V"⟩ ⟨"LeanTowerModel", "takeLaw", "()V"⟩ ∈ WA := wa_of (mt_0 (i := 29) rfl) rfl
theorem q0_30 : Cond.selects "LeanTowerModel" ⟨"LeanTowerModel", "takeNumber", "(III)I"⟩ ⟨"LeanTowerModel", "takeNumber", "(III)I"⟩ ∈ WA := wa_of (mt_0 (i := 30) rfl) rfl
theorem q0_31 : Cond.selects "LeanTowerModel" ⟨"LeanTowerModel", "fails", "(I)I"⟩ ⟨"LeanTowerModel", "fails", "(I)I"⟩ ∈ WA := wa_of (mt_0 (i := 31) rfl) rfl
theorem q0_32 : Cond.selects "LeanTowerModel" ⟨"LeanTowerModel", "takeSign", "()V"⟩ ⟨"LeanTowerModel", "takeSign", "()V"⟩ ∈ WA := wa_of (mt_0 (i := 32) rfl) rfl
theorem q0_33 : Cond.selects "LeanTowerModel" ⟨"LeanTowerModel", "takePerson", "()V"⟩ ⟨"LeanTowerModel", "takePerson", "()V"⟩ ∈ WA := wa_of (mt_0 (i := 33) rfl) rfl
theorem q0_34 : Cond.selects "LeanTowerModel" ⟨"LeanTowerModel", "takeStone", "()V"⟩ ⟨"LeanTowerModel", "takeStone", "()V"⟩ ∈ WA := wa_of (mt_0 (i := 34) rfl) rfl
theorem q0_35 : Cond.selects "LeanTowerModel" ⟨"LeanTowerModel", "copyAll", "(II)V"⟩ ⟨"LeanTowerModel", "copyAll", "(II)V"⟩ ∈ WA := wa_of (mt_0 (i := 35) rfl) rfl
theorem q0_36 : Cond.selects "LeanTowerModel" ⟨"LeanTowerModel", "isOne", "(I)Z"⟩ ⟨"LeanTowerModel", "isOne", "(I)Z"⟩ ∈ WA := wa_of (mt_0 (i := 36) rfl) rfl
theorem q0_37 : Cond.selects "LeanTowerModel" ⟨"LeanTowerModel", "minds", "()V"⟩ ⟨"LeanTowerModel", "minds", "()V"⟩ ∈ WA := wa_of (mt_0 (i := 37) rfl) rfl
theorem q0_38 : Cond.selects "LeanTowerModel" ⟨"LeanTowerModel", "isTower", "()Z"⟩ ⟨"LeanTowerModel", "isTower", "()Z"⟩ ∈ WA := wa_of (mt_0 (i := 38) rfl) rfl
theorem q0_39 : Cond.selects "LeanTowerModel" ⟨"LeanTowerModel", "half", "(I)V"⟩ ⟨"LeanTowerModel", "half", "(I)V"⟩ ∈ WA := wa_of (mt_0 (i := 39) rfl) rfl
theorem q0_40 : Cond.selects "LeanTowerModel" ⟨"LeanTowerModel", "worstOf", "(I)I"⟩ ⟨"LeanTowerModel", "worstOf", "(I)I"⟩ ∈ WA := wa_of (mt_0 (i := 40) rfl) rfl
theorem q0_41 : Cond.selects "LeanTowerModel" ⟨"LeanTowerModel", "leanOf", "(IZ)I"⟩ ⟨"LeanTowerModel", "leanOf", "(IZ)I"⟩ ∈ WA := wa_of (mt_0 (i := 41) rfl) rfl
theorem q0_42 : Cond.selects "LeanTowerModel" ⟨"LeanTowerModel", "burdenOf", "(I)I"⟩ ⟨"LeanTowerModel", "burdenOf", "(I)I"⟩ ∈ WA := wa_of (mt_0 (i := 42) rfl) rfl
theorem q0_43 : Cond.selects "LeanTowerModel" ⟨"LeanTowerModel", "sideOf", "(I)I"⟩ ⟨"LeanTowerModel", "sideOf", "(I)I"⟩ ∈ WA := wa_of (mt_0 (i := 43) rfl) rfl
theorem q0_44 : Cond.selects "LeanTowerModel" ⟨"LeanTowerModel", "creep", "(I)V"⟩ ⟨"LeanTowerModel", "creep", "(I)V"⟩ ∈ WA := wa_of (mt_0 (i := 44) rfl) rfl
theorem q0_45 : Cond.selects "LeanTowerModel" ⟨"LeanTowerModel", "foretellNow", "()I"⟩ ⟨"LeanTowerModel", "foretellNow", "()I"⟩ ∈ WA := wa_of (mt_0 (i := 45) rfl) rfl
theorem q0_46 : Cond.selects "LeanTowerModel" ⟨"LeanTowerModel", "foretell", "(II)I"⟩ ⟨"LeanTowerModel", "foretell", "(II)I"⟩ ∈ WA := wa_of (mt_0 (i := 46) rfl) rfl
theorem q0_47 : Cond.selects "LeanTowerModel" ⟨"LeanTowerModel", "isSafe", "(I)Z"⟩ ⟨"LeanTowerModel", "isSafe", "(I)Z"⟩ ∈ WA := wa_of (mt_0 (i := 47) rfl) rfl
theorem q0_48 : Cond.selects "LeanTowerModel" ⟨"LeanTowerModel", "size", "(I)I"⟩ ⟨"LeanTowerModel", "size", "(I)I"⟩ ∈ WA := wa_of (mt_0 (i := 48) rfl) rfl
theorem q0_49 : Cond.selects "LeanTowerModel" ⟨"LeanTowerModel", "leaves", "(III)V"⟩ ⟨"LeanTowerModel", "leaves", "(III)V"⟩ ∈ WA := wa_of (mt_0 (i := 49) rfl) rfl
theorem q0_50 : Cond.selects "LeanTowerModel" ⟨"LeanTowerModel", "plainMark", "(I)I"⟩ ⟨"LeanTowerModel", "plainMark", "(I)I"⟩ ∈ WA := wa_of (mt_0 (i := 50) rfl) rfl
theorem in_0 : ∀ w ∈ u_ws RX0 TX0 5, w ∈ WA := by decide +kernel
theorem in_1 : ∀ w ∈ u_ws RX1 TX1 3, w ∈ WA := by decide +kernel
theorem in_2 : ∀ w ∈ u_ws RX2 TX2 3, w ∈ WA := by decide +kernel
theorem in_3 : ∀ w ∈ u_ws RX3 TX3 3, w ∈ WA := by decide +kernel
theorem in_5 : ∀ w ∈ u_ws RX5 TX5 3, w ∈ WA := by decide +kernel
theorem in_6 : ∀ w ∈ u_ws RX6 TX6 8, w ∈ WA := by decide +kernel
theorem in_7 : ∀ w ∈ u_ws RX7 TX7 3, w ∈ WA := by decide +kernel
theorem in_8 : ∀ w ∈ u_ws RX8 TX8 12, w ∈ WA := by decide +kernel
theorem in_9 : ∀ w ∈ u_ws RX9 TX9 2, w ∈ WA := by decide +kernel
theorem in_10 : ∀ w ∈ u_ws RX10 TX10 3, w ∈ WA := by decide +kernel
theorem in_11 : ∀ w ∈ u_ws RX11 TX11 13, w ∈ WA := by decide +kernel
theorem in_12 : ∀ w ∈ u_ws RX12 TX12 21, w ∈ WA := by decide +kernel
end
section
theorem dX0_init_0 : decode cX0_init 0 = .ok (.aload_n 0, 1) := by decide +kernel
theorem dX0_init_1 : decode cX0_init 1 = .ok (.invokespecial 3, 3) := by decide +kernel
theorem dX0_init_4 : decode cX0_init 4 = .ok (.aload_n 0, 1) := by decide +kernel
theorem dX0_init_5 : decode cX0_init 5 = .ok (.iconst 5, 1) := by decide +kernel
theorem dX0_init_6 : decode cX0_init 6 = .ok (.newarray .int, 2) := by decide +kernel
theorem dX0_init_8 : decode cX0_init 8 = .ok (.putfield 9, 3) := by decide +kernel
theorem dX0_init_11 : decode cX0_init 11 = .ok (.aload_n 0, 1) := by decide +kernel
theorem dX0_init_12 : decode cX0_init 12 = .ok (.iconst 5, 1) := by decide +kernel
theorem dX0_init_13 : decode cX0_init 13 = .ok (.newarray .int, 2) := by decide +kernel
theorem dX0_init_15 : decode cX0_init 15 = .ok (.putfield 15, 3) := by decide +kernel
theorem dX0_init_18 : decode cX0_init 18 = .ok (.aload_n 0, 1) := by decide +kernel
theorem dX0_init_19 : decode cX0_init 19 = .ok (.iconst 5, 1) := by decide +kernel
theorem dX0_init_20 : decode cX0_init 20 = .ok (.newarray .int, 2) := by decide +kernel
theorem dX0_init_22 : decode cX0_init 22 = .ok (.putfield 18, 3) := by decide +kernel
theorem dX0_init_25 : decode cX0_init 25 = .ok (.return_, 1) := by decide +kernel
theorem dX0_findBest_0 : decode cX0_findBest 0 = .ok (.aload_n 0, 1) := by decide +kernel
theorem dX0_findBest_1 : decode cX0_findBest 1 = .ok (.iload_n 2, 1) := by decide +kernel
theorem dX0_findBest_2 : decode cX0_findBest 2 = .ok (.iconst 5, 1) := by decide +kernel
theorem dX0_findBest_3 : decode cX0_findBest 3 = .ok (.invokestatic 21, 3) := by decide +kernel
theorem dX0_findBest_6 : decode cX0_findBest 6 = .ok (.putfield 27, 3) := by decide +kernel
theorem dX0_findBest_9 : decode cX0_findBest 9 = .ok (.iconst 0, 1) := by decide +kernel
theorem dX0_findBest_10 : decode cX0_findBest 10 = .ok (.istore_n 3, 1) := by decide +kernel
theorem dX0_findBest_11 : decode cX0_findBest 11 = .ok (.iload_n 3, 1) := by decide +kernel
theorem dX0_findBest_12 : decode cX0_findBest 12 = .ok (.aload_n 0, 1) := by decide +kernel
theorem dX0_findBest_13 : decode cX0_findBest 13 = .ok (.getfield 27, 3) := by decide +kernel
theorem dX0_findBest_16 : decode cX0_findBest 16 = .ok (.if_icmp .ge 24, 3) := by decide +kernel
theorem dX0_findBest_19 : decode cX0_findBest 19 = .ok (.iload_n 3, 1) := by decide +kernel
theorem dX0_findBest_20 : decode cX0_findBest 20 = .ok (.aload_n 1, 1) := by decide +kernel
theorem dX0_findBest_21 : decode cX0_findBest 21 = .ok (.arraylength, 1) := by decide +kernel
theorem dX0_findBest_22 : decode cX0_findBest 22 = .ok (.if_icmp .ge 18, 3) := by decide +kernel
theorem dX0_findBest_25 : decode cX0_findBest 25 = .ok (.aload_n 0, 1) := by decide +kernel
theorem dX0_findBest_26 : decode cX0_findBest 26 = .ok (.getfield 9, 3) := by decide +kernel
theorem dX0_findBest_29 : decode cX0_findBest 29 = .ok (.iload_n 3, 1) := by decide +kernel
theorem dX0_findBest_30 : decode cX0_findBest 30 = .ok (.aload_n 1, 1) := by decide +kernel
theorem dX0_findBest_31 : decode cX0_findBest 31 = .ok (.iload_n 3, 1) := by decide +kernel
theorem dX0_findBest_32 : decode cX0_findBest 32 = .ok (.iaload, 1) := by decide +kernel
theorem dX0_findBest_33 : decode cX0_findBest 33 = .ok (.iastore, 1) := by decide +kernel
theorem dX0_findBest_34 : decode cX0_findBest 34 = .ok (.iinc 3 1, 3) := by decide +kernel
theorem dX0_findBest_37 : decode cX0_findBest 37 = .ok (.goto (-26), 3) := by decide +kernel
theorem dX0_findBest_40 : decode cX0_findBest 40 = .ok (.aload_n 0, 1) := by decide +kernel
theorem dX0_findBest_41 : decode cX0_findBest 41 = .ok (.bipush 101, 2) := by decide +kernel
theorem dX0_findBest_43 : decode cX0_findBest 43 = .ok (.putfield 31, 3) := by decide +kernel
theorem dX0_findBest_46 : decode cX0_findBest 46 = .ok (.aload_n 0, 1) := by decide +kernel
theorem dX0_findBest_47 : decode cX0_findBest 47 = .ok (.iconst 0, 1) := by decide +kernel
theorem dX0_findBest_48 : decode cX0_findBest 48 = .ok (.iconst 0, 1) := by decide +kernel
theorem dX0_findBest_49 : decode cX0_findBest 49 = .ok (.iconst 0, 1) := by decide +kernel
theorem dX0_findBest_50 : decode cX0_findBest 50 = .ok (.iconst 0, 1) := by decide +kernel
theorem dX0_findBest_51 : decode cX0_findBest 51 = .ok (.invokevirtual 34, 3) := by decide +kernel
theorem dX0_findBest_54 : decode cX0_findBest 54 = .ok (.return_, 1) := by decide +kernel
theorem dX0_ringFrom_0 : decode cX0_ringFrom 0 = .ok (.iload 4, 2) := by decide +kernel
theorem dX0_ringFrom_2 : decode cX0_ringFrom 2 = .ok (.aload_n 0, 1) := by decide +kernel
theorem dX0_ringFrom_3 : decode cX0_ringFrom 3 = .ok (.getfield 31, 3) := by decide +kernel
theorem dX0_ringFrom_6 : decode cX0_ringFrom 6 = .ok (.if_icmp .lt 4, 3) := by decide +kernel
theorem dX0_ringFrom_9 : decode cX0_ringFrom 9 = .ok (.return_, 1) := by decide +kernel
theorem dX0_ringFrom_10 : decode cX0_ringFrom 10 = .ok (.iload_n 1, 1) := by decide +kernel
theorem dX0_ringFrom_11 : decode cX0_ringFrom 11 = .ok (.aload_n 0, 1) := by decide +kernel
theorem dX0_ringFrom_12 : decode cX0_ringFrom 12 = .ok (.getfield 27, 3) := by decide +kernel
theorem dX0_ringFrom_15 : decode cX0_ringFrom 15 = .ok (.if_icmp .lt 27, 3) := by decide +kernel
theorem dX0_ringFrom_18 : decode cX0_ringFrom 18 = .ok (.aload_n 0, 1) := by decide +kernel
theorem dX0_ringFrom_19 : decode cX0_ringFrom 19 = .ok (.iload 4, 2) := by decide +kernel
theorem dX0_ringFrom_21 : decode cX0_ringFrom 21 = .ok (.putfield 31, 3) := by decide +kernel
theorem dX0_ringFrom_24 : decode cX0_ringFrom 24 = .ok (.aload_n 0, 1) := by decide +kernel
theorem dX0_ringFrom_25 : decode cX0_ringFrom 25 = .ok (.getfield 15, 3) := by decide +kernel
theorem dX0_ringFrom_28 : decode cX0_ringFrom 28 = .ok (.iconst 0, 1) := by decide +kernel
theorem dX0_ringFrom_29 : decode cX0_ringFrom 29 = .ok (.aload_n 0, 1) := by decide +kernel
theorem dX0_ringFrom_30 : decode cX0_ringFrom 30 = .ok (.getfield 18, 3) := by decide +kernel
theorem dX0_ringFrom_33 : decode cX0_ringFrom 33 = .ok (.iconst 0, 1) := by decide +kernel
theorem dX0_ringFrom_34 : decode cX0_ringFrom 34 = .ok (.aload_n 0, 1) := by decide +kernel
theorem dX0_ringFrom_35 : decode cX0_ringFrom 35 = .ok (.getfield 27, 3) := by decide +kernel
theorem dX0_ringFrom_38 : decode cX0_ringFrom 38 = .ok (.invokestatic 38, 3) := by decide +kernel
theorem dX0_ringFrom_41 : decode cX0_ringFrom 41 = .ok (.return_, 1) := by decide +kernel
theorem dX0_ringFrom_42 : decode cX0_ringFrom 42 = .ok (.iconst 0, 1) := by decide +kernel
theorem dX0_ringFrom_43 : decode cX0_ringFrom 43 = .ok (.istore 5, 2) := by decide +kernel
theorem dX0_ringFrom_45 : decode cX0_ringFrom 45 = .ok (.iload 5, 2) := by decide +kernel
theorem dX0_ringFrom_47 : decode cX0_ringFrom 47 = .ok (.aload_n 0, 1) := by decide +kernel
theorem dX0_ringFrom_48 : decode cX0_ringFrom 48 = .ok (.getfield 27, 3) := by decide +kernel
theorem dX0_ringFrom_51 : decode cX0_ringFrom 51 = .ok (.if_icmp .ge 84, 3) := by decide +kernel
theorem dX0_ringFrom_54 : decode cX0_ringFrom 54 = .ok (.iload_n 2, 1) := by decide +kernel
theorem dX0_ringFrom_55 : decode cX0_ringFrom 55 = .ok (.iload 5, 2) := by decide +kernel
theorem dX0_ringFrom_57 : decode cX0_ringFrom 57 = .ok (.ishr, 1) := by decide +kernel
theorem dX0_ringFrom_58 : decode cX0_ringFrom 58 = .ok (.iconst 1, 1) := by decide +kernel
theorem dX0_ringFrom_59 : decode cX0_ringFrom 59 = .ok (.iand, 1) := by decide +kernel
theorem dX0_ringFrom_60 : decode cX0_ringFrom 60 = .ok (.ifCond .ne 69, 3) := by decide +kernel
theorem dX0_ringFrom_63 : decode cX0_ringFrom 63 = .ok (.aload_n 0, 1) := by decide +kernel
theorem dX0_ringFrom_64 : decode cX0_ringFrom 64 = .ok (.getfield 15, 3) := by decide +kernel
theorem dX0_ringFrom_67 : decode cX0_ringFrom 67 = .ok (.iload_n 1, 1) := by decide +kernel
theorem dX0_ringFrom_68 : decode cX0_ringFrom 68 = .ok (.iload 5, 2) := by decide +kernel
theorem dX0_ringFrom_70 : decode cX0_ringFrom 70 = .ok (.iastore, 1) := by decide +kernel
theorem dX0_ringFrom_71 : decode cX0_ringFrom 71 = .ok (.iload_n 1, 1) := by decide +kernel
theorem dX0_ringFrom_72 : decode cX0_ringFrom 72 = .ok (.iconst 2, 1) := by decide +kernel
theorem dX0_ringFrom_73 : decode cX0_ringFrom 73 = .ok (.irem, 1) := by decide +kernel
theorem dX0_ringFrom_74 : decode cX0_ringFrom 74 = .ok (.ifCond .ne 15, 3) := by decide +kernel
theorem dX0_ringFrom_77 : decode cX0_ringFrom 77 = .ok (.iload_n 3, 1) := by decide +kernel
theorem dX0_ringFrom_78 : decode cX0_ringFrom 78 = .ok (.aload_n 0, 1) := by decide +kernel
theorem dX0_ringFrom_79 : decode cX0_ringFrom 79 = .ok (.getfield 9, 3) := by decide +kernel
theorem dX0_ringFrom_82 : decode cX0_ringFrom 82 = .ok (.iload 5, 2) := by decide +kernel
theorem dX0_ringFrom_84 : decode cX0_ringFrom 84 = .ok (.iaload, 1) := by decide +kernel
theorem dX0_ringFrom_85 : decode cX0_ringFrom 85 = .ok (.iadd, 1) := by decide +kernel
theorem dX0_ringFrom_86 : decode cX0_ringFrom 86 = .ok (.goto 12, 3) := by decide +kernel
theorem dX0_ringFrom_89 : decode cX0_ringFrom 89 = .ok (.iload_n 3, 1) := by decide +kernel
theorem dX0_ringFrom_90 : decode cX0_ringFrom 90 = .ok (.aload_n 0, 1) := by decide +kernel
theorem dX0_ringFrom_91 : decode cX0_ringFrom 91 = .ok (.getfield 9, 3) := by decide +kernel
theorem dX0_ringFrom_94 : decode cX0_ringFrom 94 = .ok (.iload 5, 2) := by decide +kernel
theorem dX0_ringFrom_96 : decode cX0_ringFrom 96 = .ok (.iaload, 1) := by decide +kernel
theorem dX0_ringFrom_97 : decode cX0_ringFrom 97 = .ok (.isub, 1) := by decide +kernel
theorem dX0_ringFrom_98 : decode cX0_ringFrom 98 = .ok (.istore 6, 2) := by decide +kernel
theorem dX0_ringFrom_100 : decode cX0_ringFrom 100 = .ok (.iload 4, 2) := by decide +kernel
theorem dX0_ringFrom_102 : decode cX0_ringFrom 102 = .ok (.iload 6, 2) := by decide +kernel
theorem dX0_ringFrom_104 : decode cX0_ringFrom 104 = .ok (.invokestatic 44, 3) := by decide +kernel
theorem dX0_ringFrom_107 : decode cX0_ringFrom 107 = .ok (.invokestatic 48, 3) := by decide +kernel
theorem dX0_ringFrom_110 : decode cX0_ringFrom 110 = .ok (.istore 7, 2) := by decide +kernel
theorem dX0_ringFrom_112 : decode cX0_ringFrom 112 = .ok (.aload_n 0, 1) := by decide +kernel
theorem dX0_ringFrom_113 : decode cX0_ringFrom 113 = .ok (.iload_n 1, 1) := by decide +kernel
theorem dX0_ringFrom_114 : decode cX0_ringFrom 114 = .ok (.iconst 1, 1) := by decide +kernel
theorem dX0_ringFrom_115 : decode cX0_ringFrom 115 = .ok (.iadd, 1) := by decide +kernel
theorem dX0_ringFrom_116 : decode cX0_ringFrom 116 = .ok (.iload_n 2, 1) := by decide +kernel
theorem dX0_ringFrom_117 : decode cX0_ringFrom 117 = .ok (.iconst 1, 1) := by decide +kernel
theorem dX0_ringFrom_118 : decode cX0_ringFrom 118 = .ok (.iload 5, 2) := by decide +kernel
theorem dX0_ringFrom_120 : decode cX0_ringFrom 120 = .ok (.ishl, 1) := by decide +kernel
theorem dX0_ringFrom_121 : decode cX0_ringFrom 121 = .ok (.ior, 1) := by decide +kernel
theorem dX0_ringFrom_122 : decode cX0_ringFrom 122 = .ok (.iload 6, 2) := by decide +kernel
theorem dX0_ringFrom_124 : decode cX0_ringFrom 124 = .ok (.iload 7, 2) := by decide +kernel
theorem dX0_ringFrom_126 : decode cX0_ringFrom 126 = .ok (.invokevirtual 34, 3) := by decide +kernel
theorem dX0_ringFrom_129 : decode cX0_ringFrom 129 = .ok (.iinc 5 1, 3) := by decide +kernel
theorem dX0_ringFrom_132 : decode cX0_ringFrom 132 = .ok (.goto (-87), 3) := by decide +kernel
theorem dX0_ringFrom_135 : decode cX0_ringFrom 135 = .ok (.return_, 1) := by decide +kernel
theorem dX1_init_0 : decode cX1_init 0 = .ok (.aload_n 0, 1) := by decide +kernel
theorem dX1_init_1 : decode cX1_init 1 = .ok (.iload_n 1, 1) := by decide +kernel
theorem dX1_init_2 : decode cX1_init 2 = .ok (.iload_n 2, 1) := by decide +kernel
theorem dX1_init_3 : decode cX1_init 3 = .ok (.iconst 5, 1) := by decide +kernel
theorem dX1_init_4 : decode cX1_init 4 = .ok (.iadd, 1) := by decide +kernel
theorem dX1_init_5 : decode cX1_init 5 = .ok (.iload_n 3, 1) := by decide +kernel
theorem dX1_init_6 : decode cX1_init 6 = .ok (.invokespecial 3, 3) := by decide +kernel
theorem dX1_init_9 : decode cX1_init 9 = .ok (.return_, 1) := by decide +kernel
theorem dX1_ownKind_0 : decode cX1_ownKind 0 = .ok (.iconst 5, 1) := by decide +kernel
theorem dX1_ownKind_1 : decode cX1_ownKind 1 = .ok (.ireturn, 1) := by decide +kernel
theorem dX1_stride_0 : decode cX1_stride 0 = .ok (.iconst 1, 1) := by decide +kernel
theorem dX1_stride_1 : decode cX1_stride 1 = .ok (.ireturn, 1) := by decide +kernel
theorem dX1_size_0 : decode cX1_size 0 = .ok (.aload_n 1, 1) := by decide +kernel
theorem dX1_size_1 : decode cX1_size 1 = .ok (.bipush 14, 2) := by decide +kernel
theorem dX1_size_3 : decode cX1_size 3 = .ok (.invokevirtual 9, 3) := by decide +kernel
theorem dX1_size_6 : decode cX1_size 6 = .ok (.iconst 2, 1) := by decide +kernel
theorem dX1_size_7 : decode cX1_size 7 = .ok (.aload_n 0, 1) := by decide +kernel
theorem dX1_size_8 : decode cX1_size 8 = .ok (.aload_n 1, 1) := by decide +kernel
theorem dX1_size_9 : decode cX1_size 9 = .ok (.invokespecial 15, 3) := by decide +kernel
theorem dX1_size_12 : decode cX1_size 12 = .ok (.imul, 1) := by decide +kernel
theorem dX1_size_13 : decode cX1_size 13 = .ok (.ireturn, 1) := by decide +kernel
theorem dX2_init_0 : decode cX2_init 0 = .ok (.aload_n 0, 1) := by decide +kernel
theorem dX2_init_1 : decode cX2_init 1 = .ok (.iload_n 1, 1) := by decide +kernel
theorem dX2_init_2 : decode cX2_init 2 = .ok (.iload_n 2, 1) := by decide +kernel
theorem dX2_init_3 : decode cX2_init 3 = .ok (.iconst 2, 1) := by decide +kernel
theorem dX2_init_4 : decode cX2_init 4 = .ok (.idiv, 1) := by decide +kernel
theorem dX2_init_5 : decode cX2_init 5 = .ok (.iload_n 3, 1) := by decide +kernel
theorem dX2_init_6 : decode cX2_init 6 = .ok (.invokespecial 3, 3) := by decide +kernel
theorem dX2_init_9 : decode cX2_init 9 = .ok (.return_, 1) := by decide +kernel
theorem dX2_ownKind_0 : decode cX2_ownKind 0 = .ok (.iconst 3, 1) := by decide +kernel
theorem dX2_ownKind_1 : decode cX2_ownKind 1 = .ok (.ireturn, 1) := by decide +kernel
theorem dX2_size_0 : decode cX2_size 0 = .ok (.aload_n 1, 1) := by decide +kernel
theorem dX2_size_1 : decode cX2_size 1 = .ok (.bipush 12, 2) := by decide +kernel
theorem dX2_size_3 : decode cX2_size 3 = .ok (.invokevirtual 9, 3) := by decide +kernel
theorem dX2_size_6 : decode cX2_size 6 = .ok (.aload_n 0, 1) := by decide +kernel
theorem dX2_size_7 : decode cX2_size 7 = .ok (.aload_n 1, 1) := by decide +kernel
theorem dX2_size_8 : decode cX2_size 8 = .ok (.invokespecial 15, 3) := by decide +kernel
theorem dX2_size_11 : decode cX2_size 11 = .ok (.ineg, 1) := by decide +kernel
theorem dX2_size_12 : decode cX2_size 12 = .ok (.ireturn, 1) := by decide +kernel
theorem dX2_mark_0 : decode cX2_mark 0 = .ok (.aload_n 1, 1) := by decide +kernel
theorem dX2_mark_1 : decode cX2_mark 1 = .ok (.bipush 24, 2) := by decide +kernel
theorem dX2_mark_3 : decode cX2_mark 3 = .ok (.invokevirtual 9, 3) := by decide +kernel
theorem dX2_mark_6 : decode cX2_mark 6 = .ok (.iconst 2, 1) := by decide +kernel
theorem dX2_mark_7 : decode cX2_mark 7 = .ok (.aload_n 0, 1) := by decide +kernel
theorem dX2_mark_8 : decode cX2_mark 8 = .ok (.aload_n 1, 1) := by decide +kernel
theorem dX2_mark_9 : decode cX2_mark 9 = .ok (.invokespecial 19, 3) := by decide +kernel
theorem dX2_mark_12 : decode cX2_mark 12 = .ok (.imul, 1) := by decide +kernel
theorem dX2_mark_13 : decode cX2_mark 13 = .ok (.ireturn, 1) := by decide +kernel
theorem dX3_init_0 : decode cX3_init 0 = .ok (.aload_n 0, 1) := by decide +kernel
theorem dX3_init_1 : decode cX3_init 1 = .ok (.iload_n 1, 1) := by decide +kernel
theorem dX3_init_2 : decode cX3_init 2 = .ok (.iload_n 2, 1) := by decide +kernel
theorem dX3_init_3 : decode cX3_init 3 = .ok (.iload_n 3, 1) := by decide +kernel
theorem dX3_init_4 : decode cX3_init 4 = .ok (.invokespecial 3, 3) := by decide +kernel
theorem dX3_init_7 : decode cX3_init 7 = .ok (.return_, 1) := by decide +kernel
theorem dX3_ownKind_0 : decode cX3_ownKind 0 = .ok (.iconst 4, 1) := by decide +kernel
theorem dX3_ownKind_1 : decode cX3_ownKind 1 = .ok (.ireturn, 1) := by decide +kernel
theorem dX3_stride_0 : decode cX3_stride 0 = .ok (.iconst 2, 1) := by decide +kernel
theorem dX3_stride_1 : decode cX3_stride 1 = .ok (.ireturn, 1) := by decide +kernel
theorem dX3_size_0 : decode cX3_size 0 = .ok (.aload_n 1, 1) := by decide +kernel
theorem dX3_size_1 : decode cX3_size 1 = .ok (.bipush 13, 2) := by decide +kernel
theorem dX3_size_3 : decode cX3_size 3 = .ok (.invokevirtual 9, 3) := by decide +kernel
theorem dX3_size_6 : decode cX3_size 6 = .ok (.aload_n 0, 1) := by decide +kernel
theorem dX3_size_7 : decode cX3_size 7 = .ok (.aload_n 1, 1) := by decide +kernel
theorem dX3_size_8 : decode cX3_size 8 = .ok (.invokespecial 15, 3) := by decide +kernel
theorem dX3_size_11 : decode cX3_size 11 = .ok (.bipush 100, 2) := by decide +kernel
theorem dX3_size_13 : decode cX3_size 13 = .ok (.isub, 1) := by decide +kernel
theorem dX3_size_14 : decode cX3_size 14 = .ok (.ireturn, 1) := by decide +kernel
theorem dX3_mark_0 : decode cX3_mark 0 = .ok (.aload_n 1, 1) := by decide +kernel
theorem dX3_mark_1 : decode cX3_mark 1 = .ok (.bipush 23, 2) := by decide +kernel
theorem dX3_mark_3 : decode cX3_mark 3 = .ok (.invokevirtual 9, 3) := by decide +kernel
theorem dX3_mark_6 : decode cX3_mark 6 = .ok (.aload_n 0, 1) := by decide +kernel
theorem dX3_mark_7 : decode cX3_mark 7 = .ok (.aload_n 1, 1) := by decide +kernel
theorem dX3_mark_8 : decode cX3_mark 8 = .ok (.invokespecial 19, 3) := by decide +kernel
theorem dX3_mark_11 : decode cX3_mark 11 = .ok (.istore_n 2, 1) := by decide +kernel
theorem dX3_mark_12 : decode cX3_mark 12 = .ok (.iload_n 2, 1) := by decide +kernel
theorem dX3_mark_13 : decode cX3_mark 13 = .ok (.aload_n 0, 1) := by decide +kernel
theorem dX3_mark_14 : decode cX3_mark 14 = .ok (.aload_n 1, 1) := by decide +kernel
theorem dX3_mark_15 : decode cX3_mark 15 = .ok (.invokevirtual 22, 3) := by decide +kernel
theorem dX3_mark_18 : decode cX3_mark 18 = .ok (.isub, 1) := by decide +kernel
theorem dX3_mark_19 : decode cX3_mark 19 = .ok (.ireturn, 1) := by decide +kernel
theorem dX4_init_0 : decode cX4_init 0 = .ok (.aload_n 0, 1) := by decide +kernel
theorem dX4_init_1 : decode cX4_init 1 = .ok (.invokespecial 1, 3) := by decide +kernel
theorem dX4_init_4 : decode cX4_init 4 = .ok (.aload_n 0, 1) := by decide +kernel
theorem dX4_init_5 : decode cX4_init 5 = .ok (.iload_n 1, 1) := by decide +kernel
theorem dX4_init_6 : decode cX4_init 6 = .ok (.putfield 7, 3) := by decide +kernel
theorem dX4_init_9 : decode cX4_init 9 = .ok (.aload_n 0, 1) := by decide +kernel
theorem dX4_init_10 : decode cX4_init 10 = .ok (.iload_n 2, 1) := by decide +kernel
theorem dX4_init_11 : decode cX4_init 11 = .ok (.putfield 13, 3) := by decide +kernel
theorem dX4_init_14 : decode cX4_init 14 = .ok (.aload_n 0, 1) := by decide +kernel
theorem dX4_init_15 : decode cX4_init 15 = .ok (.iload_n 3, 1) := by decide +kernel
theorem dX4_init_16 : decode cX4_init 16 = .ok (.putfield 16, 3) := by decide +kernel
theorem dX4_init_19 : decode cX4_init 19 = .ok (.return_, 1) := by decide +kernel
theorem dX4_stride_0 : decode cX4_stride 0 = .ok (.iconst 1, 1) := by decide +kernel
theorem dX4_stride_1 : decode cX4_stride 1 = .ok (.ireturn, 1) := by decide +kernel
theorem dX4_size_0 : decode cX4_size 0 = .ok (.aload_n 1, 1) := by decide +kernel
theorem dX4_size_1 : decode cX4_size 1 = .ok (.bipush 10, 2) := by decide +kernel
theorem dX4_size_3 : decode cX4_size 3 = .ok (.invokevirtual 19, 3) := by decide +kernel
theorem dX4_size_6 : decode cX4_size 6 = .ok (.aload_n 0, 1) := by decide +kernel
theorem dX4_size_7 : decode cX4_size 7 = .ok (.getfield 13, 3) := by decide +kernel
theorem dX4_size_10 : decode cX4_size 10 = .ok (.ireturn, 1) := by decide +kernel
theorem dX4_mark_0 : decode cX4_mark 0 = .ok (.aload_n 1, 1) := by decide +kernel
theorem dX4_mark_1 : decode cX4_mark 1 = .ok (.bipush 20, 2) := by decide +kernel
theorem dX4_mark_3 : decode cX4_mark 3 = .ok (.invokevirtual 19, 3) := by decide +kernel
theorem dX4_mark_6 : decode cX4_mark 6 = .ok (.aload_n 0, 1) := by decide +kernel
theorem dX4_mark_7 : decode cX4_mark 7 = .ok (.getfield 7, 3) := by decide +kernel
theorem dX4_mark_10 : decode cX4_mark 10 = .ok (.ireturn, 1) := by decide +kernel
theorem dX5_init_0 : decode cX5_init 0 = .ok (.aload_n 0, 1) := by decide +kernel
theorem dX5_init_1 : decode cX5_init 1 = .ok (.iload_n 1, 1) := by decide +kernel
theorem dX5_init_2 : decode cX5_init 2 = .ok (.iload_n 2, 1) := by decide +kernel
theorem dX5_init_3 : decode cX5_init 3 = .ok (.iload_n 3, 1) := by decide +kernel
theorem dX5_init_4 : decode cX5_init 4 = .ok (.invokespecial 3, 3) := by decide +kernel
theorem dX5_init_7 : decode cX5_init 7 = .ok (.return_, 1) := by decide +kernel
theorem dX5_ownKind_0 : decode cX5_ownKind 0 = .ok (.iconst 1, 1) := by decide +kernel
theorem dX5_ownKind_1 : decode cX5_ownKind 1 = .ok (.ireturn, 1) := by decide +kernel
theorem dX5_size_0 : decode cX5_size 0 = .ok (.aload_n 1, 1) := by decide +kernel
theorem dX5_size_1 : decode cX5_size 1 = .ok (.bipush 11, 2) := by decide +kernel
theorem dX5_size_3 : decode cX5_size 3 = .ok (.invokevirtual 9, 3) := by decide +kernel
theorem dX5_size_6 : decode cX5_size 6 = .ok (.aload_n 0, 1) := by decide +kernel
theorem dX5_size_7 : decode cX5_size 7 = .ok (.aload_n 1, 1) := by decide +kernel
theorem dX5_size_8 : decode cX5_size 8 = .ok (.invokespecial 15, 3) := by decide +kernel
theorem dX5_size_11 : decode cX5_size 11 = .ok (.istore_n 2, 1) := by decide +kernel
theorem dX5_size_12 : decode cX5_size 12 = .ok (.iload_n 2, 1) := by decide +kernel
theorem dX5_size_13 : decode cX5_size 13 = .ok (.aload_n 0, 1) := by decide +kernel
theorem dX5_size_14 : decode cX5_size 14 = .ok (.aload_n 1, 1) := by decide +kernel
theorem dX5_size_15 : decode cX5_size 15 = .ok (.invokevirtual 19, 3) := by decide +kernel
theorem dX5_size_18 : decode cX5_size 18 = .ok (.iadd, 1) := by decide +kernel
theorem dX5_size_19 : decode cX5_size 19 = .ok (.ireturn, 1) := by decide +kernel
theorem dX5_mark_0 : decode cX5_mark 0 = .ok (.aload_n 1, 1) := by decide +kernel
theorem dX5_mark_1 : decode cX5_mark 1 = .ok (.bipush 21, 2) := by decide +kernel
theorem dX5_mark_3 : decode cX5_mark 3 = .ok (.invokevirtual 9, 3) := by decide +kernel
theorem dX5_mark_6 : decode cX5_mark 6 = .ok (.aload_n 0, 1) := by decide +kernel
theorem dX5_mark_7 : decode cX5_mark 7 = .ok (.aload_n 1, 1) := by decide +kernel
theorem dX5_mark_8 : decode cX5_mark 8 = .ok (.invokespecial 24, 3) := by decide +kernel
theorem dX5_mark_11 : decode cX5_mark 11 = .ok (.aload_n 0, 1) := by decide +kernel
theorem dX5_mark_12 : decode cX5_mark 12 = .ok (.getfield 25, 3) := by decide +kernel
theorem dX5_mark_15 : decode cX5_mark 15 = .ok (.iadd, 1) := by decide +kernel
theorem dX5_mark_16 : decode cX5_mark 16 = .ok (.ireturn, 1) := by decide +kernel
theorem dX6_init_0 : decode cX6_init 0 = .ok (.aload_n 0, 1) := by decide +kernel
theorem dX6_init_1 : decode cX6_init 1 = .ok (.invokespecial 3, 3) := by decide +kernel
theorem dX6_init_4 : decode cX6_init 4 = .ok (.aload_n 0, 1) := by decide +kernel
theorem dX6_init_5 : decode cX6_init 5 = .ok (.sipush 400, 3) := by decide +kernel
theorem dX6_init_8 : decode cX6_init 8 = .ok (.newarray .byte, 2) := by decide +kernel
theorem dX6_init_10 : decode cX6_init 10 = .ok (.putfield 11, 3) := by decide +kernel
theorem dX6_init_13 : decode cX6_init 13 = .ok (.return_, 1) := by decide +kernel
theorem dX6_append_0 : decode cX6_append 0 = .ok (.aload_n 0, 1) := by decide +kernel
theorem dX6_append_1 : decode cX6_append 1 = .ok (.getfield 15, 3) := by decide +kernel
theorem dX6_append_4 : decode cX6_append 4 = .ok (.sipush 400, 3) := by decide +kernel
theorem dX6_append_7 : decode cX6_append 7 = .ok (.if_icmp .ge 23, 3) := by decide +kernel
theorem dX6_append_10 : decode cX6_append 10 = .ok (.aload_n 0, 1) := by decide +kernel
theorem dX6_append_11 : decode cX6_append 11 = .ok (.getfield 11, 3) := by decide +kernel
theorem dX6_append_14 : decode cX6_append 14 = .ok (.aload_n 0, 1) := by decide +kernel
theorem dX6_append_15 : decode cX6_append 15 = .ok (.getfield 15, 3) := by decide +kernel
theorem dX6_append_18 : decode cX6_append 18 = .ok (.iload_n 1, 1) := by decide +kernel
theorem dX6_append_19 : decode cX6_append 19 = .ok (.bastore, 1) := by decide +kernel
theorem dX6_append_20 : decode cX6_append 20 = .ok (.aload_n 0, 1) := by decide +kernel
theorem dX6_append_21 : decode cX6_append 21 = .ok (.dup, 1) := by decide +kernel
theorem dX6_append_22 : decode cX6_append 22 = .ok (.getfield 15, 3) := by decide +kernel
theorem dX6_append_25 : decode cX6_append 25 = .ok (.iconst 1, 1) := by decide +kernel
theorem dX6_append_26 : decode cX6_append 26 = .ok (.iadd, 1) := by decide +kernel
theorem dX6_append_27 : decode cX6_append 27 = .ok (.putfield 15, 3) := by decide +kernel
theorem dX6_append_30 : decode cX6_append 30 = .ok (.return_, 1) := by decide +kernel
theorem dX6_readInto_0 : decode cX6_readInto 0 = .ok (.aload_n 1, 1) := by decide +kernel
theorem dX6_readInto_1 : decode cX6_readInto 1 = .ok (.invokevirtual 19, 3) := by decide +kernel
theorem dX6_readInto_4 : decode cX6_readInto 4 = .ok (.aload_n 0, 1) := by decide +kernel
theorem dX6_readInto_5 : decode cX6_readInto 5 = .ok (.iconst 0, 1) := by decide +kernel
theorem dX6_readInto_6 : decode cX6_readInto 6 = .ok (.putfield 24, 3) := by decide +kernel
theorem dX6_readInto_9 : decode cX6_readInto 9 = .ok (.aload_n 0, 1) := by decide +kernel
theorem dX6_readInto_10 : decode cX6_readInto 10 = .ok (.invokevirtual 27, 3) := by decide +kernel
theorem dX6_readInto_13 : decode cX6_readInto 13 = .ok (.aload_n 0, 1) := by decide +kernel
theorem dX6_readInto_14 : decode cX6_readInto 14 = .ok (.aload_n 1, 1) := by decide +kernel
theorem dX6_readInto_15 : decode cX6_readInto 15 = .ok (.invokevirtual 30, 3) := by decide +kernel
theorem dX6_readInto_18 : decode cX6_readInto 18 = .ok (.istore_n 2, 1) := by decide +kernel
theorem dX6_readInto_19 : decode cX6_readInto 19 = .ok (.iconst 0, 1) := by decide +kernel
theorem dX6_readInto_20 : decode cX6_readInto 20 = .ok (.istore_n 3, 1) := by decide +kernel
theorem dX6_readInto_21 : decode cX6_readInto 21 = .ok (.iload_n 2, 1) := by decide +kernel
theorem dX6_readInto_22 : decode cX6_readInto 22 = .ok (.ifCond .eq 30, 3) := by decide +kernel
theorem dX6_readInto_25 : decode cX6_readInto 25 = .ok (.iload_n 3, 1) := by decide +kernel
theorem dX6_readInto_26 : decode cX6_readInto 26 = .ok (.bipush 7, 2) := by decide +kernel
theorem dX6_readInto_28 : decode cX6_readInto 28 = .ok (.if_icmp .gt 24, 3) := by decide +kernel
theorem dX6_readInto_31 : decode cX6_readInto 31 = .ok (.aload_n 0, 1) := by decide +kernel
theorem dX6_readInto_32 : decode cX6_readInto 32 = .ok (.ldc 34, 2) := by decide +kernel
theorem dX6_readInto_34 : decode cX6_readInto 34 = .ok (.invokevirtual 36, 3) := by decide +kernel
theorem dX6_readInto_37 : decode cX6_readInto 37 = .ok (.ifCond .eq 15, 3) := by decide +kernel
theorem dX6_readInto_40 : decode cX6_readInto 40 = .ok (.aload_n 0, 1) := by decide +kernel
theorem dX6_readInto_41 : decode cX6_readInto 41 = .ok (.aload_n 1, 1) := by decide +kernel
theorem dX6_readInto_42 : decode cX6_readInto 42 = .ok (.invokevirtual 40, 3) := by decide +kernel
theorem dX6_readInto_45 : decode cX6_readInto 45 = .ok (.istore_n 2, 1) := by decide +kernel
theorem dX6_readInto_46 : decode cX6_readInto 46 = .ok (.iinc 3 1, 3) := by decide +kernel
theorem dX6_readInto_49 : decode cX6_readInto 49 = .ok (.goto (-28), 3) := by decide +kernel
theorem dX6_readInto_52 : decode cX6_readInto 52 = .ok (.iconst 0, 1) := by decide +kernel
theorem dX6_readInto_53 : decode cX6_readInto 53 = .ok (.istore_n 3, 1) := by decide +kernel
theorem dX6_readInto_54 : decode cX6_readInto 54 = .ok (.iload_n 2, 1) := by decide +kernel
theorem dX6_readInto_55 : decode cX6_readInto 55 = .ok (.ifCond .eq 29, 3) := by decide +kernel
theorem dX6_readInto_58 : decode cX6_readInto 58 = .ok (.iload_n 3, 1) := by decide +kernel
theorem dX6_readInto_59 : decode cX6_readInto 59 = .ok (.iconst 4, 1) := by decide +kernel
theorem dX6_readInto_60 : decode cX6_readInto 60 = .ok (.if_icmp .gt 24, 3) := by decide +kernel
theorem dX6_readInto_63 : decode cX6_readInto 63 = .ok (.aload_n 0, 1) := by decide +kernel
theorem dX6_readInto_64 : decode cX6_readInto 64 = .ok (.ldc 43, 2) := by decide +kernel
theorem dX6_readInto_66 : decode cX6_readInto 66 = .ok (.invokevirtual 36, 3) := by decide +kernel
theorem dX6_readInto_69 : decode cX6_readInto 69 = .ok (.ifCond .eq 15, 3) := by decide +kernel
theorem dX6_readInto_72 : decode cX6_readInto 72 = .ok (.aload_n 0, 1) := by decide +kernel
theorem dX6_readInto_73 : decode cX6_readInto 73 = .ok (.aload_n 1, 1) := by decide +kernel
theorem dX6_readInto_74 : decode cX6_readInto 74 = .ok (.invokevirtual 45, 3) := by decide +kernel
theorem dX6_readInto_77 : decode cX6_readInto 77 = .ok (.istore_n 2, 1) := by decide +kernel
theorem dX6_readInto_78 : decode cX6_readInto 78 = .ok (.iinc 3 1, 3) := by decide +kernel
theorem dX6_readInto_81 : decode cX6_readInto 81 = .ok (.goto (-27), 3) := by decide +kernel
theorem dX6_readInto_84 : decode cX6_readInto 84 = .ok (.iload_n 2, 1) := by decide +kernel
theorem dX6_readInto_85 : decode cX6_readInto 85 = .ok (.ifCond .eq 22, 3) := by decide +kernel
theorem dX6_readInto_88 : decode cX6_readInto 88 = .ok (.aload_n 0, 1) := by decide +kernel
theorem dX6_readInto_89 : decode cX6_readInto 89 = .ok (.getfield 48, 3) := by decide +kernel
theorem dX6_readInto_92 : decode cX6_readInto 92 = .ok (.ifCond .eq 11, 3) := by decide +kernel
theorem dX6_readInto_95 : decode cX6_readInto 95 = .ok (.aload_n 0, 1) := by decide +kernel
theorem dX6_readInto_96 : decode cX6_readInto 96 = .ok (.iconst 1, 1) := by decide +kernel
theorem dX6_readInto_97 : decode cX6_readInto 97 = .ok (.invokevirtual 51, 3) := by decide +kernel
theorem dX6_readInto_100 : decode cX6_readInto 100 = .ok (.ifCond .eq 7, 3) := by decide +kernel
theorem dX6_readInto_103 : decode cX6_readInto 103 = .ok (.iconst 1, 1) := by decide +kernel
theorem dX6_readInto_104 : decode cX6_readInto 104 = .ok (.goto 4, 3) := by decide +kernel
theorem dX6_readInto_107 : decode cX6_readInto 107 = .ok (.iconst 0, 1) := by decide +kernel
theorem dX6_readInto_108 : decode cX6_readInto 108 = .ok (.istore_n 2, 1) := by decide +kernel
theorem dX6_readInto_109 : decode cX6_readInto 109 = .ok (.aload_n 0, 1) := by decide +kernel
theorem dX6_readInto_110 : decode cX6_readInto 110 = .ok (.iconst 0, 1) := by decide +kernel
theorem dX6_readInto_111 : decode cX6_readInto 111 = .ok (.putfield 15, 3) := by decide +kernel
theorem dX6_readInto_114 : decode cX6_readInto 114 = .ok (.iload_n 2, 1) := by decide +kernel
theorem dX6_readInto_115 : decode cX6_readInto 115 = .ok (.ireturn, 1) := by decide +kernel
theorem dX6_readLaw_0 : decode cX6_readLaw 0 = .ok (.aload_n 0, 1) := by decide +kernel
theorem dX6_readLaw_1 : decode cX6_readLaw 1 = .ok (.ldc 55, 2) := by decide +kernel
theorem dX6_readLaw_3 : decode cX6_readLaw 3 = .ok (.invokevirtual 36, 3) := by decide +kernel
theorem dX6_readLaw_6 : decode cX6_readLaw 6 = .ok (.ifCond .ne 9, 3) := by decide +kernel
theorem dX6_readLaw_9 : decode cX6_readLaw 9 = .ok (.aload_n 0, 1) := by decide +kernel
theorem dX6_readLaw_10 : decode cX6_readLaw 10 = .ok (.iconst 1, 1) := by decide +kernel
theorem dX6_readLaw_11 : decode cX6_readLaw 11 = .ok (.invokevirtual 51, 3) := by decide +kernel
theorem dX6_readLaw_14 : decode cX6_readLaw 14 = .ok (.ireturn, 1) := by decide +kernel
theorem dX6_readLaw_15 : decode cX6_readLaw 15 = .ok (.aload_n 0, 1) := by decide +kernel
theorem dX6_readLaw_16 : decode cX6_readLaw 16 = .ok (.invokevirtual 27, 3) := by decide +kernel
theorem dX6_readLaw_19 : decode cX6_readLaw 19 = .ok (.aload_n 1, 1) := by decide +kernel
theorem dX6_readLaw_20 : decode cX6_readLaw 20 = .ok (.aload_n 0, 1) := by decide +kernel
theorem dX6_readLaw_21 : decode cX6_readLaw 21 = .ok (.iconst 4, 1) := by decide +kernel
theorem dX6_readLaw_22 : decode cX6_readLaw 22 = .ok (.bipush 32, 2) := by decide +kernel
theorem dX6_readLaw_24 : decode cX6_readLaw 24 = .ok (.invokevirtual 57, 3) := by decide +kernel
theorem dX6_readLaw_27 : decode cX6_readLaw 27 = .ok (.putfield 61, 3) := by decide +kernel
theorem dX6_readLaw_30 : decode cX6_readLaw 30 = .ok (.aload_n 1, 1) := by decide +kernel
theorem dX6_readLaw_31 : decode cX6_readLaw 31 = .ok (.getfield 61, 3) := by decide +kernel
theorem dX6_readLaw_34 : decode cX6_readLaw 34 = .ok (.iconst (-1), 1) := by decide +kernel
theorem dX6_readLaw_35 : decode cX6_readLaw 35 = .ok (.if_icmp .ne 5, 3) := by decide +kernel
theorem dX6_readLaw_38 : decode cX6_readLaw 38 = .ok (.iconst 0, 1) := by decide +kernel
theorem dX6_readLaw_39 : decode cX6_readLaw 39 = .ok (.ireturn, 1) := by decide +kernel
theorem dX6_readLaw_40 : decode cX6_readLaw 40 = .ok (.aload_n 1, 1) := by decide +kernel
theorem dX6_readLaw_41 : decode cX6_readLaw 41 = .ok (.aload_n 0, 1) := by decide +kernel
theorem dX6_readLaw_42 : decode cX6_readLaw 42 = .ok (.iconst 1, 1) := by decide +kernel
theorem dX6_readLaw_43 : decode cX6_readLaw 43 = .ok (.bipush 99, 2) := by decide +kernel
theorem dX6_readLaw_45 : decode cX6_readLaw 45 = .ok (.invokevirtual 57, 3) := by decide +kernel
theorem dX6_readLaw_48 : decode cX6_readLaw 48 = .ok (.putfield 64, 3) := by decide +kernel
theorem dX6_readLaw_51 : decode cX6_readLaw 51 = .ok (.aload_n 1, 1) := by decide +kernel
theorem dX6_readLaw_52 : decode cX6_readLaw 52 = .ok (.getfield 64, 3) := by decide +kernel
theorem dX6_readLaw_55 : decode cX6_readLaw 55 = .ok (.iconst (-1), 1) := by decide +kernel
theorem dX6_readLaw_56 : decode cX6_readLaw 56 = .ok (.if_icmp .eq 14, 3) := by decide +kernel
theorem dX6_readLaw_59 : decode cX6_readLaw 59 = .ok (.aload_n 0, 1) := by decide +kernel
theorem dX6_readLaw_60 : decode cX6_readLaw 60 = .ok (.invokevirtual 66, 3) := by decide +kernel
theorem dX6_readLaw_63 : decode cX6_readLaw 63 = .ok (.ifCond .eq 7, 3) := by decide +kernel
theorem dX6_readLaw_66 : decode cX6_readLaw 66 = .ok (.iconst 1, 1) := by decide +kernel
theorem dX6_readLaw_67 : decode cX6_readLaw 67 = .ok (.goto 4, 3) := by decide +kernel
theorem dX6_readLaw_70 : decode cX6_readLaw 70 = .ok (.iconst 0, 1) := by decide +kernel
theorem dX6_readLaw_71 : decode cX6_readLaw 71 = .ok (.ireturn, 1) := by decide +kernel
theorem dX6_readPerson_0 : decode cX6_readPerson 0 = .ok (.aload_n 1, 1) := by decide +kernel
theorem dX6_readPerson_1 : decode cX6_readPerson 1 = .ok (.getfield 70, 3) := by decide +kernel
theorem dX6_readPerson_4 : decode cX6_readPerson 4 = .ok (.bipush 7, 2) := by decide +kernel
theorem dX6_readPerson_6 : decode cX6_readPerson 6 = .ok (.if_icmp .lt 9, 3) := by decide +kernel
theorem dX6_readPerson_9 : decode cX6_readPerson 9 = .ok (.aload_n 0, 1) := by decide +kernel
theorem dX6_readPerson_10 : decode cX6_readPerson 10 = .ok (.iconst 3, 1) := by decide +kernel
theorem dX6_readPerson_11 : decode cX6_readPerson 11 = .ok (.invokevirtual 51, 3) := by decide +kernel
theorem dX6_readPerson_14 : decode cX6_readPerson 14 = .ok (.ireturn, 1) := by decide +kernel
theorem dX6_readPerson_15 : decode cX6_readPerson 15 = .ok (.aload_n 0, 1) := by decide +kernel
theorem dX6_readPerson_16 : decode cX6_readPerson 16 = .ok (.invokevirtual 27, 3) := by decide +kernel
theorem dX6_readPerson_19 : decode cX6_readPerson 19 = .ok (.aload_n 0, 1) := by decide +kernel
theorem dX6_readPerson_20 : decode cX6_readPerson 20 = .ok (.invokevirtual 73, 3) := by decide +kernel
theorem dX6_readPerson_23 : decode cX6_readPerson 23 = .ok (.istore_n 2, 1) := by decide +kernel
theorem dX6_readPerson_24 : decode cX6_readPerson 24 = .ok (.iload_n 2, 1) := by decide +kernel
theorem dX6_readPerson_25 : decode cX6_readPerson 25 = .ok (.ifCond .ne 9, 3) := by decide +kernel
theorem dX6_readPerson_28 : decode cX6_readPerson 28 = .ok (.aload_n 0, 1) := by decide +kernel
theorem dX6_readPerson_29 : decode cX6_readPerson 29 = .ok (.iconst 1, 1) := by decide +kernel
theorem dX6_readPerson_30 : decode cX6_readPerson 30 = .ok (.invokevirtual 51, 3) := by decide +kernel
theorem dX6_readPerson_33 : decode cX6_readPerson 33 = .ok (.ireturn, 1) := by decide +kernel
theorem dX6_readPerson_34 : decode cX6_readPerson 34 = .ok (.aload_n 0, 1) := by decide +kernel
theorem dX6_readPerson_35 : decode cX6_readPerson 35 = .ok (.invokevirtual 27, 3) := by decide +kernel
theorem dX6_readPerson_38 : decode cX6_readPerson 38 = .ok (.aload_n 0, 1) := by decide +kernel
theorem dX6_readPerson_39 : decode cX6_readPerson 39 = .ok (.iconst 1, 1) := by decide +kernel
theorem dX6_readPerson_40 : decode cX6_readPerson 40 = .ok (.bipush 20, 2) := by decide +kernel
theorem dX6_readPerson_42 : decode cX6_readPerson 42 = .ok (.invokevirtual 57, 3) := by decide +kernel
theorem dX6_readPerson_45 : decode cX6_readPerson 45 = .ok (.istore_n 3, 1) := by decide +kernel
theorem dX6_readPerson_46 : decode cX6_readPerson 46 = .ok (.iload_n 3, 1) := by decide +kernel
theorem dX6_readPerson_47 : decode cX6_readPerson 47 = .ok (.iconst (-1), 1) := by decide +kernel
theorem dX6_readPerson_48 : decode cX6_readPerson 48 = .ok (.if_icmp .ne 5, 3) := by decide +kernel
theorem dX6_readPerson_51 : decode cX6_readPerson 51 = .ok (.iconst 0, 1) := by decide +kernel
theorem dX6_readPerson_52 : decode cX6_readPerson 52 = .ok (.ireturn, 1) := by decide +kernel
theorem dX6_readPerson_53 : decode cX6_readPerson 53 = .ok (.aload_n 0, 1) := by decide +kernel
theorem dX6_readPerson_54 : decode cX6_readPerson 54 = .ok (.iconst 1, 1) := by decide +kernel
theorem dX6_readPerson_55 : decode cX6_readPerson 55 = .ok (.iconst 4, 1) := by decide +kernel
theorem dX6_readPerson_56 : decode cX6_readPerson 56 = .ok (.invokevirtual 57, 3) := by decide +kernel
theorem dX6_readPerson_59 : decode cX6_readPerson 59 = .ok (.istore 4, 2) := by decide +kernel
theorem dX6_readPerson_61 : decode cX6_readPerson 61 = .ok (.iload 4, 2) := by decide +kernel
theorem dX6_readPerson_63 : decode cX6_readPerson 63 = .ok (.iconst (-1), 1) := by decide +kernel
theorem dX6_readPerson_64 : decode cX6_readPerson 64 = .ok (.if_icmp .ne 5, 3) := by decide +kernel
theorem dX6_readPerson_67 : decode cX6_readPerson 67 = .ok (.iconst 0, 1) := by decide +kernel
theorem dX6_readPerson_68 : decode cX6_readPerson 68 = .ok (.ireturn, 1) := by decide +kernel
theorem dX6_readPerson_69 : decode cX6_readPerson 69 = .ok (.aload_n 0, 1) := by decide +kernel
theorem dX6_readPerson_70 : decode cX6_readPerson 70 = .ok (.getfield 48, 3) := by decide +kernel
theorem dX6_readPerson_73 : decode cX6_readPerson 73 = .ok (.iconst 2, 1) := by decide +kernel
theorem dX6_readPerson_74 : decode cX6_readPerson 74 = .ok (.if_icmp .ne 16, 3) := by decide +kernel
theorem dX6_readPerson_77 : decode cX6_readPerson 77 = .ok (.aload_n 0, 1) := by decide +kernel
theorem dX6_readPerson_78 : decode cX6_readPerson 78 = .ok (.getfield 77, 3) := by decide +kernel
theorem dX6_readPerson_81 : decode cX6_readPerson 81 = .ok (.bipush 99, 2) := by decide +kernel
theorem dX6_readPerson_83 : decode cX6_readPerson 83 = .ok (.if_icmp .ne 7, 3) := by decide +kernel
theorem dX6_readPerson_86 : decode cX6_readPerson 86 = .ok (.iconst 1, 1) := by decide +kernel
theorem dX6_readPerson_87 : decode cX6_readPerson 87 = .ok (.goto 4, 3) := by decide +kernel
theorem dX6_readPerson_90 : decode cX6_readPerson 90 = .ok (.iconst 0, 1) := by decide +kernel
theorem dX6_readPerson_91 : decode cX6_readPerson 91 = .ok (.istore 5, 2) := by decide +kernel
theorem dX6_readPerson_93 : decode cX6_readPerson 93 = .ok (.aload_n 0, 1) := by decide +kernel
theorem dX6_readPerson_94 : decode cX6_readPerson 94 = .ok (.iconst 0, 1) := by decide +kernel
theorem dX6_readPerson_95 : decode cX6_readPerson 95 = .ok (.iload 5, 2) := by decide +kernel
theorem dX6_readPerson_97 : decode cX6_readPerson 97 = .ok (.ifCond .eq 8, 3) := by decide +kernel
theorem dX6_readPerson_100 : decode cX6_readPerson 100 = .ok (.bipush 99, 2) := by decide +kernel
theorem dX6_readPerson_102 : decode cX6_readPerson 102 = .ok (.goto 9, 3) := by decide +kernel
theorem dX6_readPerson_105 : decode cX6_readPerson 105 = .ok (.aload_n 1, 1) := by decide +kernel
theorem dX6_readPerson_106 : decode cX6_readPerson 106 = .ok (.getfield 61, 3) := by decide +kernel
theorem dX6_readPerson_109 : decode cX6_readPerson 109 = .ok (.iconst 1, 1) := by decide +kernel
theorem dX6_readPerson_110 : decode cX6_readPerson 110 = .ok (.isub, 1) := by decide +kernel
theorem dX6_readPerson_111 : decode cX6_readPerson 111 = .ok (.invokevirtual 57, 3) := by decide +kernel
theorem dX6_readPerson_114 : decode cX6_readPerson 114 = .ok (.istore 6, 2) := by decide +kernel
theorem dX6_readPerson_116 : decode cX6_readPerson 116 = .ok (.iload 6, 2) := by decide +kernel
theorem dX6_readPerson_118 : decode cX6_readPerson 118 = .ok (.iconst (-1), 1) := by decide +kernel
theorem dX6_readPerson_119 : decode cX6_readPerson 119 = .ok (.if_icmp .ne 5, 3) := by decide +kernel
theorem dX6_readPerson_122 : decode cX6_readPerson 122 = .ok (.iconst 0, 1) := by decide +kernel
theorem dX6_readPerson_123 : decode cX6_readPerson 123 = .ok (.ireturn, 1) := by decide +kernel
theorem dX6_readPerson_124 : decode cX6_readPerson 124 = .ok (.aload_n 1, 1) := by decide +kernel
theorem dX6_readPerson_125 : decode cX6_readPerson 125 = .ok (.iload_n 2, 1) := by decide +kernel
theorem dX6_readPerson_126 : decode cX6_readPerson 126 = .ok (.aload_n 1, 1) := by decide +kernel
theorem dX6_readPerson_127 : decode cX6_readPerson 127 = .ok (.getfield 70, 3) := by decide +kernel
theorem dX6_readPerson_130 : decode cX6_readPerson 130 = .ok (.iload_n 3, 1) := by decide +kernel
theorem dX6_readPerson_131 : decode cX6_readPerson 131 = .ok (.iload 4, 2) := by decide +kernel
theorem dX6_readPerson_133 : decode cX6_readPerson 133 = .ok (.invokestatic 80, 3) := by decide +kernel
theorem dX6_readPerson_136 : decode cX6_readPerson 136 = .ok (.iload 5, 2) := by decide +kernel
theorem dX6_readPerson_138 : decode cX6_readPerson 138 = .ok (.ifCond .eq 7, 3) := by decide +kernel
theorem dX6_readPerson_141 : decode cX6_readPerson 141 = .ok (.iconst (-1), 1) := by decide +kernel
theorem dX6_readPerson_142 : decode cX6_readPerson 142 = .ok (.goto 5, 3) := by decide +kernel
theorem dX6_readPerson_145 : decode cX6_readPerson 145 = .ok (.iload 6, 2) := by decide +kernel
theorem dX6_readPerson_147 : decode cX6_readPerson 147 = .ok (.invokevirtual 84, 3) := by decide +kernel
theorem dX6_readPerson_150 : decode cX6_readPerson 150 = .ok (.aload_n 0, 1) := by decide +kernel
theorem dX6_readPerson_151 : decode cX6_readPerson 151 = .ok (.invokevirtual 66, 3) := by decide +kernel
theorem dX6_readPerson_154 : decode cX6_readPerson 154 = .ok (.ireturn, 1) := by decide +kernel
theorem dX6_readStone_0 : decode cX6_readStone 0 = .ok (.aload_n 1, 1) := by decide +kernel
theorem dX6_readStone_1 : decode cX6_readStone 1 = .ok (.getfield 88, 3) := by decide +kernel
theorem dX6_readStone_4 : decode cX6_readStone 4 = .ok (.iconst 4, 1) := by decide +kernel
theorem dX6_readStone_5 : decode cX6_readStone 5 = .ok (.if_icmp .lt 9, 3) := by decide +kernel
theorem dX6_readStone_8 : decode cX6_readStone 8 = .ok (.aload_n 0, 1) := by decide +kernel
theorem dX6_readStone_9 : decode cX6_readStone 9 = .ok (.iconst 3, 1) := by decide +kernel
theorem dX6_readStone_10 : decode cX6_readStone 10 = .ok (.invokevirtual 51, 3) := by decide +kernel
theorem dX6_readStone_13 : decode cX6_readStone 13 = .ok (.ireturn, 1) := by decide +kernel
theorem dX6_readStone_14 : decode cX6_readStone 14 = .ok (.aload_n 0, 1) := by decide +kernel
theorem dX6_readStone_15 : decode cX6_readStone 15 = .ok (.invokevirtual 27, 3) := by decide +kernel
theorem dX6_readStone_18 : decode cX6_readStone 18 = .ok (.aload_n 0, 1) := by decide +kernel
theorem dX6_readStone_19 : decode cX6_readStone 19 = .ok (.iconst 1, 1) := by decide +kernel
theorem dX6_readStone_20 : decode cX6_readStone 20 = .ok (.bipush 20, 2) := by decide +kernel
theorem dX6_readStone_22 : decode cX6_readStone 22 = .ok (.invokevirtual 57, 3) := by decide +kernel
theorem dX6_readStone_25 : decode cX6_readStone 25 = .ok (.istore_n 2, 1) := by decide +kernel
theorem dX6_readStone_26 : decode cX6_readStone 26 = .ok (.iload_n 2, 1) := by decide +kernel
theorem dX6_readStone_27 : decode cX6_readStone 27 = .ok (.iconst (-1), 1) := by decide +kernel
theorem dX6_readStone_28 : decode cX6_readStone 28 = .ok (.if_icmp .ne 5, 3) := by decide +kernel
theorem dX6_readStone_31 : decode cX6_readStone 31 = .ok (.iconst 0, 1) := by decide +kernel
theorem dX6_readStone_32 : decode cX6_readStone 32 = .ok (.ireturn, 1) := by decide +kernel
theorem dX6_readStone_33 : decode cX6_readStone 33 = .ok (.aload_n 0, 1) := by decide +kernel
theorem dX6_readStone_34 : decode cX6_readStone 34 = .ok (.iconst 0, 1) := by decide +kernel
theorem dX6_readStone_35 : decode cX6_readStone 35 = .ok (.iconst 3, 1) := by decide +kernel
theorem dX6_readStone_36 : decode cX6_readStone 36 = .ok (.invokevirtual 57, 3) := by decide +kernel
theorem dX6_readStone_39 : decode cX6_readStone 39 = .ok (.istore_n 3, 1) := by decide +kernel
theorem dX6_readStone_40 : decode cX6_readStone 40 = .ok (.iload_n 3, 1) := by decide +kernel
theorem dX6_readStone_41 : decode cX6_readStone 41 = .ok (.iconst (-1), 1) := by decide +kernel
theorem dX6_readStone_42 : decode cX6_readStone 42 = .ok (.if_icmp .ne 5, 3) := by decide +kernel
theorem dX6_readStone_45 : decode cX6_readStone 45 = .ok (.iconst 0, 1) := by decide +kernel
theorem dX6_readStone_46 : decode cX6_readStone 46 = .ok (.ireturn, 1) := by decide +kernel
theorem dX6_readStone_47 : decode cX6_readStone 47 = .ok (.aload_n 1, 1) := by decide +kernel
theorem dX6_readStone_48 : decode cX6_readStone 48 = .ok (.iload_n 2, 1) := by decide +kernel
theorem dX6_readStone_49 : decode cX6_readStone 49 = .ok (.iload_n 3, 1) := by decide +kernel
theorem dX6_readStone_50 : decode cX6_readStone 50 = .ok (.invokevirtual 91, 3) := by decide +kernel
theorem dX6_readStone_53 : decode cX6_readStone 53 = .ok (.aload_n 0, 1) := by decide +kernel
theorem dX6_readStone_54 : decode cX6_readStone 54 = .ok (.invokevirtual 66, 3) := by decide +kernel
theorem dX6_readStone_57 : decode cX6_readStone 57 = .ok (.ireturn, 1) := by decide +kernel
theorem dX6_kindAtHand_0 : decode cX6_kindAtHand 0 = .ok (.aload_n 0, 1) := by decide +kernel
theorem dX6_kindAtHand_1 : decode cX6_kindAtHand 1 = .ok (.ldc 95, 2) := by decide +kernel
theorem dX6_kindAtHand_3 : decode cX6_kindAtHand 3 = .ok (.invokevirtual 36, 3) := by decide +kernel
theorem dX6_kindAtHand_6 : decode cX6_kindAtHand 6 = .ok (.ifCond .eq 5, 3) := by decide +kernel
theorem dX6_kindAtHand_9 : decode cX6_kindAtHand 9 = .ok (.iconst 1, 1) := by decide +kernel
theorem dX6_kindAtHand_10 : decode cX6_kindAtHand 10 = .ok (.ireturn, 1) := by decide +kernel
theorem dX6_kindAtHand_11 : decode cX6_kindAtHand 11 = .ok (.aload_n 0, 1) := by decide +kernel
theorem dX6_kindAtHand_12 : decode cX6_kindAtHand 12 = .ok (.ldc 97, 2) := by decide +kernel
theorem dX6_kindAtHand_14 : decode cX6_kindAtHand 14 = .ok (.invokevirtual 36, 3) := by decide +kernel
theorem dX6_kindAtHand_17 : decode cX6_kindAtHand 17 = .ok (.ifCond .eq 5, 3) := by decide +kernel
theorem dX6_kindAtHand_20 : decode cX6_kindAtHand 20 = .ok (.iconst 2, 1) := by decide +kernel
theorem dX6_kindAtHand_21 : decode cX6_kindAtHand 21 = .ok (.ireturn, 1) := by decide +kernel
theorem dX6_kindAtHand_22 : decode cX6_kindAtHand 22 = .ok (.aload_n 0, 1) := by decide +kernel
theorem dX6_kindAtHand_23 : decode cX6_kindAtHand 23 = .ok (.ldc 99, 2) := by decide +kernel
theorem dX6_kindAtHand_25 : decode cX6_kindAtHand 25 = .ok (.invokevirtual 36, 3) := by decide +kernel
theorem dX6_kindAtHand_28 : decode cX6_kindAtHand 28 = .ok (.ifCond .eq 5, 3) := by decide +kernel
theorem dX6_kindAtHand_31 : decode cX6_kindAtHand 31 = .ok (.iconst 3, 1) := by decide +kernel
theorem dX6_kindAtHand_32 : decode cX6_kindAtHand 32 = .ok (.ireturn, 1) := by decide +kernel
theorem dX6_kindAtHand_33 : decode cX6_kindAtHand 33 = .ok (.aload_n 0, 1) := by decide +kernel
theorem dX6_kindAtHand_34 : decode cX6_kindAtHand 34 = .ok (.ldc 101, 2) := by decide +kernel
theorem dX6_kindAtHand_36 : decode cX6_kindAtHand 36 = .ok (.invokevirtual 36, 3) := by decide +kernel
theorem dX6_kindAtHand_39 : decode cX6_kindAtHand 39 = .ok (.ifCond .eq 5, 3) := by decide +kernel
theorem dX6_kindAtHand_42 : decode cX6_kindAtHand 42 = .ok (.iconst 4, 1) := by decide +kernel
theorem dX6_kindAtHand_43 : decode cX6_kindAtHand 43 = .ok (.ireturn, 1) := by decide +kernel
theorem dX6_kindAtHand_44 : decode cX6_kindAtHand 44 = .ok (.aload_n 0, 1) := by decide +kernel
theorem dX6_kindAtHand_45 : decode cX6_kindAtHand 45 = .ok (.ldc 103, 2) := by decide +kernel
theorem dX6_kindAtHand_47 : decode cX6_kindAtHand 47 = .ok (.invokevirtual 36, 3) := by decide +kernel
theorem dX6_kindAtHand_50 : decode cX6_kindAtHand 50 = .ok (.ifCond .eq 7, 3) := by decide +kernel
theorem dX6_kindAtHand_53 : decode cX6_kindAtHand 53 = .ok (.iconst 5, 1) := by decide +kernel
theorem dX6_kindAtHand_54 : decode cX6_kindAtHand 54 = .ok (.goto 4, 3) := by decide +kernel
theorem dX6_kindAtHand_57 : decode cX6_kindAtHand 57 = .ok (.iconst 0, 1) := by decide +kernel
theorem dX6_kindAtHand_58 : decode cX6_kindAtHand 58 = .ok (.ireturn, 1) := by decide +kernel
theorem dX6_newPerson_0 : decode cX6_newPerson 0 = .ok (.iload_n 0, 1) := by decide +kernel
theorem dX6_newPerson_1 : decode cX6_newPerson 1 = .ok (.tableswitch 75 2 5 #[31, 42, 53, 64], 31) := by decide +kernel
theorem dX6_newPerson_32 : decode cX6_newPerson 32 = .ok (.new 105, 3) := by decide +kernel
theorem dX6_newPerson_35 : decode cX6_newPerson 35 = .ok (.dup, 1) := by decide +kernel
theorem dX6_newPerson_36 : decode cX6_newPerson 36 = .ok (.iload_n 1, 1) := by decide +kernel
theorem dX6_newPerson_37 : decode cX6_newPerson 37 = .ok (.iload_n 2, 1) := by decide +kernel
theorem dX6_newPerson_38 : decode cX6_newPerson 38 = .ok (.iload_n 3, 1) := by decide +kernel
theorem dX6_newPerson_39 : decode cX6_newPerson 39 = .ok (.invokespecial 107, 3) := by decide +kernel
theorem dX6_newPerson_42 : decode cX6_newPerson 42 = .ok (.areturn, 1) := by decide +kernel
theorem dX6_newPerson_43 : decode cX6_newPerson 43 = .ok (.new 110, 3) := by decide +kernel
theorem dX6_newPerson_46 : decode cX6_newPerson 46 = .ok (.dup, 1) := by decide +kernel
theorem dX6_newPerson_47 : decode cX6_newPerson 47 = .ok (.iload_n 1, 1) := by decide +kernel
theorem dX6_newPerson_48 : decode cX6_newPerson 48 = .ok (.iload_n 2, 1) := by decide +kernel
theorem dX6_newPerson_49 : decode cX6_newPerson 49 = .ok (.iload_n 3, 1) := by decide +kernel
theorem dX6_newPerson_50 : decode cX6_newPerson 50 = .ok (.invokespecial 112, 3) := by decide +kernel
theorem dX6_newPerson_53 : decode cX6_newPerson 53 = .ok (.areturn, 1) := by decide +kernel
theorem dX6_newPerson_54 : decode cX6_newPerson 54 = .ok (.new 113, 3) := by decide +kernel
theorem dX6_newPerson_57 : decode cX6_newPerson 57 = .ok (.dup, 1) := by decide +kernel
theorem dX6_newPerson_58 : decode cX6_newPerson 58 = .ok (.iload_n 1, 1) := by decide +kernel
theorem dX6_newPerson_59 : decode cX6_newPerson 59 = .ok (.iload_n 2, 1) := by decide +kernel
theorem dX6_newPerson_60 : decode cX6_newPerson 60 = .ok (.iload_n 3, 1) := by decide +kernel
theorem dX6_newPerson_61 : decode cX6_newPerson 61 = .ok (.invokespecial 115, 3) := by decide +kernel
theorem dX6_newPerson_64 : decode cX6_newPerson 64 = .ok (.areturn, 1) := by decide +kernel
theorem dX6_newPerson_65 : decode cX6_newPerson 65 = .ok (.new 116, 3) := by decide +kernel
theorem dX6_newPerson_68 : decode cX6_newPerson 68 = .ok (.dup, 1) := by decide +kernel
theorem dX6_newPerson_69 : decode cX6_newPerson 69 = .ok (.iload_n 1, 1) := by decide +kernel
theorem dX6_newPerson_70 : decode cX6_newPerson 70 = .ok (.iload_n 2, 1) := by decide +kernel
theorem dX6_newPerson_71 : decode cX6_newPerson 71 = .ok (.iload_n 3, 1) := by decide +kernel
theorem dX6_newPerson_72 : decode cX6_newPerson 72 = .ok (.invokespecial 118, 3) := by decide +kernel
theorem dX6_newPerson_75 : decode cX6_newPerson 75 = .ok (.areturn, 1) := by decide +kernel
theorem dX6_newPerson_76 : decode cX6_newPerson 76 = .ok (.new 119, 3) := by decide +kernel
theorem dX6_newPerson_79 : decode cX6_newPerson 79 = .ok (.dup, 1) := by decide +kernel
theorem dX6_newPerson_80 : decode cX6_newPerson 80 = .ok (.iload_n 1, 1) := by decide +kernel
theorem dX6_newPerson_81 : decode cX6_newPerson 81 = .ok (.iload_n 2, 1) := by decide +kernel
theorem dX6_newPerson_82 : decode cX6_newPerson 82 = .ok (.iload_n 3, 1) := by decide +kernel
theorem dX6_newPerson_83 : decode cX6_newPerson 83 = .ok (.invokespecial 121, 3) := by decide +kernel
theorem dX6_newPerson_86 : decode cX6_newPerson 86 = .ok (.areturn, 1) := by decide +kernel
theorem dX6_number_0 : decode cX6_number 0 = .ok (.aload_n 0, 1) := by decide +kernel
theorem dX6_number_1 : decode cX6_number 1 = .ok (.getfield 48, 3) := by decide +kernel
theorem dX6_number_4 : decode cX6_number 4 = .ok (.iconst 2, 1) := by decide +kernel
theorem dX6_number_5 : decode cX6_number 5 = .ok (.if_icmp .eq 11, 3) := by decide +kernel
theorem dX6_number_8 : decode cX6_number 8 = .ok (.aload_n 0, 1) := by decide +kernel
theorem dX6_number_9 : decode cX6_number 9 = .ok (.iconst 1, 1) := by decide +kernel
theorem dX6_number_10 : decode cX6_number 10 = .ok (.invokevirtual 51, 3) := by decide +kernel
theorem dX6_number_13 : decode cX6_number 13 = .ok (.pop, 1) := by decide +kernel
theorem dX6_number_14 : decode cX6_number 14 = .ok (.iconst (-1), 1) := by decide +kernel
theorem dX6_number_15 : decode cX6_number 15 = .ok (.ireturn, 1) := by decide +kernel
theorem dX6_number_16 : decode cX6_number 16 = .ok (.aload_n 0, 1) := by decide +kernel
theorem dX6_number_17 : decode cX6_number 17 = .ok (.getfield 77, 3) := by decide +kernel
theorem dX6_number_20 : decode cX6_number 20 = .ok (.iload_n 1, 1) := by decide +kernel
theorem dX6_number_21 : decode cX6_number 21 = .ok (.if_icmp .lt 11, 3) := by decide +kernel
theorem dX6_number_24 : decode cX6_number 24 = .ok (.aload_n 0, 1) := by decide +kernel
theorem dX6_number_25 : decode cX6_number 25 = .ok (.getfield 77, 3) := by decide +kernel
theorem dX6_number_28 : decode cX6_number 28 = .ok (.iload_n 2, 1) := by decide +kernel
theorem dX6_number_29 : decode cX6_number 29 = .ok (.if_icmp .le 11, 3) := by decide +kernel
theorem dX6_number_32 : decode cX6_number 32 = .ok (.aload_n 0, 1) := by decide +kernel
theorem dX6_number_33 : decode cX6_number 33 = .ok (.iconst 2, 1) := by decide +kernel
theorem dX6_number_34 : decode cX6_number 34 = .ok (.invokevirtual 51, 3) := by decide +kernel
theorem dX6_number_37 : decode cX6_number 37 = .ok (.pop, 1) := by decide +kernel
theorem dX6_number_38 : decode cX6_number 38 = .ok (.iconst (-1), 1) := by decide +kernel
theorem dX6_number_39 : decode cX6_number 39 = .ok (.ireturn, 1) := by decide +kernel
theorem dX6_number_40 : decode cX6_number 40 = .ok (.aload_n 0, 1) := by decide +kernel
theorem dX6_number_41 : decode cX6_number 41 = .ok (.getfield 77, 3) := by decide +kernel
theorem dX6_number_44 : decode cX6_number 44 = .ok (.istore_n 3, 1) := by decide +kernel
theorem dX6_number_45 : decode cX6_number 45 = .ok (.aload_n 0, 1) := by decide +kernel
theorem dX6_number_46 : decode cX6_number 46 = .ok (.invokevirtual 27, 3) := by decide +kernel
theorem dX6_number_49 : decode cX6_number 49 = .ok (.iload_n 3, 1) := by decide +kernel
theorem dX6_number_50 : decode cX6_number 50 = .ok (.ireturn, 1) := by decide +kernel
theorem dX6_passSemicolon_0 : decode cX6_passSemicolon 0 = .ok (.aload_n 0, 1) := by decide +kernel
theorem dX6_passSemicolon_1 : decode cX6_passSemicolon 1 = .ok (.getfield 48, 3) := by decide +kernel
theorem dX6_passSemicolon_4 : decode cX6_passSemicolon 4 = .ok (.iconst 3, 1) := by decide +kernel
theorem dX6_passSemicolon_5 : decode cX6_passSemicolon 5 = .ok (.if_icmp .eq 9, 3) := by decide +kernel
theorem dX6_passSemicolon_8 : decode cX6_passSemicolon 8 = .ok (.aload_n 0, 1) := by decide +kernel
theorem dX6_passSemicolon_9 : decode cX6_passSemicolon 9 = .ok (.iconst 1, 1) := by decide +kernel
theorem dX6_passSemicolon_10 : decode cX6_passSemicolon 10 = .ok (.invokevirtual 51, 3) := by decide +kernel
theorem dX6_passSemicolon_13 : decode cX6_passSemicolon 13 = .ok (.ireturn, 1) := by decide +kernel
theorem dX6_passSemicolon_14 : decode cX6_passSemicolon 14 = .ok (.aload_n 0, 1) := by decide +kernel
theorem dX6_passSemicolon_15 : decode cX6_passSemicolon 15 = .ok (.invokevirtual 27, 3) := by decide +kernel
theorem dX6_passSemicolon_18 : decode cX6_passSemicolon 18 = .ok (.iconst 1, 1) := by decide +kernel
theorem dX6_passSemicolon_19 : decode cX6_passSemicolon 19 = .ok (.ireturn, 1) := by decide +kernel
theorem dX6_refuse_0 : decode cX6_refuse 0 = .ok (.aload_n 0, 1) := by decide +kernel
theorem dX6_refuse_1 : decode cX6_refuse 1 = .ok (.iload_n 1, 1) := by decide +kernel
theorem dX6_refuse_2 : decode cX6_refuse 2 = .ok (.putfield 122, 3) := by decide +kernel
theorem dX6_refuse_5 : decode cX6_refuse 5 = .ok (.aload_n 0, 1) := by decide +kernel
theorem dX6_refuse_6 : decode cX6_refuse 6 = .ok (.aload_n 0, 1) := by decide +kernel
theorem dX6_refuse_7 : decode cX6_refuse 7 = .ok (.getfield 125, 3) := by decide +kernel
theorem dX6_refuse_10 : decode cX6_refuse 10 = .ok (.putfield 128, 3) := by decide +kernel
theorem dX6_refuse_13 : decode cX6_refuse 13 = .ok (.iconst 0, 1) := by decide +kernel
theorem dX6_refuse_14 : decode cX6_refuse 14 = .ok (.ireturn, 1) := by decide +kernel
theorem dX6_isWord_0 : decode cX6_isWord 0 = .ok (.aload_n 0, 1) := by decide +kernel
theorem dX6_isWord_1 : decode cX6_isWord 1 = .ok (.getfield 48, 3) := by decide +kernel
theorem dX6_isWord_4 : decode cX6_isWord 4 = .ok (.iconst 1, 1) := by decide +kernel
theorem dX6_isWord_5 : decode cX6_isWord 5 = .ok (.if_icmp .ne 19, 3) := by decide +kernel
theorem dX6_isWord_8 : decode cX6_isWord 8 = .ok (.aload_n 0, 1) := by decide +kernel
theorem dX6_isWord_9 : decode cX6_isWord 9 = .ok (.getfield 24, 3) := by decide +kernel
theorem dX6_isWord_12 : decode cX6_isWord 12 = .ok (.aload_n 0, 1) := by decide +kernel
theorem dX6_isWord_13 : decode cX6_isWord 13 = .ok (.getfield 125, 3) := by decide +kernel
theorem dX6_isWord_16 : decode cX6_isWord 16 = .ok (.isub, 1) := by decide +kernel
theorem dX6_isWord_17 : decode cX6_isWord 17 = .ok (.aload_n 1, 1) := by decide +kernel
theorem dX6_isWord_18 : decode cX6_isWord 18 = .ok (.invokevirtual 131, 3) := by decide +kernel
theorem dX6_isWord_21 : decode cX6_isWord 21 = .ok (.if_icmp .eq 5, 3) := by decide +kernel
theorem dX6_isWord_24 : decode cX6_isWord 24 = .ok (.iconst 0, 1) := by decide +kernel
theorem dX6_isWord_25 : decode cX6_isWord 25 = .ok (.ireturn, 1) := by decide +kernel
theorem dX6_isWord_26 : decode cX6_isWord 26 = .ok (.iconst 0, 1) := by decide +kernel
theorem dX6_isWord_27 : decode cX6_isWord 27 = .ok (.istore_n 2, 1) := by decide +kernel
theorem dX6_isWord_28 : decode cX6_isWord 28 = .ok (.iload_n 2, 1) := by decide +kernel
theorem dX6_isWord_29 : decode cX6_isWord 29 = .ok (.aload_n 1, 1) := by decide +kernel
theorem dX6_isWord_30 : decode cX6_isWord 30 = .ok (.invokevirtual 131, 3) := by decide +kernel
theorem dX6_isWord_33 : decode cX6_isWord 33 = .ok (.if_icmp .ge 30, 3) := by decide +kernel
theorem dX6_isWord_36 : decode cX6_isWord 36 = .ok (.aload_n 0, 1) := by decide +kernel
theorem dX6_isWord_37 : decode cX6_isWord 37 = .ok (.getfield 11, 3) := by decide +kernel
theorem dX6_isWord_40 : decode cX6_isWord 40 = .ok (.aload_n 0, 1) := by decide +kernel
theorem dX6_isWord_41 : decode cX6_isWord 41 = .ok (.getfield 125, 3) := by decide +kernel
theorem dX6_isWord_44 : decode cX6_isWord 44 = .ok (.iload_n 2, 1) := by decide +kernel
theorem dX6_isWord_45 : decode cX6_isWord 45 = .ok (.iadd, 1) := by decide +kernel
theorem dX6_isWord_46 : decode cX6_isWord 46 = .ok (.baload, 1) := by decide +kernel
theorem dX6_isWord_47 : decode cX6_isWord 47 = .ok (.aload_n 1, 1) := by decide +kernel
theorem dX6_isWord_48 : decode cX6_isWord 48 = .ok (.iload_n 2, 1) := by decide +kernel
theorem dX6_isWord_49 : decode cX6_isWord 49 = .ok (.invokevirtual 136, 3) := by decide +kernel
theorem dX6_isWord_52 : decode cX6_isWord 52 = .ok (.if_icmp .eq 5, 3) := by decide +kernel
theorem dX6_isWord_55 : decode cX6_isWord 55 = .ok (.iconst 0, 1) := by decide +kernel
theorem dX6_isWord_56 : decode cX6_isWord 56 = .ok (.ireturn, 1) := by decide +kernel
theorem dX6_isWord_57 : decode cX6_isWord 57 = .ok (.iinc 2 1, 3) := by decide +kernel
theorem dX6_isWord_60 : decode cX6_isWord 60 = .ok (.goto (-32), 3) := by decide +kernel
theorem dX6_isWord_63 : decode cX6_isWord 63 = .ok (.iconst 1, 1) := by decide +kernel
theorem dX6_isWord_64 : decode cX6_isWord 64 = .ok (.ireturn, 1) := by decide +kernel
theorem dX6_next_0 : decode cX6_next 0 = .ok (.aload_n 0, 1) := by decide +kernel
theorem dX6_next_1 : decode cX6_next 1 = .ok (.aload_n 0, 1) := by decide +kernel
theorem dX6_next_2 : decode cX6_next 2 = .ok (.getfield 24, 3) := by decide +kernel
theorem dX6_next_5 : decode cX6_next 5 = .ok (.putfield 125, 3) := by decide +kernel
theorem dX6_next_8 : decode cX6_next 8 = .ok (.aload_n 0, 1) := by decide +kernel
theorem dX6_next_9 : decode cX6_next 9 = .ok (.getfield 125, 3) := by decide +kernel
theorem dX6_next_12 : decode cX6_next 12 = .ok (.aload_n 0, 1) := by decide +kernel
theorem dX6_next_13 : decode cX6_next 13 = .ok (.getfield 15, 3) := by decide +kernel
theorem dX6_next_16 : decode cX6_next 16 = .ok (.if_icmp .ge 31, 3) := by decide +kernel
theorem dX6_next_19 : decode cX6_next 19 = .ok (.aload_n 0, 1) := by decide +kernel
theorem dX6_next_20 : decode cX6_next 20 = .ok (.getfield 11, 3) := by decide +kernel
theorem dX6_next_23 : decode cX6_next 23 = .ok (.aload_n 0, 1) := by decide +kernel
theorem dX6_next_24 : decode cX6_next 24 = .ok (.getfield 125, 3) := by decide +kernel
theorem dX6_next_27 : decode cX6_next 27 = .ok (.baload, 1) := by decide +kernel
theorem dX6_next_28 : decode cX6_next 28 = .ok (.invokestatic 140, 3) := by decide +kernel
theorem dX6_next_31 : decode cX6_next 31 = .ok (.ifCond .eq 16, 3) := by decide +kernel
theorem dX6_next_34 : decode cX6_next 34 = .ok (.aload_n 0, 1) := by decide +kernel
theorem dX6_next_35 : decode cX6_next 35 = .ok (.dup, 1) := by decide +kernel
theorem dX6_next_36 : decode cX6_next 36 = .ok (.getfield 125, 3) := by decide +kernel
theorem dX6_next_39 : decode cX6_next 39 = .ok (.iconst 1, 1) := by decide +kernel
theorem dX6_next_40 : decode cX6_next 40 = .ok (.iadd, 1) := by decide +kernel
theorem dX6_next_41 : decode cX6_next 41 = .ok (.putfield 125, 3) := by decide +kernel
theorem dX6_next_44 : decode cX6_next 44 = .ok (.goto (-36), 3) := by decide +kernel
theorem dX6_next_47 : decode cX6_next 47 = .ok (.aload_n 0, 1) := by decide +kernel
theorem dX6_next_48 : decode cX6_next 48 = .ok (.aload_n 0, 1) := by decide +kernel
theorem dX6_next_49 : decode cX6_next 49 = .ok (.getfield 125, 3) := by decide +kernel
theorem dX6_next_52 : decode cX6_next 52 = .ok (.putfield 24, 3) := by decide +kernel
theorem dX6_next_55 : decode cX6_next 55 = .ok (.aload_n 0, 1) := by decide +kernel
theorem dX6_next_56 : decode cX6_next 56 = .ok (.getfield 125, 3) := by decide +kernel
theorem dX6_next_59 : decode cX6_next 59 = .ok (.aload_n 0, 1) := by decide +kernel
theorem dX6_next_60 : decode cX6_next 60 = .ok (.getfield 15, 3) := by decide +kernel
theorem dX6_next_63 : decode cX6_next 63 = .ok (.if_icmp .lt 11, 3) := by decide +kernel
theorem dX6_next_66 : decode cX6_next 66 = .ok (.aload_n 0, 1) := by decide +kernel
theorem dX6_next_67 : decode cX6_next 67 = .ok (.iconst 0, 1) := by decide +kernel
theorem dX6_next_68 : decode cX6_next 68 = .ok (.putfield 48, 3) := by decide +kernel
theorem dX6_next_71 : decode cX6_next 71 = .ok (.goto 80, 3) := by decide +kernel
theorem dX6_next_74 : decode cX6_next 74 = .ok (.aload_n 0, 1) := by decide +kernel
theorem dX6_next_75 : decode cX6_next 75 = .ok (.getfield 11, 3) := by decide +kernel
theorem dX6_next_78 : decode cX6_next 78 = .ok (.aload_n 0, 1) := by decide +kernel
theorem dX6_next_79 : decode cX6_next 79 = .ok (.getfield 125, 3) := by decide +kernel
theorem dX6_next_82 : decode cX6_next 82 = .ok (.baload, 1) := by decide +kernel
theorem dX6_next_83 : decode cX6_next 83 = .ok (.invokestatic 144, 3) := by decide +kernel
theorem dX6_next_86 : decode cX6_next 86 = .ok (.ifCond .eq 10, 3) := by decide +kernel
theorem dX6_next_89 : decode cX6_next 89 = .ok (.aload_n 0, 1) := by decide +kernel
theorem dX6_next_90 : decode cX6_next 90 = .ok (.invokevirtual 147, 3) := by decide +kernel
theorem dX6_next_93 : decode cX6_next 93 = .ok (.goto 58, 3) := by decide +kernel
theorem dX6_next_96 : decode cX6_next 96 = .ok (.aload_n 0, 1) := by decide +kernel
theorem dX6_next_97 : decode cX6_next 97 = .ok (.getfield 11, 3) := by decide +kernel
theorem dX6_next_100 : decode cX6_next 100 = .ok (.aload_n 0, 1) := by decide +kernel
theorem dX6_next_101 : decode cX6_next 101 = .ok (.getfield 125, 3) := by decide +kernel
theorem dX6_next_104 : decode cX6_next 104 = .ok (.baload, 1) := by decide +kernel
theorem dX6_next_105 : decode cX6_next 105 = .ok (.invokestatic 150, 3) := by decide +kernel
theorem dX6_next_108 : decode cX6_next 108 = .ok (.ifCond .eq 10, 3) := by decide +kernel
theorem dX6_next_111 : decode cX6_next 111 = .ok (.aload_n 0, 1) := by decide +kernel
theorem dX6_next_112 : decode cX6_next 112 = .ok (.invokevirtual 153, 3) := by decide +kernel
theorem dX6_next_115 : decode cX6_next 115 = .ok (.goto 36, 3) := by decide +kernel
theorem dX6_next_118 : decode cX6_next 118 = .ok (.aload_n 0, 1) := by decide +kernel
theorem dX6_next_119 : decode cX6_next 119 = .ok (.aload_n 0, 1) := by decide +kernel
theorem dX6_next_120 : decode cX6_next 120 = .ok (.getfield 11, 3) := by decide +kernel
theorem dX6_next_123 : decode cX6_next 123 = .ok (.aload_n 0, 1) := by decide +kernel
theorem dX6_next_124 : decode cX6_next 124 = .ok (.getfield 125, 3) := by decide +kernel
theorem dX6_next_127 : decode cX6_next 127 = .ok (.baload, 1) := by decide +kernel
theorem dX6_next_128 : decode cX6_next 128 = .ok (.bipush 59, 2) := by decide +kernel
theorem dX6_next_130 : decode cX6_next 130 = .ok (.if_icmp .ne 7, 3) := by decide +kernel
theorem dX6_next_133 : decode cX6_next 133 = .ok (.iconst 3, 1) := by decide +kernel
theorem dX6_next_134 : decode cX6_next 134 = .ok (.goto 4, 3) := by decide +kernel
theorem dX6_next_137 : decode cX6_next 137 = .ok (.iconst 4, 1) := by decide +kernel
theorem dX6_next_138 : decode cX6_next 138 = .ok (.putfield 48, 3) := by decide +kernel
theorem dX6_next_141 : decode cX6_next 141 = .ok (.aload_n 0, 1) := by decide +kernel
theorem dX6_next_142 : decode cX6_next 142 = .ok (.dup, 1) := by decide +kernel
theorem dX6_next_143 : decode cX6_next 143 = .ok (.getfield 24, 3) := by decide +kernel
theorem dX6_next_146 : decode cX6_next 146 = .ok (.iconst 1, 1) := by decide +kernel
theorem dX6_next_147 : decode cX6_next 147 = .ok (.iadd, 1) := by decide +kernel
theorem dX6_next_148 : decode cX6_next 148 = .ok (.putfield 24, 3) := by decide +kernel
theorem dX6_next_151 : decode cX6_next 151 = .ok (.return_, 1) := by decide +kernel
theorem dX6_passLetters_0 : decode cX6_passLetters 0 = .ok (.aload_n 0, 1) := by decide +kernel
theorem dX6_passLetters_1 : decode cX6_passLetters 1 = .ok (.iconst 1, 1) := by decide +kernel
theorem dX6_passLetters_2 : decode cX6_passLetters 2 = .ok (.putfield 48, 3) := by decide +kernel
theorem dX6_passLetters_5 : decode cX6_passLetters 5 = .ok (.aload_n 0, 1) := by decide +kernel
theorem dX6_passLetters_6 : decode cX6_passLetters 6 = .ok (.getfield 24, 3) := by decide +kernel
theorem dX6_passLetters_9 : decode cX6_passLetters 9 = .ok (.aload_n 0, 1) := by decide +kernel
theorem dX6_passLetters_10 : decode cX6_passLetters 10 = .ok (.getfield 15, 3) := by decide +kernel
theorem dX6_passLetters_13 : decode cX6_passLetters 13 = .ok (.if_icmp .ge 31, 3) := by decide +kernel
theorem dX6_passLetters_16 : decode cX6_passLetters 16 = .ok (.aload_n 0, 1) := by decide +kernel
theorem dX6_passLetters_17 : decode cX6_passLetters 17 = .ok (.getfield 11, 3) := by decide +kernel
theorem dX6_passLetters_20 : decode cX6_passLetters 20 = .ok (.aload_n 0, 1) := by decide +kernel
theorem dX6_passLetters_21 : decode cX6_passLetters 21 = .ok (.getfield 24, 3) := by decide +kernel
theorem dX6_passLetters_24 : decode cX6_passLetters 24 = .ok (.baload, 1) := by decide +kernel
theorem dX6_passLetters_25 : decode cX6_passLetters 25 = .ok (.invokestatic 144, 3) := by decide +kernel
theorem dX6_passLetters_28 : decode cX6_passLetters 28 = .ok (.ifCond .eq 16, 3) := by decide +kernel
theorem dX6_passLetters_31 : decode cX6_passLetters 31 = .ok (.aload_n 0, 1) := by decide +kernel
theorem dX6_passLetters_32 : decode cX6_passLetters 32 = .ok (.dup, 1) := by decide +kernel
theorem dX6_passLetters_33 : decode cX6_passLetters 33 = .ok (.getfield 24, 3) := by decide +kernel
theorem dX6_passLetters_36 : decode cX6_passLetters 36 = .ok (.iconst 1, 1) := by decide +kernel
theorem dX6_passLetters_37 : decode cX6_passLetters 37 = .ok (.iadd, 1) := by decide +kernel
theorem dX6_passLetters_38 : decode cX6_passLetters 38 = .ok (.putfield 24, 3) := by decide +kernel
theorem dX6_passLetters_41 : decode cX6_passLetters 41 = .ok (.goto (-36), 3) := by decide +kernel
theorem dX6_passLetters_44 : decode cX6_passLetters 44 = .ok (.return_, 1) := by decide +kernel
theorem dX6_passFigures_0 : decode cX6_passFigures 0 = .ok (.aload_n 0, 1) := by decide +kernel
theorem dX6_passFigures_1 : decode cX6_passFigures 1 = .ok (.iconst 0, 1) := by decide +kernel
theorem dX6_passFigures_2 : decode cX6_passFigures 2 = .ok (.putfield 77, 3) := by decide +kernel
theorem dX6_passFigures_5 : decode cX6_passFigures 5 = .ok (.aload_n 0, 1) := by decide +kernel
theorem dX6_passFigures_6 : decode cX6_passFigures 6 = .ok (.getfield 24, 3) := by decide +kernel
theorem dX6_passFigures_9 : decode cX6_passFigures 9 = .ok (.aload_n 0, 1) := by decide +kernel
theorem dX6_passFigures_10 : decode cX6_passFigures 10 = .ok (.getfield 15, 3) := by decide +kernel
theorem dX6_passFigures_13 : decode cX6_passFigures 13 = .ok (.if_icmp .ge 55, 3) := by decide +kernel
theorem dX6_passFigures_16 : decode cX6_passFigures 16 = .ok (.aload_n 0, 1) := by decide +kernel
theorem dX6_passFigures_17 : decode cX6_passFigures 17 = .ok (.getfield 11, 3) := by decide +kernel
theorem dX6_passFigures_20 : decode cX6_passFigures 20 = .ok (.aload_n 0, 1) := by decide +kernel
theorem dX6_passFigures_21 : decode cX6_passFigures 21 = .ok (.getfield 24, 3) := by decide +kernel
theorem dX6_passFigures_24 : decode cX6_passFigures 24 = .ok (.baload, 1) := by decide +kernel
theorem dX6_passFigures_25 : decode cX6_passFigures 25 = .ok (.invokestatic 150, 3) := by decide +kernel
theorem dX6_passFigures_28 : decode cX6_passFigures 28 = .ok (.ifCond .eq 40, 3) := by decide +kernel
theorem dX6_passFigures_31 : decode cX6_passFigures 31 = .ok (.aload_n 0, 1) := by decide +kernel
theorem dX6_passFigures_32 : decode cX6_passFigures 32 = .ok (.bipush 10, 2) := by decide +kernel
theorem dX6_passFigures_34 : decode cX6_passFigures 34 = .ok (.aload_n 0, 1) := by decide +kernel
theorem dX6_passFigures_35 : decode cX6_passFigures 35 = .ok (.getfield 77, 3) := by decide +kernel
theorem dX6_passFigures_38 : decode cX6_passFigures 38 = .ok (.imul, 1) := by decide +kernel
theorem dX6_passFigures_39 : decode cX6_passFigures 39 = .ok (.aload_n 0, 1) := by decide +kernel
theorem dX6_passFigures_40 : decode cX6_passFigures 40 = .ok (.getfield 11, 3) := by decide +kernel
theorem dX6_passFigures_43 : decode cX6_passFigures 43 = .ok (.aload_n 0, 1) := by decide +kernel
theorem dX6_passFigures_44 : decode cX6_passFigures 44 = .ok (.getfield 24, 3) := by decide +kernel
theorem dX6_passFigures_47 : decode cX6_passFigures 47 = .ok (.baload, 1) := by decide +kernel
theorem dX6_passFigures_48 : decode cX6_passFigures 48 = .ok (.iadd, 1) := by decide +kernel
theorem dX6_passFigures_49 : decode cX6_passFigures 49 = .ok (.bipush 48, 2) := by decide +kernel
theorem dX6_passFigures_51 : decode cX6_passFigures 51 = .ok (.isub, 1) := by decide +kernel
theorem dX6_passFigures_52 : decode cX6_passFigures 52 = .ok (.putfield 77, 3) := by decide +kernel
theorem dX6_passFigures_55 : decode cX6_passFigures 55 = .ok (.aload_n 0, 1) := by decide +kernel
theorem dX6_passFigures_56 : decode cX6_passFigures 56 = .ok (.dup, 1) := by decide +kernel
theorem dX6_passFigures_57 : decode cX6_passFigures 57 = .ok (.getfield 24, 3) := by decide +kernel
theorem dX6_passFigures_60 : decode cX6_passFigures 60 = .ok (.iconst 1, 1) := by decide +kernel
theorem dX6_passFigures_61 : decode cX6_passFigures 61 = .ok (.iadd, 1) := by decide +kernel
theorem dX6_passFigures_62 : decode cX6_passFigures 62 = .ok (.putfield 24, 3) := by decide +kernel
theorem dX6_passFigures_65 : decode cX6_passFigures 65 = .ok (.goto (-60), 3) := by decide +kernel
theorem dX6_passFigures_68 : decode cX6_passFigures 68 = .ok (.aload_n 0, 1) := by decide +kernel
theorem dX6_passFigures_69 : decode cX6_passFigures 69 = .ok (.aload_n 0, 1) := by decide +kernel
theorem dX6_passFigures_70 : decode cX6_passFigures 70 = .ok (.getfield 24, 3) := by decide +kernel
theorem dX6_passFigures_73 : decode cX6_passFigures 73 = .ok (.aload_n 0, 1) := by decide +kernel
theorem dX6_passFigures_74 : decode cX6_passFigures 74 = .ok (.getfield 125, 3) := by decide +kernel
theorem dX6_passFigures_77 : decode cX6_passFigures 77 = .ok (.isub, 1) := by decide +kernel
theorem dX6_passFigures_78 : decode cX6_passFigures 78 = .ok (.iconst 3, 1) := by decide +kernel
theorem dX6_passFigures_79 : decode cX6_passFigures 79 = .ok (.if_icmp .gt 7, 3) := by decide +kernel
theorem dX6_passFigures_82 : decode cX6_passFigures 82 = .ok (.iconst 2, 1) := by decide +kernel
theorem dX6_passFigures_83 : decode cX6_passFigures 83 = .ok (.goto 4, 3) := by decide +kernel
theorem dX6_passFigures_86 : decode cX6_passFigures 86 = .ok (.iconst 4, 1) := by decide +kernel
theorem dX6_passFigures_87 : decode cX6_passFigures 87 = .ok (.putfield 48, 3) := by decide +kernel
theorem dX6_passFigures_90 : decode cX6_passFigures 90 = .ok (.return_, 1) := by decide +kernel
theorem dX6_isBlank_0 : decode cX6_isBlank 0 = .ok (.iload_n 0, 1) := by decide +kernel
theorem dX6_isBlank_1 : decode cX6_isBlank 1 = .ok (.bipush 32, 2) := by decide +kernel
theorem dX6_isBlank_3 : decode cX6_isBlank 3 = .ok (.if_icmp .eq 9, 3) := by decide +kernel
theorem dX6_isBlank_6 : decode cX6_isBlank 6 = .ok (.iload_n 0, 1) := by decide +kernel
theorem dX6_isBlank_7 : decode cX6_isBlank 7 = .ok (.bipush 10, 2) := by decide +kernel
theorem dX6_isBlank_9 : decode cX6_isBlank 9 = .ok (.if_icmp .ne 7, 3) := by decide +kernel
theorem dX6_isBlank_12 : decode cX6_isBlank 12 = .ok (.iconst 1, 1) := by decide +kernel
theorem dX6_isBlank_13 : decode cX6_isBlank 13 = .ok (.goto 4, 3) := by decide +kernel
theorem dX6_isBlank_16 : decode cX6_isBlank 16 = .ok (.iconst 0, 1) := by decide +kernel
theorem dX6_isBlank_17 : decode cX6_isBlank 17 = .ok (.ireturn, 1) := by decide +kernel
theorem dX6_isLetter_0 : decode cX6_isLetter 0 = .ok (.iload_n 0, 1) := by decide +kernel
theorem dX6_isLetter_1 : decode cX6_isLetter 1 = .ok (.bipush 97, 2) := by decide +kernel
theorem dX6_isLetter_3 : decode cX6_isLetter 3 = .ok (.if_icmp .lt 13, 3) := by decide +kernel
theorem dX6_isLetter_6 : decode cX6_isLetter 6 = .ok (.iload_n 0, 1) := by decide +kernel
theorem dX6_isLetter_7 : decode cX6_isLetter 7 = .ok (.bipush 122, 2) := by decide +kernel
theorem dX6_isLetter_9 : decode cX6_isLetter 9 = .ok (.if_icmp .gt 7, 3) := by decide +kernel
theorem dX6_isLetter_12 : decode cX6_isLetter 12 = .ok (.iconst 1, 1) := by decide +kernel
theorem dX6_isLetter_13 : decode cX6_isLetter 13 = .ok (.goto 4, 3) := by decide +kernel
theorem dX6_isLetter_16 : decode cX6_isLetter 16 = .ok (.iconst 0, 1) := by decide +kernel
theorem dX6_isLetter_17 : decode cX6_isLetter 17 = .ok (.ireturn, 1) := by decide +kernel
theorem dX6_isFigure_0 : decode cX6_isFigure 0 = .ok (.iload_n 0, 1) := by decide +kernel
theorem dX6_isFigure_1 : decode cX6_isFigure 1 = .ok (.bipush 48, 2) := by decide +kernel
theorem dX6_isFigure_3 : decode cX6_isFigure 3 = .ok (.if_icmp .lt 13, 3) := by decide +kernel
theorem dX6_isFigure_6 : decode cX6_isFigure 6 = .ok (.iload_n 0, 1) := by decide +kernel
theorem dX6_isFigure_7 : decode cX6_isFigure 7 = .ok (.bipush 57, 2) := by decide +kernel
theorem dX6_isFigure_9 : decode cX6_isFigure 9 = .ok (.if_icmp .gt 7, 3) := by decide +kernel
theorem dX6_isFigure_12 : decode cX6_isFigure 12 = .ok (.iconst 1, 1) := by decide +kernel
theorem dX6_isFigure_13 : decode cX6_isFigure 13 = .ok (.goto 4, 3) := by decide +kernel
theorem dX6_isFigure_16 : decode cX6_isFigure 16 = .ok (.iconst 0, 1) := by decide +kernel
theorem dX6_isFigure_17 : decode cX6_isFigure 17 = .ok (.ireturn, 1) := by decide +kernel
theorem dX7_init_0 : decode cX7_init 0 = .ok (.aload_n 0, 1) := by decide +kernel
theorem dX7_init_1 : decode cX7_init 1 = .ok (.invokespecial 3, 3) := by decide +kernel
theorem dX7_init_4 : decode cX7_init 4 = .ok (.aload_n 0, 1) := by decide +kernel
theorem dX7_init_5 : decode cX7_init 5 = .ok (.bipush 40, 2) := by decide +kernel
theorem dX7_init_7 : decode cX7_init 7 = .ok (.newarray .int, 2) := by decide +kernel
theorem dX7_init_9 : decode cX7_init 9 = .ok (.putfield 9, 3) := by decide +kernel
theorem dX7_init_12 : decode cX7_init 12 = .ok (.aload_n 0, 1) := by decide +kernel
theorem dX7_init_13 : decode cX7_init 13 = .ok (.iconst (-1), 1) := by decide +kernel
theorem dX7_init_14 : decode cX7_init 14 = .ok (.putfield 15, 3) := by decide +kernel
theorem dX7_init_17 : decode cX7_init 17 = .ok (.return_, 1) := by decide +kernel
theorem dX7_isMissing_0 : decode cX7_isMissing 0 = .ok (.aload_n 0, 1) := by decide +kernel
theorem dX7_isMissing_1 : decode cX7_isMissing 1 = .ok (.getfield 15, 3) := by decide +kernel
theorem dX7_isMissing_4 : decode cX7_isMissing 4 = .ok (.iconst (-1), 1) := by decide +kernel
theorem dX7_isMissing_5 : decode cX7_isMissing 5 = .ok (.if_icmp .ne 7, 3) := by decide +kernel
theorem dX7_isMissing_8 : decode cX7_isMissing 8 = .ok (.iconst 1, 1) := by decide +kernel
theorem dX7_isMissing_9 : decode cX7_isMissing 9 = .ok (.goto 4, 3) := by decide +kernel
theorem dX7_isMissing_12 : decode cX7_isMissing 12 = .ok (.iconst 0, 1) := by decide +kernel
theorem dX7_isMissing_13 : decode cX7_isMissing 13 = .ok (.ireturn, 1) := by decide +kernel
theorem dX7_begin_0 : decode cX7_begin 0 = .ok (.aload_n 0, 1) := by decide +kernel
theorem dX7_begin_1 : decode cX7_begin 1 = .ok (.iload_n 1, 1) := by decide +kernel
theorem dX7_begin_2 : decode cX7_begin 2 = .ok (.putfield 15, 3) := by decide +kernel
theorem dX7_begin_5 : decode cX7_begin 5 = .ok (.aload_n 0, 1) := by decide +kernel
theorem dX7_begin_6 : decode cX7_begin 6 = .ok (.iload_n 2, 1) := by decide +kernel
theorem dX7_begin_7 : decode cX7_begin 7 = .ok (.putfield 19, 3) := by decide +kernel
theorem dX7_begin_10 : decode cX7_begin 10 = .ok (.iconst 0, 1) := by decide +kernel
theorem dX7_begin_11 : decode cX7_begin 11 = .ok (.istore_n 3, 1) := by decide +kernel
theorem dX7_begin_12 : decode cX7_begin 12 = .ok (.iload_n 3, 1) := by decide +kernel
theorem dX7_begin_13 : decode cX7_begin 13 = .ok (.bipush 40, 2) := by decide +kernel
theorem dX7_begin_15 : decode cX7_begin 15 = .ok (.if_icmp .ge 16, 3) := by decide +kernel
theorem dX7_begin_18 : decode cX7_begin 18 = .ok (.aload_n 0, 1) := by decide +kernel
theorem dX7_begin_19 : decode cX7_begin 19 = .ok (.getfield 9, 3) := by decide +kernel
theorem dX7_begin_22 : decode cX7_begin 22 = .ok (.iload_n 3, 1) := by decide +kernel
theorem dX7_begin_23 : decode cX7_begin 23 = .ok (.iconst 0, 1) := by decide +kernel
theorem dX7_begin_24 : decode cX7_begin 24 = .ok (.iastore, 1) := by decide +kernel
theorem dX7_begin_25 : decode cX7_begin 25 = .ok (.iinc 3 1, 3) := by decide +kernel
theorem dX7_begin_28 : decode cX7_begin 28 = .ok (.goto (-16), 3) := by decide +kernel
theorem dX7_begin_31 : decode cX7_begin 31 = .ok (.return_, 1) := by decide +kernel
theorem dX7_end_0 : decode cX7_end 0 = .ok (.aload_n 0, 1) := by decide +kernel
theorem dX7_end_1 : decode cX7_end 1 = .ok (.iconst (-1), 1) := by decide +kernel
theorem dX7_end_2 : decode cX7_end 2 = .ok (.putfield 15, 3) := by decide +kernel
theorem dX7_end_5 : decode cX7_end 5 = .ok (.aload_n 0, 1) := by decide +kernel
theorem dX7_end_6 : decode cX7_end 6 = .ok (.iconst 0, 1) := by decide +kernel
theorem dX7_end_7 : decode cX7_end 7 = .ok (.putfield 19, 3) := by decide +kernel
theorem dX7_end_10 : decode cX7_end 10 = .ok (.return_, 1) := by decide +kernel
theorem dX7_narrowed_0 : decode cX7_narrowed 0 = .ok (.aload_n 0, 1) := by decide +kernel
theorem dX7_narrowed_1 : decode cX7_narrowed 1 = .ok (.getfield 15, 3) := by decide +kernel
theorem dX7_narrowed_4 : decode cX7_narrowed 4 = .ok (.lookupswitch 34 #[(0, 28), (1, 31)], 28) := by decide +kernel
theorem dX7_narrowed_32 : decode cX7_narrowed 32 = .ok (.iload_n 1, 1) := by decide +kernel
theorem dX7_narrowed_33 : decode cX7_narrowed 33 = .ok (.i2b, 1) := by decide +kernel
theorem dX7_narrowed_34 : decode cX7_narrowed 34 = .ok (.ireturn, 1) := by decide +kernel
theorem dX7_narrowed_35 : decode cX7_narrowed 35 = .ok (.iload_n 1, 1) := by decide +kernel
theorem dX7_narrowed_36 : decode cX7_narrowed 36 = .ok (.i2s, 1) := by decide +kernel
theorem dX7_narrowed_37 : decode cX7_narrowed 37 = .ok (.ireturn, 1) := by decide +kernel
theorem dX7_narrowed_38 : decode cX7_narrowed 38 = .ok (.iload_n 1, 1) := by decide +kernel
theorem dX7_narrowed_39 : decode cX7_narrowed 39 = .ok (.ireturn, 1) := by decide +kernel
theorem dX7_reaches_0 : decode cX7_reaches 0 = .ok (.iload_n 1, 1) := by decide +kernel
theorem dX7_reaches_1 : decode cX7_reaches 1 = .ok (.ifCond .lt 29, 3) := by decide +kernel
theorem dX7_reaches_4 : decode cX7_reaches 4 = .ok (.iload_n 2, 1) := by decide +kernel
theorem dX7_reaches_5 : decode cX7_reaches 5 = .ok (.ifCond .lt 25, 3) := by decide +kernel
theorem dX7_reaches_8 : decode cX7_reaches 8 = .ok (.iload_n 1, 1) := by decide +kernel
theorem dX7_reaches_9 : decode cX7_reaches 9 = .ok (.aload_n 0, 1) := by decide +kernel
theorem dX7_reaches_10 : decode cX7_reaches 10 = .ok (.getfield 19, 3) := by decide +kernel
theorem dX7_reaches_13 : decode cX7_reaches 13 = .ok (.if_icmp .gt 17, 3) := by decide +kernel
theorem dX7_reaches_16 : decode cX7_reaches 16 = .ok (.iload_n 2, 1) := by decide +kernel
theorem dX7_reaches_17 : decode cX7_reaches 17 = .ok (.aload_n 0, 1) := by decide +kernel
theorem dX7_reaches_18 : decode cX7_reaches 18 = .ok (.getfield 19, 3) := by decide +kernel
theorem dX7_reaches_21 : decode cX7_reaches 21 = .ok (.iload_n 1, 1) := by decide +kernel
theorem dX7_reaches_22 : decode cX7_reaches 22 = .ok (.isub, 1) := by decide +kernel
theorem dX7_reaches_23 : decode cX7_reaches 23 = .ok (.if_icmp .gt 7, 3) := by decide +kernel
theorem dX7_reaches_26 : decode cX7_reaches 26 = .ok (.iconst 1, 1) := by decide +kernel
theorem dX7_reaches_27 : decode cX7_reaches 27 = .ok (.goto 4, 3) := by decide +kernel
theorem dX7_reaches_30 : decode cX7_reaches 30 = .ok (.iconst 0, 1) := by decide +kernel
theorem dX7_reaches_31 : decode cX7_reaches 31 = .ok (.ireturn, 1) := by decide +kernel
theorem dX7_holds_0 : decode cX7_holds 0 = .ok (.iconst 0, 1) := by decide +kernel
theorem dX7_holds_1 : decode cX7_holds 1 = .ok (.istore 4, 2) := by decide +kernel
theorem dX7_holds_3 : decode cX7_holds 3 = .ok (.iload 4, 2) := by decide +kernel
theorem dX7_holds_5 : decode cX7_holds 5 = .ok (.iload_n 1, 1) := by decide +kernel
theorem dX7_holds_6 : decode cX7_holds 6 = .ok (.if_icmp .ge 40, 3) := by decide +kernel
theorem dX7_holds_9 : decode cX7_holds 9 = .ok (.iload 4, 2) := by decide +kernel
theorem dX7_holds_11 : decode cX7_holds 11 = .ok (.bipush 40, 2) := by decide +kernel
theorem dX7_holds_13 : decode cX7_holds 13 = .ok (.if_icmp .ge 33, 3) := by decide +kernel
theorem dX7_holds_16 : decode cX7_holds 16 = .ok (.aload_n 0, 1) := by decide +kernel
theorem dX7_holds_17 : decode cX7_holds 17 = .ok (.getfield 9, 3) := by decide +kernel
theorem dX7_holds_20 : decode cX7_holds 20 = .ok (.iload 4, 2) := by decide +kernel
theorem dX7_holds_22 : decode cX7_holds 22 = .ok (.iaload, 1) := by decide +kernel
theorem dX7_holds_23 : decode cX7_holds 23 = .ok (.iload_n 2, 1) := by decide +kernel
theorem dX7_holds_24 : decode cX7_holds 24 = .ok (.if_icmp .lt 14, 3) := by decide +kernel
theorem dX7_holds_27 : decode cX7_holds 27 = .ok (.aload_n 0, 1) := by decide +kernel
theorem dX7_holds_28 : decode cX7_holds 28 = .ok (.getfield 9, 3) := by decide +kernel
theorem dX7_holds_31 : decode cX7_holds 31 = .ok (.iload 4, 2) := by decide +kernel
theorem dX7_holds_33 : decode cX7_holds 33 = .ok (.iaload, 1) := by decide +kernel
theorem dX7_holds_34 : decode cX7_holds 34 = .ok (.iload_n 3, 1) := by decide +kernel
theorem dX7_holds_35 : decode cX7_holds 35 = .ok (.if_icmp .le 5, 3) := by decide +kernel
theorem dX7_holds_38 : decode cX7_holds 38 = .ok (.iconst 0, 1) := by decide +kernel
theorem dX7_holds_39 : decode cX7_holds 39 = .ok (.ireturn, 1) := by decide +kernel
theorem dX7_holds_40 : decode cX7_holds 40 = .ok (.iinc 4 1, 3) := by decide +kernel
theorem dX7_holds_43 : decode cX7_holds 43 = .ok (.goto (-40), 3) := by decide +kernel
theorem dX7_holds_46 : decode cX7_holds 46 = .ok (.iconst 1, 1) := by decide +kernel
theorem dX7_holds_47 : decode cX7_holds 47 = .ok (.ireturn, 1) := by decide +kernel
theorem dX8_init_0 : decode cX8_init 0 = .ok (.aload_n 0, 1) := by decide +kernel
theorem dX8_init_1 : decode cX8_init 1 = .ok (.invokespecial 3, 3) := by decide +kernel
theorem dX8_init_4 : decode cX8_init 4 = .ok (.aload_n 0, 1) := by decide +kernel
theorem dX8_init_5 : decode cX8_init 5 = .ok (.bipush 7, 2) := by decide +kernel
theorem dX8_init_7 : decode cX8_init 7 = .ok (.anewarray 9, 3) := by decide +kernel
theorem dX8_init_10 : decode cX8_init 10 = .ok (.putfield 11, 3) := by decide +kernel
theorem dX8_init_13 : decode cX8_init 13 = .ok (.aload_n 0, 1) := by decide +kernel
theorem dX8_init_14 : decode cX8_init 14 = .ok (.bipush 7, 2) := by decide +kernel
theorem dX8_init_16 : decode cX8_init 16 = .ok (.newarray .int, 2) := by decide +kernel
theorem dX8_init_18 : decode cX8_init 18 = .ok (.putfield 17, 3) := by decide +kernel
theorem dX8_init_21 : decode cX8_init 21 = .ok (.aload_n 0, 1) := by decide +kernel
theorem dX8_init_22 : decode cX8_init 22 = .ok (.bipush 7, 2) := by decide +kernel
theorem dX8_init_24 : decode cX8_init 24 = .ok (.newarray .int, 2) := by decide +kernel
theorem dX8_init_26 : decode cX8_init 26 = .ok (.putfield 21, 3) := by decide +kernel
theorem dX8_init_29 : decode cX8_init 29 = .ok (.aload_n 0, 1) := by decide +kernel
theorem dX8_init_30 : decode cX8_init 30 = .ok (.iconst 4, 1) := by decide +kernel
theorem dX8_init_31 : decode cX8_init 31 = .ok (.newarray .int, 2) := by decide +kernel
theorem dX8_init_33 : decode cX8_init 33 = .ok (.putfield 24, 3) := by decide +kernel
theorem dX8_init_36 : decode cX8_init 36 = .ok (.aload_n 0, 1) := by decide +kernel
theorem dX8_init_37 : decode cX8_init 37 = .ok (.iconst 4, 1) := by decide +kernel
theorem dX8_init_38 : decode cX8_init 38 = .ok (.newarray .int, 2) := by decide +kernel
theorem dX8_init_40 : decode cX8_init 40 = .ok (.putfield 27, 3) := by decide +kernel
theorem dX8_init_43 : decode cX8_init 43 = .ok (.return_, 1) := by decide +kernel
theorem dX8_stands_0 : decode cX8_stands 0 = .ok (.aload_n 0, 1) := by decide +kernel
theorem dX8_stands_1 : decode cX8_stands 1 = .ok (.getfield 30, 3) := by decide +kernel
theorem dX8_stands_4 : decode cX8_stands 4 = .ok (.ifCond .le 7, 3) := by decide +kernel
theorem dX8_stands_7 : decode cX8_stands 7 = .ok (.iconst 1, 1) := by decide +kernel
theorem dX8_stands_8 : decode cX8_stands 8 = .ok (.goto 4, 3) := by decide +kernel
theorem dX8_stands_11 : decode cX8_stands 11 = .ok (.iconst 0, 1) := by decide +kernel
theorem dX8_stands_12 : decode cX8_stands 12 = .ok (.ireturn, 1) := by decide +kernel
theorem dX8_clear_0 : decode cX8_clear 0 = .ok (.aload_n 0, 1) := by decide +kernel
theorem dX8_clear_1 : decode cX8_clear 1 = .ok (.iconst 0, 1) := by decide +kernel
theorem dX8_clear_2 : decode cX8_clear 2 = .ok (.putfield 30, 3) := by decide +kernel
theorem dX8_clear_5 : decode cX8_clear 5 = .ok (.aload_n 0, 1) := by decide +kernel
theorem dX8_clear_6 : decode cX8_clear 6 = .ok (.iconst 0, 1) := by decide +kernel
theorem dX8_clear_7 : decode cX8_clear 7 = .ok (.putfield 34, 3) := by decide +kernel
theorem dX8_clear_10 : decode cX8_clear 10 = .ok (.aload_n 0, 1) := by decide +kernel
theorem dX8_clear_11 : decode cX8_clear 11 = .ok (.iconst 0, 1) := by decide +kernel
theorem dX8_clear_12 : decode cX8_clear 12 = .ok (.putfield 37, 3) := by decide +kernel
theorem dX8_clear_15 : decode cX8_clear 15 = .ok (.aload_n 0, 1) := by decide +kernel
theorem dX8_clear_16 : decode cX8_clear 16 = .ok (.iconst 0, 1) := by decide +kernel
theorem dX8_clear_17 : decode cX8_clear 17 = .ok (.putfield 40, 3) := by decide +kernel
theorem dX8_clear_20 : decode cX8_clear 20 = .ok (.aload_n 0, 1) := by decide +kernel
theorem dX8_clear_21 : decode cX8_clear 21 = .ok (.iconst 0, 1) := by decide +kernel
theorem dX8_clear_22 : decode cX8_clear 22 = .ok (.putfield 43, 3) := by decide +kernel
theorem dX8_clear_25 : decode cX8_clear 25 = .ok (.aload_n 0, 1) := by decide +kernel
theorem dX8_clear_26 : decode cX8_clear 26 = .ok (.iconst 0, 1) := by decide +kernel
theorem dX8_clear_27 : decode cX8_clear 27 = .ok (.putfield 46, 3) := by decide +kernel
theorem dX8_clear_30 : decode cX8_clear 30 = .ok (.aload_n 0, 1) := by decide +kernel
theorem dX8_clear_31 : decode cX8_clear 31 = .ok (.iconst 0, 1) := by decide +kernel
theorem dX8_clear_32 : decode cX8_clear 32 = .ok (.putfield 49, 3) := by decide +kernel
theorem dX8_clear_35 : decode cX8_clear 35 = .ok (.return_, 1) := by decide +kernel
theorem dX8_takeFrom_0 : decode cX8_takeFrom 0 = .ok (.aload_n 0, 1) := by decide +kernel
theorem dX8_takeFrom_1 : decode cX8_takeFrom 1 = .ok (.aload_n 1, 1) := by decide +kernel
theorem dX8_takeFrom_2 : decode cX8_takeFrom 2 = .ok (.getfield 30, 3) := by decide +kernel
theorem dX8_takeFrom_5 : decode cX8_takeFrom 5 = .ok (.putfield 30, 3) := by decide +kernel
theorem dX8_takeFrom_8 : decode cX8_takeFrom 8 = .ok (.aload_n 0, 1) := by decide +kernel
theorem dX8_takeFrom_9 : decode cX8_takeFrom 9 = .ok (.aload_n 1, 1) := by decide +kernel
theorem dX8_takeFrom_10 : decode cX8_takeFrom 10 = .ok (.getfield 34, 3) := by decide +kernel
theorem dX8_takeFrom_13 : decode cX8_takeFrom 13 = .ok (.putfield 34, 3) := by decide +kernel
theorem dX8_takeFrom_16 : decode cX8_takeFrom 16 = .ok (.aload_n 0, 1) := by decide +kernel
theorem dX8_takeFrom_17 : decode cX8_takeFrom 17 = .ok (.aload_n 1, 1) := by decide +kernel
theorem dX8_takeFrom_18 : decode cX8_takeFrom 18 = .ok (.getfield 37, 3) := by decide +kernel
theorem dX8_takeFrom_21 : decode cX8_takeFrom 21 = .ok (.putfield 37, 3) := by decide +kernel
theorem dX8_takeFrom_24 : decode cX8_takeFrom 24 = .ok (.aload_n 0, 1) := by decide +kernel
theorem dX8_takeFrom_25 : decode cX8_takeFrom 25 = .ok (.aload_n 1, 1) := by decide +kernel
theorem dX8_takeFrom_26 : decode cX8_takeFrom 26 = .ok (.getfield 40, 3) := by decide +kernel
theorem dX8_takeFrom_29 : decode cX8_takeFrom 29 = .ok (.putfield 40, 3) := by decide +kernel
theorem dX8_takeFrom_32 : decode cX8_takeFrom 32 = .ok (.aload_n 0, 1) := by decide +kernel
theorem dX8_takeFrom_33 : decode cX8_takeFrom 33 = .ok (.aload_n 1, 1) := by decide +kernel
theorem dX8_takeFrom_34 : decode cX8_takeFrom 34 = .ok (.getfield 43, 3) := by decide +kernel
theorem dX8_takeFrom_37 : decode cX8_takeFrom 37 = .ok (.putfield 43, 3) := by decide +kernel
theorem dX8_takeFrom_40 : decode cX8_takeFrom 40 = .ok (.aload_n 0, 1) := by decide +kernel
theorem dX8_takeFrom_41 : decode cX8_takeFrom 41 = .ok (.aload_n 1, 1) := by decide +kernel
theorem dX8_takeFrom_42 : decode cX8_takeFrom 42 = .ok (.getfield 46, 3) := by decide +kernel
theorem dX8_takeFrom_45 : decode cX8_takeFrom 45 = .ok (.putfield 46, 3) := by decide +kernel
theorem dX8_takeFrom_48 : decode cX8_takeFrom 48 = .ok (.aload_n 0, 1) := by decide +kernel
theorem dX8_takeFrom_49 : decode cX8_takeFrom 49 = .ok (.aload_n 1, 1) := by decide +kernel
theorem dX8_takeFrom_50 : decode cX8_takeFrom 50 = .ok (.getfield 49, 3) := by decide +kernel
theorem dX8_takeFrom_53 : decode cX8_takeFrom 53 = .ok (.putfield 49, 3) := by decide +kernel
theorem dX8_takeFrom_56 : decode cX8_takeFrom 56 = .ok (.iconst 0, 1) := by decide +kernel
theorem dX8_takeFrom_57 : decode cX8_takeFrom 57 = .ok (.istore_n 2, 1) := by decide +kernel
theorem dX8_takeFrom_58 : decode cX8_takeFrom 58 = .ok (.iload_n 2, 1) := by decide +kernel
theorem dX8_takeFrom_59 : decode cX8_takeFrom 59 = .ok (.bipush 7, 2) := by decide +kernel
theorem dX8_takeFrom_61 : decode cX8_takeFrom 61 = .ok (.if_icmp .ge 45, 3) := by decide +kernel
theorem dX8_takeFrom_64 : decode cX8_takeFrom 64 = .ok (.aload_n 0, 1) := by decide +kernel
theorem dX8_takeFrom_65 : decode cX8_takeFrom 65 = .ok (.getfield 11, 3) := by decide +kernel
theorem dX8_takeFrom_68 : decode cX8_takeFrom 68 = .ok (.iload_n 2, 1) := by decide +kernel
theorem dX8_takeFrom_69 : decode cX8_takeFrom 69 = .ok (.aload_n 1, 1) := by decide +kernel
theorem dX8_takeFrom_70 : decode cX8_takeFrom 70 = .ok (.getfield 11, 3) := by decide +kernel
theorem dX8_takeFrom_73 : decode cX8_takeFrom 73 = .ok (.iload_n 2, 1) := by decide +kernel
theorem dX8_takeFrom_74 : decode cX8_takeFrom 74 = .ok (.aaload, 1) := by decide +kernel
theorem dX8_takeFrom_75 : decode cX8_takeFrom 75 = .ok (.aastore, 1) := by decide +kernel
theorem dX8_takeFrom_76 : decode cX8_takeFrom 76 = .ok (.aload_n 0, 1) := by decide +kernel
theorem dX8_takeFrom_77 : decode cX8_takeFrom 77 = .ok (.getfield 17, 3) := by decide +kernel
theorem dX8_takeFrom_80 : decode cX8_takeFrom 80 = .ok (.iload_n 2, 1) := by decide +kernel
theorem dX8_takeFrom_81 : decode cX8_takeFrom 81 = .ok (.aload_n 1, 1) := by decide +kernel
theorem dX8_takeFrom_82 : decode cX8_takeFrom 82 = .ok (.getfield 17, 3) := by decide +kernel
theorem dX8_takeFrom_85 : decode cX8_takeFrom 85 = .ok (.iload_n 2, 1) := by decide +kernel
theorem dX8_takeFrom_86 : decode cX8_takeFrom 86 = .ok (.iaload, 1) := by decide +kernel
theorem dX8_takeFrom_87 : decode cX8_takeFrom 87 = .ok (.iastore, 1) := by decide +kernel
theorem dX8_takeFrom_88 : decode cX8_takeFrom 88 = .ok (.aload_n 0, 1) := by decide +kernel
theorem dX8_takeFrom_89 : decode cX8_takeFrom 89 = .ok (.getfield 21, 3) := by decide +kernel
theorem dX8_takeFrom_92 : decode cX8_takeFrom 92 = .ok (.iload_n 2, 1) := by decide +kernel
theorem dX8_takeFrom_93 : decode cX8_takeFrom 93 = .ok (.aload_n 1, 1) := by decide +kernel
theorem dX8_takeFrom_94 : decode cX8_takeFrom 94 = .ok (.getfield 21, 3) := by decide +kernel
theorem dX8_takeFrom_97 : decode cX8_takeFrom 97 = .ok (.iload_n 2, 1) := by decide +kernel
theorem dX8_takeFrom_98 : decode cX8_takeFrom 98 = .ok (.iaload, 1) := by decide +kernel
theorem dX8_takeFrom_99 : decode cX8_takeFrom 99 = .ok (.iastore, 1) := by decide +kernel
theorem dX8_takeFrom_100 : decode cX8_takeFrom 100 = .ok (.iinc 2 1, 3) := by decide +kernel
theorem dX8_takeFrom_103 : decode cX8_takeFrom 103 = .ok (.goto (-45), 3) := by decide +kernel
theorem dX8_takeFrom_106 : decode cX8_takeFrom 106 = .ok (.iconst 0, 1) := by decide +kernel
theorem dX8_takeFrom_107 : decode cX8_takeFrom 107 = .ok (.istore_n 2, 1) := by decide +kernel
theorem dX8_takeFrom_108 : decode cX8_takeFrom 108 = .ok (.iload_n 2, 1) := by decide +kernel
theorem dX8_takeFrom_109 : decode cX8_takeFrom 109 = .ok (.iconst 4, 1) := by decide +kernel
theorem dX8_takeFrom_110 : decode cX8_takeFrom 110 = .ok (.if_icmp .ge 33, 3) := by decide +kernel
theorem dX8_takeFrom_113 : decode cX8_takeFrom 113 = .ok (.aload_n 0, 1) := by decide +kernel
theorem dX8_takeFrom_114 : decode cX8_takeFrom 114 = .ok (.getfield 24, 3) := by decide +kernel
theorem dX8_takeFrom_117 : decode cX8_takeFrom 117 = .ok (.iload_n 2, 1) := by decide +kernel
theorem dX8_takeFrom_118 : decode cX8_takeFrom 118 = .ok (.aload_n 1, 1) := by decide +kernel
theorem dX8_takeFrom_119 : decode cX8_takeFrom 119 = .ok (.getfield 24, 3) := by decide +kernel
theorem dX8_takeFrom_122 : decode cX8_takeFrom 122 = .ok (.iload_n 2, 1) := by decide +kernel
theorem dX8_takeFrom_123 : decode cX8_takeFrom 123 = .ok (.iaload, 1) := by decide +kernel
theorem dX8_takeFrom_124 : decode cX8_takeFrom 124 = .ok (.iastore, 1) := by decide +kernel
theorem dX8_takeFrom_125 : decode cX8_takeFrom 125 = .ok (.aload_n 0, 1) := by decide +kernel
theorem dX8_takeFrom_126 : decode cX8_takeFrom 126 = .ok (.getfield 27, 3) := by decide +kernel
theorem dX8_takeFrom_129 : decode cX8_takeFrom 129 = .ok (.iload_n 2, 1) := by decide +kernel
theorem dX8_takeFrom_130 : decode cX8_takeFrom 130 = .ok (.aload_n 1, 1) := by decide +kernel
theorem dX8_takeFrom_131 : decode cX8_takeFrom 131 = .ok (.getfield 27, 3) := by decide +kernel
theorem dX8_takeFrom_134 : decode cX8_takeFrom 134 = .ok (.iload_n 2, 1) := by decide +kernel
theorem dX8_takeFrom_135 : decode cX8_takeFrom 135 = .ok (.iaload, 1) := by decide +kernel
theorem dX8_takeFrom_136 : decode cX8_takeFrom 136 = .ok (.iastore, 1) := by decide +kernel
theorem dX8_takeFrom_137 : decode cX8_takeFrom 137 = .ok (.iinc 2 1, 3) := by decide +kernel
theorem dX8_takeFrom_140 : decode cX8_takeFrom 140 = .ok (.goto (-32), 3) := by decide +kernel
theorem dX8_takeFrom_143 : decode cX8_takeFrom 143 = .ok (.return_, 1) := by decide +kernel
theorem dX8_addPerson_0 : decode cX8_addPerson 0 = .ok (.aload_n 0, 1) := by decide +kernel
theorem dX8_addPerson_1 : decode cX8_addPerson 1 = .ok (.getfield 37, 3) := by decide +kernel
theorem dX8_addPerson_4 : decode cX8_addPerson 4 = .ok (.bipush 7, 2) := by decide +kernel
theorem dX8_addPerson_6 : decode cX8_addPerson 6 = .ok (.if_icmp .ge 43, 3) := by decide +kernel
theorem dX8_addPerson_9 : decode cX8_addPerson 9 = .ok (.aload_n 0, 1) := by decide +kernel
theorem dX8_addPerson_10 : decode cX8_addPerson 10 = .ok (.getfield 11, 3) := by decide +kernel
theorem dX8_addPerson_13 : decode cX8_addPerson 13 = .ok (.aload_n 0, 1) := by decide +kernel
theorem dX8_addPerson_14 : decode cX8_addPerson 14 = .ok (.getfield 37, 3) := by decide +kernel
theorem dX8_addPerson_17 : decode cX8_addPerson 17 = .ok (.aload_n 1, 1) := by decide +kernel
theorem dX8_addPerson_18 : decode cX8_addPerson 18 = .ok (.aastore, 1) := by decide +kernel
theorem dX8_addPerson_19 : decode cX8_addPerson 19 = .ok (.aload_n 0, 1) := by decide +kernel
theorem dX8_addPerson_20 : decode cX8_addPerson 20 = .ok (.getfield 17, 3) := by decide +kernel
theorem dX8_addPerson_23 : decode cX8_addPerson 23 = .ok (.aload_n 0, 1) := by decide +kernel
theorem dX8_addPerson_24 : decode cX8_addPerson 24 = .ok (.getfield 37, 3) := by decide +kernel
theorem dX8_addPerson_27 : decode cX8_addPerson 27 = .ok (.iload_n 2, 1) := by decide +kernel
theorem dX8_addPerson_28 : decode cX8_addPerson 28 = .ok (.iastore, 1) := by decide +kernel
theorem dX8_addPerson_29 : decode cX8_addPerson 29 = .ok (.aload_n 0, 1) := by decide +kernel
theorem dX8_addPerson_30 : decode cX8_addPerson 30 = .ok (.getfield 21, 3) := by decide +kernel
theorem dX8_addPerson_33 : decode cX8_addPerson 33 = .ok (.aload_n 0, 1) := by decide +kernel
theorem dX8_addPerson_34 : decode cX8_addPerson 34 = .ok (.getfield 37, 3) := by decide +kernel
theorem dX8_addPerson_37 : decode cX8_addPerson 37 = .ok (.iconst 0, 1) := by decide +kernel
theorem dX8_addPerson_38 : decode cX8_addPerson 38 = .ok (.iastore, 1) := by decide +kernel
theorem dX8_addPerson_39 : decode cX8_addPerson 39 = .ok (.aload_n 0, 1) := by decide +kernel
theorem dX8_addPerson_40 : decode cX8_addPerson 40 = .ok (.dup, 1) := by decide +kernel
theorem dX8_addPerson_41 : decode cX8_addPerson 41 = .ok (.getfield 37, 3) := by decide +kernel
theorem dX8_addPerson_44 : decode cX8_addPerson 44 = .ok (.iconst 1, 1) := by decide +kernel
theorem dX8_addPerson_45 : decode cX8_addPerson 45 = .ok (.iadd, 1) := by decide +kernel
theorem dX8_addPerson_46 : decode cX8_addPerson 46 = .ok (.putfield 37, 3) := by decide +kernel
theorem dX8_addPerson_49 : decode cX8_addPerson 49 = .ok (.return_, 1) := by decide +kernel
theorem dX8_addStone_0 : decode cX8_addStone 0 = .ok (.aload_n 0, 1) := by decide +kernel
theorem dX8_addStone_1 : decode cX8_addStone 1 = .ok (.getfield 40, 3) := by decide +kernel
theorem dX8_addStone_4 : decode cX8_addStone 4 = .ok (.iconst 4, 1) := by decide +kernel
theorem dX8_addStone_5 : decode cX8_addStone 5 = .ok (.if_icmp .ge 33, 3) := by decide +kernel
theorem dX8_addStone_8 : decode cX8_addStone 8 = .ok (.aload_n 0, 1) := by decide +kernel
theorem dX8_addStone_9 : decode cX8_addStone 9 = .ok (.getfield 24, 3) := by decide +kernel
theorem dX8_addStone_12 : decode cX8_addStone 12 = .ok (.aload_n 0, 1) := by decide +kernel
theorem dX8_addStone_13 : decode cX8_addStone 13 = .ok (.getfield 40, 3) := by decide +kernel
theorem dX8_addStone_16 : decode cX8_addStone 16 = .ok (.iload_n 1, 1) := by decide +kernel
theorem dX8_addStone_17 : decode cX8_addStone 17 = .ok (.iastore, 1) := by decide +kernel
theorem dX8_addStone_18 : decode cX8_addStone 18 = .ok (.aload_n 0, 1) := by decide +kernel
theorem dX8_addStone_19 : decode cX8_addStone 19 = .ok (.getfield 27, 3) := by decide +kernel
theorem dX8_addStone_22 : decode cX8_addStone 22 = .ok (.aload_n 0, 1) := by decide +kernel
theorem dX8_addStone_23 : decode cX8_addStone 23 = .ok (.getfield 40, 3) := by decide +kernel
theorem dX8_addStone_26 : decode cX8_addStone 26 = .ok (.iload_n 2, 1) := by decide +kernel
theorem dX8_addStone_27 : decode cX8_addStone 27 = .ok (.iastore, 1) := by decide +kernel
theorem dX8_addStone_28 : decode cX8_addStone 28 = .ok (.aload_n 0, 1) := by decide +kernel
theorem dX8_addStone_29 : decode cX8_addStone 29 = .ok (.dup, 1) := by decide +kernel
theorem dX8_addStone_30 : decode cX8_addStone 30 = .ok (.getfield 40, 3) := by decide +kernel
theorem dX8_addStone_33 : decode cX8_addStone 33 = .ok (.iconst 1, 1) := by decide +kernel
theorem dX8_addStone_34 : decode cX8_addStone 34 = .ok (.iadd, 1) := by decide +kernel
theorem dX8_addStone_35 : decode cX8_addStone 35 = .ok (.putfield 40, 3) := by decide +kernel
theorem dX8_addStone_38 : decode cX8_addStone 38 = .ok (.return_, 1) := by decide +kernel
theorem dX8_hasPerson_0 : decode cX8_hasPerson 0 = .ok (.iload_n 1, 1) := by decide +kernel
theorem dX8_hasPerson_1 : decode cX8_hasPerson 1 = .ok (.ifCond .lt 15, 3) := by decide +kernel
theorem dX8_hasPerson_4 : decode cX8_hasPerson 4 = .ok (.iload_n 1, 1) := by decide +kernel
theorem dX8_hasPerson_5 : decode cX8_hasPerson 5 = .ok (.aload_n 0, 1) := by decide +kernel
theorem dX8_hasPerson_6 : decode cX8_hasPerson 6 = .ok (.getfield 37, 3) := by decide +kernel
theorem dX8_hasPerson_9 : decode cX8_hasPerson 9 = .ok (.if_icmp .ge 7, 3) := by decide +kernel
theorem dX8_hasPerson_12 : decode cX8_hasPerson 12 = .ok (.iconst 1, 1) := by decide +kernel
theorem dX8_hasPerson_13 : decode cX8_hasPerson 13 = .ok (.goto 4, 3) := by decide +kernel
theorem dX8_hasPerson_16 : decode cX8_hasPerson 16 = .ok (.iconst 0, 1) := by decide +kernel
theorem dX8_hasPerson_17 : decode cX8_hasPerson 17 = .ok (.ireturn, 1) := by decide +kernel
theorem dX8_hasStone_0 : decode cX8_hasStone 0 = .ok (.iload_n 1, 1) := by decide +kernel
theorem dX8_hasStone_1 : decode cX8_hasStone 1 = .ok (.ifCond .lt 15, 3) := by decide +kernel
theorem dX8_hasStone_4 : decode cX8_hasStone 4 = .ok (.iload_n 1, 1) := by decide +kernel
theorem dX8_hasStone_5 : decode cX8_hasStone 5 = .ok (.aload_n 0, 1) := by decide +kernel
theorem dX8_hasStone_6 : decode cX8_hasStone 6 = .ok (.getfield 40, 3) := by decide +kernel
theorem dX8_hasStone_9 : decode cX8_hasStone 9 = .ok (.if_icmp .ge 7, 3) := by decide +kernel
theorem dX8_hasStone_12 : decode cX8_hasStone 12 = .ok (.iconst 1, 1) := by decide +kernel
theorem dX8_hasStone_13 : decode cX8_hasStone 13 = .ok (.goto 4, 3) := by decide +kernel
theorem dX8_hasStone_16 : decode cX8_hasStone 16 = .ok (.iconst 0, 1) := by decide +kernel
theorem dX8_hasStone_17 : decode cX8_hasStone 17 = .ok (.ireturn, 1) := by decide +kernel
theorem dX8_who_0 : decode cX8_who 0 = .ok (.aload_n 0, 1) := by decide +kernel
theorem dX8_who_1 : decode cX8_who 1 = .ok (.iload_n 1, 1) := by decide +kernel
theorem dX8_who_2 : decode cX8_who 2 = .ok (.invokevirtual 52, 3) := by decide +kernel
theorem dX8_who_5 : decode cX8_who 5 = .ok (.ifCond .eq 12, 3) := by decide +kernel
theorem dX8_who_8 : decode cX8_who 8 = .ok (.aload_n 0, 1) := by decide +kernel
theorem dX8_who_9 : decode cX8_who 9 = .ok (.getfield 11, 3) := by decide +kernel
theorem dX8_who_12 : decode cX8_who 12 = .ok (.iload_n 1, 1) := by decide +kernel
theorem dX8_who_13 : decode cX8_who 13 = .ok (.aaload, 1) := by decide +kernel
theorem dX8_who_14 : decode cX8_who 14 = .ok (.goto 4, 3) := by decide +kernel
theorem dX8_who_17 : decode cX8_who 17 = .ok (.aconst_null, 1) := by decide +kernel
theorem dX8_who_18 : decode cX8_who 18 = .ok (.areturn, 1) := by decide +kernel
theorem dX8_isOutside_0 : decode cX8_isOutside 0 = .ok (.aload_n 0, 1) := by decide +kernel
theorem dX8_isOutside_1 : decode cX8_isOutside 1 = .ok (.iload_n 1, 1) := by decide +kernel
theorem dX8_isOutside_2 : decode cX8_isOutside 2 = .ok (.invokevirtual 52, 3) := by decide +kernel
theorem dX8_isOutside_5 : decode cX8_isOutside 5 = .ok (.ifCond .eq 17, 3) := by decide +kernel
theorem dX8_isOutside_8 : decode cX8_isOutside 8 = .ok (.aload_n 0, 1) := by decide +kernel
theorem dX8_isOutside_9 : decode cX8_isOutside 9 = .ok (.getfield 17, 3) := by decide +kernel
theorem dX8_isOutside_12 : decode cX8_isOutside 12 = .ok (.iload_n 1, 1) := by decide +kernel
theorem dX8_isOutside_13 : decode cX8_isOutside 13 = .ok (.iaload, 1) := by decide +kernel
theorem dX8_isOutside_14 : decode cX8_isOutside 14 = .ok (.iconst (-1), 1) := by decide +kernel
theorem dX8_isOutside_15 : decode cX8_isOutside 15 = .ok (.if_icmp .ne 7, 3) := by decide +kernel
theorem dX8_isOutside_18 : decode cX8_isOutside 18 = .ok (.iconst 1, 1) := by decide +kernel
theorem dX8_isOutside_19 : decode cX8_isOutside 19 = .ok (.goto 4, 3) := by decide +kernel
theorem dX8_isOutside_22 : decode cX8_isOutside 22 = .ok (.iconst 0, 1) := by decide +kernel
theorem dX8_isOutside_23 : decode cX8_isOutside 23 = .ok (.ireturn, 1) := by decide +kernel
theorem dX8_outsideSet_0 : decode cX8_outsideSet 0 = .ok (.iconst 0, 1) := by decide +kernel
theorem dX8_outsideSet_1 : decode cX8_outsideSet 1 = .ok (.istore_n 1, 1) := by decide +kernel
theorem dX8_outsideSet_2 : decode cX8_outsideSet 2 = .ok (.iconst 0, 1) := by decide +kernel
theorem dX8_outsideSet_3 : decode cX8_outsideSet 3 = .ok (.istore_n 2, 1) := by decide +kernel
theorem dX8_outsideSet_4 : decode cX8_outsideSet 4 = .ok (.iload_n 2, 1) := by decide +kernel
theorem dX8_outsideSet_5 : decode cX8_outsideSet 5 = .ok (.aload_n 0, 1) := by decide +kernel
theorem dX8_outsideSet_6 : decode cX8_outsideSet 6 = .ok (.getfield 37, 3) := by decide +kernel
theorem dX8_outsideSet_9 : decode cX8_outsideSet 9 = .ok (.if_icmp .ge 25, 3) := by decide +kernel
theorem dX8_outsideSet_12 : decode cX8_outsideSet 12 = .ok (.aload_n 0, 1) := by decide +kernel
theorem dX8_outsideSet_13 : decode cX8_outsideSet 13 = .ok (.getfield 17, 3) := by decide +kernel
theorem dX8_outsideSet_16 : decode cX8_outsideSet 16 = .ok (.iload_n 2, 1) := by decide +kernel
theorem dX8_outsideSet_17 : decode cX8_outsideSet 17 = .ok (.iaload, 1) := by decide +kernel
theorem dX8_outsideSet_18 : decode cX8_outsideSet 18 = .ok (.iconst (-1), 1) := by decide +kernel
theorem dX8_outsideSet_19 : decode cX8_outsideSet 19 = .ok (.if_icmp .ne 9, 3) := by decide +kernel
theorem dX8_outsideSet_22 : decode cX8_outsideSet 22 = .ok (.iload_n 1, 1) := by decide +kernel
theorem dX8_outsideSet_23 : decode cX8_outsideSet 23 = .ok (.iconst 1, 1) := by decide +kernel
theorem dX8_outsideSet_24 : decode cX8_outsideSet 24 = .ok (.iload_n 2, 1) := by decide +kernel
theorem dX8_outsideSet_25 : decode cX8_outsideSet 25 = .ok (.ishl, 1) := by decide +kernel
theorem dX8_outsideSet_26 : decode cX8_outsideSet 26 = .ok (.ior, 1) := by decide +kernel
theorem dX8_outsideSet_27 : decode cX8_outsideSet 27 = .ok (.istore_n 1, 1) := by decide +kernel
theorem dX8_outsideSet_28 : decode cX8_outsideSet 28 = .ok (.iinc 2 1, 3) := by decide +kernel
theorem dX8_outsideSet_31 : decode cX8_outsideSet 31 = .ok (.goto (-27), 3) := by decide +kernel
theorem dX8_outsideSet_34 : decode cX8_outsideSet 34 = .ok (.iload_n 1, 1) := by decide +kernel
theorem dX8_outsideSet_35 : decode cX8_outsideSet 35 = .ok (.ireturn, 1) := by decide +kernel
theorem dX8_insideSet_0 : decode cX8_insideSet 0 = .ok (.iconst 1, 1) := by decide +kernel
theorem dX8_insideSet_1 : decode cX8_insideSet 1 = .ok (.aload_n 0, 1) := by decide +kernel
theorem dX8_insideSet_2 : decode cX8_insideSet 2 = .ok (.getfield 37, 3) := by decide +kernel
theorem dX8_insideSet_5 : decode cX8_insideSet 5 = .ok (.ishl, 1) := by decide +kernel
theorem dX8_insideSet_6 : decode cX8_insideSet 6 = .ok (.iconst 1, 1) := by decide +kernel
theorem dX8_insideSet_7 : decode cX8_insideSet 7 = .ok (.isub, 1) := by decide +kernel
theorem dX8_insideSet_8 : decode cX8_insideSet 8 = .ok (.aload_n 0, 1) := by decide +kernel
theorem dX8_insideSet_9 : decode cX8_insideSet 9 = .ok (.invokevirtual 56, 3) := by decide +kernel
theorem dX8_insideSet_12 : decode cX8_insideSet 12 = .ok (.iconst (-1), 1) := by decide +kernel
theorem dX8_insideSet_13 : decode cX8_insideSet 13 = .ok (.ixor, 1) := by decide +kernel
theorem dX8_insideSet_14 : decode cX8_insideSet 14 = .ok (.iand, 1) := by decide +kernel
theorem dX8_insideSet_15 : decode cX8_insideSet 15 = .ok (.ireturn, 1) := by decide +kernel
theorem dX8_sideOf_0 : decode cX8_sideOf 0 = .ok (.aload_n 0, 1) := by decide +kernel
theorem dX8_sideOf_1 : decode cX8_sideOf 1 = .ok (.getfield 17, 3) := by decide +kernel
theorem dX8_sideOf_4 : decode cX8_sideOf 4 = .ok (.iload_n 1, 1) := by decide +kernel
theorem dX8_sideOf_5 : decode cX8_sideOf 5 = .ok (.iaload, 1) := by decide +kernel
theorem dX8_sideOf_6 : decode cX8_sideOf 6 = .ok (.ifCond .lt 22, 3) := by decide +kernel
theorem dX8_sideOf_9 : decode cX8_sideOf 9 = .ok (.aload_n 0, 1) := by decide +kernel
theorem dX8_sideOf_10 : decode cX8_sideOf 10 = .ok (.getfield 17, 3) := by decide +kernel
theorem dX8_sideOf_13 : decode cX8_sideOf 13 = .ok (.iload_n 1, 1) := by decide +kernel
theorem dX8_sideOf_14 : decode cX8_sideOf 14 = .ok (.iaload, 1) := by decide +kernel
theorem dX8_sideOf_15 : decode cX8_sideOf 15 = .ok (.aload_n 0, 1) := by decide +kernel
theorem dX8_sideOf_16 : decode cX8_sideOf 16 = .ok (.getfield 30, 3) := by decide +kernel
theorem dX8_sideOf_19 : decode cX8_sideOf 19 = .ok (.iconst 1, 1) := by decide +kernel
theorem dX8_sideOf_20 : decode cX8_sideOf 20 = .ok (.isub, 1) := by decide +kernel
theorem dX8_sideOf_21 : decode cX8_sideOf 21 = .ok (.if_icmp .ge 7, 3) := by decide +kernel
theorem dX8_sideOf_24 : decode cX8_sideOf 24 = .ok (.iconst 1, 1) := by decide +kernel
theorem dX8_sideOf_25 : decode cX8_sideOf 25 = .ok (.goto 4, 3) := by decide +kernel
theorem dX8_sideOf_28 : decode cX8_sideOf 28 = .ok (.iconst 0, 1) := by decide +kernel
theorem dX8_sideOf_29 : decode cX8_sideOf 29 = .ok (.istore_n 2, 1) := by decide +kernel
theorem dX8_sideOf_30 : decode cX8_sideOf 30 = .ok (.iload_n 2, 1) := by decide +kernel
theorem dX8_sideOf_31 : decode cX8_sideOf 31 = .ok (.ifCond .eq 14, 3) := by decide +kernel
theorem dX8_sideOf_34 : decode cX8_sideOf 34 = .ok (.aload_n 0, 1) := by decide +kernel
theorem dX8_sideOf_35 : decode cX8_sideOf 35 = .ok (.getfield 17, 3) := by decide +kernel
theorem dX8_sideOf_38 : decode cX8_sideOf 38 = .ok (.iload_n 1, 1) := by decide +kernel
theorem dX8_sideOf_39 : decode cX8_sideOf 39 = .ok (.iaload, 1) := by decide +kernel
theorem dX8_sideOf_40 : decode cX8_sideOf 40 = .ok (.iconst 4, 1) := by decide +kernel
theorem dX8_sideOf_41 : decode cX8_sideOf 41 = .ok (.irem, 1) := by decide +kernel
theorem dX8_sideOf_42 : decode cX8_sideOf 42 = .ok (.goto 5, 3) := by decide +kernel
theorem dX8_sideOf_45 : decode cX8_sideOf 45 = .ok (.ldc 60, 2) := by decide +kernel
theorem dX8_sideOf_47 : decode cX8_sideOf 47 = .ok (.ireturn, 1) := by decide +kernel
theorem dX8_pull_0 : decode cX8_pull 0 = .ok (.iload_n 1, 1) := by decide +kernel
theorem dX8_pull_1 : decode cX8_pull 1 = .ok (.iload_n 2, 1) := by decide +kernel
theorem dX8_pull_2 : decode cX8_pull 2 = .ok (.if_icmp .ne 5, 3) := by decide +kernel
theorem dX8_pull_5 : decode cX8_pull 5 = .ok (.iload_n 0, 1) := by decide +kernel
theorem dX8_pull_6 : decode cX8_pull 6 = .ok (.ireturn, 1) := by decide +kernel
theorem dX8_pull_7 : decode cX8_pull 7 = .ok (.iload_n 1, 1) := by decide +kernel
theorem dX8_pull_8 : decode cX8_pull 8 = .ok (.iload_n 2, 1) := by decide +kernel
theorem dX8_pull_9 : decode cX8_pull 9 = .ok (.iconst 2, 1) := by decide +kernel
theorem dX8_pull_10 : decode cX8_pull 10 = .ok (.ixor, 1) := by decide +kernel
theorem dX8_pull_11 : decode cX8_pull 11 = .ok (.if_icmp .ne 8, 3) := by decide +kernel
theorem dX8_pull_14 : decode cX8_pull 14 = .ok (.iload_n 0, 1) := by decide +kernel
theorem dX8_pull_15 : decode cX8_pull 15 = .ok (.ineg, 1) := by decide +kernel
theorem dX8_pull_16 : decode cX8_pull 16 = .ok (.goto 4, 3) := by decide +kernel
theorem dX8_pull_19 : decode cX8_pull 19 = .ok (.iconst 0, 1) := by decide +kernel
theorem dX8_pull_20 : decode cX8_pull 20 = .ok (.ireturn, 1) := by decide +kernel
theorem dX8_leanWith_0 : decode cX8_leanWith 0 = .ok (.aload_n 0, 1) := by decide +kernel
theorem dX8_leanWith_1 : decode cX8_leanWith 1 = .ok (.getfield 46, 3) := by decide +kernel
theorem dX8_leanWith_4 : decode cX8_leanWith 4 = .ok (.iconst 0, 1) := by decide +kernel
theorem dX8_leanWith_5 : decode cX8_leanWith 5 = .ok (.iload_n 2, 1) := by decide +kernel
theorem dX8_leanWith_6 : decode cX8_leanWith 6 = .ok (.invokestatic 61, 3) := by decide +kernel
theorem dX8_leanWith_9 : decode cX8_leanWith 9 = .ok (.aload_n 0, 1) := by decide +kernel
theorem dX8_leanWith_10 : decode cX8_leanWith 10 = .ok (.getfield 49, 3) := by decide +kernel
theorem dX8_leanWith_13 : decode cX8_leanWith 13 = .ok (.iconst 1, 1) := by decide +kernel
theorem dX8_leanWith_14 : decode cX8_leanWith 14 = .ok (.iload_n 2, 1) := by decide +kernel
theorem dX8_leanWith_15 : decode cX8_leanWith 15 = .ok (.invokestatic 61, 3) := by decide +kernel
theorem dX8_leanWith_18 : decode cX8_leanWith 18 = .ok (.iadd, 1) := by decide +kernel
theorem dX8_leanWith_19 : decode cX8_leanWith 19 = .ok (.istore_n 3, 1) := by decide +kernel
theorem dX8_leanWith_20 : decode cX8_leanWith 20 = .ok (.iconst 0, 1) := by decide +kernel
theorem dX8_leanWith_21 : decode cX8_leanWith 21 = .ok (.istore 4, 2) := by decide +kernel
theorem dX8_leanWith_23 : decode cX8_leanWith 23 = .ok (.iload 4, 2) := by decide +kernel
theorem dX8_leanWith_25 : decode cX8_leanWith 25 = .ok (.aload_n 0, 1) := by decide +kernel
theorem dX8_leanWith_26 : decode cX8_leanWith 26 = .ok (.getfield 40, 3) := by decide +kernel
theorem dX8_leanWith_29 : decode cX8_leanWith 29 = .ok (.if_icmp .ge 30, 3) := by decide +kernel
theorem dX8_leanWith_32 : decode cX8_leanWith 32 = .ok (.iload_n 3, 1) := by decide +kernel
theorem dX8_leanWith_33 : decode cX8_leanWith 33 = .ok (.aload_n 0, 1) := by decide +kernel
theorem dX8_leanWith_34 : decode cX8_leanWith 34 = .ok (.getfield 24, 3) := by decide +kernel
theorem dX8_leanWith_37 : decode cX8_leanWith 37 = .ok (.iload 4, 2) := by decide +kernel
theorem dX8_leanWith_39 : decode cX8_leanWith 39 = .ok (.iaload, 1) := by decide +kernel
theorem dX8_leanWith_40 : decode cX8_leanWith 40 = .ok (.aload_n 0, 1) := by decide +kernel
theorem dX8_leanWith_41 : decode cX8_leanWith 41 = .ok (.getfield 27, 3) := by decide +kernel
theorem dX8_leanWith_44 : decode cX8_leanWith 44 = .ok (.iload 4, 2) := by decide +kernel
theorem dX8_leanWith_46 : decode cX8_leanWith 46 = .ok (.iaload, 1) := by decide +kernel
theorem dX8_leanWith_47 : decode cX8_leanWith 47 = .ok (.iload_n 2, 1) := by decide +kernel
theorem dX8_leanWith_48 : decode cX8_leanWith 48 = .ok (.invokestatic 61, 3) := by decide +kernel
theorem dX8_leanWith_51 : decode cX8_leanWith 51 = .ok (.iadd, 1) := by decide +kernel
theorem dX8_leanWith_52 : decode cX8_leanWith 52 = .ok (.istore_n 3, 1) := by decide +kernel
theorem dX8_leanWith_53 : decode cX8_leanWith 53 = .ok (.iinc 4 1, 3) := by decide +kernel
theorem dX8_leanWith_56 : decode cX8_leanWith 56 = .ok (.goto (-33), 3) := by decide +kernel
theorem dX8_leanWith_59 : decode cX8_leanWith 59 = .ok (.iconst 0, 1) := by decide +kernel
theorem dX8_leanWith_60 : decode cX8_leanWith 60 = .ok (.istore 4, 2) := by decide +kernel
theorem dX8_leanWith_62 : decode cX8_leanWith 62 = .ok (.iload 4, 2) := by decide +kernel
theorem dX8_leanWith_64 : decode cX8_leanWith 64 = .ok (.aload_n 0, 1) := by decide +kernel
theorem dX8_leanWith_65 : decode cX8_leanWith 65 = .ok (.getfield 37, 3) := by decide +kernel
theorem dX8_leanWith_68 : decode cX8_leanWith 68 = .ok (.if_icmp .ge 51, 3) := by decide +kernel
theorem dX8_leanWith_71 : decode cX8_leanWith 71 = .ok (.aload_n 0, 1) := by decide +kernel
theorem dX8_leanWith_72 : decode cX8_leanWith 72 = .ok (.getfield 11, 3) := by decide +kernel
theorem dX8_leanWith_75 : decode cX8_leanWith 75 = .ok (.iload 4, 2) := by decide +kernel
theorem dX8_leanWith_77 : decode cX8_leanWith 77 = .ok (.aaload, 1) := by decide +kernel
theorem dX8_leanWith_78 : decode cX8_leanWith 78 = .ok (.astore 5, 2) := by decide +kernel
theorem dX8_leanWith_80 : decode cX8_leanWith 80 = .ok (.aload 5, 2) := by decide +kernel
theorem dX8_leanWith_82 : decode cX8_leanWith 82 = .ok (.ifnull 31, 3) := by decide +kernel
theorem dX8_leanWith_85 : decode cX8_leanWith 85 = .ok (.iload_n 1, 1) := by decide +kernel
theorem dX8_leanWith_86 : decode cX8_leanWith 86 = .ok (.iload 4, 2) := by decide +kernel
theorem dX8_leanWith_88 : decode cX8_leanWith 88 = .ok (.ishr, 1) := by decide +kernel
theorem dX8_leanWith_89 : decode cX8_leanWith 89 = .ok (.iconst 1, 1) := by decide +kernel
theorem dX8_leanWith_90 : decode cX8_leanWith 90 = .ok (.iand, 1) := by decide +kernel
theorem dX8_leanWith_91 : decode cX8_leanWith 91 = .ok (.iconst 1, 1) := by decide +kernel
theorem dX8_leanWith_92 : decode cX8_leanWith 92 = .ok (.if_icmp .ne 21, 3) := by decide +kernel
theorem dX8_leanWith_95 : decode cX8_leanWith 95 = .ok (.iload_n 3, 1) := by decide +kernel
theorem dX8_leanWith_96 : decode cX8_leanWith 96 = .ok (.aload 5, 2) := by decide +kernel
theorem dX8_leanWith_98 : decode cX8_leanWith 98 = .ok (.getfield 65, 3) := by decide +kernel
theorem dX8_leanWith_101 : decode cX8_leanWith 101 = .ok (.aload_n 0, 1) := by decide +kernel
theorem dX8_leanWith_102 : decode cX8_leanWith 102 = .ok (.iload 4, 2) := by decide +kernel
theorem dX8_leanWith_104 : decode cX8_leanWith 104 = .ok (.invokevirtual 68, 3) := by decide +kernel
theorem dX8_leanWith_107 : decode cX8_leanWith 107 = .ok (.iload_n 2, 1) := by decide +kernel
theorem dX8_leanWith_108 : decode cX8_leanWith 108 = .ok (.invokestatic 61, 3) := by decide +kernel
theorem dX8_leanWith_111 : decode cX8_leanWith 111 = .ok (.iadd, 1) := by decide +kernel
theorem dX8_leanWith_112 : decode cX8_leanWith 112 = .ok (.istore_n 3, 1) := by decide +kernel
theorem dX8_leanWith_113 : decode cX8_leanWith 113 = .ok (.iinc 4 1, 3) := by decide +kernel
theorem dX8_leanWith_116 : decode cX8_leanWith 116 = .ok (.goto (-54), 3) := by decide +kernel
theorem dX8_leanWith_119 : decode cX8_leanWith 119 = .ok (.iload_n 3, 1) := by decide +kernel
theorem dX8_leanWith_120 : decode cX8_leanWith 120 = .ok (.ireturn, 1) := by decide +kernel
theorem dX8_tiltWith_0 : decode cX8_tiltWith 0 = .ok (.aload_n 0, 1) := by decide +kernel
theorem dX8_tiltWith_1 : decode cX8_tiltWith 1 = .ok (.iload_n 1, 1) := by decide +kernel
theorem dX8_tiltWith_2 : decode cX8_tiltWith 2 = .ok (.iconst 0, 1) := by decide +kernel
theorem dX8_tiltWith_3 : decode cX8_tiltWith 3 = .ok (.invokevirtual 72, 3) := by decide +kernel
theorem dX8_tiltWith_6 : decode cX8_tiltWith 6 = .ok (.invokestatic 76, 3) := by decide +kernel
theorem dX8_tiltWith_9 : decode cX8_tiltWith 9 = .ok (.aload_n 0, 1) := by decide +kernel
theorem dX8_tiltWith_10 : decode cX8_tiltWith 10 = .ok (.iload_n 1, 1) := by decide +kernel
theorem dX8_tiltWith_11 : decode cX8_tiltWith 11 = .ok (.iconst 1, 1) := by decide +kernel
theorem dX8_tiltWith_12 : decode cX8_tiltWith 12 = .ok (.invokevirtual 72, 3) := by decide +kernel
theorem dX8_tiltWith_15 : decode cX8_tiltWith 15 = .ok (.invokestatic 76, 3) := by decide +kernel
theorem dX8_tiltWith_18 : decode cX8_tiltWith 18 = .ok (.invokestatic 81, 3) := by decide +kernel
theorem dX8_tiltWith_21 : decode cX8_tiltWith 21 = .ok (.ireturn, 1) := by decide +kernel
theorem dX8_isBeyond_0 : decode cX8_isBeyond 0 = .ok (.aload_n 0, 1) := by decide +kernel
theorem dX8_isBeyond_1 : decode cX8_isBeyond 1 = .ok (.bipush 127, 2) := by decide +kernel
theorem dX8_isBeyond_3 : decode cX8_isBeyond 3 = .ok (.invokevirtual 84, 3) := by decide +kernel
theorem dX8_isBeyond_6 : decode cX8_isBeyond 6 = .ok (.aload_n 0, 1) := by decide +kernel
theorem dX8_isBeyond_7 : decode cX8_isBeyond 7 = .ok (.getfield 34, 3) := by decide +kernel
theorem dX8_isBeyond_10 : decode cX8_isBeyond 10 = .ok (.if_icmp .le 7, 3) := by decide +kernel
theorem dX8_isBeyond_13 : decode cX8_isBeyond 13 = .ok (.iconst 1, 1) := by decide +kernel
theorem dX8_isBeyond_14 : decode cX8_isBeyond 14 = .ok (.goto 4, 3) := by decide +kernel
theorem dX8_isBeyond_17 : decode cX8_isBeyond 17 = .ok (.iconst 0, 1) := by decide +kernel
theorem dX8_isBeyond_18 : decode cX8_isBeyond 18 = .ok (.ireturn, 1) := by decide +kernel
theorem dX8_passHalf_0 : decode cX8_passHalf 0 = .ok (.aload_n 0, 1) := by decide +kernel
theorem dX8_passHalf_1 : decode cX8_passHalf 1 = .ok (.dup, 1) := by decide +kernel
theorem dX8_passHalf_2 : decode cX8_passHalf 2 = .ok (.getfield 43, 3) := by decide +kernel
theorem dX8_passHalf_5 : decode cX8_passHalf 5 = .ok (.iconst 1, 1) := by decide +kernel
theorem dX8_passHalf_6 : decode cX8_passHalf 6 = .ok (.iadd, 1) := by decide +kernel
theorem dX8_passHalf_7 : decode cX8_passHalf 7 = .ok (.putfield 43, 3) := by decide +kernel
theorem dX8_passHalf_10 : decode cX8_passHalf 10 = .ok (.iconst 0, 1) := by decide +kernel
theorem dX8_passHalf_11 : decode cX8_passHalf 11 = .ok (.istore_n 1, 1) := by decide +kernel
theorem dX8_passHalf_12 : decode cX8_passHalf 12 = .ok (.iload_n 1, 1) := by decide +kernel
theorem dX8_passHalf_13 : decode cX8_passHalf 13 = .ok (.aload_n 0, 1) := by decide +kernel
theorem dX8_passHalf_14 : decode cX8_passHalf 14 = .ok (.getfield 37, 3) := by decide +kernel
theorem dX8_passHalf_17 : decode cX8_passHalf 17 = .ok (.if_icmp .ge 48, 3) := by decide +kernel
theorem dX8_passHalf_20 : decode cX8_passHalf 20 = .ok (.aload_n 0, 1) := by decide +kernel
theorem dX8_passHalf_21 : decode cX8_passHalf 21 = .ok (.getfield 11, 3) := by decide +kernel
theorem dX8_passHalf_24 : decode cX8_passHalf 24 = .ok (.iload_n 1, 1) := by decide +kernel
theorem dX8_passHalf_25 : decode cX8_passHalf 25 = .ok (.aaload, 1) := by decide +kernel
theorem dX8_passHalf_26 : decode cX8_passHalf 26 = .ok (.astore_n 2, 1) := by decide +kernel
theorem dX8_passHalf_27 : decode cX8_passHalf 27 = .ok (.aload_n 2, 1) := by decide +kernel
theorem dX8_passHalf_28 : decode cX8_passHalf 28 = .ok (.ifnull 31, 3) := by decide +kernel
theorem dX8_passHalf_31 : decode cX8_passHalf 31 = .ok (.aload_n 2, 1) := by decide +kernel
theorem dX8_passHalf_32 : decode cX8_passHalf 32 = .ok (.getfield 87, 3) := by decide +kernel
theorem dX8_passHalf_35 : decode cX8_passHalf 35 = .ok (.ifCond .le 24, 3) := by decide +kernel
theorem dX8_passHalf_38 : decode cX8_passHalf 38 = .ok (.aload_n 0, 1) := by decide +kernel
theorem dX8_passHalf_39 : decode cX8_passHalf 39 = .ok (.getfield 43, 3) := by decide +kernel
theorem dX8_passHalf_42 : decode cX8_passHalf 42 = .ok (.aload_n 2, 1) := by decide +kernel
theorem dX8_passHalf_43 : decode cX8_passHalf 43 = .ok (.getfield 87, 3) := by decide +kernel
theorem dX8_passHalf_46 : decode cX8_passHalf 46 = .ok (.irem, 1) := by decide +kernel
theorem dX8_passHalf_47 : decode cX8_passHalf 47 = .ok (.ifCond .ne 12, 3) := by decide +kernel
theorem dX8_passHalf_50 : decode cX8_passHalf 50 = .ok (.aload_n 0, 1) := by decide +kernel
theorem dX8_passHalf_51 : decode cX8_passHalf 51 = .ok (.iload_n 1, 1) := by decide +kernel
theorem dX8_passHalf_52 : decode cX8_passHalf 52 = .ok (.aload_n 2, 1) := by decide +kernel
theorem dX8_passHalf_53 : decode cX8_passHalf 53 = .ok (.invokevirtual 90, 3) := by decide +kernel
theorem dX8_passHalf_56 : decode cX8_passHalf 56 = .ok (.invokevirtual 93, 3) := by decide +kernel
theorem dX8_passHalf_59 : decode cX8_passHalf 59 = .ok (.iinc 1 1, 3) := by decide +kernel
theorem dX8_passHalf_62 : decode cX8_passHalf 62 = .ok (.goto (-50), 3) := by decide +kernel
theorem dX8_passHalf_65 : decode cX8_passHalf 65 = .ok (.return_, 1) := by decide +kernel
theorem dX8_move_0 : decode cX8_move 0 = .ok (.aload_n 0, 1) := by decide +kernel
theorem dX8_move_1 : decode cX8_move 1 = .ok (.getfield 21, 3) := by decide +kernel
theorem dX8_move_4 : decode cX8_move 4 = .ok (.iload_n 1, 1) := by decide +kernel
theorem dX8_move_5 : decode cX8_move 5 = .ok (.iaload, 1) := by decide +kernel
theorem dX8_move_6 : decode cX8_move 6 = .ok (.ifCond .ne 4, 3) := by decide +kernel
theorem dX8_move_9 : decode cX8_move 9 = .ok (.return_, 1) := by decide +kernel
theorem dX8_move_10 : decode cX8_move 10 = .ok (.aload_n 0, 1) := by decide +kernel
theorem dX8_move_11 : decode cX8_move 11 = .ok (.getfield 21, 3) := by decide +kernel
theorem dX8_move_14 : decode cX8_move 14 = .ok (.iload_n 1, 1) := by decide +kernel
theorem dX8_move_15 : decode cX8_move 15 = .ok (.iaload, 1) := by decide +kernel
theorem dX8_move_16 : decode cX8_move 16 = .ok (.iconst 1, 1) := by decide +kernel
theorem dX8_move_17 : decode cX8_move 17 = .ok (.if_icmp .ne 12, 3) := by decide +kernel
theorem dX8_move_20 : decode cX8_move 20 = .ok (.aload_n 0, 1) := by decide +kernel
theorem dX8_move_21 : decode cX8_move 21 = .ok (.getfield 30, 3) := by decide +kernel
theorem dX8_move_24 : decode cX8_move 24 = .ok (.iconst 1, 1) := by decide +kernel
theorem dX8_move_25 : decode cX8_move 25 = .ok (.isub, 1) := by decide +kernel
theorem dX8_move_26 : decode cX8_move 26 = .ok (.goto 4, 3) := by decide +kernel
theorem dX8_move_29 : decode cX8_move 29 = .ok (.iconst (-1), 1) := by decide +kernel
theorem dX8_move_30 : decode cX8_move 30 = .ok (.istore_n 3, 1) := by decide +kernel
theorem dX8_move_31 : decode cX8_move 31 = .ok (.iload_n 3, 1) := by decide +kernel
theorem dX8_move_32 : decode cX8_move 32 = .ok (.aload_n 0, 1) := by decide +kernel
theorem dX8_move_33 : decode cX8_move 33 = .ok (.getfield 17, 3) := by decide +kernel
theorem dX8_move_36 : decode cX8_move 36 = .ok (.iload_n 1, 1) := by decide +kernel
theorem dX8_move_37 : decode cX8_move 37 = .ok (.iaload, 1) := by decide +kernel
theorem dX8_move_38 : decode cX8_move 38 = .ok (.isub, 1) := by decide +kernel
theorem dX8_move_39 : decode cX8_move 39 = .ok (.invokestatic 76, 3) := by decide +kernel
theorem dX8_move_42 : decode cX8_move 42 = .ok (.istore 4, 2) := by decide +kernel
theorem dX8_move_44 : decode cX8_move 44 = .ok (.aload_n 0, 1) := by decide +kernel
theorem dX8_move_45 : decode cX8_move 45 = .ok (.getfield 17, 3) := by decide +kernel
theorem dX8_move_48 : decode cX8_move 48 = .ok (.iload_n 1, 1) := by decide +kernel
theorem dX8_move_49 : decode cX8_move 49 = .ok (.dup2, 1) := by decide +kernel
theorem dX8_move_50 : decode cX8_move 50 = .ok (.iaload, 1) := by decide +kernel
theorem dX8_move_51 : decode cX8_move 51 = .ok (.aload_n 0, 1) := by decide +kernel
theorem dX8_move_52 : decode cX8_move 52 = .ok (.getfield 21, 3) := by decide +kernel
theorem dX8_move_55 : decode cX8_move 55 = .ok (.iload_n 1, 1) := by decide +kernel
theorem dX8_move_56 : decode cX8_move 56 = .ok (.iaload, 1) := by decide +kernel
theorem dX8_move_57 : decode cX8_move 57 = .ok (.iload_n 2, 1) := by decide +kernel
theorem dX8_move_58 : decode cX8_move 58 = .ok (.iload 4, 2) := by decide +kernel
theorem dX8_move_60 : decode cX8_move 60 = .ok (.invokestatic 97, 3) := by decide +kernel
theorem dX8_move_63 : decode cX8_move 63 = .ok (.imul, 1) := by decide +kernel
theorem dX8_move_64 : decode cX8_move 64 = .ok (.iadd, 1) := by decide +kernel
theorem dX8_move_65 : decode cX8_move 65 = .ok (.iastore, 1) := by decide +kernel
theorem dX8_move_66 : decode cX8_move 66 = .ok (.aload_n 0, 1) := by decide +kernel
theorem dX8_move_67 : decode cX8_move 67 = .ok (.getfield 17, 3) := by decide +kernel
theorem dX8_move_70 : decode cX8_move 70 = .ok (.iload_n 1, 1) := by decide +kernel
theorem dX8_move_71 : decode cX8_move 71 = .ok (.iaload, 1) := by decide +kernel
theorem dX8_move_72 : decode cX8_move 72 = .ok (.iload_n 3, 1) := by decide +kernel
theorem dX8_move_73 : decode cX8_move 73 = .ok (.if_icmp .ne 10, 3) := by decide +kernel
theorem dX8_move_76 : decode cX8_move 76 = .ok (.aload_n 0, 1) := by decide +kernel
theorem dX8_move_77 : decode cX8_move 77 = .ok (.getfield 21, 3) := by decide +kernel
theorem dX8_move_80 : decode cX8_move 80 = .ok (.iload_n 1, 1) := by decide +kernel
theorem dX8_move_81 : decode cX8_move 81 = .ok (.iconst 0, 1) := by decide +kernel
theorem dX8_move_82 : decode cX8_move 82 = .ok (.iastore, 1) := by decide +kernel
theorem dX8_move_83 : decode cX8_move 83 = .ok (.return_, 1) := by decide +kernel
theorem dX8_passYear_0 : decode cX8_passYear 0 = .ok (.aload_n 0, 1) := by decide +kernel
theorem dX8_passYear_1 : decode cX8_passYear 1 = .ok (.bipush 127, 2) := by decide +kernel
theorem dX8_passYear_3 : decode cX8_passYear 3 = .ok (.iconst 0, 1) := by decide +kernel
theorem dX8_passYear_4 : decode cX8_passYear 4 = .ok (.invokevirtual 72, 3) := by decide +kernel
theorem dX8_passYear_7 : decode cX8_passYear 7 = .ok (.istore_n 1, 1) := by decide +kernel
theorem dX8_passYear_8 : decode cX8_passYear 8 = .ok (.aload_n 0, 1) := by decide +kernel
theorem dX8_passYear_9 : decode cX8_passYear 9 = .ok (.bipush 127, 2) := by decide +kernel
theorem dX8_passYear_11 : decode cX8_passYear 11 = .ok (.iconst 1, 1) := by decide +kernel
theorem dX8_passYear_12 : decode cX8_passYear 12 = .ok (.invokevirtual 72, 3) := by decide +kernel
theorem dX8_passYear_15 : decode cX8_passYear 15 = .ok (.istore_n 2, 1) := by decide +kernel
theorem dX8_passYear_16 : decode cX8_passYear 16 = .ok (.aload_n 0, 1) := by decide +kernel
theorem dX8_passYear_17 : decode cX8_passYear 17 = .ok (.dup, 1) := by decide +kernel
theorem dX8_passYear_18 : decode cX8_passYear 18 = .ok (.getfield 46, 3) := by decide +kernel
theorem dX8_passYear_21 : decode cX8_passYear 21 = .ok (.iload_n 1, 1) := by decide +kernel
theorem dX8_passYear_22 : decode cX8_passYear 22 = .ok (.bipush 10, 2) := by decide +kernel
theorem dX8_passYear_24 : decode cX8_passYear 24 = .ok (.idiv, 1) := by decide +kernel
theorem dX8_passYear_25 : decode cX8_passYear 25 = .ok (.iadd, 1) := by decide +kernel
theorem dX8_passYear_26 : decode cX8_passYear 26 = .ok (.putfield 46, 3) := by decide +kernel
theorem dX8_passYear_29 : decode cX8_passYear 29 = .ok (.aload_n 0, 1) := by decide +kernel
theorem dX8_passYear_30 : decode cX8_passYear 30 = .ok (.dup, 1) := by decide +kernel
theorem dX8_passYear_31 : decode cX8_passYear 31 = .ok (.getfield 49, 3) := by decide +kernel
theorem dX8_passYear_34 : decode cX8_passYear 34 = .ok (.iload_n 2, 1) := by decide +kernel
theorem dX8_passYear_35 : decode cX8_passYear 35 = .ok (.bipush 10, 2) := by decide +kernel
theorem dX8_passYear_37 : decode cX8_passYear 37 = .ok (.idiv, 1) := by decide +kernel
theorem dX8_passYear_38 : decode cX8_passYear 38 = .ok (.iadd, 1) := by decide +kernel
theorem dX8_passYear_39 : decode cX8_passYear 39 = .ok (.putfield 49, 3) := by decide +kernel
theorem dX8_passYear_42 : decode cX8_passYear 42 = .ok (.return_, 1) := by decide +kernel
theorem dX8_worstOver_0 : decode cX8_worstOver 0 = .ok (.aload_n 0, 1) := by decide +kernel
theorem dX8_worstOver_1 : decode cX8_worstOver 1 = .ok (.bipush 127, 2) := by decide +kernel
theorem dX8_worstOver_3 : decode cX8_worstOver 3 = .ok (.invokevirtual 84, 3) := by decide +kernel
theorem dX8_worstOver_6 : decode cX8_worstOver 6 = .ok (.istore_n 2, 1) := by decide +kernel
theorem dX8_worstOver_7 : decode cX8_worstOver 7 = .ok (.iconst 0, 1) := by decide +kernel
theorem dX8_worstOver_8 : decode cX8_worstOver 8 = .ok (.istore_n 3, 1) := by decide +kernel
theorem dX8_worstOver_9 : decode cX8_worstOver 9 = .ok (.iload_n 3, 1) := by decide +kernel
theorem dX8_worstOver_10 : decode cX8_worstOver 10 = .ok (.iload_n 1, 1) := by decide +kernel
theorem dX8_worstOver_11 : decode cX8_worstOver 11 = .ok (.if_icmp .ge 24, 3) := by decide +kernel
theorem dX8_worstOver_14 : decode cX8_worstOver 14 = .ok (.aload_n 0, 1) := by decide +kernel
theorem dX8_worstOver_15 : decode cX8_worstOver 15 = .ok (.invokevirtual 100, 3) := by decide +kernel
theorem dX8_worstOver_18 : decode cX8_worstOver 18 = .ok (.iload_n 2, 1) := by decide +kernel
theorem dX8_worstOver_19 : decode cX8_worstOver 19 = .ok (.aload_n 0, 1) := by decide +kernel
theorem dX8_worstOver_20 : decode cX8_worstOver 20 = .ok (.bipush 127, 2) := by decide +kernel
theorem dX8_worstOver_22 : decode cX8_worstOver 22 = .ok (.invokevirtual 84, 3) := by decide +kernel
theorem dX8_worstOver_25 : decode cX8_worstOver 25 = .ok (.invokestatic 81, 3) := by decide +kernel
theorem dX8_worstOver_28 : decode cX8_worstOver 28 = .ok (.istore_n 2, 1) := by decide +kernel
theorem dX8_worstOver_29 : decode cX8_worstOver 29 = .ok (.iinc 3 1, 3) := by decide +kernel
theorem dX8_worstOver_32 : decode cX8_worstOver 32 = .ok (.goto (-23), 3) := by decide +kernel
theorem dX8_worstOver_35 : decode cX8_worstOver 35 = .ok (.iload_n 2, 1) := by decide +kernel
theorem dX8_worstOver_36 : decode cX8_worstOver 36 = .ok (.ireturn, 1) := by decide +kernel
theorem dX8_firstBeyond_0 : decode cX8_firstBeyond 0 = .ok (.iconst 0, 1) := by decide +kernel
theorem dX8_firstBeyond_1 : decode cX8_firstBeyond 1 = .ok (.istore_n 2, 1) := by decide +kernel
theorem dX8_firstBeyond_2 : decode cX8_firstBeyond 2 = .ok (.iload_n 2, 1) := by decide +kernel
theorem dX8_firstBeyond_3 : decode cX8_firstBeyond 3 = .ok (.iload_n 1, 1) := by decide +kernel
theorem dX8_firstBeyond_4 : decode cX8_firstBeyond 4 = .ok (.if_icmp .gt 22, 3) := by decide +kernel
theorem dX8_firstBeyond_7 : decode cX8_firstBeyond 7 = .ok (.aload_n 0, 1) := by decide +kernel
theorem dX8_firstBeyond_8 : decode cX8_firstBeyond 8 = .ok (.invokevirtual 103, 3) := by decide +kernel
theorem dX8_firstBeyond_11 : decode cX8_firstBeyond 11 = .ok (.ifCond .eq 5, 3) := by decide +kernel
theorem dX8_firstBeyond_14 : decode cX8_firstBeyond 14 = .ok (.iload_n 2, 1) := by decide +kernel
theorem dX8_firstBeyond_15 : decode cX8_firstBeyond 15 = .ok (.ireturn, 1) := by decide +kernel
theorem dX8_firstBeyond_16 : decode cX8_firstBeyond 16 = .ok (.aload_n 0, 1) := by decide +kernel
theorem dX8_firstBeyond_17 : decode cX8_firstBeyond 17 = .ok (.invokevirtual 100, 3) := by decide +kernel
theorem dX8_firstBeyond_20 : decode cX8_firstBeyond 20 = .ok (.iinc 2 1, 3) := by decide +kernel
theorem dX8_firstBeyond_23 : decode cX8_firstBeyond 23 = .ok (.goto (-21), 3) := by decide +kernel
theorem dX8_firstBeyond_26 : decode cX8_firstBeyond 26 = .ok (.ldc 60, 2) := by decide +kernel
theorem dX8_firstBeyond_28 : decode cX8_firstBeyond 28 = .ok (.ireturn, 1) := by decide +kernel
theorem dX9_init_0 : decode cX9_init 0 = .ok (.aload_n 0, 1) := by decide +kernel
theorem dX9_init_1 : decode cX9_init 1 = .ok (.invokespecial 1, 3) := by decide +kernel
theorem dX9_init_4 : decode cX9_init 4 = .ok (.aload_n 0, 1) := by decide +kernel
theorem dX9_init_5 : decode cX9_init 5 = .ok (.bipush 16, 2) := by decide +kernel
theorem dX9_init_7 : decode cX9_init 7 = .ok (.newarray .int, 2) := by decide +kernel
theorem dX9_init_9 : decode cX9_init 9 = .ok (.putfield 9, 3) := by decide +kernel
theorem dX9_init_12 : decode cX9_init 12 = .ok (.return_, 1) := by decide +kernel
theorem dX9_leave_0 : decode cX9_leave 0 = .ok (.aload_n 0, 1) := by decide +kernel
theorem dX9_leave_1 : decode cX9_leave 1 = .ok (.getfield 13, 3) := by decide +kernel
theorem dX9_leave_4 : decode cX9_leave 4 = .ok (.bipush 16, 2) := by decide +kernel
theorem dX9_leave_6 : decode cX9_leave 6 = .ok (.if_icmp .ge 23, 3) := by decide +kernel
theorem dX9_leave_9 : decode cX9_leave 9 = .ok (.aload_n 0, 1) := by decide +kernel
theorem dX9_leave_10 : decode cX9_leave 10 = .ok (.getfield 9, 3) := by decide +kernel
theorem dX9_leave_13 : decode cX9_leave 13 = .ok (.aload_n 0, 1) := by decide +kernel
theorem dX9_leave_14 : decode cX9_leave 14 = .ok (.getfield 13, 3) := by decide +kernel
theorem dX9_leave_17 : decode cX9_leave 17 = .ok (.iload_n 1, 1) := by decide +kernel
theorem dX9_leave_18 : decode cX9_leave 18 = .ok (.iastore, 1) := by decide +kernel
theorem dX9_leave_19 : decode cX9_leave 19 = .ok (.aload_n 0, 1) := by decide +kernel
theorem dX9_leave_20 : decode cX9_leave 20 = .ok (.dup, 1) := by decide +kernel
theorem dX9_leave_21 : decode cX9_leave 21 = .ok (.getfield 13, 3) := by decide +kernel
theorem dX9_leave_24 : decode cX9_leave 24 = .ok (.iconst 1, 1) := by decide +kernel
theorem dX9_leave_25 : decode cX9_leave 25 = .ok (.iadd, 1) := by decide +kernel
theorem dX9_leave_26 : decode cX9_leave 26 = .ok (.putfield 13, 3) := by decide +kernel
theorem dX9_leave_29 : decode cX9_leave 29 = .ok (.return_, 1) := by decide +kernel
theorem dX10_init_0 : decode cX10_init 0 = .ok (.aload_n 0, 1) := by decide +kernel
theorem dX10_init_1 : decode cX10_init 1 = .ok (.iload_n 1, 1) := by decide +kernel
theorem dX10_init_2 : decode cX10_init 2 = .ok (.iconst 2, 1) := by decide +kernel
theorem dX10_init_3 : decode cX10_init 3 = .ok (.iload_n 2, 1) := by decide +kernel
theorem dX10_init_4 : decode cX10_init 4 = .ok (.imul, 1) := by decide +kernel
theorem dX10_init_5 : decode cX10_init 5 = .ok (.iload_n 3, 1) := by decide +kernel
theorem dX10_init_6 : decode cX10_init 6 = .ok (.invokespecial 3, 3) := by decide +kernel
theorem dX10_init_9 : decode cX10_init 9 = .ok (.return_, 1) := by decide +kernel
theorem dX10_ownKind_0 : decode cX10_ownKind 0 = .ok (.iconst 2, 1) := by decide +kernel
theorem dX10_ownKind_1 : decode cX10_ownKind 1 = .ok (.ireturn, 1) := by decide +kernel
theorem dX10_mark_0 : decode cX10_mark 0 = .ok (.aload_n 1, 1) := by decide +kernel
theorem dX10_mark_1 : decode cX10_mark 1 = .ok (.bipush 22, 2) := by decide +kernel
theorem dX10_mark_3 : decode cX10_mark 3 = .ok (.invokevirtual 9, 3) := by decide +kernel
theorem dX10_mark_6 : decode cX10_mark 6 = .ok (.aload_n 0, 1) := by decide +kernel
theorem dX10_mark_7 : decode cX10_mark 7 = .ok (.aload_n 1, 1) := by decide +kernel
theorem dX10_mark_8 : decode cX10_mark 8 = .ok (.invokespecial 15, 3) := by decide +kernel
theorem dX10_mark_11 : decode cX10_mark 11 = .ok (.sipush 1000, 3) := by decide +kernel
theorem dX10_mark_14 : decode cX10_mark 14 = .ok (.isub, 1) := by decide +kernel
theorem dX10_mark_15 : decode cX10_mark 15 = .ok (.ireturn, 1) := by decide +kernel
theorem dX11_init_0 : decode cX11_init 0 = .ok (.aload_n 0, 1) := by decide +kernel
theorem dX11_init_1 : decode cX11_init 1 = .ok (.invokespecial 3, 3) := by decide +kernel
theorem dX11_init_4 : decode cX11_init 4 = .ok (.aload_n 0, 1) := by decide +kernel
theorem dX11_init_5 : decode cX11_init 5 = .ok (.bipush 8, 2) := by decide +kernel
theorem dX11_init_7 : decode cX11_init 7 = .ok (.anewarray 9, 3) := by decide +kernel
theorem dX11_init_10 : decode cX11_init 10 = .ok (.putfield 11, 3) := by decide +kernel
theorem dX11_init_13 : decode cX11_init 13 = .ok (.aload_n 0, 1) := by decide +kernel
theorem dX11_init_14 : decode cX11_init 14 = .ok (.new 15, 3) := by decide +kernel
theorem dX11_init_17 : decode cX11_init 17 = .ok (.dup, 1) := by decide +kernel
theorem dX11_init_18 : decode cX11_init 18 = .ok (.invokespecial 17, 3) := by decide +kernel
theorem dX11_init_21 : decode cX11_init 21 = .ok (.putfield 18, 3) := by decide +kernel
theorem dX11_init_24 : decode cX11_init 24 = .ok (.aload_n 0, 1) := by decide +kernel
theorem dX11_init_25 : decode cX11_init 25 = .ok (.new 22, 3) := by decide +kernel
theorem dX11_init_28 : decode cX11_init 28 = .ok (.dup, 1) := by decide +kernel
theorem dX11_init_29 : decode cX11_init 29 = .ok (.invokespecial 24, 3) := by decide +kernel
theorem dX11_init_32 : decode cX11_init 32 = .ok (.putfield 25, 3) := by decide +kernel
theorem dX11_init_35 : decode cX11_init 35 = .ok (.aload_n 0, 1) := by decide +kernel
theorem dX11_init_36 : decode cX11_init 36 = .ok (.new 22, 3) := by decide +kernel
theorem dX11_init_39 : decode cX11_init 39 = .ok (.dup, 1) := by decide +kernel
theorem dX11_init_40 : decode cX11_init 40 = .ok (.invokespecial 24, 3) := by decide +kernel
theorem dX11_init_43 : decode cX11_init 43 = .ok (.putfield 29, 3) := by decide +kernel
theorem dX11_init_46 : decode cX11_init 46 = .ok (.aload_n 0, 1) := by decide +kernel
theorem dX11_init_47 : decode cX11_init 47 = .ok (.bipush 24, 2) := by decide +kernel
theorem dX11_init_49 : decode cX11_init 49 = .ok (.anewarray 22, 3) := by decide +kernel
theorem dX11_init_52 : decode cX11_init 52 = .ok (.putfield 32, 3) := by decide +kernel
theorem dX11_init_55 : decode cX11_init 55 = .ok (.aload_n 0, 1) := by decide +kernel
theorem dX11_init_56 : decode cX11_init 56 = .ok (.iconst 2, 1) := by decide +kernel
theorem dX11_init_57 : decode cX11_init 57 = .ok (.anewarray 22, 3) := by decide +kernel
theorem dX11_init_60 : decode cX11_init 60 = .ok (.putfield 36, 3) := by decide +kernel
theorem dX11_init_63 : decode cX11_init 63 = .ok (.aload_n 0, 1) := by decide +kernel
theorem dX11_init_64 : decode cX11_init 64 = .ok (.new 39, 3) := by decide +kernel
theorem dX11_init_67 : decode cX11_init 67 = .ok (.dup, 1) := by decide +kernel
theorem dX11_init_68 : decode cX11_init 68 = .ok (.invokespecial 41, 3) := by decide +kernel
theorem dX11_init_71 : decode cX11_init 71 = .ok (.putfield 42, 3) := by decide +kernel
theorem dX11_init_74 : decode cX11_init 74 = .ok (.aload_n 0, 1) := by decide +kernel
theorem dX11_init_75 : decode cX11_init 75 = .ok (.new 46, 3) := by decide +kernel
theorem dX11_init_78 : decode cX11_init 78 = .ok (.dup, 1) := by decide +kernel
theorem dX11_init_79 : decode cX11_init 79 = .ok (.invokespecial 48, 3) := by decide +kernel
theorem dX11_init_82 : decode cX11_init 82 = .ok (.putfield 49, 3) := by decide +kernel
theorem dX11_init_85 : decode cX11_init 85 = .ok (.aload_n 0, 1) := by decide +kernel
theorem dX11_init_86 : decode cX11_init 86 = .ok (.sipush 128, 3) := by decide +kernel
theorem dX11_init_89 : decode cX11_init 89 = .ok (.newarray .boolean, 2) := by decide +kernel
theorem dX11_init_91 : decode cX11_init 91 = .ok (.putfield 53, 3) := by decide +kernel
theorem dX11_init_94 : decode cX11_init 94 = .ok (.aload_n 0, 1) := by decide +kernel
theorem dX11_init_95 : decode cX11_init 95 = .ok (.iconst 4, 1) := by decide +kernel
theorem dX11_init_96 : decode cX11_init 96 = .ok (.newarray .int, 2) := by decide +kernel
theorem dX11_init_98 : decode cX11_init 98 = .ok (.putfield 57, 3) := by decide +kernel
theorem dX11_init_101 : decode cX11_init 101 = .ok (.iconst 0, 1) := by decide +kernel
theorem dX11_init_102 : decode cX11_init 102 = .ok (.istore_n 1, 1) := by decide +kernel
theorem dX11_init_103 : decode cX11_init 103 = .ok (.iload_n 1, 1) := by decide +kernel
theorem dX11_init_104 : decode cX11_init 104 = .ok (.bipush 8, 2) := by decide +kernel
theorem dX11_init_106 : decode cX11_init 106 = .ok (.if_icmp .ge 22, 3) := by decide +kernel
theorem dX11_init_109 : decode cX11_init 109 = .ok (.aload_n 0, 1) := by decide +kernel
theorem dX11_init_110 : decode cX11_init 110 = .ok (.getfield 11, 3) := by decide +kernel
theorem dX11_init_113 : decode cX11_init 113 = .ok (.iload_n 1, 1) := by decide +kernel
theorem dX11_init_114 : decode cX11_init 114 = .ok (.new 9, 3) := by decide +kernel
theorem dX11_init_117 : decode cX11_init 117 = .ok (.dup, 1) := by decide +kernel
theorem dX11_init_118 : decode cX11_init 118 = .ok (.invokespecial 61, 3) := by decide +kernel
theorem dX11_init_121 : decode cX11_init 121 = .ok (.aastore, 1) := by decide +kernel
theorem dX11_init_122 : decode cX11_init 122 = .ok (.iinc 1 1, 3) := by decide +kernel
theorem dX11_init_125 : decode cX11_init 125 = .ok (.goto (-22), 3) := by decide +kernel
theorem dX11_init_128 : decode cX11_init 128 = .ok (.iconst 0, 1) := by decide +kernel
theorem dX11_init_129 : decode cX11_init 129 = .ok (.istore_n 1, 1) := by decide +kernel
theorem dX11_init_130 : decode cX11_init 130 = .ok (.iload_n 1, 1) := by decide +kernel
theorem dX11_init_131 : decode cX11_init 131 = .ok (.bipush 24, 2) := by decide +kernel
theorem dX11_init_133 : decode cX11_init 133 = .ok (.if_icmp .ge 22, 3) := by decide +kernel
theorem dX11_init_136 : decode cX11_init 136 = .ok (.aload_n 0, 1) := by decide +kernel
theorem dX11_init_137 : decode cX11_init 137 = .ok (.getfield 32, 3) := by decide +kernel
theorem dX11_init_140 : decode cX11_init 140 = .ok (.iload_n 1, 1) := by decide +kernel
theorem dX11_init_141 : decode cX11_init 141 = .ok (.new 22, 3) := by decide +kernel
theorem dX11_init_144 : decode cX11_init 144 = .ok (.dup, 1) := by decide +kernel
theorem dX11_init_145 : decode cX11_init 145 = .ok (.invokespecial 24, 3) := by decide +kernel
theorem dX11_init_148 : decode cX11_init 148 = .ok (.aastore, 1) := by decide +kernel
theorem dX11_init_149 : decode cX11_init 149 = .ok (.iinc 1 1, 3) := by decide +kernel
theorem dX11_init_152 : decode cX11_init 152 = .ok (.goto (-22), 3) := by decide +kernel
theorem dX11_init_155 : decode cX11_init 155 = .ok (.iconst 0, 1) := by decide +kernel
theorem dX11_init_156 : decode cX11_init 156 = .ok (.istore_n 1, 1) := by decide +kernel
theorem dX11_init_157 : decode cX11_init 157 = .ok (.iload_n 1, 1) := by decide +kernel
theorem dX11_init_158 : decode cX11_init 158 = .ok (.iconst 2, 1) := by decide +kernel
theorem dX11_init_159 : decode cX11_init 159 = .ok (.if_icmp .ge 22, 3) := by decide +kernel
theorem dX11_init_162 : decode cX11_init 162 = .ok (.aload_n 0, 1) := by decide +kernel
theorem dX11_init_163 : decode cX11_init 163 = .ok (.getfield 36, 3) := by decide +kernel
theorem dX11_init_166 : decode cX11_init 166 = .ok (.iload_n 1, 1) := by decide +kernel
theorem dX11_init_167 : decode cX11_init 167 = .ok (.new 22, 3) := by decide +kernel
theorem dX11_init_170 : decode cX11_init 170 = .ok (.dup, 1) := by decide +kernel
theorem dX11_init_171 : decode cX11_init 171 = .ok (.invokespecial 24, 3) := by decide +kernel
theorem dX11_init_174 : decode cX11_init 174 = .ok (.aastore, 1) := by decide +kernel
theorem dX11_init_175 : decode cX11_init 175 = .ok (.iinc 1 1, 3) := by decide +kernel
theorem dX11_init_178 : decode cX11_init 178 = .ok (.goto (-21), 3) := by decide +kernel
theorem dX11_init_181 : decode cX11_init 181 = .ok (.return_, 1) := by decide +kernel
theorem dX11_row_0 : decode cX11_row 0 = .ok (.aload_n 0, 1) := by decide +kernel
theorem dX11_row_1 : decode cX11_row 1 = .ok (.iload_n 1, 1) := by decide +kernel
theorem dX11_row_2 : decode cX11_row 2 = .ok (.invokevirtual 62, 3) := by decide +kernel
theorem dX11_row_5 : decode cX11_row 5 = .ok (.astore 4, 2) := by decide +kernel
theorem dX11_row_7 : decode cX11_row 7 = .ok (.aload 4, 2) := by decide +kernel
theorem dX11_row_9 : decode cX11_row 9 = .ok (.ifnull 18, 3) := by decide +kernel
theorem dX11_row_12 : decode cX11_row 12 = .ok (.iload_n 2, 1) := by decide +kernel
theorem dX11_row_13 : decode cX11_row 13 = .ok (.ifCond .lt 14, 3) := by decide +kernel
theorem dX11_row_16 : decode cX11_row 16 = .ok (.iload_n 2, 1) := by decide +kernel
theorem dX11_row_17 : decode cX11_row 17 = .ok (.iconst 2, 1) := by decide +kernel
theorem dX11_row_18 : decode cX11_row 18 = .ok (.if_icmp .gt 9, 3) := by decide +kernel
theorem dX11_row_21 : decode cX11_row 21 = .ok (.iload_n 3, 1) := by decide +kernel
theorem dX11_row_22 : decode cX11_row 22 = .ok (.bipush 40, 2) := by decide +kernel
theorem dX11_row_24 : decode cX11_row 24 = .ok (.if_icmp .le 6, 3) := by decide +kernel
theorem dX11_row_27 : decode cX11_row 27 = .ok (.ldc 66, 2) := by decide +kernel
theorem dX11_row_29 : decode cX11_row 29 = .ok (.ireturn, 1) := by decide +kernel
theorem dX11_row_30 : decode cX11_row 30 = .ok (.iload_n 3, 1) := by decide +kernel
theorem dX11_row_31 : decode cX11_row 31 = .ok (.ifCond .ge 9, 3) := by decide +kernel
theorem dX11_row_34 : decode cX11_row 34 = .ok (.aload_n 0, 1) := by decide +kernel
theorem dX11_row_35 : decode cX11_row 35 = .ok (.iconst 4, 1) := by decide +kernel
theorem dX11_row_36 : decode cX11_row 36 = .ok (.invokevirtual 67, 3) := by decide +kernel
theorem dX11_row_39 : decode cX11_row 39 = .ok (.ireturn, 1) := by decide +kernel
theorem dX11_row_40 : decode cX11_row 40 = .ok (.aload 4, 2) := by decide +kernel
theorem dX11_row_42 : decode cX11_row 42 = .ok (.iload_n 2, 1) := by decide +kernel
theorem dX11_row_43 : decode cX11_row 43 = .ok (.iload_n 3, 1) := by decide +kernel
theorem dX11_row_44 : decode cX11_row 44 = .ok (.invokevirtual 71, 3) := by decide +kernel
theorem dX11_row_47 : decode cX11_row 47 = .ok (.aload_n 0, 1) := by decide +kernel
theorem dX11_row_48 : decode cX11_row 48 = .ok (.iload_n 3, 1) := by decide +kernel
theorem dX11_row_49 : decode cX11_row 49 = .ok (.invokevirtual 75, 3) := by decide +kernel
theorem dX11_row_52 : decode cX11_row 52 = .ok (.ireturn, 1) := by decide +kernel
theorem dX11_set_0 : decode cX11_set 0 = .ok (.aload_n 0, 1) := by decide +kernel
theorem dX11_set_1 : decode cX11_set 1 = .ok (.iload_n 1, 1) := by decide +kernel
theorem dX11_set_2 : decode cX11_set 2 = .ok (.invokevirtual 62, 3) := by decide +kernel
theorem dX11_set_5 : decode cX11_set 5 = .ok (.astore 4, 2) := by decide +kernel
theorem dX11_set_7 : decode cX11_set 7 = .ok (.aload 4, 2) := by decide +kernel
theorem dX11_set_9 : decode cX11_set 9 = .ok (.ifnonnull 6, 3) := by decide +kernel
theorem dX11_set_12 : decode cX11_set 12 = .ok (.ldc 66, 2) := by decide +kernel
theorem dX11_set_14 : decode cX11_set 14 = .ok (.ireturn, 1) := by decide +kernel
theorem dX11_set_15 : decode cX11_set 15 = .ok (.aload 4, 2) := by decide +kernel
theorem dX11_set_17 : decode cX11_set 17 = .ok (.invokevirtual 78, 3) := by decide +kernel
theorem dX11_set_20 : decode cX11_set 20 = .ok (.ifCond .eq 9, 3) := by decide +kernel
theorem dX11_set_23 : decode cX11_set 23 = .ok (.aload_n 0, 1) := by decide +kernel
theorem dX11_set_24 : decode cX11_set 24 = .ok (.iconst 1, 1) := by decide +kernel
theorem dX11_set_25 : decode cX11_set 25 = .ok (.invokevirtual 67, 3) := by decide +kernel
theorem dX11_set_28 : decode cX11_set 28 = .ok (.ireturn, 1) := by decide +kernel
theorem dX11_set_29 : decode cX11_set 29 = .ok (.iload_n 2, 1) := by decide +kernel
theorem dX11_set_30 : decode cX11_set 30 = .ok (.ifCond .lt 12, 3) := by decide +kernel
theorem dX11_set_33 : decode cX11_set 33 = .ok (.iload_n 2, 1) := by decide +kernel
theorem dX11_set_34 : decode cX11_set 34 = .ok (.aload 4, 2) := by decide +kernel
theorem dX11_set_36 : decode cX11_set 36 = .ok (.getfield 82, 3) := by decide +kernel
theorem dX11_set_39 : decode cX11_set 39 = .ok (.if_icmp .lt 9, 3) := by decide +kernel
theorem dX11_set_42 : decode cX11_set 42 = .ok (.aload_n 0, 1) := by decide +kernel
theorem dX11_set_43 : decode cX11_set 43 = .ok (.iconst 2, 1) := by decide +kernel
theorem dX11_set_44 : decode cX11_set 44 = .ok (.invokevirtual 67, 3) := by decide +kernel
theorem dX11_set_47 : decode cX11_set 47 = .ok (.ireturn, 1) := by decide +kernel
theorem dX11_set_48 : decode cX11_set 48 = .ok (.aload 4, 2) := by decide +kernel
theorem dX11_set_50 : decode cX11_set 50 = .ok (.getfield 86, 3) := by decide +kernel
theorem dX11_set_53 : decode cX11_set 53 = .ok (.iload_n 2, 1) := by decide +kernel
theorem dX11_set_54 : decode cX11_set 54 = .ok (.aload 4, 2) := by decide +kernel
theorem dX11_set_56 : decode cX11_set 56 = .ok (.iload_n 3, 1) := by decide +kernel
theorem dX11_set_57 : decode cX11_set 57 = .ok (.invokevirtual 89, 3) := by decide +kernel
theorem dX11_set_60 : decode cX11_set 60 = .ok (.iastore, 1) := by decide +kernel
theorem dX11_set_61 : decode cX11_set 61 = .ok (.aload_n 0, 1) := by decide +kernel
theorem dX11_set_62 : decode cX11_set 62 = .ok (.aload 4, 2) := by decide +kernel
theorem dX11_set_64 : decode cX11_set 64 = .ok (.getfield 86, 3) := by decide +kernel
theorem dX11_set_67 : decode cX11_set 67 = .ok (.iload_n 2, 1) := by decide +kernel
theorem dX11_set_68 : decode cX11_set 68 = .ok (.iaload, 1) := by decide +kernel
theorem dX11_set_69 : decode cX11_set 69 = .ok (.invokevirtual 75, 3) := by decide +kernel
theorem dX11_set_72 : decode cX11_set 72 = .ok (.ireturn, 1) := by decide +kernel
theorem dX11_copy_0 : decode cX11_copy 0 = .ok (.aload_n 0, 1) := by decide +kernel
theorem dX11_copy_1 : decode cX11_copy 1 = .ok (.iload_n 1, 1) := by decide +kernel
theorem dX11_copy_2 : decode cX11_copy 2 = .ok (.invokevirtual 62, 3) := by decide +kernel
theorem dX11_copy_5 : decode cX11_copy 5 = .ok (.astore 6, 2) := by decide +kernel
theorem dX11_copy_7 : decode cX11_copy 7 = .ok (.aload_n 0, 1) := by decide +kernel
theorem dX11_copy_8 : decode cX11_copy 8 = .ok (.iload_n 3, 1) := by decide +kernel
theorem dX11_copy_9 : decode cX11_copy 9 = .ok (.invokevirtual 62, 3) := by decide +kernel
theorem dX11_copy_12 : decode cX11_copy 12 = .ok (.astore 7, 2) := by decide +kernel
theorem dX11_copy_14 : decode cX11_copy 14 = .ok (.aload 6, 2) := by decide +kernel
theorem dX11_copy_16 : decode cX11_copy 16 = .ok (.ifnull 8, 3) := by decide +kernel
theorem dX11_copy_19 : decode cX11_copy 19 = .ok (.aload 7, 2) := by decide +kernel
theorem dX11_copy_21 : decode cX11_copy 21 = .ok (.ifnonnull 6, 3) := by decide +kernel
theorem dX11_copy_24 : decode cX11_copy 24 = .ok (.ldc 66, 2) := by decide +kernel
theorem dX11_copy_26 : decode cX11_copy 26 = .ok (.ireturn, 1) := by decide +kernel
theorem dX11_copy_27 : decode cX11_copy 27 = .ok (.aload 6, 2) := by decide +kernel
theorem dX11_copy_29 : decode cX11_copy 29 = .ok (.invokevirtual 78, 3) := by decide +kernel
theorem dX11_copy_32 : decode cX11_copy 32 = .ok (.ifCond .ne 11, 3) := by decide +kernel
theorem dX11_copy_35 : decode cX11_copy 35 = .ok (.aload 7, 2) := by decide +kernel
theorem dX11_copy_37 : decode cX11_copy 37 = .ok (.invokevirtual 78, 3) := by decide +kernel
theorem dX11_copy_40 : decode cX11_copy 40 = .ok (.ifCond .eq 9, 3) := by decide +kernel
theorem dX11_copy_43 : decode cX11_copy 43 = .ok (.aload_n 0, 1) := by decide +kernel
theorem dX11_copy_44 : decode cX11_copy 44 = .ok (.iconst 1, 1) := by decide +kernel
theorem dX11_copy_45 : decode cX11_copy 45 = .ok (.invokevirtual 67, 3) := by decide +kernel
theorem dX11_copy_48 : decode cX11_copy 48 = .ok (.ireturn, 1) := by decide +kernel
theorem dX11_copy_49 : decode cX11_copy 49 = .ok (.aload 6, 2) := by decide +kernel
theorem dX11_copy_51 : decode cX11_copy 51 = .ok (.getfield 92, 3) := by decide +kernel
theorem dX11_copy_54 : decode cX11_copy 54 = .ok (.aload 7, 2) := by decide +kernel
theorem dX11_copy_56 : decode cX11_copy 56 = .ok (.getfield 92, 3) := by decide +kernel
theorem dX11_copy_59 : decode cX11_copy 59 = .ok (.if_icmp .eq 9, 3) := by decide +kernel
theorem dX11_copy_62 : decode cX11_copy 62 = .ok (.aload_n 0, 1) := by decide +kernel
theorem dX11_copy_63 : decode cX11_copy 63 = .ok (.iconst 5, 1) := by decide +kernel
theorem dX11_copy_64 : decode cX11_copy 64 = .ok (.invokevirtual 67, 3) := by decide +kernel
theorem dX11_copy_67 : decode cX11_copy 67 = .ok (.ireturn, 1) := by decide +kernel
theorem dX11_copy_68 : decode cX11_copy 68 = .ok (.aload 6, 2) := by decide +kernel
theorem dX11_copy_70 : decode cX11_copy 70 = .ok (.iload_n 2, 1) := by decide +kernel
theorem dX11_copy_71 : decode cX11_copy 71 = .ok (.iload 5, 2) := by decide +kernel
theorem dX11_copy_73 : decode cX11_copy 73 = .ok (.invokevirtual 95, 3) := by decide +kernel
theorem dX11_copy_76 : decode cX11_copy 76 = .ok (.ifCond .eq 15, 3) := by decide +kernel
theorem dX11_copy_79 : decode cX11_copy 79 = .ok (.aload 7, 2) := by decide +kernel
theorem dX11_copy_81 : decode cX11_copy 81 = .ok (.iload 4, 2) := by decide +kernel
theorem dX11_copy_83 : decode cX11_copy 83 = .ok (.iload 5, 2) := by decide +kernel
theorem dX11_copy_85 : decode cX11_copy 85 = .ok (.invokevirtual 95, 3) := by decide +kernel
theorem dX11_copy_88 : decode cX11_copy 88 = .ok (.ifCond .ne 9, 3) := by decide +kernel
theorem dX11_copy_91 : decode cX11_copy 91 = .ok (.aload_n 0, 1) := by decide +kernel
theorem dX11_copy_92 : decode cX11_copy 92 = .ok (.iconst 2, 1) := by decide +kernel
theorem dX11_copy_93 : decode cX11_copy 93 = .ok (.invokevirtual 67, 3) := by decide +kernel
theorem dX11_copy_96 : decode cX11_copy 96 = .ok (.ireturn, 1) := by decide +kernel
theorem dX11_copy_97 : decode cX11_copy 97 = .ok (.aload 6, 2) := by decide +kernel
theorem dX11_copy_99 : decode cX11_copy 99 = .ok (.getfield 86, 3) := by decide +kernel
theorem dX11_copy_102 : decode cX11_copy 102 = .ok (.iload_n 2, 1) := by decide +kernel
theorem dX11_copy_103 : decode cX11_copy 103 = .ok (.aload 7, 2) := by decide +kernel
theorem dX11_copy_105 : decode cX11_copy 105 = .ok (.getfield 86, 3) := by decide +kernel
theorem dX11_copy_108 : decode cX11_copy 108 = .ok (.iload 4, 2) := by decide +kernel
theorem dX11_copy_110 : decode cX11_copy 110 = .ok (.iload 5, 2) := by decide +kernel
theorem dX11_copy_112 : decode cX11_copy 112 = .ok (.invokestatic 99, 3) := by decide +kernel
theorem dX11_copy_115 : decode cX11_copy 115 = .ok (.aload_n 0, 1) := by decide +kernel
theorem dX11_copy_116 : decode cX11_copy 116 = .ok (.iload 5, 2) := by decide +kernel
theorem dX11_copy_118 : decode cX11_copy 118 = .ok (.invokevirtual 75, 3) := by decide +kernel
theorem dX11_copy_121 : decode cX11_copy 121 = .ok (.ireturn, 1) := by decide +kernel
theorem dX11_drop_0 : decode cX11_drop 0 = .ok (.aload_n 0, 1) := by decide +kernel
theorem dX11_drop_1 : decode cX11_drop 1 = .ok (.iload_n 1, 1) := by decide +kernel
theorem dX11_drop_2 : decode cX11_drop 2 = .ok (.invokevirtual 62, 3) := by decide +kernel
theorem dX11_drop_5 : decode cX11_drop 5 = .ok (.astore_n 2, 1) := by decide +kernel
theorem dX11_drop_6 : decode cX11_drop 6 = .ok (.aload_n 2, 1) := by decide +kernel
theorem dX11_drop_7 : decode cX11_drop 7 = .ok (.ifnonnull 6, 3) := by decide +kernel
theorem dX11_drop_10 : decode cX11_drop 10 = .ok (.ldc 66, 2) := by decide +kernel
theorem dX11_drop_12 : decode cX11_drop 12 = .ok (.ireturn, 1) := by decide +kernel
theorem dX11_drop_13 : decode cX11_drop 13 = .ok (.aload_n 2, 1) := by decide +kernel
theorem dX11_drop_14 : decode cX11_drop 14 = .ok (.invokevirtual 78, 3) := by decide +kernel
theorem dX11_drop_17 : decode cX11_drop 17 = .ok (.ifCond .eq 9, 3) := by decide +kernel
theorem dX11_drop_20 : decode cX11_drop 20 = .ok (.aload_n 0, 1) := by decide +kernel
theorem dX11_drop_21 : decode cX11_drop 21 = .ok (.iconst 1, 1) := by decide +kernel
theorem dX11_drop_22 : decode cX11_drop 22 = .ok (.invokevirtual 67, 3) := by decide +kernel
theorem dX11_drop_25 : decode cX11_drop 25 = .ok (.ireturn, 1) := by decide +kernel
theorem dX11_drop_26 : decode cX11_drop 26 = .ok (.aload_n 2, 1) := by decide +kernel
theorem dX11_drop_27 : decode cX11_drop 27 = .ok (.getfield 82, 3) := by decide +kernel
theorem dX11_drop_30 : decode cX11_drop 30 = .ok (.istore_n 3, 1) := by decide +kernel
theorem dX11_drop_31 : decode cX11_drop 31 = .ok (.aload_n 2, 1) := by decide +kernel
theorem dX11_drop_32 : decode cX11_drop 32 = .ok (.invokevirtual 105, 3) := by decide +kernel
theorem dX11_drop_35 : decode cX11_drop 35 = .ok (.aload_n 0, 1) := by decide +kernel
theorem dX11_drop_36 : decode cX11_drop 36 = .ok (.iload_n 3, 1) := by decide +kernel
theorem dX11_drop_37 : decode cX11_drop 37 = .ok (.invokevirtual 75, 3) := by decide +kernel
theorem dX11_drop_40 : decode cX11_drop 40 = .ok (.ireturn, 1) := by decide +kernel
theorem dX11_feed_0 : decode cX11_feed 0 = .ok (.iload_n 3, 1) := by decide +kernel
theorem dX11_feed_1 : decode cX11_feed 1 = .ok (.iconst 1, 1) := by decide +kernel
theorem dX11_feed_2 : decode cX11_feed 2 = .ok (.if_icmp .lt 9, 3) := by decide +kernel
theorem dX11_feed_5 : decode cX11_feed 5 = .ok (.iload_n 3, 1) := by decide +kernel
theorem dX11_feed_6 : decode cX11_feed 6 = .ok (.bipush 8, 2) := by decide +kernel
theorem dX11_feed_8 : decode cX11_feed 8 = .ok (.if_icmp .le 6, 3) := by decide +kernel
theorem dX11_feed_11 : decode cX11_feed 11 = .ok (.ldc 66, 2) := by decide +kernel
theorem dX11_feed_13 : decode cX11_feed 13 = .ok (.ireturn, 1) := by decide +kernel
theorem dX11_feed_14 : decode cX11_feed 14 = .ok (.aload_n 0, 1) := by decide +kernel
theorem dX11_feed_15 : decode cX11_feed 15 = .ok (.getfield 18, 3) := by decide +kernel
theorem dX11_feed_18 : decode cX11_feed 18 = .ok (.getfield 108, 3) := by decide +kernel
theorem dX11_feed_21 : decode cX11_feed 21 = .ok (.iload_n 3, 1) := by decide +kernel
theorem dX11_feed_22 : decode cX11_feed 22 = .ok (.iadd, 1) := by decide +kernel
theorem dX11_feed_23 : decode cX11_feed 23 = .ok (.sipush 400, 3) := by decide +kernel
end
section
theorem dX11_feed_26 : decode cX11_feed 26 = .ok (.if_icmp .le 6, 3) := by decide +kernel
theorem dX11_feed_29 : decode cX11_feed 29 = .ok (.ldc 111, 2) := by decide +kernel
theorem dX11_feed_31 : decode cX11_feed 31 = .ok (.ireturn, 1) := by decide +kernel
theorem dX11_feed_32 : decode cX11_feed 32 = .ok (.iload_n 3, 1) := by decide +kernel
theorem dX11_feed_33 : decode cX11_feed 33 = .ok (.iconst 1, 1) := by decide +kernel
theorem dX11_feed_34 : decode cX11_feed 34 = .ok (.isub, 1) := by decide +kernel
theorem dX11_feed_35 : decode cX11_feed 35 = .ok (.istore 4, 2) := by decide +kernel
theorem dX11_feed_37 : decode cX11_feed 37 = .ok (.iload 4, 2) := by decide +kernel
theorem dX11_feed_39 : decode cX11_feed 39 = .ok (.ifCond .lt 25, 3) := by decide +kernel
theorem dX11_feed_42 : decode cX11_feed 42 = .ok (.aload_n 0, 1) := by decide +kernel
theorem dX11_feed_43 : decode cX11_feed 43 = .ok (.getfield 18, 3) := by decide +kernel
theorem dX11_feed_46 : decode cX11_feed 46 = .ok (.lload_n 1, 1) := by decide +kernel
theorem dX11_feed_47 : decode cX11_feed 47 = .ok (.bipush 8, 2) := by decide +kernel
theorem dX11_feed_49 : decode cX11_feed 49 = .ok (.iload 4, 2) := by decide +kernel
theorem dX11_feed_51 : decode cX11_feed 51 = .ok (.imul, 1) := by decide +kernel
theorem dX11_feed_52 : decode cX11_feed 52 = .ok (.lshr, 1) := by decide +kernel
theorem dX11_feed_53 : decode cX11_feed 53 = .ok (.l2i, 1) := by decide +kernel
theorem dX11_feed_54 : decode cX11_feed 54 = .ok (.i2b, 1) := by decide +kernel
theorem dX11_feed_55 : decode cX11_feed 55 = .ok (.invokevirtual 112, 3) := by decide +kernel
theorem dX11_feed_58 : decode cX11_feed 58 = .ok (.iinc 4 (-1), 3) := by decide +kernel
theorem dX11_feed_61 : decode cX11_feed 61 = .ok (.goto (-24), 3) := by decide +kernel
theorem dX11_feed_64 : decode cX11_feed 64 = .ok (.aload_n 0, 1) := by decide +kernel
theorem dX11_feed_65 : decode cX11_feed 65 = .ok (.getfield 18, 3) := by decide +kernel
theorem dX11_feed_68 : decode cX11_feed 68 = .ok (.getfield 108, 3) := by decide +kernel
theorem dX11_feed_71 : decode cX11_feed 71 = .ok (.ireturn, 1) := by decide +kernel
theorem dX11_tower_0 : decode cX11_tower 0 = .ok (.aload_n 0, 1) := by decide +kernel
theorem dX11_tower_1 : decode cX11_tower 1 = .ok (.getfield 18, 3) := by decide +kernel
theorem dX11_tower_4 : decode cX11_tower 4 = .ok (.aload_n 0, 1) := by decide +kernel
theorem dX11_tower_5 : decode cX11_tower 5 = .ok (.getfield 29, 3) := by decide +kernel
theorem dX11_tower_8 : decode cX11_tower 8 = .ok (.invokevirtual 116, 3) := by decide +kernel
theorem dX11_tower_11 : decode cX11_tower 11 = .ok (.ifCond .ne 14, 3) := by decide +kernel
theorem dX11_tower_14 : decode cX11_tower 14 = .ok (.ldc 120, 2) := by decide +kernel
theorem dX11_tower_16 : decode cX11_tower 16 = .ok (.aload_n 0, 1) := by decide +kernel
theorem dX11_tower_17 : decode cX11_tower 17 = .ok (.getfield 18, 3) := by decide +kernel
theorem dX11_tower_20 : decode cX11_tower 20 = .ok (.getfield 121, 3) := by decide +kernel
theorem dX11_tower_23 : decode cX11_tower 23 = .ok (.isub, 1) := by decide +kernel
theorem dX11_tower_24 : decode cX11_tower 24 = .ok (.ireturn, 1) := by decide +kernel
theorem dX11_tower_25 : decode cX11_tower 25 = .ok (.aload_n 0, 1) := by decide +kernel
theorem dX11_tower_26 : decode cX11_tower 26 = .ok (.getfield 25, 3) := by decide +kernel
theorem dX11_tower_29 : decode cX11_tower 29 = .ok (.aload_n 0, 1) := by decide +kernel
theorem dX11_tower_30 : decode cX11_tower 30 = .ok (.getfield 29, 3) := by decide +kernel
theorem dX11_tower_33 : decode cX11_tower 33 = .ok (.invokevirtual 124, 3) := by decide +kernel
theorem dX11_tower_36 : decode cX11_tower 36 = .ok (.aload_n 0, 1) := by decide +kernel
theorem dX11_tower_37 : decode cX11_tower 37 = .ok (.iconst 0, 1) := by decide +kernel
theorem dX11_tower_38 : decode cX11_tower 38 = .ok (.putfield 128, 3) := by decide +kernel
theorem dX11_tower_41 : decode cX11_tower 41 = .ok (.aload_n 0, 1) := by decide +kernel
theorem dX11_tower_42 : decode cX11_tower 42 = .ok (.getfield 25, 3) := by decide +kernel
theorem dX11_tower_45 : decode cX11_tower 45 = .ok (.getfield 131, 3) := by decide +kernel
theorem dX11_tower_48 : decode cX11_tower 48 = .ok (.ireturn, 1) := by decide +kernel
theorem dX11_fault_0 : decode cX11_fault 0 = .ok (.aload_n 0, 1) := by decide +kernel
theorem dX11_fault_1 : decode cX11_fault 1 = .ok (.getfield 18, 3) := by decide +kernel
theorem dX11_fault_4 : decode cX11_fault 4 = .ok (.getfield 134, 3) := by decide +kernel
theorem dX11_fault_7 : decode cX11_fault 7 = .ok (.ireturn, 1) := by decide +kernel
theorem dX11_go_0 : decode cX11_go 0 = .ok (.aload_n 0, 1) := by decide +kernel
theorem dX11_go_1 : decode cX11_go 1 = .ok (.getfield 25, 3) := by decide +kernel
theorem dX11_go_4 : decode cX11_go 4 = .ok (.iload_n 1, 1) := by decide +kernel
theorem dX11_go_5 : decode cX11_go 5 = .ok (.invokevirtual 137, 3) := by decide +kernel
theorem dX11_go_8 : decode cX11_go 8 = .ok (.ifCond .eq 13, 3) := by decide +kernel
theorem dX11_go_11 : decode cX11_go 11 = .ok (.iload_n 2, 1) := by decide +kernel
theorem dX11_go_12 : decode cX11_go 12 = .ok (.iconst (-1), 1) := by decide +kernel
theorem dX11_go_13 : decode cX11_go 13 = .ok (.if_icmp .lt 8, 3) := by decide +kernel
theorem dX11_go_16 : decode cX11_go 16 = .ok (.iload_n 2, 1) := by decide +kernel
theorem dX11_go_17 : decode cX11_go 17 = .ok (.iconst 1, 1) := by decide +kernel
theorem dX11_go_18 : decode cX11_go 18 = .ok (.if_icmp .le 6, 3) := by decide +kernel
theorem dX11_go_21 : decode cX11_go 21 = .ok (.ldc 66, 2) := by decide +kernel
theorem dX11_go_23 : decode cX11_go 23 = .ok (.ireturn, 1) := by decide +kernel
theorem dX11_go_24 : decode cX11_go 24 = .ok (.aload_n 0, 1) := by decide +kernel
theorem dX11_go_25 : decode cX11_go 25 = .ok (.getfield 25, 3) := by decide +kernel
theorem dX11_go_28 : decode cX11_go 28 = .ok (.getfield 141, 3) := by decide +kernel
theorem dX11_go_31 : decode cX11_go 31 = .ok (.iload_n 1, 1) := by decide +kernel
theorem dX11_go_32 : decode cX11_go 32 = .ok (.iaload, 1) := by decide +kernel
theorem dX11_go_33 : decode cX11_go 33 = .ok (.istore_n 3, 1) := by decide +kernel
theorem dX11_go_34 : decode cX11_go 34 = .ok (.iload_n 2, 1) := by decide +kernel
theorem dX11_go_35 : decode cX11_go 35 = .ok (.iload_n 3, 1) := by decide +kernel
theorem dX11_go_36 : decode cX11_go 36 = .ok (.if_icmp .eq 17, 3) := by decide +kernel
theorem dX11_go_39 : decode cX11_go 39 = .ok (.aload_n 0, 1) := by decide +kernel
theorem dX11_go_40 : decode cX11_go 40 = .ok (.invokevirtual 144, 3) := by decide +kernel
theorem dX11_go_43 : decode cX11_go 43 = .ok (.aload_n 0, 1) := by decide +kernel
theorem dX11_go_44 : decode cX11_go 44 = .ok (.getfield 25, 3) := by decide +kernel
theorem dX11_go_47 : decode cX11_go 47 = .ok (.getfield 141, 3) := by decide +kernel
theorem dX11_go_50 : decode cX11_go 50 = .ok (.iload_n 1, 1) := by decide +kernel
theorem dX11_go_51 : decode cX11_go 51 = .ok (.iload_n 2, 1) := by decide +kernel
theorem dX11_go_52 : decode cX11_go 52 = .ok (.iastore, 1) := by decide +kernel
theorem dX11_go_53 : decode cX11_go 53 = .ok (.iload_n 3, 1) := by decide +kernel
theorem dX11_go_54 : decode cX11_go 54 = .ok (.ireturn, 1) := by decide +kernel
theorem dX11_hang_0 : decode cX11_hang 0 = .ok (.aload_n 0, 1) := by decide +kernel
theorem dX11_hang_1 : decode cX11_hang 1 = .ok (.getfield 25, 3) := by decide +kernel
theorem dX11_hang_4 : decode cX11_hang 4 = .ok (.iload_n 1, 1) := by decide +kernel
theorem dX11_hang_5 : decode cX11_hang 5 = .ok (.invokevirtual 147, 3) := by decide +kernel
theorem dX11_hang_8 : decode cX11_hang 8 = .ok (.ifCond .eq 12, 3) := by decide +kernel
theorem dX11_hang_11 : decode cX11_hang 11 = .ok (.iload_n 2, 1) := by decide +kernel
theorem dX11_hang_12 : decode cX11_hang 12 = .ok (.ifCond .lt 8, 3) := by decide +kernel
theorem dX11_hang_15 : decode cX11_hang 15 = .ok (.iload_n 2, 1) := by decide +kernel
theorem dX11_hang_16 : decode cX11_hang 16 = .ok (.iconst 4, 1) := by decide +kernel
theorem dX11_hang_17 : decode cX11_hang 17 = .ok (.if_icmp .lt 6, 3) := by decide +kernel
theorem dX11_hang_20 : decode cX11_hang 20 = .ok (.ldc 66, 2) := by decide +kernel
theorem dX11_hang_22 : decode cX11_hang 22 = .ok (.ireturn, 1) := by decide +kernel
theorem dX11_hang_23 : decode cX11_hang 23 = .ok (.aload_n 0, 1) := by decide +kernel
theorem dX11_hang_24 : decode cX11_hang 24 = .ok (.getfield 25, 3) := by decide +kernel
theorem dX11_hang_27 : decode cX11_hang 27 = .ok (.getfield 150, 3) := by decide +kernel
theorem dX11_hang_30 : decode cX11_hang 30 = .ok (.iload_n 1, 1) := by decide +kernel
theorem dX11_hang_31 : decode cX11_hang 31 = .ok (.iaload, 1) := by decide +kernel
theorem dX11_hang_32 : decode cX11_hang 32 = .ok (.istore_n 3, 1) := by decide +kernel
theorem dX11_hang_33 : decode cX11_hang 33 = .ok (.iload_n 2, 1) := by decide +kernel
theorem dX11_hang_34 : decode cX11_hang 34 = .ok (.iload_n 3, 1) := by decide +kernel
theorem dX11_hang_35 : decode cX11_hang 35 = .ok (.if_icmp .eq 17, 3) := by decide +kernel
theorem dX11_hang_38 : decode cX11_hang 38 = .ok (.aload_n 0, 1) := by decide +kernel
theorem dX11_hang_39 : decode cX11_hang 39 = .ok (.invokevirtual 144, 3) := by decide +kernel
theorem dX11_hang_42 : decode cX11_hang 42 = .ok (.aload_n 0, 1) := by decide +kernel
theorem dX11_hang_43 : decode cX11_hang 43 = .ok (.getfield 25, 3) := by decide +kernel
theorem dX11_hang_46 : decode cX11_hang 46 = .ok (.getfield 150, 3) := by decide +kernel
theorem dX11_hang_49 : decode cX11_hang 49 = .ok (.iload_n 1, 1) := by decide +kernel
theorem dX11_hang_50 : decode cX11_hang 50 = .ok (.iload_n 2, 1) := by decide +kernel
theorem dX11_hang_51 : decode cX11_hang 51 = .ok (.iastore, 1) := by decide +kernel
theorem dX11_hang_52 : decode cX11_hang 52 = .ok (.iload_n 3, 1) := by decide +kernel
theorem dX11_hang_53 : decode cX11_hang 53 = .ok (.ireturn, 1) := by decide +kernel
theorem dX11_halves_0 : decode cX11_halves 0 = .ok (.aload_n 0, 1) := by decide +kernel
theorem dX11_halves_1 : decode cX11_halves 1 = .ok (.getfield 25, 3) := by decide +kernel
theorem dX11_halves_4 : decode cX11_halves 4 = .ok (.invokevirtual 153, 3) := by decide +kernel
theorem dX11_halves_7 : decode cX11_halves 7 = .ok (.ifCond .ne 6, 3) := by decide +kernel
theorem dX11_halves_10 : decode cX11_halves 10 = .ok (.ldc 156, 2) := by decide +kernel
theorem dX11_halves_12 : decode cX11_halves 12 = .ok (.ireturn, 1) := by decide +kernel
theorem dX11_halves_13 : decode cX11_halves 13 = .ok (.iload_n 1, 1) := by decide +kernel
theorem dX11_halves_14 : decode cX11_halves 14 = .ok (.iconst 1, 1) := by decide +kernel
theorem dX11_halves_15 : decode cX11_halves 15 = .ok (.if_icmp .lt 9, 3) := by decide +kernel
theorem dX11_halves_18 : decode cX11_halves 18 = .ok (.iload_n 1, 1) := by decide +kernel
theorem dX11_halves_19 : decode cX11_halves 19 = .ok (.bipush 64, 2) := by decide +kernel
theorem dX11_halves_21 : decode cX11_halves 21 = .ok (.if_icmp .le 6, 3) := by decide +kernel
theorem dX11_halves_24 : decode cX11_halves 24 = .ok (.ldc 66, 2) := by decide +kernel
theorem dX11_halves_26 : decode cX11_halves 26 = .ok (.ireturn, 1) := by decide +kernel
theorem dX11_halves_27 : decode cX11_halves 27 = .ok (.aload_n 0, 1) := by decide +kernel
theorem dX11_halves_28 : decode cX11_halves 28 = .ok (.getfield 25, 3) := by decide +kernel
theorem dX11_halves_31 : decode cX11_halves 31 = .ok (.getfield 157, 3) := by decide +kernel
theorem dX11_halves_34 : decode cX11_halves 34 = .ok (.iload_n 1, 1) := by decide +kernel
theorem dX11_halves_35 : decode cX11_halves 35 = .ok (.iadd, 1) := by decide +kernel
theorem dX11_halves_36 : decode cX11_halves 36 = .ok (.sipush 9999, 3) := by decide +kernel
theorem dX11_halves_39 : decode cX11_halves 39 = .ok (.if_icmp .le 6, 3) := by decide +kernel
theorem dX11_halves_42 : decode cX11_halves 42 = .ok (.ldc 111, 2) := by decide +kernel
theorem dX11_halves_44 : decode cX11_halves 44 = .ok (.ireturn, 1) := by decide +kernel
theorem dX11_halves_45 : decode cX11_halves 45 = .ok (.aload_n 0, 1) := by decide +kernel
theorem dX11_halves_46 : decode cX11_halves 46 = .ok (.invokevirtual 144, 3) := by decide +kernel
theorem dX11_halves_49 : decode cX11_halves 49 = .ok (.ldc 160, 2) := by decide +kernel
theorem dX11_halves_51 : decode cX11_halves 51 = .ok (.istore_n 2, 1) := by decide +kernel
theorem dX11_halves_52 : decode cX11_halves 52 = .ok (.iconst 1, 1) := by decide +kernel
theorem dX11_halves_53 : decode cX11_halves 53 = .ok (.istore_n 3, 1) := by decide +kernel
theorem dX11_halves_54 : decode cX11_halves 54 = .ok (.iload_n 3, 1) := by decide +kernel
theorem dX11_halves_55 : decode cX11_halves 55 = .ok (.iload_n 1, 1) := by decide +kernel
theorem dX11_halves_56 : decode cX11_halves 56 = .ok (.if_icmp .gt 34, 3) := by decide +kernel
theorem dX11_halves_59 : decode cX11_halves 59 = .ok (.aload_n 0, 1) := by decide +kernel
theorem dX11_halves_60 : decode cX11_halves 60 = .ok (.getfield 25, 3) := by decide +kernel
theorem dX11_halves_63 : decode cX11_halves 63 = .ok (.invokevirtual 161, 3) := by decide +kernel
theorem dX11_halves_66 : decode cX11_halves 66 = .ok (.iload_n 2, 1) := by decide +kernel
theorem dX11_halves_67 : decode cX11_halves 67 = .ok (.ldc 160, 2) := by decide +kernel
theorem dX11_halves_69 : decode cX11_halves 69 = .ok (.if_icmp .ne 15, 3) := by decide +kernel
theorem dX11_halves_72 : decode cX11_halves 72 = .ok (.aload_n 0, 1) := by decide +kernel
theorem dX11_halves_73 : decode cX11_halves 73 = .ok (.getfield 25, 3) := by decide +kernel
theorem dX11_halves_76 : decode cX11_halves 76 = .ok (.invokevirtual 164, 3) := by decide +kernel
theorem dX11_halves_79 : decode cX11_halves 79 = .ok (.ifCond .eq 5, 3) := by decide +kernel
theorem dX11_halves_82 : decode cX11_halves 82 = .ok (.iload_n 3, 1) := by decide +kernel
theorem dX11_halves_83 : decode cX11_halves 83 = .ok (.istore_n 2, 1) := by decide +kernel
theorem dX11_halves_84 : decode cX11_halves 84 = .ok (.iinc 3 1, 3) := by decide +kernel
theorem dX11_halves_87 : decode cX11_halves 87 = .ok (.goto (-33), 3) := by decide +kernel
theorem dX11_halves_90 : decode cX11_halves 90 = .ok (.iload_n 2, 1) := by decide +kernel
theorem dX11_halves_91 : decode cX11_halves 91 = .ok (.ireturn, 1) := by decide +kernel
theorem dX11_year_0 : decode cX11_year 0 = .ok (.aload_n 0, 1) := by decide +kernel
theorem dX11_year_1 : decode cX11_year 1 = .ok (.getfield 25, 3) := by decide +kernel
theorem dX11_year_4 : decode cX11_year 4 = .ok (.invokevirtual 153, 3) := by decide +kernel
theorem dX11_year_7 : decode cX11_year 7 = .ok (.ifCond .ne 6, 3) := by decide +kernel
theorem dX11_year_10 : decode cX11_year 10 = .ok (.ldc 156, 2) := by decide +kernel
theorem dX11_year_12 : decode cX11_year 12 = .ok (.ireturn, 1) := by decide +kernel
theorem dX11_year_13 : decode cX11_year 13 = .ok (.aload_n 0, 1) := by decide +kernel
theorem dX11_year_14 : decode cX11_year 14 = .ok (.getfield 25, 3) := by decide +kernel
theorem dX11_year_17 : decode cX11_year 17 = .ok (.getfield 167, 3) := by decide +kernel
theorem dX11_year_20 : decode cX11_year 20 = .ok (.invokestatic 170, 3) := by decide +kernel
theorem dX11_year_23 : decode cX11_year 23 = .ok (.sipush 9999, 3) := by decide +kernel
theorem dX11_year_26 : decode cX11_year 26 = .ok (.if_icmp .gt 19, 3) := by decide +kernel
theorem dX11_year_29 : decode cX11_year 29 = .ok (.aload_n 0, 1) := by decide +kernel
theorem dX11_year_30 : decode cX11_year 30 = .ok (.getfield 25, 3) := by decide +kernel
theorem dX11_year_33 : decode cX11_year 33 = .ok (.getfield 175, 3) := by decide +kernel
theorem dX11_year_36 : decode cX11_year 36 = .ok (.invokestatic 170, 3) := by decide +kernel
theorem dX11_year_39 : decode cX11_year 39 = .ok (.sipush 9999, 3) := by decide +kernel
theorem dX11_year_42 : decode cX11_year 42 = .ok (.if_icmp .le 6, 3) := by decide +kernel
theorem dX11_year_45 : decode cX11_year 45 = .ok (.ldc 111, 2) := by decide +kernel
theorem dX11_year_47 : decode cX11_year 47 = .ok (.ireturn, 1) := by decide +kernel
theorem dX11_year_48 : decode cX11_year 48 = .ok (.aload_n 0, 1) := by decide +kernel
theorem dX11_year_49 : decode cX11_year 49 = .ok (.invokevirtual 144, 3) := by decide +kernel
theorem dX11_year_52 : decode cX11_year 52 = .ok (.aload_n 0, 1) := by decide +kernel
theorem dX11_year_53 : decode cX11_year 53 = .ok (.getfield 25, 3) := by decide +kernel
theorem dX11_year_56 : decode cX11_year 56 = .ok (.invokevirtual 178, 3) := by decide +kernel
theorem dX11_year_59 : decode cX11_year 59 = .ok (.iconst 1, 1) := by decide +kernel
theorem dX11_year_60 : decode cX11_year 60 = .ok (.ireturn, 1) := by decide +kernel
theorem dX11_undo_0 : decode cX11_undo 0 = .ok (.aload_n 0, 1) := by decide +kernel
theorem dX11_undo_1 : decode cX11_undo 1 = .ok (.getfield 128, 3) := by decide +kernel
theorem dX11_undo_4 : decode cX11_undo 4 = .ok (.ifCond .ne 6, 3) := by decide +kernel
theorem dX11_undo_7 : decode cX11_undo 7 = .ok (.ldc 156, 2) := by decide +kernel
theorem dX11_undo_9 : decode cX11_undo 9 = .ok (.ireturn, 1) := by decide +kernel
theorem dX11_undo_10 : decode cX11_undo 10 = .ok (.aload_n 0, 1) := by decide +kernel
theorem dX11_undo_11 : decode cX11_undo 11 = .ok (.dup, 1) := by decide +kernel
theorem dX11_undo_12 : decode cX11_undo 12 = .ok (.getfield 128, 3) := by decide +kernel
theorem dX11_undo_15 : decode cX11_undo 15 = .ok (.iconst 1, 1) := by decide +kernel
theorem dX11_undo_16 : decode cX11_undo 16 = .ok (.isub, 1) := by decide +kernel
theorem dX11_undo_17 : decode cX11_undo 17 = .ok (.putfield 128, 3) := by decide +kernel
theorem dX11_undo_20 : decode cX11_undo 20 = .ok (.aload_n 0, 1) := by decide +kernel
theorem dX11_undo_21 : decode cX11_undo 21 = .ok (.getfield 25, 3) := by decide +kernel
theorem dX11_undo_24 : decode cX11_undo 24 = .ok (.aload_n 0, 1) := by decide +kernel
theorem dX11_undo_25 : decode cX11_undo 25 = .ok (.getfield 32, 3) := by decide +kernel
theorem dX11_undo_28 : decode cX11_undo 28 = .ok (.aload_n 0, 1) := by decide +kernel
theorem dX11_undo_29 : decode cX11_undo 29 = .ok (.getfield 181, 3) := by decide +kernel
theorem dX11_undo_32 : decode cX11_undo 32 = .ok (.aload_n 0, 1) := by decide +kernel
theorem dX11_undo_33 : decode cX11_undo 33 = .ok (.getfield 128, 3) := by decide +kernel
theorem dX11_undo_36 : decode cX11_undo 36 = .ok (.iadd, 1) := by decide +kernel
theorem dX11_undo_37 : decode cX11_undo 37 = .ok (.bipush 24, 2) := by decide +kernel
theorem dX11_undo_39 : decode cX11_undo 39 = .ok (.irem, 1) := by decide +kernel
theorem dX11_undo_40 : decode cX11_undo 40 = .ok (.aaload, 1) := by decide +kernel
theorem dX11_undo_41 : decode cX11_undo 41 = .ok (.invokevirtual 124, 3) := by decide +kernel
theorem dX11_undo_44 : decode cX11_undo 44 = .ok (.aload_n 0, 1) := by decide +kernel
theorem dX11_undo_45 : decode cX11_undo 45 = .ok (.getfield 128, 3) := by decide +kernel
theorem dX11_undo_48 : decode cX11_undo 48 = .ok (.ireturn, 1) := by decide +kernel
theorem dX11_person_0 : decode cX11_person 0 = .ok (.aload_n 0, 1) := by decide +kernel
theorem dX11_person_1 : decode cX11_person 1 = .ok (.getfield 25, 3) := by decide +kernel
theorem dX11_person_4 : decode cX11_person 4 = .ok (.iload_n 1, 1) := by decide +kernel
theorem dX11_person_5 : decode cX11_person 5 = .ok (.invokevirtual 184, 3) := by decide +kernel
theorem dX11_person_8 : decode cX11_person 8 = .ok (.astore_n 3, 1) := by decide +kernel
theorem dX11_person_9 : decode cX11_person 9 = .ok (.aload_n 3, 1) := by decide +kernel
theorem dX11_person_10 : decode cX11_person 10 = .ok (.ifnonnull 6, 3) := by decide +kernel
theorem dX11_person_13 : decode cX11_person 13 = .ok (.ldc 66, 2) := by decide +kernel
theorem dX11_person_15 : decode cX11_person 15 = .ok (.ireturn, 1) := by decide +kernel
theorem dX11_person_16 : decode cX11_person 16 = .ok (.iload_n 2, 1) := by decide +kernel
theorem dX11_person_17 : decode cX11_person 17 = .ok (.tableswitch 74 0 4 #[35, 45, 55, 60, 65], 35) := by decide +kernel
theorem dX11_person_52 : decode cX11_person 52 = .ok (.aload_n 0, 1) := by decide +kernel
theorem dX11_person_53 : decode cX11_person 53 = .ok (.getfield 25, 3) := by decide +kernel
theorem dX11_person_56 : decode cX11_person 56 = .ok (.getfield 188, 3) := by decide +kernel
theorem dX11_person_59 : decode cX11_person 59 = .ok (.iload_n 1, 1) := by decide +kernel
theorem dX11_person_60 : decode cX11_person 60 = .ok (.iaload, 1) := by decide +kernel
theorem dX11_person_61 : decode cX11_person 61 = .ok (.ireturn, 1) := by decide +kernel
theorem dX11_person_62 : decode cX11_person 62 = .ok (.aload_n 0, 1) := by decide +kernel
theorem dX11_person_63 : decode cX11_person 63 = .ok (.getfield 25, 3) := by decide +kernel
theorem dX11_person_66 : decode cX11_person 66 = .ok (.getfield 141, 3) := by decide +kernel
theorem dX11_person_69 : decode cX11_person 69 = .ok (.iload_n 1, 1) := by decide +kernel
theorem dX11_person_70 : decode cX11_person 70 = .ok (.iaload, 1) := by decide +kernel
theorem dX11_person_71 : decode cX11_person 71 = .ok (.ireturn, 1) := by decide +kernel
theorem dX11_person_72 : decode cX11_person 72 = .ok (.aload_n 3, 1) := by decide +kernel
theorem dX11_person_73 : decode cX11_person 73 = .ok (.getfield 191, 3) := by decide +kernel
theorem dX11_person_76 : decode cX11_person 76 = .ok (.ireturn, 1) := by decide +kernel
theorem dX11_person_77 : decode cX11_person 77 = .ok (.aload_n 3, 1) := by decide +kernel
theorem dX11_person_78 : decode cX11_person 78 = .ok (.getfield 196, 3) := by decide +kernel
theorem dX11_person_81 : decode cX11_person 81 = .ok (.ireturn, 1) := by decide +kernel
theorem dX11_person_82 : decode cX11_person 82 = .ok (.aload_n 0, 1) := by decide +kernel
theorem dX11_person_83 : decode cX11_person 83 = .ok (.getfield 25, 3) := by decide +kernel
theorem dX11_person_86 : decode cX11_person 86 = .ok (.iload_n 1, 1) := by decide +kernel
theorem dX11_person_87 : decode cX11_person 87 = .ok (.invokevirtual 199, 3) := by decide +kernel
theorem dX11_person_90 : decode cX11_person 90 = .ok (.ireturn, 1) := by decide +kernel
theorem dX11_person_91 : decode cX11_person 91 = .ok (.ldc 66, 2) := by decide +kernel
theorem dX11_person_93 : decode cX11_person 93 = .ok (.ireturn, 1) := by decide +kernel
theorem dX11_lean_0 : decode cX11_lean 0 = .ok (.aload_n 0, 1) := by decide +kernel
theorem dX11_lean_1 : decode cX11_lean 1 = .ok (.getfield 25, 3) := by decide +kernel
theorem dX11_lean_4 : decode cX11_lean 4 = .ok (.invokevirtual 153, 3) := by decide +kernel
theorem dX11_lean_7 : decode cX11_lean 7 = .ok (.ifCond .ne 6, 3) := by decide +kernel
theorem dX11_lean_10 : decode cX11_lean 10 = .ok (.ldc 156, 2) := by decide +kernel
theorem dX11_lean_12 : decode cX11_lean 12 = .ok (.ireturn, 1) := by decide +kernel
theorem dX11_lean_13 : decode cX11_lean 13 = .ok (.iload_n 1, 1) := by decide +kernel
theorem dX11_lean_14 : decode cX11_lean 14 = .ok (.tableswitch 88 0 4 #[34, 45, 56, 72, 80], 34) := by decide +kernel
theorem dX11_lean_48 : decode cX11_lean 48 = .ok (.aload_n 0, 1) := by decide +kernel
theorem dX11_lean_49 : decode cX11_lean 49 = .ok (.getfield 25, 3) := by decide +kernel
theorem dX11_lean_52 : decode cX11_lean 52 = .ok (.bipush 127, 2) := by decide +kernel
theorem dX11_lean_54 : decode cX11_lean 54 = .ok (.iconst 0, 1) := by decide +kernel
theorem dX11_lean_55 : decode cX11_lean 55 = .ok (.invokevirtual 202, 3) := by decide +kernel
theorem dX11_lean_58 : decode cX11_lean 58 = .ok (.ireturn, 1) := by decide +kernel
theorem dX11_lean_59 : decode cX11_lean 59 = .ok (.aload_n 0, 1) := by decide +kernel
theorem dX11_lean_60 : decode cX11_lean 60 = .ok (.getfield 25, 3) := by decide +kernel
theorem dX11_lean_63 : decode cX11_lean 63 = .ok (.bipush 127, 2) := by decide +kernel
theorem dX11_lean_65 : decode cX11_lean 65 = .ok (.iconst 1, 1) := by decide +kernel
theorem dX11_lean_66 : decode cX11_lean 66 = .ok (.invokevirtual 202, 3) := by decide +kernel
theorem dX11_lean_69 : decode cX11_lean 69 = .ok (.ireturn, 1) := by decide +kernel
theorem dX11_lean_70 : decode cX11_lean 70 = .ok (.aload_n 0, 1) := by decide +kernel
theorem dX11_lean_71 : decode cX11_lean 71 = .ok (.getfield 25, 3) := by decide +kernel
theorem dX11_lean_74 : decode cX11_lean 74 = .ok (.invokevirtual 164, 3) := by decide +kernel
theorem dX11_lean_77 : decode cX11_lean 77 = .ok (.ifCond .eq 7, 3) := by decide +kernel
theorem dX11_lean_80 : decode cX11_lean 80 = .ok (.iconst 1, 1) := by decide +kernel
theorem dX11_lean_81 : decode cX11_lean 81 = .ok (.goto 4, 3) := by decide +kernel
theorem dX11_lean_84 : decode cX11_lean 84 = .ok (.iconst 0, 1) := by decide +kernel
theorem dX11_lean_85 : decode cX11_lean 85 = .ok (.ireturn, 1) := by decide +kernel
theorem dX11_lean_86 : decode cX11_lean 86 = .ok (.aload_n 0, 1) := by decide +kernel
theorem dX11_lean_87 : decode cX11_lean 87 = .ok (.getfield 25, 3) := by decide +kernel
theorem dX11_lean_90 : decode cX11_lean 90 = .ok (.getfield 167, 3) := by decide +kernel
theorem dX11_lean_93 : decode cX11_lean 93 = .ok (.ireturn, 1) := by decide +kernel
theorem dX11_lean_94 : decode cX11_lean 94 = .ok (.aload_n 0, 1) := by decide +kernel
theorem dX11_lean_95 : decode cX11_lean 95 = .ok (.getfield 25, 3) := by decide +kernel
theorem dX11_lean_98 : decode cX11_lean 98 = .ok (.getfield 175, 3) := by decide +kernel
theorem dX11_lean_101 : decode cX11_lean 101 = .ok (.ireturn, 1) := by decide +kernel
theorem dX11_lean_102 : decode cX11_lean 102 = .ok (.ldc 66, 2) := by decide +kernel
theorem dX11_lean_104 : decode cX11_lean 104 = .ok (.ireturn, 1) := by decide +kernel
theorem dX11_worst_0 : decode cX11_worst 0 = .ok (.aload_n 0, 1) := by decide +kernel
theorem dX11_worst_1 : decode cX11_worst 1 = .ok (.getfield 25, 3) := by decide +kernel
theorem dX11_worst_4 : decode cX11_worst 4 = .ok (.invokevirtual 153, 3) := by decide +kernel
theorem dX11_worst_7 : decode cX11_worst 7 = .ok (.ifCond .ne 6, 3) := by decide +kernel
theorem dX11_worst_10 : decode cX11_worst 10 = .ok (.ldc 156, 2) := by decide +kernel
theorem dX11_worst_12 : decode cX11_worst 12 = .ok (.ireturn, 1) := by decide +kernel
theorem dX11_worst_13 : decode cX11_worst 13 = .ok (.iload_n 1, 1) := by decide +kernel
theorem dX11_worst_14 : decode cX11_worst 14 = .ok (.ifCond .lt 8, 3) := by decide +kernel
theorem dX11_worst_17 : decode cX11_worst 17 = .ok (.iload_n 1, 1) := by decide +kernel
theorem dX11_worst_18 : decode cX11_worst 18 = .ok (.iconst 1, 1) := by decide +kernel
theorem dX11_worst_19 : decode cX11_worst 19 = .ok (.if_icmp .le 6, 3) := by decide +kernel
theorem dX11_worst_22 : decode cX11_worst 22 = .ok (.ldc 66, 2) := by decide +kernel
theorem dX11_worst_24 : decode cX11_worst 24 = .ok (.ireturn, 1) := by decide +kernel
theorem dX11_worst_25 : decode cX11_worst 25 = .ok (.aload_n 0, 1) := by decide +kernel
theorem dX11_worst_26 : decode cX11_worst 26 = .ok (.getfield 29, 3) := by decide +kernel
theorem dX11_worst_29 : decode cX11_worst 29 = .ok (.aload_n 0, 1) := by decide +kernel
theorem dX11_worst_30 : decode cX11_worst 30 = .ok (.getfield 25, 3) := by decide +kernel
theorem dX11_worst_33 : decode cX11_worst 33 = .ok (.invokevirtual 124, 3) := by decide +kernel
theorem dX11_worst_36 : decode cX11_worst 36 = .ok (.iload_n 1, 1) := by decide +kernel
theorem dX11_worst_37 : decode cX11_worst 37 = .ok (.ifCond .ne 15, 3) := by decide +kernel
theorem dX11_worst_40 : decode cX11_worst 40 = .ok (.aload_n 0, 1) := by decide +kernel
theorem dX11_worst_41 : decode cX11_worst 41 = .ok (.getfield 29, 3) := by decide +kernel
theorem dX11_worst_44 : decode cX11_worst 44 = .ok (.bipush 64, 2) := by decide +kernel
theorem dX11_worst_46 : decode cX11_worst 46 = .ok (.invokevirtual 206, 3) := by decide +kernel
theorem dX11_worst_49 : decode cX11_worst 49 = .ok (.goto 12, 3) := by decide +kernel
theorem dX11_worst_52 : decode cX11_worst 52 = .ok (.aload_n 0, 1) := by decide +kernel
theorem dX11_worst_53 : decode cX11_worst 53 = .ok (.getfield 29, 3) := by decide +kernel
theorem dX11_worst_56 : decode cX11_worst 56 = .ok (.bipush 64, 2) := by decide +kernel
theorem dX11_worst_58 : decode cX11_worst 58 = .ok (.invokevirtual 209, 3) := by decide +kernel
theorem dX11_worst_61 : decode cX11_worst 61 = .ok (.ireturn, 1) := by decide +kernel
theorem dX11_most_0 : decode cX11_most 0 = .ok (.aload_n 0, 1) := by decide +kernel
theorem dX11_most_1 : decode cX11_most 1 = .ok (.getfield 25, 3) := by decide +kernel
theorem dX11_most_4 : decode cX11_most 4 = .ok (.invokevirtual 153, 3) := by decide +kernel
theorem dX11_most_7 : decode cX11_most 7 = .ok (.ifCond .ne 6, 3) := by decide +kernel
theorem dX11_most_10 : decode cX11_most 10 = .ok (.ldc 156, 2) := by decide +kernel
theorem dX11_most_12 : decode cX11_most 12 = .ok (.ireturn, 1) := by decide +kernel
theorem dX11_most_13 : decode cX11_most 13 = .ok (.aload_n 0, 1) := by decide +kernel
theorem dX11_most_14 : decode cX11_most 14 = .ok (.getfield 25, 3) := by decide +kernel
theorem dX11_most_17 : decode cX11_most 17 = .ok (.invokevirtual 212, 3) := by decide +kernel
theorem dX11_most_20 : decode cX11_most 20 = .ok (.istore_n 1, 1) := by decide +kernel
theorem dX11_most_21 : decode cX11_most 21 = .ok (.ldc 160, 2) := by decide +kernel
theorem dX11_most_23 : decode cX11_most 23 = .ok (.istore_n 2, 1) := by decide +kernel
theorem dX11_most_24 : decode cX11_most 24 = .ok (.iconst (-1), 1) := by decide +kernel
theorem dX11_most_25 : decode cX11_most 25 = .ok (.istore_n 3, 1) := by decide +kernel
theorem dX11_most_26 : decode cX11_most 26 = .ok (.iconst 0, 1) := by decide +kernel
theorem dX11_most_27 : decode cX11_most 27 = .ok (.istore 4, 2) := by decide +kernel
theorem dX11_most_29 : decode cX11_most 29 = .ok (.iload 4, 2) := by decide +kernel
theorem dX11_most_31 : decode cX11_most 31 = .ok (.iload_n 1, 1) := by decide +kernel
theorem dX11_most_32 : decode cX11_most 32 = .ok (.if_icmp .gt 57, 3) := by decide +kernel
theorem dX11_most_35 : decode cX11_most 35 = .ok (.iload 4, 2) := by decide +kernel
theorem dX11_most_37 : decode cX11_most 37 = .ok (.iload_n 1, 1) := by decide +kernel
theorem dX11_most_38 : decode cX11_most 38 = .ok (.iconst (-1), 1) := by decide +kernel
theorem dX11_most_39 : decode cX11_most 39 = .ok (.ixor, 1) := by decide +kernel
theorem dX11_most_40 : decode cX11_most 40 = .ok (.iand, 1) := by decide +kernel
theorem dX11_most_41 : decode cX11_most 41 = .ok (.ifCond .ne 16, 3) := by decide +kernel
theorem dX11_most_44 : decode cX11_most 44 = .ok (.iload 4, 2) := by decide +kernel
theorem dX11_most_46 : decode cX11_most 46 = .ok (.invokestatic 216, 3) := by decide +kernel
theorem dX11_most_49 : decode cX11_most 49 = .ok (.iload_n 3, 1) := by decide +kernel
theorem dX11_most_50 : decode cX11_most 50 = .ok (.if_icmp .le 7, 3) := by decide +kernel
theorem dX11_most_53 : decode cX11_most 53 = .ok (.iconst 1, 1) := by decide +kernel
theorem dX11_most_54 : decode cX11_most 54 = .ok (.goto 4, 3) := by decide +kernel
theorem dX11_most_57 : decode cX11_most 57 = .ok (.iconst 0, 1) := by decide +kernel
theorem dX11_most_58 : decode cX11_most 58 = .ok (.istore 5, 2) := by decide +kernel
theorem dX11_most_60 : decode cX11_most 60 = .ok (.iload 5, 2) := by decide +kernel
theorem dX11_most_62 : decode cX11_most 62 = .ok (.ifCond .eq 21, 3) := by decide +kernel
theorem dX11_most_65 : decode cX11_most 65 = .ok (.aload_n 0, 1) := by decide +kernel
theorem dX11_most_66 : decode cX11_most 66 = .ok (.iload 4, 2) := by decide +kernel
theorem dX11_most_68 : decode cX11_most 68 = .ok (.invokevirtual 221, 3) := by decide +kernel
theorem dX11_most_71 : decode cX11_most 71 = .ok (.ifCond .eq 12, 3) := by decide +kernel
theorem dX11_most_74 : decode cX11_most 74 = .ok (.iload 4, 2) := by decide +kernel
theorem dX11_most_76 : decode cX11_most 76 = .ok (.istore_n 2, 1) := by decide +kernel
theorem dX11_most_77 : decode cX11_most 77 = .ok (.iload 4, 2) := by decide +kernel
theorem dX11_most_79 : decode cX11_most 79 = .ok (.invokestatic 216, 3) := by decide +kernel
theorem dX11_most_82 : decode cX11_most 82 = .ok (.istore_n 3, 1) := by decide +kernel
theorem dX11_most_83 : decode cX11_most 83 = .ok (.iinc 4 1, 3) := by decide +kernel
theorem dX11_most_86 : decode cX11_most 86 = .ok (.goto (-57), 3) := by decide +kernel
theorem dX11_most_89 : decode cX11_most 89 = .ok (.iload_n 2, 1) := by decide +kernel
theorem dX11_most_90 : decode cX11_most 90 = .ok (.ireturn, 1) := by decide +kernel
theorem dX11_two_0 : decode cX11_two 0 = .ok (.aload_n 0, 1) := by decide +kernel
theorem dX11_two_1 : decode cX11_two 1 = .ok (.getfield 25, 3) := by decide +kernel
theorem dX11_two_4 : decode cX11_two 4 = .ok (.iload_n 1, 1) := by decide +kernel
theorem dX11_two_5 : decode cX11_two 5 = .ok (.invokevirtual 224, 3) := by decide +kernel
theorem dX11_two_8 : decode cX11_two 8 = .ok (.ifCond .eq 28, 3) := by decide +kernel
theorem dX11_two_11 : decode cX11_two 11 = .ok (.aload_n 0, 1) := by decide +kernel
theorem dX11_two_12 : decode cX11_two 12 = .ok (.getfield 25, 3) := by decide +kernel
theorem dX11_two_15 : decode cX11_two 15 = .ok (.iload_n 2, 1) := by decide +kernel
theorem dX11_two_16 : decode cX11_two 16 = .ok (.invokevirtual 224, 3) := by decide +kernel
theorem dX11_two_19 : decode cX11_two 19 = .ok (.ifCond .eq 17, 3) := by decide +kernel
theorem dX11_two_22 : decode cX11_two 22 = .ok (.iload_n 1, 1) := by decide +kernel
theorem dX11_two_23 : decode cX11_two 23 = .ok (.iload_n 2, 1) := by decide +kernel
theorem dX11_two_24 : decode cX11_two 24 = .ok (.if_icmp .eq 12, 3) := by decide +kernel
theorem dX11_two_27 : decode cX11_two 27 = .ok (.iload_n 3, 1) := by decide +kernel
theorem dX11_two_28 : decode cX11_two 28 = .ok (.ifCond .lt 8, 3) := by decide +kernel
theorem dX11_two_31 : decode cX11_two 31 = .ok (.iload_n 3, 1) := by decide +kernel
theorem dX11_two_32 : decode cX11_two 32 = .ok (.iconst 1, 1) := by decide +kernel
theorem dX11_two_33 : decode cX11_two 33 = .ok (.if_icmp .le 6, 3) := by decide +kernel
theorem dX11_two_36 : decode cX11_two 36 = .ok (.ldc 66, 2) := by decide +kernel
theorem dX11_two_38 : decode cX11_two 38 = .ok (.ireturn, 1) := by decide +kernel
theorem dX11_two_39 : decode cX11_two 39 = .ok (.iconst 0, 1) := by decide +kernel
theorem dX11_two_40 : decode cX11_two 40 = .ok (.istore 4, 2) := by decide +kernel
theorem dX11_two_42 : decode cX11_two 42 = .ok (.aload_n 0, 1) := by decide +kernel
theorem dX11_two_43 : decode cX11_two 43 = .ok (.iload_n 1, 1) := by decide +kernel
theorem dX11_two_44 : decode cX11_two 44 = .ok (.iload_n 2, 1) := by decide +kernel
theorem dX11_two_45 : decode cX11_two 45 = .ok (.iconst 0, 1) := by decide +kernel
theorem dX11_two_46 : decode cX11_two 46 = .ok (.invokevirtual 227, 3) := by decide +kernel
theorem dX11_two_49 : decode cX11_two 49 = .ok (.istore 5, 2) := by decide +kernel
theorem dX11_two_51 : decode cX11_two 51 = .ok (.iconst 1, 1) := by decide +kernel
theorem dX11_two_52 : decode cX11_two 52 = .ok (.istore 6, 2) := by decide +kernel
theorem dX11_two_54 : decode cX11_two 54 = .ok (.iload 6, 2) := by decide +kernel
theorem dX11_two_56 : decode cX11_two 56 = .ok (.bipush 9, 2) := by decide +kernel
theorem dX11_two_58 : decode cX11_two 58 = .ok (.if_icmp .gt 34, 3) := by decide +kernel
theorem dX11_two_61 : decode cX11_two 61 = .ok (.aload_n 0, 1) := by decide +kernel
theorem dX11_two_62 : decode cX11_two 62 = .ok (.iload_n 1, 1) := by decide +kernel
theorem dX11_two_63 : decode cX11_two 63 = .ok (.iload_n 2, 1) := by decide +kernel
theorem dX11_two_64 : decode cX11_two 64 = .ok (.iload 6, 2) := by decide +kernel
theorem dX11_two_66 : decode cX11_two 66 = .ok (.invokevirtual 227, 3) := by decide +kernel
theorem dX11_two_69 : decode cX11_two 69 = .ok (.istore 7, 2) := by decide +kernel
theorem dX11_two_71 : decode cX11_two 71 = .ok (.iload 7, 2) := by decide +kernel
theorem dX11_two_73 : decode cX11_two 73 = .ok (.iload 5, 2) := by decide +kernel
theorem dX11_two_75 : decode cX11_two 75 = .ok (.if_icmp .ge 11, 3) := by decide +kernel
theorem dX11_two_78 : decode cX11_two 78 = .ok (.iload 7, 2) := by decide +kernel
theorem dX11_two_80 : decode cX11_two 80 = .ok (.istore 5, 2) := by decide +kernel
theorem dX11_two_82 : decode cX11_two 82 = .ok (.iload 6, 2) := by decide +kernel
theorem dX11_two_84 : decode cX11_two 84 = .ok (.istore 4, 2) := by decide +kernel
theorem dX11_two_86 : decode cX11_two 86 = .ok (.iinc 6 1, 3) := by decide +kernel
theorem dX11_two_89 : decode cX11_two 89 = .ok (.goto (-35), 3) := by decide +kernel
theorem dX11_two_92 : decode cX11_two 92 = .ok (.iload_n 3, 1) := by decide +kernel
theorem dX11_two_93 : decode cX11_two 93 = .ok (.ifCond .ne 8, 3) := by decide +kernel
theorem dX11_two_96 : decode cX11_two 96 = .ok (.iload 4, 2) := by decide +kernel
theorem dX11_two_98 : decode cX11_two 98 = .ok (.goto 5, 3) := by decide +kernel
theorem dX11_two_101 : decode cX11_two 101 = .ok (.iload 5, 2) := by decide +kernel
theorem dX11_two_103 : decode cX11_two 103 = .ok (.ireturn, 1) := by decide +kernel
theorem dX11_stones_0 : decode cX11_stones 0 = .ok (.aload_n 0, 1) := by decide +kernel
theorem dX11_stones_1 : decode cX11_stones 1 = .ok (.getfield 25, 3) := by decide +kernel
theorem dX11_stones_4 : decode cX11_stones 4 = .ok (.invokevirtual 153, 3) := by decide +kernel
theorem dX11_stones_7 : decode cX11_stones 7 = .ok (.ifCond .ne 6, 3) := by decide +kernel
theorem dX11_stones_10 : decode cX11_stones 10 = .ok (.ldc 156, 2) := by decide +kernel
theorem dX11_stones_12 : decode cX11_stones 12 = .ok (.ireturn, 1) := by decide +kernel
theorem dX11_stones_13 : decode cX11_stones 13 = .ok (.iload_n 1, 1) := by decide +kernel
theorem dX11_stones_14 : decode cX11_stones 14 = .ok (.iconst (-1), 1) := by decide +kernel
theorem dX11_stones_15 : decode cX11_stones 15 = .ok (.if_icmp .eq 17, 3) := by decide +kernel
theorem dX11_stones_18 : decode cX11_stones 18 = .ok (.aload_n 0, 1) := by decide +kernel
theorem dX11_stones_19 : decode cX11_stones 19 = .ok (.getfield 25, 3) := by decide +kernel
theorem dX11_stones_22 : decode cX11_stones 22 = .ok (.iload_n 1, 1) := by decide +kernel
theorem dX11_stones_23 : decode cX11_stones 23 = .ok (.invokevirtual 147, 3) := by decide +kernel
theorem dX11_stones_26 : decode cX11_stones 26 = .ok (.ifCond .ne 6, 3) := by decide +kernel
theorem dX11_stones_29 : decode cX11_stones 29 = .ok (.ldc 66, 2) := by decide +kernel
theorem dX11_stones_31 : decode cX11_stones 31 = .ok (.ireturn, 1) := by decide +kernel
theorem dX11_stones_32 : decode cX11_stones 32 = .ok (.aload_n 0, 1) := by decide +kernel
theorem dX11_stones_33 : decode cX11_stones 33 = .ok (.invokevirtual 231, 3) := by decide +kernel
theorem dX11_stones_36 : decode cX11_stones 36 = .ok (.iconst 1, 1) := by decide +kernel
theorem dX11_stones_37 : decode cX11_stones 37 = .ok (.iconst 2, 1) := by decide +kernel
theorem dX11_stones_38 : decode cX11_stones 38 = .ok (.aload_n 0, 1) := by decide +kernel
theorem dX11_stones_39 : decode cX11_stones 39 = .ok (.getfield 25, 3) := by decide +kernel
theorem dX11_stones_42 : decode cX11_stones 42 = .ok (.getfield 234, 3) := by decide +kernel
theorem dX11_stones_45 : decode cX11_stones 45 = .ok (.imul, 1) := by decide +kernel
theorem dX11_stones_46 : decode cX11_stones 46 = .ok (.ishl, 1) := by decide +kernel
theorem dX11_stones_47 : decode cX11_stones 47 = .ok (.istore_n 2, 1) := by decide +kernel
theorem dX11_stones_48 : decode cX11_stones 48 = .ok (.iconst 0, 1) := by decide +kernel
theorem dX11_stones_49 : decode cX11_stones 49 = .ok (.istore_n 3, 1) := by decide +kernel
theorem dX11_stones_50 : decode cX11_stones 50 = .ok (.aload_n 0, 1) := by decide +kernel
theorem dX11_stones_51 : decode cX11_stones 51 = .ok (.iconst 0, 1) := by decide +kernel
theorem dX11_stones_52 : decode cX11_stones 52 = .ok (.invokevirtual 237, 3) := by decide +kernel
theorem dX11_stones_55 : decode cX11_stones 55 = .ok (.istore 4, 2) := by decide +kernel
theorem dX11_stones_57 : decode cX11_stones 57 = .ok (.iconst 1, 1) := by decide +kernel
theorem dX11_stones_58 : decode cX11_stones 58 = .ok (.istore 5, 2) := by decide +kernel
theorem dX11_stones_60 : decode cX11_stones 60 = .ok (.iload 5, 2) := by decide +kernel
theorem dX11_stones_62 : decode cX11_stones 62 = .ok (.iload_n 2, 1) := by decide +kernel
theorem dX11_stones_63 : decode cX11_stones 63 = .ok (.if_icmp .ge 31, 3) := by decide +kernel
theorem dX11_stones_66 : decode cX11_stones 66 = .ok (.aload_n 0, 1) := by decide +kernel
theorem dX11_stones_67 : decode cX11_stones 67 = .ok (.iload 5, 2) := by decide +kernel
theorem dX11_stones_69 : decode cX11_stones 69 = .ok (.invokevirtual 237, 3) := by decide +kernel
theorem dX11_stones_72 : decode cX11_stones 72 = .ok (.istore 6, 2) := by decide +kernel
theorem dX11_stones_74 : decode cX11_stones 74 = .ok (.iload 6, 2) := by decide +kernel
theorem dX11_stones_76 : decode cX11_stones 76 = .ok (.iload 4, 2) := by decide +kernel
theorem dX11_stones_78 : decode cX11_stones 78 = .ok (.if_icmp .ge 10, 3) := by decide +kernel
theorem dX11_stones_81 : decode cX11_stones 81 = .ok (.iload 6, 2) := by decide +kernel
theorem dX11_stones_83 : decode cX11_stones 83 = .ok (.istore 4, 2) := by decide +kernel
theorem dX11_stones_85 : decode cX11_stones 85 = .ok (.iload 5, 2) := by decide +kernel
theorem dX11_stones_87 : decode cX11_stones 87 = .ok (.istore_n 3, 1) := by decide +kernel
theorem dX11_stones_88 : decode cX11_stones 88 = .ok (.iinc 5 1, 3) := by decide +kernel
theorem dX11_stones_91 : decode cX11_stones 91 = .ok (.goto (-31), 3) := by decide +kernel
theorem dX11_stones_94 : decode cX11_stones 94 = .ok (.iload_n 1, 1) := by decide +kernel
theorem dX11_stones_95 : decode cX11_stones 95 = .ok (.iconst (-1), 1) := by decide +kernel
theorem dX11_stones_96 : decode cX11_stones 96 = .ok (.if_icmp .ne 8, 3) := by decide +kernel
theorem dX11_stones_99 : decode cX11_stones 99 = .ok (.iload 4, 2) := by decide +kernel
theorem dX11_stones_101 : decode cX11_stones 101 = .ok (.goto 9, 3) := by decide +kernel
theorem dX11_stones_104 : decode cX11_stones 104 = .ok (.aload_n 0, 1) := by decide +kernel
theorem dX11_stones_105 : decode cX11_stones 105 = .ok (.iload_n 3, 1) := by decide +kernel
theorem dX11_stones_106 : decode cX11_stones 106 = .ok (.iload_n 1, 1) := by decide +kernel
theorem dX11_stones_107 : decode cX11_stones 107 = .ok (.invokevirtual 240, 3) := by decide +kernel
theorem dX11_stones_110 : decode cX11_stones 110 = .ok (.ireturn, 1) := by decide +kernel
theorem dX11_marks_0 : decode cX11_marks 0 = .ok (.aload_n 0, 1) := by decide +kernel
theorem dX11_marks_1 : decode cX11_marks 1 = .ok (.getfield 25, 3) := by decide +kernel
theorem dX11_marks_4 : decode cX11_marks 4 = .ok (.invokevirtual 153, 3) := by decide +kernel
theorem dX11_marks_7 : decode cX11_marks 7 = .ok (.ifCond .ne 6, 3) := by decide +kernel
theorem dX11_marks_10 : decode cX11_marks 10 = .ok (.ldc 156, 2) := by decide +kernel
theorem dX11_marks_12 : decode cX11_marks 12 = .ok (.ireturn, 1) := by decide +kernel
theorem dX11_marks_13 : decode cX11_marks 13 = .ok (.aload_n 0, 1) := by decide +kernel
theorem dX11_marks_14 : decode cX11_marks 14 = .ok (.iload_n 1, 1) := by decide +kernel
theorem dX11_marks_15 : decode cX11_marks 15 = .ok (.invokevirtual 62, 3) := by decide +kernel
theorem dX11_marks_18 : decode cX11_marks 18 = .ok (.astore 5, 2) := by decide +kernel
theorem dX11_marks_20 : decode cX11_marks 20 = .ok (.aload 5, 2) := by decide +kernel
theorem dX11_marks_22 : decode cX11_marks 22 = .ok (.ifnull 23, 3) := by decide +kernel
theorem dX11_marks_25 : decode cX11_marks 25 = .ok (.iload_n 2, 1) := by decide +kernel
theorem dX11_marks_26 : decode cX11_marks 26 = .ok (.invokestatic 243, 3) := by decide +kernel
theorem dX11_marks_29 : decode cX11_marks 29 = .ok (.ifCond .eq 16, 3) := by decide +kernel
theorem dX11_marks_32 : decode cX11_marks 32 = .ok (.iload_n 3, 1) := by decide +kernel
theorem dX11_marks_33 : decode cX11_marks 33 = .ok (.invokestatic 243, 3) := by decide +kernel
theorem dX11_marks_36 : decode cX11_marks 36 = .ok (.ifCond .eq 9, 3) := by decide +kernel
theorem dX11_marks_39 : decode cX11_marks 39 = .ok (.iload 4, 2) := by decide +kernel
theorem dX11_marks_41 : decode cX11_marks 41 = .ok (.iconst (-1), 1) := by decide +kernel
theorem dX11_marks_42 : decode cX11_marks 42 = .ok (.if_icmp .ge 6, 3) := by decide +kernel
theorem dX11_marks_45 : decode cX11_marks 45 = .ok (.ldc 66, 2) := by decide +kernel
theorem dX11_marks_47 : decode cX11_marks 47 = .ok (.ireturn, 1) := by decide +kernel
theorem dX11_marks_48 : decode cX11_marks 48 = .ok (.aload 5, 2) := by decide +kernel
theorem dX11_marks_50 : decode cX11_marks 50 = .ok (.invokevirtual 78, 3) := by decide +kernel
theorem dX11_marks_53 : decode cX11_marks 53 = .ok (.ifCond .eq 9, 3) := by decide +kernel
theorem dX11_marks_56 : decode cX11_marks 56 = .ok (.aload_n 0, 1) := by decide +kernel
theorem dX11_marks_57 : decode cX11_marks 57 = .ok (.iconst 1, 1) := by decide +kernel
theorem dX11_marks_58 : decode cX11_marks 58 = .ok (.invokevirtual 67, 3) := by decide +kernel
theorem dX11_marks_61 : decode cX11_marks 61 = .ok (.ireturn, 1) := by decide +kernel
theorem dX11_marks_62 : decode cX11_marks 62 = .ok (.aload 5, 2) := by decide +kernel
theorem dX11_marks_64 : decode cX11_marks 64 = .ok (.getfield 82, 3) := by decide +kernel
theorem dX11_marks_67 : decode cX11_marks 67 = .ok (.aload_n 0, 1) := by decide +kernel
theorem dX11_marks_68 : decode cX11_marks 68 = .ok (.getfield 25, 3) := by decide +kernel
theorem dX11_marks_71 : decode cX11_marks 71 = .ok (.getfield 131, 3) := by decide +kernel
theorem dX11_marks_74 : decode cX11_marks 74 = .ok (.if_icmp .ge 9, 3) := by decide +kernel
theorem dX11_marks_77 : decode cX11_marks 77 = .ok (.aload_n 0, 1) := by decide +kernel
theorem dX11_marks_78 : decode cX11_marks 78 = .ok (.iconst 2, 1) := by decide +kernel
theorem dX11_marks_79 : decode cX11_marks 79 = .ok (.invokevirtual 67, 3) := by decide +kernel
theorem dX11_marks_82 : decode cX11_marks 82 = .ok (.ireturn, 1) := by decide +kernel
theorem dX11_marks_83 : decode cX11_marks 83 = .ok (.aload 5, 2) := by decide +kernel
theorem dX11_marks_85 : decode cX11_marks 85 = .ok (.aload_n 0, 1) := by decide +kernel
theorem dX11_marks_86 : decode cX11_marks 86 = .ok (.getfield 25, 3) := by decide +kernel
theorem dX11_marks_89 : decode cX11_marks 89 = .ok (.getfield 131, 3) := by decide +kernel
theorem dX11_marks_92 : decode cX11_marks 92 = .ok (.iconst (-1), 1) := by decide +kernel
theorem dX11_marks_93 : decode cX11_marks 93 = .ok (.aload_n 0, 1) := by decide +kernel
theorem dX11_marks_94 : decode cX11_marks 94 = .ok (.getfield 25, 3) := by decide +kernel
theorem dX11_marks_97 : decode cX11_marks 97 = .ok (.getfield 246, 3) := by decide +kernel
theorem dX11_marks_100 : decode cX11_marks 100 = .ok (.iconst 1, 1) := by decide +kernel
theorem dX11_marks_101 : decode cX11_marks 101 = .ok (.isub, 1) := by decide +kernel
theorem dX11_marks_102 : decode cX11_marks 102 = .ok (.invokevirtual 249, 3) := by decide +kernel
theorem dX11_marks_105 : decode cX11_marks 105 = .ok (.ifCond .ne 6, 3) := by decide +kernel
theorem dX11_marks_108 : decode cX11_marks 108 = .ok (.ldc 66, 2) := by decide +kernel
theorem dX11_marks_110 : decode cX11_marks 110 = .ok (.ireturn, 1) := by decide +kernel
theorem dX11_marks_111 : decode cX11_marks 111 = .ok (.aload_n 0, 1) := by decide +kernel
theorem dX11_marks_112 : decode cX11_marks 112 = .ok (.getfield 29, 3) := by decide +kernel
theorem dX11_marks_115 : decode cX11_marks 115 = .ok (.aload_n 0, 1) := by decide +kernel
theorem dX11_marks_116 : decode cX11_marks 116 = .ok (.getfield 25, 3) := by decide +kernel
theorem dX11_marks_119 : decode cX11_marks 119 = .ok (.invokevirtual 124, 3) := by decide +kernel
theorem dX11_marks_122 : decode cX11_marks 122 = .ok (.aload 5, 2) := by decide +kernel
theorem dX11_marks_124 : decode cX11_marks 124 = .ok (.getfield 86, 3) := by decide +kernel
theorem dX11_marks_127 : decode cX11_marks 127 = .ok (.iconst 0, 1) := by decide +kernel
theorem dX11_marks_128 : decode cX11_marks 128 = .ok (.aload_n 0, 1) := by decide +kernel
theorem dX11_marks_129 : decode cX11_marks 129 = .ok (.getfield 29, 3) := by decide +kernel
theorem dX11_marks_132 : decode cX11_marks 132 = .ok (.getfield 188, 3) := by decide +kernel
theorem dX11_marks_135 : decode cX11_marks 135 = .ok (.iconst 0, 1) := by decide +kernel
theorem dX11_marks_136 : decode cX11_marks 136 = .ok (.aload_n 0, 1) := by decide +kernel
theorem dX11_marks_137 : decode cX11_marks 137 = .ok (.getfield 25, 3) := by decide +kernel
theorem dX11_marks_140 : decode cX11_marks 140 = .ok (.getfield 131, 3) := by decide +kernel
theorem dX11_marks_143 : decode cX11_marks 143 = .ok (.invokestatic 99, 3) := by decide +kernel
theorem dX11_marks_146 : decode cX11_marks 146 = .ok (.aload_n 0, 1) := by decide +kernel
theorem dX11_marks_147 : decode cX11_marks 147 = .ok (.aload_n 0, 1) := by decide +kernel
theorem dX11_marks_148 : decode cX11_marks 148 = .ok (.iload_n 2, 1) := by decide +kernel
theorem dX11_marks_149 : decode cX11_marks 149 = .ok (.iload_n 3, 1) := by decide +kernel
theorem dX11_marks_150 : decode cX11_marks 150 = .ok (.iload 4, 2) := by decide +kernel
theorem dX11_marks_152 : decode cX11_marks 152 = .ok (.invokevirtual 253, 3) := by decide +kernel
theorem dX11_marks_155 : decode cX11_marks 155 = .ok (.invokevirtual 75, 3) := by decide +kernel
theorem dX11_marks_158 : decode cX11_marks 158 = .ok (.ireturn, 1) := by decide +kernel
theorem dX11_rescue_0 : decode cX11_rescue 0 = .ok (.aload_n 0, 1) := by decide +kernel
theorem dX11_rescue_1 : decode cX11_rescue 1 = .ok (.getfield 25, 3) := by decide +kernel
theorem dX11_rescue_4 : decode cX11_rescue 4 = .ok (.invokevirtual 153, 3) := by decide +kernel
theorem dX11_rescue_7 : decode cX11_rescue 7 = .ok (.ifCond .ne 6, 3) := by decide +kernel
theorem dX11_rescue_10 : decode cX11_rescue 10 = .ok (.ldc 156, 2) := by decide +kernel
theorem dX11_rescue_12 : decode cX11_rescue 12 = .ok (.ireturn, 1) := by decide +kernel
theorem dX11_rescue_13 : decode cX11_rescue 13 = .ok (.iload_n 1, 1) := by decide +kernel
theorem dX11_rescue_14 : decode cX11_rescue 14 = .ok (.ifCond .ge 6, 3) := by decide +kernel
theorem dX11_rescue_17 : decode cX11_rescue 17 = .ok (.ldc 66, 2) := by decide +kernel
theorem dX11_rescue_19 : decode cX11_rescue 19 = .ok (.ireturn, 1) := by decide +kernel
theorem dX11_rescue_20 : decode cX11_rescue 20 = .ok (.aload_n 0, 1) := by decide +kernel
theorem dX11_rescue_21 : decode cX11_rescue 21 = .ok (.getfield 25, 3) := by decide +kernel
theorem dX11_rescue_24 : decode cX11_rescue 24 = .ok (.invokevirtual 256, 3) := by decide +kernel
theorem dX11_rescue_27 : decode cX11_rescue 27 = .ok (.istore_n 2, 1) := by decide +kernel
theorem dX11_rescue_28 : decode cX11_rescue 28 = .ok (.aload_n 0, 1) := by decide +kernel
theorem dX11_rescue_29 : decode cX11_rescue 29 = .ok (.iload_n 2, 1) := by decide +kernel
theorem dX11_rescue_30 : decode cX11_rescue 30 = .ok (.invokevirtual 259, 3) := by decide +kernel
theorem dX11_rescue_33 : decode cX11_rescue 33 = .ok (.aload_n 0, 1) := by decide +kernel
theorem dX11_rescue_34 : decode cX11_rescue 34 = .ok (.getfield 53, 3) := by decide +kernel
theorem dX11_rescue_37 : decode cX11_rescue 37 = .ok (.iload_n 2, 1) := by decide +kernel
theorem dX11_rescue_38 : decode cX11_rescue 38 = .ok (.baload, 1) := by decide +kernel
theorem dX11_rescue_39 : decode cX11_rescue 39 = .ok (.ifCond .ne 6, 3) := by decide +kernel
theorem dX11_rescue_42 : decode cX11_rescue 42 = .ok (.ldc 160, 2) := by decide +kernel
theorem dX11_rescue_44 : decode cX11_rescue 44 = .ok (.ireturn, 1) := by decide +kernel
theorem dX11_rescue_45 : decode cX11_rescue 45 = .ok (.iconst 0, 1) := by decide +kernel
theorem dX11_rescue_46 : decode cX11_rescue 46 = .ok (.istore_n 3, 1) := by decide +kernel
theorem dX11_rescue_47 : decode cX11_rescue 47 = .ok (.iload_n 2, 1) := by decide +kernel
theorem dX11_rescue_48 : decode cX11_rescue 48 = .ok (.ifCond .eq 39, 3) := by decide +kernel
theorem dX11_rescue_51 : decode cX11_rescue 51 = .ok (.iload_n 3, 1) := by decide +kernel
theorem dX11_rescue_52 : decode cX11_rescue 52 = .ok (.bipush 7, 2) := by decide +kernel
theorem dX11_rescue_54 : decode cX11_rescue 54 = .ok (.if_icmp .ge 33, 3) := by decide +kernel
theorem dX11_rescue_57 : decode cX11_rescue 57 = .ok (.aload_n 0, 1) := by decide +kernel
theorem dX11_rescue_58 : decode cX11_rescue 58 = .ok (.iload_n 2, 1) := by decide +kernel
theorem dX11_rescue_59 : decode cX11_rescue 59 = .ok (.invokevirtual 263, 3) := by decide +kernel
theorem dX11_rescue_62 : decode cX11_rescue 62 = .ok (.istore 4, 2) := by decide +kernel
theorem dX11_rescue_64 : decode cX11_rescue 64 = .ok (.iload_n 3, 1) := by decide +kernel
theorem dX11_rescue_65 : decode cX11_rescue 65 = .ok (.iload_n 1, 1) := by decide +kernel
theorem dX11_rescue_66 : decode cX11_rescue 66 = .ok (.if_icmp .ne 6, 3) := by decide +kernel
theorem dX11_rescue_69 : decode cX11_rescue 69 = .ok (.iload 4, 2) := by decide +kernel
theorem dX11_rescue_71 : decode cX11_rescue 71 = .ok (.ireturn, 1) := by decide +kernel
theorem dX11_rescue_72 : decode cX11_rescue 72 = .ok (.iload_n 2, 1) := by decide +kernel
theorem dX11_rescue_73 : decode cX11_rescue 73 = .ok (.iconst 1, 1) := by decide +kernel
theorem dX11_rescue_74 : decode cX11_rescue 74 = .ok (.iload 4, 2) := by decide +kernel
theorem dX11_rescue_76 : decode cX11_rescue 76 = .ok (.ishl, 1) := by decide +kernel
theorem dX11_rescue_77 : decode cX11_rescue 77 = .ok (.iconst (-1), 1) := by decide +kernel
theorem dX11_rescue_78 : decode cX11_rescue 78 = .ok (.ixor, 1) := by decide +kernel
theorem dX11_rescue_79 : decode cX11_rescue 79 = .ok (.iand, 1) := by decide +kernel
theorem dX11_rescue_80 : decode cX11_rescue 80 = .ok (.istore_n 2, 1) := by decide +kernel
theorem dX11_rescue_81 : decode cX11_rescue 81 = .ok (.iinc 3 1, 3) := by decide +kernel
theorem dX11_rescue_84 : decode cX11_rescue 84 = .ok (.goto (-37), 3) := by decide +kernel
theorem dX11_rescue_87 : decode cX11_rescue 87 = .ok (.ldc 160, 2) := by decide +kernel
theorem dX11_rescue_89 : decode cX11_rescue 89 = .ok (.ireturn, 1) := by decide +kernel
theorem dX11_fall_0 : decode cX11_fall 0 = .ok (.aload_n 0, 1) := by decide +kernel
theorem dX11_fall_1 : decode cX11_fall 1 = .ok (.getfield 25, 3) := by decide +kernel
theorem dX11_fall_4 : decode cX11_fall 4 = .ok (.invokevirtual 153, 3) := by decide +kernel
theorem dX11_fall_7 : decode cX11_fall 7 = .ok (.ifCond .ne 6, 3) := by decide +kernel
theorem dX11_fall_10 : decode cX11_fall 10 = .ok (.ldc 156, 2) := by decide +kernel
theorem dX11_fall_12 : decode cX11_fall 12 = .ok (.ireturn, 1) := by decide +kernel
theorem dX11_fall_13 : decode cX11_fall 13 = .ok (.aload_n 0, 1) := by decide +kernel
theorem dX11_fall_14 : decode cX11_fall 14 = .ok (.getfield 29, 3) := by decide +kernel
theorem dX11_fall_17 : decode cX11_fall 17 = .ok (.aload_n 0, 1) := by decide +kernel
theorem dX11_fall_18 : decode cX11_fall 18 = .ok (.getfield 25, 3) := by decide +kernel
theorem dX11_fall_21 : decode cX11_fall 21 = .ok (.invokevirtual 124, 3) := by decide +kernel
theorem dX11_fall_24 : decode cX11_fall 24 = .ok (.iconst 0, 1) := by decide +kernel
theorem dX11_fall_25 : decode cX11_fall 25 = .ok (.istore_n 1, 1) := by decide +kernel
theorem dX11_fall_26 : decode cX11_fall 26 = .ok (.iload_n 1, 1) := by decide +kernel
theorem dX11_fall_27 : decode cX11_fall 27 = .ok (.bipush 99, 2) := by decide +kernel
theorem dX11_fall_29 : decode cX11_fall 29 = .ok (.if_icmp .gt 28, 3) := by decide +kernel
theorem dX11_fall_32 : decode cX11_fall 32 = .ok (.aload_n 0, 1) := by decide +kernel
theorem dX11_fall_33 : decode cX11_fall 33 = .ok (.getfield 29, 3) := by decide +kernel
theorem dX11_fall_36 : decode cX11_fall 36 = .ok (.invokevirtual 164, 3) := by decide +kernel
theorem dX11_fall_39 : decode cX11_fall 39 = .ok (.ifCond .eq 5, 3) := by decide +kernel
theorem dX11_fall_42 : decode cX11_fall 42 = .ok (.iload_n 1, 1) := by decide +kernel
theorem dX11_fall_43 : decode cX11_fall 43 = .ok (.ireturn, 1) := by decide +kernel
theorem dX11_fall_44 : decode cX11_fall 44 = .ok (.aload_n 0, 1) := by decide +kernel
theorem dX11_fall_45 : decode cX11_fall 45 = .ok (.getfield 29, 3) := by decide +kernel
theorem dX11_fall_48 : decode cX11_fall 48 = .ok (.invokevirtual 178, 3) := by decide +kernel
theorem dX11_fall_51 : decode cX11_fall 51 = .ok (.iinc 1 1, 3) := by decide +kernel
theorem dX11_fall_54 : decode cX11_fall 54 = .ok (.goto (-28), 3) := by decide +kernel
theorem dX11_fall_57 : decode cX11_fall 57 = .ok (.ldc 160, 2) := by decide +kernel
theorem dX11_fall_59 : decode cX11_fall 59 = .ok (.ireturn, 1) := by decide +kernel
theorem dX11_bells_0 : decode cX11_bells 0 = .ok (.aload_n 0, 1) := by decide +kernel
theorem dX11_bells_1 : decode cX11_bells 1 = .ok (.iload_n 1, 1) := by decide +kernel
theorem dX11_bells_2 : decode cX11_bells 2 = .ok (.invokevirtual 62, 3) := by decide +kernel
theorem dX11_bells_5 : decode cX11_bells 5 = .ok (.astore 4, 2) := by decide +kernel
theorem dX11_bells_7 : decode cX11_bells 7 = .ok (.aload 4, 2) := by decide +kernel
theorem dX11_bells_9 : decode cX11_bells 9 = .ok (.ifnull 18, 3) := by decide +kernel
theorem dX11_bells_12 : decode cX11_bells 12 = .ok (.iload_n 2, 1) := by decide +kernel
theorem dX11_bells_13 : decode cX11_bells 13 = .ok (.iconst 1, 1) := by decide +kernel
theorem dX11_bells_14 : decode cX11_bells 14 = .ok (.if_icmp .lt 13, 3) := by decide +kernel
theorem dX11_bells_17 : decode cX11_bells 17 = .ok (.iload_n 2, 1) := by decide +kernel
theorem dX11_bells_18 : decode cX11_bells 18 = .ok (.iconst 5, 1) := by decide +kernel
theorem dX11_bells_19 : decode cX11_bells 19 = .ok (.if_icmp .gt 8, 3) := by decide +kernel
theorem dX11_bells_22 : decode cX11_bells 22 = .ok (.iload_n 3, 1) := by decide +kernel
theorem dX11_bells_23 : decode cX11_bells 23 = .ok (.iconst (-1), 1) := by decide +kernel
theorem dX11_bells_24 : decode cX11_bells 24 = .ok (.if_icmp .ge 6, 3) := by decide +kernel
theorem dX11_bells_27 : decode cX11_bells 27 = .ok (.ldc 66, 2) := by decide +kernel
theorem dX11_bells_29 : decode cX11_bells 29 = .ok (.ireturn, 1) := by decide +kernel
theorem dX11_bells_30 : decode cX11_bells 30 = .ok (.aload 4, 2) := by decide +kernel
theorem dX11_bells_32 : decode cX11_bells 32 = .ok (.invokevirtual 78, 3) := by decide +kernel
theorem dX11_bells_35 : decode cX11_bells 35 = .ok (.ifCond .eq 9, 3) := by decide +kernel
theorem dX11_bells_38 : decode cX11_bells 38 = .ok (.aload_n 0, 1) := by decide +kernel
theorem dX11_bells_39 : decode cX11_bells 39 = .ok (.iconst 1, 1) := by decide +kernel
theorem dX11_bells_40 : decode cX11_bells 40 = .ok (.invokevirtual 67, 3) := by decide +kernel
theorem dX11_bells_43 : decode cX11_bells 43 = .ok (.ireturn, 1) := by decide +kernel
theorem dX11_bells_44 : decode cX11_bells 44 = .ok (.aload 4, 2) := by decide +kernel
theorem dX11_bells_46 : decode cX11_bells 46 = .ok (.getfield 82, 3) := by decide +kernel
theorem dX11_bells_49 : decode cX11_bells 49 = .ok (.iload_n 2, 1) := by decide +kernel
theorem dX11_bells_50 : decode cX11_bells 50 = .ok (.if_icmp .ge 9, 3) := by decide +kernel
theorem dX11_bells_53 : decode cX11_bells 53 = .ok (.aload_n 0, 1) := by decide +kernel
theorem dX11_bells_54 : decode cX11_bells 54 = .ok (.iconst 2, 1) := by decide +kernel
theorem dX11_bells_55 : decode cX11_bells 55 = .ok (.invokevirtual 67, 3) := by decide +kernel
theorem dX11_bells_58 : decode cX11_bells 58 = .ok (.ireturn, 1) := by decide +kernel
theorem dX11_bells_59 : decode cX11_bells 59 = .ok (.aload 4, 2) := by decide +kernel
theorem dX11_bells_61 : decode cX11_bells 61 = .ok (.iload_n 2, 1) := by decide +kernel
theorem dX11_bells_62 : decode cX11_bells 62 = .ok (.iconst 1, 1) := by decide +kernel
theorem dX11_bells_63 : decode cX11_bells 63 = .ok (.bipush 20, 2) := by decide +kernel
theorem dX11_bells_65 : decode cX11_bells 65 = .ok (.invokevirtual 249, 3) := by decide +kernel
theorem dX11_bells_68 : decode cX11_bells 68 = .ok (.ifCond .ne 6, 3) := by decide +kernel
theorem dX11_bells_71 : decode cX11_bells 71 = .ok (.ldc 66, 2) := by decide +kernel
theorem dX11_bells_73 : decode cX11_bells 73 = .ok (.ireturn, 1) := by decide +kernel
theorem dX11_bells_74 : decode cX11_bells 74 = .ok (.iload_n 3, 1) := by decide +kernel
theorem dX11_bells_75 : decode cX11_bells 75 = .ok (.iload_n 2, 1) := by decide +kernel
theorem dX11_bells_76 : decode cX11_bells 76 = .ok (.if_icmp .lt 10, 3) := by decide +kernel
theorem dX11_bells_79 : decode cX11_bells 79 = .ok (.aload_n 0, 1) := by decide +kernel
theorem dX11_bells_80 : decode cX11_bells 80 = .ok (.ldc 160, 2) := by decide +kernel
theorem dX11_bells_82 : decode cX11_bells 82 = .ok (.invokevirtual 75, 3) := by decide +kernel
theorem dX11_bells_85 : decode cX11_bells 85 = .ok (.ireturn, 1) := by decide +kernel
theorem dX11_bells_86 : decode cX11_bells 86 = .ok (.aload_n 0, 1) := by decide +kernel
theorem dX11_bells_87 : decode cX11_bells 87 = .ok (.getfield 49, 3) := by decide +kernel
theorem dX11_bells_90 : decode cX11_bells 90 = .ok (.aload 4, 2) := by decide +kernel
theorem dX11_bells_92 : decode cX11_bells 92 = .ok (.getfield 86, 3) := by decide +kernel
theorem dX11_bells_95 : decode cX11_bells 95 = .ok (.iload_n 2, 1) := by decide +kernel
theorem dX11_bells_96 : decode cX11_bells 96 = .ok (.invokevirtual 266, 3) := by decide +kernel
theorem dX11_bells_99 : decode cX11_bells 99 = .ok (.aload_n 0, 1) := by decide +kernel
theorem dX11_bells_100 : decode cX11_bells 100 = .ok (.iload_n 3, 1) := by decide +kernel
theorem dX11_bells_101 : decode cX11_bells 101 = .ok (.iconst (-1), 1) := by decide +kernel
theorem dX11_bells_102 : decode cX11_bells 102 = .ok (.if_icmp .ne 13, 3) := by decide +kernel
theorem dX11_bells_105 : decode cX11_bells 105 = .ok (.aload_n 0, 1) := by decide +kernel
theorem dX11_bells_106 : decode cX11_bells 106 = .ok (.getfield 49, 3) := by decide +kernel
theorem dX11_bells_109 : decode cX11_bells 109 = .ok (.getfield 270, 3) := by decide +kernel
theorem dX11_bells_112 : decode cX11_bells 112 = .ok (.goto 12, 3) := by decide +kernel
theorem dX11_bells_115 : decode cX11_bells 115 = .ok (.aload_n 0, 1) := by decide +kernel
theorem dX11_bells_116 : decode cX11_bells 116 = .ok (.getfield 49, 3) := by decide +kernel
theorem dX11_bells_119 : decode cX11_bells 119 = .ok (.getfield 273, 3) := by decide +kernel
theorem dX11_bells_122 : decode cX11_bells 122 = .ok (.iload_n 3, 1) := by decide +kernel
theorem dX11_bells_123 : decode cX11_bells 123 = .ok (.iaload, 1) := by decide +kernel
theorem dX11_bells_124 : decode cX11_bells 124 = .ok (.invokevirtual 75, 3) := by decide +kernel
theorem dX11_bells_127 : decode cX11_bells 127 = .ok (.ireturn, 1) := by decide +kernel
theorem dX11_image_0 : decode cX11_image 0 = .ok (.iload_n 1, 1) := by decide +kernel
theorem dX11_image_1 : decode cX11_image 1 = .ok (.ifCond .lt 8, 3) := by decide +kernel
theorem dX11_image_4 : decode cX11_image 4 = .ok (.iload_n 1, 1) := by decide +kernel
theorem dX11_image_5 : decode cX11_image 5 = .ok (.iconst 2, 1) := by decide +kernel
theorem dX11_image_6 : decode cX11_image 6 = .ok (.if_icmp .lt 6, 3) := by decide +kernel
theorem dX11_image_9 : decode cX11_image 9 = .ok (.ldc 66, 2) := by decide +kernel
theorem dX11_image_11 : decode cX11_image 11 = .ok (.ireturn, 1) := by decide +kernel
theorem dX11_image_12 : decode cX11_image 12 = .ok (.aload_n 0, 1) := by decide +kernel
theorem dX11_image_13 : decode cX11_image 13 = .ok (.getfield 25, 3) := by decide +kernel
theorem dX11_image_16 : decode cX11_image 16 = .ok (.invokevirtual 153, 3) := by decide +kernel
theorem dX11_image_19 : decode cX11_image 19 = .ok (.ifCond .ne 6, 3) := by decide +kernel
theorem dX11_image_22 : decode cX11_image 22 = .ok (.ldc 156, 2) := by decide +kernel
theorem dX11_image_24 : decode cX11_image 24 = .ok (.ireturn, 1) := by decide +kernel
theorem dX11_image_25 : decode cX11_image 25 = .ok (.aload_n 0, 1) := by decide +kernel
theorem dX11_image_26 : decode cX11_image 26 = .ok (.getfield 36, 3) := by decide +kernel
theorem dX11_image_29 : decode cX11_image 29 = .ok (.iload_n 1, 1) := by decide +kernel
theorem dX11_image_30 : decode cX11_image 30 = .ok (.aaload, 1) := by decide +kernel
theorem dX11_image_31 : decode cX11_image 31 = .ok (.aload_n 0, 1) := by decide +kernel
theorem dX11_image_32 : decode cX11_image 32 = .ok (.getfield 25, 3) := by decide +kernel
theorem dX11_image_35 : decode cX11_image 35 = .ok (.invokevirtual 124, 3) := by decide +kernel
theorem dX11_image_38 : decode cX11_image 38 = .ok (.iconst 1, 1) := by decide +kernel
theorem dX11_image_39 : decode cX11_image 39 = .ok (.ireturn, 1) := by decide +kernel
theorem dX11_restore_0 : decode cX11_restore 0 = .ok (.iload_n 1, 1) := by decide +kernel
theorem dX11_restore_1 : decode cX11_restore 1 = .ok (.ifCond .lt 8, 3) := by decide +kernel
theorem dX11_restore_4 : decode cX11_restore 4 = .ok (.iload_n 1, 1) := by decide +kernel
theorem dX11_restore_5 : decode cX11_restore 5 = .ok (.iconst 2, 1) := by decide +kernel
theorem dX11_restore_6 : decode cX11_restore 6 = .ok (.if_icmp .lt 6, 3) := by decide +kernel
theorem dX11_restore_9 : decode cX11_restore 9 = .ok (.ldc 66, 2) := by decide +kernel
theorem dX11_restore_11 : decode cX11_restore 11 = .ok (.ireturn, 1) := by decide +kernel
theorem dX11_restore_12 : decode cX11_restore 12 = .ok (.aload_n 0, 1) := by decide +kernel
theorem dX11_restore_13 : decode cX11_restore 13 = .ok (.getfield 36, 3) := by decide +kernel
theorem dX11_restore_16 : decode cX11_restore 16 = .ok (.iload_n 1, 1) := by decide +kernel
theorem dX11_restore_17 : decode cX11_restore 17 = .ok (.aaload, 1) := by decide +kernel
theorem dX11_restore_18 : decode cX11_restore 18 = .ok (.invokevirtual 153, 3) := by decide +kernel
theorem dX11_restore_21 : decode cX11_restore 21 = .ok (.ifCond .ne 6, 3) := by decide +kernel
theorem dX11_restore_24 : decode cX11_restore 24 = .ok (.ldc 156, 2) := by decide +kernel
theorem dX11_restore_26 : decode cX11_restore 26 = .ok (.ireturn, 1) := by decide +kernel
theorem dX11_restore_27 : decode cX11_restore 27 = .ok (.aload_n 0, 1) := by decide +kernel
theorem dX11_restore_28 : decode cX11_restore 28 = .ok (.getfield 25, 3) := by decide +kernel
theorem dX11_restore_31 : decode cX11_restore 31 = .ok (.aload_n 0, 1) := by decide +kernel
theorem dX11_restore_32 : decode cX11_restore 32 = .ok (.getfield 36, 3) := by decide +kernel
theorem dX11_restore_35 : decode cX11_restore 35 = .ok (.iload_n 1, 1) := by decide +kernel
theorem dX11_restore_36 : decode cX11_restore 36 = .ok (.aaload, 1) := by decide +kernel
theorem dX11_restore_37 : decode cX11_restore 37 = .ok (.invokevirtual 124, 3) := by decide +kernel
theorem dX11_restore_40 : decode cX11_restore 40 = .ok (.aload_n 0, 1) := by decide +kernel
theorem dX11_restore_41 : decode cX11_restore 41 = .ok (.iconst 0, 1) := by decide +kernel
theorem dX11_restore_42 : decode cX11_restore 42 = .ok (.putfield 128, 3) := by decide +kernel
theorem dX11_restore_45 : decode cX11_restore 45 = .ok (.iconst 1, 1) := by decide +kernel
theorem dX11_restore_46 : decode cX11_restore 46 = .ok (.ireturn, 1) := by decide +kernel
theorem dX11_kind_0 : decode cX11_kind 0 = .ok (.aload_n 0, 1) := by decide +kernel
theorem dX11_kind_1 : decode cX11_kind 1 = .ok (.getfield 25, 3) := by decide +kernel
theorem dX11_kind_4 : decode cX11_kind 4 = .ok (.iload_n 1, 1) := by decide +kernel
theorem dX11_kind_5 : decode cX11_kind 5 = .ok (.invokevirtual 184, 3) := by decide +kernel
theorem dX11_kind_8 : decode cX11_kind 8 = .ok (.astore_n 2, 1) := by decide +kernel
theorem dX11_kind_9 : decode cX11_kind 9 = .ok (.aload_n 2, 1) := by decide +kernel
theorem dX11_kind_10 : decode cX11_kind 10 = .ok (.ifnonnull 8, 3) := by decide +kernel
theorem dX11_kind_13 : decode cX11_kind 13 = .ok (.ldc 66, 2) := by decide +kernel
theorem dX11_kind_15 : decode cX11_kind 15 = .ok (.goto 7, 3) := by decide +kernel
theorem dX11_kind_18 : decode cX11_kind 18 = .ok (.aload_n 2, 1) := by decide +kernel
theorem dX11_kind_19 : decode cX11_kind 19 = .ok (.invokevirtual 276, 3) := by decide +kernel
theorem dX11_kind_22 : decode cX11_kind 22 = .ok (.ireturn, 1) := by decide +kernel
theorem dX11_as_0 : decode cX11_as 0 = .ok (.aload_n 0, 1) := by decide +kernel
theorem dX11_as_1 : decode cX11_as 1 = .ok (.getfield 25, 3) := by decide +kernel
theorem dX11_as_4 : decode cX11_as 4 = .ok (.iload_n 1, 1) := by decide +kernel
theorem dX11_as_5 : decode cX11_as 5 = .ok (.invokevirtual 184, 3) := by decide +kernel
theorem dX11_as_8 : decode cX11_as 8 = .ok (.astore_n 3, 1) := by decide +kernel
theorem dX11_as_9 : decode cX11_as 9 = .ok (.aload_n 3, 1) := by decide +kernel
theorem dX11_as_10 : decode cX11_as 10 = .ok (.ifnull 12, 3) := by decide +kernel
theorem dX11_as_13 : decode cX11_as 13 = .ok (.iload_n 2, 1) := by decide +kernel
theorem dX11_as_14 : decode cX11_as 14 = .ok (.ifCond .lt 8, 3) := by decide +kernel
theorem dX11_as_17 : decode cX11_as 17 = .ok (.iload_n 2, 1) := by decide +kernel
theorem dX11_as_18 : decode cX11_as 18 = .ok (.iconst 5, 1) := by decide +kernel
theorem dX11_as_19 : decode cX11_as 19 = .ok (.if_icmp .le 6, 3) := by decide +kernel
theorem dX11_as_22 : decode cX11_as 22 = .ok (.ldc 66, 2) := by decide +kernel
theorem dX11_as_24 : decode cX11_as 24 = .ok (.ireturn, 1) := by decide +kernel
theorem dX11_as_25 : decode cX11_as 25 = .ok (.aload_n 3, 1) := by decide +kernel
theorem dX11_as_26 : decode cX11_as 26 = .ok (.iload_n 2, 1) := by decide +kernel
theorem dX11_as_27 : decode cX11_as 27 = .ok (.invokestatic 279, 3) := by decide +kernel
theorem dX11_as_30 : decode cX11_as 30 = .ok (.ifCond .eq 11, 3) := by decide +kernel
theorem dX11_as_33 : decode cX11_as 33 = .ok (.aload_n 0, 1) := by decide +kernel
theorem dX11_as_34 : decode cX11_as 34 = .ok (.iload_n 1, 1) := by decide +kernel
theorem dX11_as_35 : decode cX11_as 35 = .ok (.invokevirtual 75, 3) := by decide +kernel
theorem dX11_as_38 : decode cX11_as 38 = .ok (.goto 8, 3) := by decide +kernel
theorem dX11_as_41 : decode cX11_as 41 = .ok (.aload_n 0, 1) := by decide +kernel
theorem dX11_as_42 : decode cX11_as 42 = .ok (.iconst 3, 1) := by decide +kernel
theorem dX11_as_43 : decode cX11_as 43 = .ok (.invokevirtual 67, 3) := by decide +kernel
theorem dX11_as_46 : decode cX11_as 46 = .ok (.ireturn, 1) := by decide +kernel
theorem dX11_ask_0 : decode cX11_ask 0 = .ok (.aload_n 0, 1) := by decide +kernel
theorem dX11_ask_1 : decode cX11_ask 1 = .ok (.getfield 25, 3) := by decide +kernel
theorem dX11_ask_4 : decode cX11_ask 4 = .ok (.iload_n 1, 1) := by decide +kernel
theorem dX11_ask_5 : decode cX11_ask 5 = .ok (.invokevirtual 184, 3) := by decide +kernel
theorem dX11_ask_8 : decode cX11_ask 8 = .ok (.astore_n 3, 1) := by decide +kernel
theorem dX11_ask_9 : decode cX11_ask 9 = .ok (.aload_n 3, 1) := by decide +kernel
theorem dX11_ask_10 : decode cX11_ask 10 = .ok (.ifnull 12, 3) := by decide +kernel
theorem dX11_ask_13 : decode cX11_ask 13 = .ok (.iload_n 2, 1) := by decide +kernel
theorem dX11_ask_14 : decode cX11_ask 14 = .ok (.ifCond .lt 8, 3) := by decide +kernel
theorem dX11_ask_17 : decode cX11_ask 17 = .ok (.iload_n 2, 1) := by decide +kernel
theorem dX11_ask_18 : decode cX11_ask 18 = .ok (.iconst 1, 1) := by decide +kernel
theorem dX11_ask_19 : decode cX11_ask 19 = .ok (.if_icmp .le 6, 3) := by decide +kernel
theorem dX11_ask_22 : decode cX11_ask 22 = .ok (.ldc 66, 2) := by decide +kernel
theorem dX11_ask_24 : decode cX11_ask 24 = .ok (.ireturn, 1) := by decide +kernel
theorem dX11_ask_25 : decode cX11_ask 25 = .ok (.aload_n 0, 1) := by decide +kernel
theorem dX11_ask_26 : decode cX11_ask 26 = .ok (.getfield 42, 3) := by decide +kernel
theorem dX11_ask_29 : decode cX11_ask 29 = .ok (.iconst 0, 1) := by decide +kernel
theorem dX11_ask_30 : decode cX11_ask 30 = .ok (.putfield 283, 3) := by decide +kernel
theorem dX11_ask_33 : decode cX11_ask 33 = .ok (.iload_n 2, 1) := by decide +kernel
theorem dX11_ask_34 : decode cX11_ask 34 = .ok (.ifCond .ne 14, 3) := by decide +kernel
theorem dX11_ask_37 : decode cX11_ask 37 = .ok (.aload_n 3, 1) := by decide +kernel
theorem dX11_ask_38 : decode cX11_ask 38 = .ok (.aload_n 0, 1) := by decide +kernel
theorem dX11_ask_39 : decode cX11_ask 39 = .ok (.getfield 42, 3) := by decide +kernel
theorem dX11_ask_42 : decode cX11_ask 42 = .ok (.invokevirtual 284, 3) := by decide +kernel
theorem dX11_ask_45 : decode cX11_ask 45 = .ok (.goto 11, 3) := by decide +kernel
theorem dX11_ask_48 : decode cX11_ask 48 = .ok (.aload_n 3, 1) := by decide +kernel
theorem dX11_ask_49 : decode cX11_ask 49 = .ok (.aload_n 0, 1) := by decide +kernel
theorem dX11_ask_50 : decode cX11_ask 50 = .ok (.getfield 42, 3) := by decide +kernel
theorem dX11_ask_53 : decode cX11_ask 53 = .ok (.invokevirtual 288, 3) := by decide +kernel
theorem dX11_ask_56 : decode cX11_ask 56 = .ok (.ireturn, 1) := by decide +kernel
theorem dX11_trace_0 : decode cX11_trace 0 = .ok (.iload_n 1, 1) := by decide +kernel
theorem dX11_trace_1 : decode cX11_trace 1 = .ok (.ifCond .lt 14, 3) := by decide +kernel
theorem dX11_trace_4 : decode cX11_trace 4 = .ok (.iload_n 1, 1) := by decide +kernel
theorem dX11_trace_5 : decode cX11_trace 5 = .ok (.aload_n 0, 1) := by decide +kernel
theorem dX11_trace_6 : decode cX11_trace 6 = .ok (.getfield 42, 3) := by decide +kernel
theorem dX11_trace_9 : decode cX11_trace 9 = .ok (.getfield 283, 3) := by decide +kernel
theorem dX11_trace_12 : decode cX11_trace 12 = .ok (.if_icmp .lt 8, 3) := by decide +kernel
theorem dX11_trace_15 : decode cX11_trace 15 = .ok (.ldc 160, 2) := by decide +kernel
theorem dX11_trace_17 : decode cX11_trace 17 = .ok (.goto 12, 3) := by decide +kernel
theorem dX11_trace_20 : decode cX11_trace 20 = .ok (.aload_n 0, 1) := by decide +kernel
theorem dX11_trace_21 : decode cX11_trace 21 = .ok (.getfield 42, 3) := by decide +kernel
theorem dX11_trace_24 : decode cX11_trace 24 = .ok (.getfield 291, 3) := by decide +kernel
theorem dX11_trace_27 : decode cX11_trace 27 = .ok (.iload_n 1, 1) := by decide +kernel
theorem dX11_trace_28 : decode cX11_trace 28 = .ok (.iaload, 1) := by decide +kernel
theorem dX11_trace_29 : decode cX11_trace 29 = .ok (.ireturn, 1) := by decide +kernel
theorem dX11_count_0 : decode cX11_count 0 = .ok (.iload_n 1, 1) := by decide +kernel
theorem dX11_count_1 : decode cX11_count 1 = .ok (.tableswitch 96 0 6 #[43, 48, 56, 64, 72, 77, 88], 43) := by decide +kernel
theorem dX11_count_44 : decode cX11_count 44 = .ok (.aload_n 0, 1) := by decide +kernel
theorem dX11_count_45 : decode cX11_count 45 = .ok (.invokevirtual 294, 3) := by decide +kernel
theorem dX11_count_48 : decode cX11_count 48 = .ok (.ireturn, 1) := by decide +kernel
theorem dX11_count_49 : decode cX11_count 49 = .ok (.aload_n 0, 1) := by decide +kernel
theorem dX11_count_50 : decode cX11_count 50 = .ok (.getfield 25, 3) := by decide +kernel
theorem dX11_count_53 : decode cX11_count 53 = .ok (.getfield 131, 3) := by decide +kernel
theorem dX11_count_56 : decode cX11_count 56 = .ok (.ireturn, 1) := by decide +kernel
theorem dX11_count_57 : decode cX11_count 57 = .ok (.aload_n 0, 1) := by decide +kernel
theorem dX11_count_58 : decode cX11_count 58 = .ok (.getfield 25, 3) := by decide +kernel
theorem dX11_count_61 : decode cX11_count 61 = .ok (.getfield 234, 3) := by decide +kernel
theorem dX11_count_64 : decode cX11_count 64 = .ok (.ireturn, 1) := by decide +kernel
theorem dX11_count_65 : decode cX11_count 65 = .ok (.aload_n 0, 1) := by decide +kernel
theorem dX11_count_66 : decode cX11_count 66 = .ok (.getfield 25, 3) := by decide +kernel
theorem dX11_count_69 : decode cX11_count 69 = .ok (.getfield 157, 3) := by decide +kernel
theorem dX11_count_72 : decode cX11_count 72 = .ok (.ireturn, 1) := by decide +kernel
theorem dX11_count_73 : decode cX11_count 73 = .ok (.aload_n 0, 1) := by decide +kernel
theorem dX11_count_74 : decode cX11_count 74 = .ok (.getfield 128, 3) := by decide +kernel
theorem dX11_count_77 : decode cX11_count 77 = .ok (.ireturn, 1) := by decide +kernel
theorem dX11_count_78 : decode cX11_count 78 = .ok (.aload_n 0, 1) := by decide +kernel
theorem dX11_count_79 : decode cX11_count 79 = .ok (.getfield 25, 3) := by decide +kernel
theorem dX11_count_82 : decode cX11_count 82 = .ok (.invokevirtual 256, 3) := by decide +kernel
theorem dX11_count_85 : decode cX11_count 85 = .ok (.invokestatic 216, 3) := by decide +kernel
theorem dX11_count_88 : decode cX11_count 88 = .ok (.ireturn, 1) := by decide +kernel
theorem dX11_count_89 : decode cX11_count 89 = .ok (.aload_n 0, 1) := by decide +kernel
theorem dX11_count_90 : decode cX11_count 90 = .ok (.getfield 18, 3) := by decide +kernel
theorem dX11_count_93 : decode cX11_count 93 = .ok (.getfield 108, 3) := by decide +kernel
theorem dX11_count_96 : decode cX11_count 96 = .ok (.ireturn, 1) := by decide +kernel
theorem dX11_count_97 : decode cX11_count 97 = .ok (.ldc 66, 2) := by decide +kernel
theorem dX11_count_99 : decode cX11_count 99 = .ok (.ireturn, 1) := by decide +kernel
theorem dX11_status_0 : decode cX11_status 0 = .ok (.aload_n 0, 1) := by decide +kernel
theorem dX11_status_1 : decode cX11_status 1 = .ok (.getfield 297, 3) := by decide +kernel
theorem dX11_status_4 : decode cX11_status 4 = .ok (.ireturn, 1) := by decide +kernel
theorem dX11_rowAt_0 : decode cX11_rowAt 0 = .ok (.iload_n 1, 1) := by decide +kernel
theorem dX11_rowAt_1 : decode cX11_rowAt 1 = .ok (.ifCond .lt 9, 3) := by decide +kernel
theorem dX11_rowAt_4 : decode cX11_rowAt 4 = .ok (.iload_n 1, 1) := by decide +kernel
theorem dX11_rowAt_5 : decode cX11_rowAt 5 = .ok (.bipush 8, 2) := by decide +kernel
theorem dX11_rowAt_7 : decode cX11_rowAt 7 = .ok (.if_icmp .lt 7, 3) := by decide +kernel
theorem dX11_rowAt_10 : decode cX11_rowAt 10 = .ok (.aconst_null, 1) := by decide +kernel
theorem dX11_rowAt_11 : decode cX11_rowAt 11 = .ok (.goto 9, 3) := by decide +kernel
theorem dX11_rowAt_14 : decode cX11_rowAt 14 = .ok (.aload_n 0, 1) := by decide +kernel
theorem dX11_rowAt_15 : decode cX11_rowAt 15 = .ok (.getfield 11, 3) := by decide +kernel
theorem dX11_rowAt_18 : decode cX11_rowAt 18 = .ok (.iload_n 1, 1) := by decide +kernel
theorem dX11_rowAt_19 : decode cX11_rowAt 19 = .ok (.aaload, 1) := by decide +kernel
theorem dX11_rowAt_20 : decode cX11_rowAt 20 = .ok (.areturn, 1) := by decide +kernel
theorem dX11_rowsThere_0 : decode cX11_rowsThere 0 = .ok (.iconst 0, 1) := by decide +kernel
theorem dX11_rowsThere_1 : decode cX11_rowsThere 1 = .ok (.istore_n 1, 1) := by decide +kernel
theorem dX11_rowsThere_2 : decode cX11_rowsThere 2 = .ok (.iconst 0, 1) := by decide +kernel
theorem dX11_rowsThere_3 : decode cX11_rowsThere 3 = .ok (.istore_n 2, 1) := by decide +kernel
theorem dX11_rowsThere_4 : decode cX11_rowsThere 4 = .ok (.iload_n 2, 1) := by decide +kernel
theorem dX11_rowsThere_5 : decode cX11_rowsThere 5 = .ok (.bipush 8, 2) := by decide +kernel
theorem dX11_rowsThere_7 : decode cX11_rowsThere 7 = .ok (.if_icmp .ge 24, 3) := by decide +kernel
theorem dX11_rowsThere_10 : decode cX11_rowsThere 10 = .ok (.aload_n 0, 1) := by decide +kernel
theorem dX11_rowsThere_11 : decode cX11_rowsThere 11 = .ok (.getfield 11, 3) := by decide +kernel
theorem dX11_rowsThere_14 : decode cX11_rowsThere 14 = .ok (.iload_n 2, 1) := by decide +kernel
theorem dX11_rowsThere_15 : decode cX11_rowsThere 15 = .ok (.aaload, 1) := by decide +kernel
theorem dX11_rowsThere_16 : decode cX11_rowsThere 16 = .ok (.invokevirtual 78, 3) := by decide +kernel
theorem dX11_rowsThere_19 : decode cX11_rowsThere 19 = .ok (.ifCond .ne 6, 3) := by decide +kernel
theorem dX11_rowsThere_22 : decode cX11_rowsThere 22 = .ok (.iinc 1 1, 3) := by decide +kernel
theorem dX11_rowsThere_25 : decode cX11_rowsThere 25 = .ok (.iinc 2 1, 3) := by decide +kernel
theorem dX11_rowsThere_28 : decode cX11_rowsThere 28 = .ok (.goto (-24), 3) := by decide +kernel
theorem dX11_rowsThere_31 : decode cX11_rowsThere 31 = .ok (.iload_n 1, 1) := by decide +kernel
theorem dX11_rowsThere_32 : decode cX11_rowsThere 32 = .ok (.ireturn, 1) := by decide +kernel
theorem dX11_found_0 : decode cX11_found 0 = .ok (.aload_n 0, 1) := by decide +kernel
theorem dX11_found_1 : decode cX11_found 1 = .ok (.iload_n 1, 1) := by decide +kernel
theorem dX11_found_2 : decode cX11_found 2 = .ok (.putfield 297, 3) := by decide +kernel
theorem dX11_found_5 : decode cX11_found 5 = .ok (.ldc_w 300, 3) := by decide +kernel
theorem dX11_found_8 : decode cX11_found 8 = .ok (.iload_n 1, 1) := by decide +kernel
theorem dX11_found_9 : decode cX11_found 9 = .ok (.isub, 1) := by decide +kernel
theorem dX11_found_10 : decode cX11_found 10 = .ok (.ireturn, 1) := by decide +kernel
theorem dX11_clean_0 : decode cX11_clean 0 = .ok (.aload_n 0, 1) := by decide +kernel
theorem dX11_clean_1 : decode cX11_clean 1 = .ok (.iconst 0, 1) := by decide +kernel
theorem dX11_clean_2 : decode cX11_clean 2 = .ok (.putfield 297, 3) := by decide +kernel
theorem dX11_clean_5 : decode cX11_clean 5 = .ok (.iload_n 1, 1) := by decide +kernel
theorem dX11_clean_6 : decode cX11_clean 6 = .ok (.ireturn, 1) := by decide +kernel
theorem dX11_keepAct_0 : decode cX11_keepAct 0 = .ok (.aload_n 0, 1) := by decide +kernel
theorem dX11_keepAct_1 : decode cX11_keepAct 1 = .ok (.getfield 32, 3) := by decide +kernel
theorem dX11_keepAct_4 : decode cX11_keepAct 4 = .ok (.aload_n 0, 1) := by decide +kernel
theorem dX11_keepAct_5 : decode cX11_keepAct 5 = .ok (.getfield 181, 3) := by decide +kernel
theorem dX11_keepAct_8 : decode cX11_keepAct 8 = .ok (.aload_n 0, 1) := by decide +kernel
theorem dX11_keepAct_9 : decode cX11_keepAct 9 = .ok (.getfield 128, 3) := by decide +kernel
theorem dX11_keepAct_12 : decode cX11_keepAct 12 = .ok (.iadd, 1) := by decide +kernel
theorem dX11_keepAct_13 : decode cX11_keepAct 13 = .ok (.bipush 24, 2) := by decide +kernel
theorem dX11_keepAct_15 : decode cX11_keepAct 15 = .ok (.irem, 1) := by decide +kernel
theorem dX11_keepAct_16 : decode cX11_keepAct 16 = .ok (.aaload, 1) := by decide +kernel
theorem dX11_keepAct_17 : decode cX11_keepAct 17 = .ok (.aload_n 0, 1) := by decide +kernel
theorem dX11_keepAct_18 : decode cX11_keepAct 18 = .ok (.getfield 25, 3) := by decide +kernel
theorem dX11_keepAct_21 : decode cX11_keepAct 21 = .ok (.invokevirtual 124, 3) := by decide +kernel
theorem dX11_keepAct_24 : decode cX11_keepAct 24 = .ok (.aload_n 0, 1) := by decide +kernel
theorem dX11_keepAct_25 : decode cX11_keepAct 25 = .ok (.getfield 128, 3) := by decide +kernel
theorem dX11_keepAct_28 : decode cX11_keepAct 28 = .ok (.bipush 24, 2) := by decide +kernel
theorem dX11_keepAct_30 : decode cX11_keepAct 30 = .ok (.if_icmp .ne 19, 3) := by decide +kernel
theorem dX11_keepAct_33 : decode cX11_keepAct 33 = .ok (.aload_n 0, 1) := by decide +kernel
theorem dX11_keepAct_34 : decode cX11_keepAct 34 = .ok (.aload_n 0, 1) := by decide +kernel
theorem dX11_keepAct_35 : decode cX11_keepAct 35 = .ok (.getfield 181, 3) := by decide +kernel
theorem dX11_keepAct_38 : decode cX11_keepAct 38 = .ok (.iconst 1, 1) := by decide +kernel
theorem dX11_keepAct_39 : decode cX11_keepAct 39 = .ok (.iadd, 1) := by decide +kernel
theorem dX11_keepAct_40 : decode cX11_keepAct 40 = .ok (.bipush 24, 2) := by decide +kernel
theorem dX11_keepAct_42 : decode cX11_keepAct 42 = .ok (.irem, 1) := by decide +kernel
theorem dX11_keepAct_43 : decode cX11_keepAct 43 = .ok (.putfield 181, 3) := by decide +kernel
theorem dX11_keepAct_46 : decode cX11_keepAct 46 = .ok (.goto 13, 3) := by decide +kernel
theorem dX11_keepAct_49 : decode cX11_keepAct 49 = .ok (.aload_n 0, 1) := by decide +kernel
theorem dX11_keepAct_50 : decode cX11_keepAct 50 = .ok (.dup, 1) := by decide +kernel
theorem dX11_keepAct_51 : decode cX11_keepAct 51 = .ok (.getfield 128, 3) := by decide +kernel
theorem dX11_keepAct_54 : decode cX11_keepAct 54 = .ok (.iconst 1, 1) := by decide +kernel
theorem dX11_keepAct_55 : decode cX11_keepAct 55 = .ok (.iadd, 1) := by decide +kernel
theorem dX11_keepAct_56 : decode cX11_keepAct 56 = .ok (.putfield 128, 3) := by decide +kernel
theorem dX11_keepAct_59 : decode cX11_keepAct 59 = .ok (.return_, 1) := by decide +kernel
theorem dX11_mayGoUp_0 : decode cX11_mayGoUp 0 = .ok (.aload_n 0, 1) := by decide +kernel
theorem dX11_mayGoUp_1 : decode cX11_mayGoUp 1 = .ok (.getfield 29, 3) := by decide +kernel
theorem dX11_mayGoUp_4 : decode cX11_mayGoUp 4 = .ok (.aload_n 0, 1) := by decide +kernel
theorem dX11_mayGoUp_5 : decode cX11_mayGoUp 5 = .ok (.getfield 25, 3) := by decide +kernel
theorem dX11_mayGoUp_8 : decode cX11_mayGoUp 8 = .ok (.invokevirtual 124, 3) := by decide +kernel
theorem dX11_mayGoUp_11 : decode cX11_mayGoUp 11 = .ok (.iconst 0, 1) := by decide +kernel
theorem dX11_mayGoUp_12 : decode cX11_mayGoUp 12 = .ok (.istore_n 2, 1) := by decide +kernel
theorem dX11_mayGoUp_13 : decode cX11_mayGoUp 13 = .ok (.iload_n 2, 1) := by decide +kernel
theorem dX11_mayGoUp_14 : decode cX11_mayGoUp 14 = .ok (.aload_n 0, 1) := by decide +kernel
theorem dX11_mayGoUp_15 : decode cX11_mayGoUp 15 = .ok (.getfield 29, 3) := by decide +kernel
theorem dX11_mayGoUp_18 : decode cX11_mayGoUp 18 = .ok (.getfield 131, 3) := by decide +kernel
theorem dX11_mayGoUp_21 : decode cX11_mayGoUp 21 = .ok (.if_icmp .ge 28, 3) := by decide +kernel
theorem dX11_mayGoUp_24 : decode cX11_mayGoUp 24 = .ok (.iload_n 1, 1) := by decide +kernel
theorem dX11_mayGoUp_25 : decode cX11_mayGoUp 25 = .ok (.iload_n 2, 1) := by decide +kernel
theorem dX11_mayGoUp_26 : decode cX11_mayGoUp 26 = .ok (.ishr, 1) := by decide +kernel
theorem dX11_mayGoUp_27 : decode cX11_mayGoUp 27 = .ok (.iconst 1, 1) := by decide +kernel
theorem dX11_mayGoUp_28 : decode cX11_mayGoUp 28 = .ok (.iand, 1) := by decide +kernel
theorem dX11_mayGoUp_29 : decode cX11_mayGoUp 29 = .ok (.iconst 1, 1) := by decide +kernel
theorem dX11_mayGoUp_30 : decode cX11_mayGoUp 30 = .ok (.if_icmp .ne 13, 3) := by decide +kernel
theorem dX11_mayGoUp_33 : decode cX11_mayGoUp 33 = .ok (.aload_n 0, 1) := by decide +kernel
theorem dX11_mayGoUp_34 : decode cX11_mayGoUp 34 = .ok (.getfield 29, 3) := by decide +kernel
theorem dX11_mayGoUp_37 : decode cX11_mayGoUp 37 = .ok (.getfield 141, 3) := by decide +kernel
theorem dX11_mayGoUp_40 : decode cX11_mayGoUp 40 = .ok (.iload_n 2, 1) := by decide +kernel
theorem dX11_mayGoUp_41 : decode cX11_mayGoUp 41 = .ok (.iconst 1, 1) := by decide +kernel
theorem dX11_mayGoUp_42 : decode cX11_mayGoUp 42 = .ok (.iastore, 1) := by decide +kernel
theorem dX11_mayGoUp_43 : decode cX11_mayGoUp 43 = .ok (.iinc 2 1, 3) := by decide +kernel
theorem dX11_mayGoUp_46 : decode cX11_mayGoUp 46 = .ok (.goto (-33), 3) := by decide +kernel
theorem dX11_mayGoUp_49 : decode cX11_mayGoUp 49 = .ok (.aload_n 0, 1) := by decide +kernel
theorem dX11_mayGoUp_50 : decode cX11_mayGoUp 50 = .ok (.getfield 29, 3) := by decide +kernel
theorem dX11_mayGoUp_53 : decode cX11_mayGoUp 53 = .ok (.bipush 64, 2) := by decide +kernel
theorem dX11_mayGoUp_55 : decode cX11_mayGoUp 55 = .ok (.invokevirtual 209, 3) := by decide +kernel
theorem dX11_mayGoUp_58 : decode cX11_mayGoUp 58 = .ok (.ldc 160, 2) := by decide +kernel
theorem dX11_mayGoUp_60 : decode cX11_mayGoUp 60 = .ok (.if_icmp .ne 7, 3) := by decide +kernel
theorem dX11_mayGoUp_63 : decode cX11_mayGoUp 63 = .ok (.iconst 1, 1) := by decide +kernel
theorem dX11_mayGoUp_64 : decode cX11_mayGoUp 64 = .ok (.goto 4, 3) := by decide +kernel
theorem dX11_mayGoUp_67 : decode cX11_mayGoUp 67 = .ok (.iconst 0, 1) := by decide +kernel
theorem dX11_mayGoUp_68 : decode cX11_mayGoUp 68 = .ok (.ireturn, 1) := by decide +kernel
theorem dX11_worstOfTwo_0 : decode cX11_worstOfTwo 0 = .ok (.aload_n 0, 1) := by decide +kernel
theorem dX11_worstOfTwo_1 : decode cX11_worstOfTwo 1 = .ok (.getfield 29, 3) := by decide +kernel
theorem dX11_worstOfTwo_4 : decode cX11_worstOfTwo 4 = .ok (.aload_n 0, 1) := by decide +kernel
theorem dX11_worstOfTwo_5 : decode cX11_worstOfTwo 5 = .ok (.getfield 25, 3) := by decide +kernel
theorem dX11_worstOfTwo_8 : decode cX11_worstOfTwo 8 = .ok (.invokevirtual 124, 3) := by decide +kernel
theorem dX11_worstOfTwo_11 : decode cX11_worstOfTwo 11 = .ok (.aload_n 0, 1) := by decide +kernel
theorem dX11_worstOfTwo_12 : decode cX11_worstOfTwo 12 = .ok (.getfield 29, 3) := by decide +kernel
theorem dX11_worstOfTwo_15 : decode cX11_worstOfTwo 15 = .ok (.getfield 141, 3) := by decide +kernel
theorem dX11_worstOfTwo_18 : decode cX11_worstOfTwo 18 = .ok (.iload_n 1, 1) := by decide +kernel
theorem dX11_worstOfTwo_19 : decode cX11_worstOfTwo 19 = .ok (.iconst 1, 1) := by decide +kernel
theorem dX11_worstOfTwo_20 : decode cX11_worstOfTwo 20 = .ok (.iastore, 1) := by decide +kernel
theorem dX11_worstOfTwo_21 : decode cX11_worstOfTwo 21 = .ok (.aload_n 0, 1) := by decide +kernel
theorem dX11_worstOfTwo_22 : decode cX11_worstOfTwo 22 = .ok (.getfield 29, 3) := by decide +kernel
theorem dX11_worstOfTwo_25 : decode cX11_worstOfTwo 25 = .ok (.getfield 141, 3) := by decide +kernel
theorem dX11_worstOfTwo_28 : decode cX11_worstOfTwo 28 = .ok (.iload_n 2, 1) := by decide +kernel
theorem dX11_worstOfTwo_29 : decode cX11_worstOfTwo 29 = .ok (.iconst 0, 1) := by decide +kernel
theorem dX11_worstOfTwo_30 : decode cX11_worstOfTwo 30 = .ok (.iastore, 1) := by decide +kernel
theorem dX11_worstOfTwo_31 : decode cX11_worstOfTwo 31 = .ok (.aload_n 0, 1) := by decide +kernel
theorem dX11_worstOfTwo_32 : decode cX11_worstOfTwo 32 = .ok (.getfield 29, 3) := by decide +kernel
theorem dX11_worstOfTwo_35 : decode cX11_worstOfTwo 35 = .ok (.iload_n 3, 1) := by decide +kernel
theorem dX11_worstOfTwo_36 : decode cX11_worstOfTwo 36 = .ok (.invokevirtual 206, 3) := by decide +kernel
theorem dX11_worstOfTwo_39 : decode cX11_worstOfTwo 39 = .ok (.istore 4, 2) := by decide +kernel
theorem dX11_worstOfTwo_41 : decode cX11_worstOfTwo 41 = .ok (.aload_n 0, 1) := by decide +kernel
theorem dX11_worstOfTwo_42 : decode cX11_worstOfTwo 42 = .ok (.getfield 29, 3) := by decide +kernel
theorem dX11_worstOfTwo_45 : decode cX11_worstOfTwo 45 = .ok (.getfield 141, 3) := by decide +kernel
theorem dX11_worstOfTwo_48 : decode cX11_worstOfTwo 48 = .ok (.iload_n 2, 1) := by decide +kernel
theorem dX11_worstOfTwo_49 : decode cX11_worstOfTwo 49 = .ok (.iconst 1, 1) := by decide +kernel
theorem dX11_worstOfTwo_50 : decode cX11_worstOfTwo 50 = .ok (.iastore, 1) := by decide +kernel
theorem dX11_worstOfTwo_51 : decode cX11_worstOfTwo 51 = .ok (.iload 4, 2) := by decide +kernel
theorem dX11_worstOfTwo_53 : decode cX11_worstOfTwo 53 = .ok (.aload_n 0, 1) := by decide +kernel
theorem dX11_worstOfTwo_54 : decode cX11_worstOfTwo 54 = .ok (.getfield 29, 3) := by decide +kernel
theorem dX11_worstOfTwo_57 : decode cX11_worstOfTwo 57 = .ok (.bipush 64, 2) := by decide +kernel
theorem dX11_worstOfTwo_59 : decode cX11_worstOfTwo 59 = .ok (.iload_n 3, 1) := by decide +kernel
theorem dX11_worstOfTwo_60 : decode cX11_worstOfTwo 60 = .ok (.isub, 1) := by decide +kernel
theorem dX11_worstOfTwo_61 : decode cX11_worstOfTwo 61 = .ok (.invokevirtual 206, 3) := by decide +kernel
theorem dX11_worstOfTwo_64 : decode cX11_worstOfTwo 64 = .ok (.invokestatic 301, 3) := by decide +kernel
theorem dX11_worstOfTwo_67 : decode cX11_worstOfTwo 67 = .ok (.ireturn, 1) := by decide +kernel
theorem dX11_measureReach_0 : decode cX11_measureReach 0 = .ok (.aload_n 0, 1) := by decide +kernel
theorem dX11_measureReach_1 : decode cX11_measureReach 1 = .ok (.getfield 29, 3) := by decide +kernel
theorem dX11_measureReach_4 : decode cX11_measureReach 4 = .ok (.aload_n 0, 1) := by decide +kernel
theorem dX11_measureReach_5 : decode cX11_measureReach 5 = .ok (.getfield 25, 3) := by decide +kernel
theorem dX11_measureReach_8 : decode cX11_measureReach 8 = .ok (.invokevirtual 124, 3) := by decide +kernel
theorem dX11_measureReach_11 : decode cX11_measureReach 11 = .ok (.aload_n 0, 1) := by decide +kernel
theorem dX11_measureReach_12 : decode cX11_measureReach 12 = .ok (.getfield 29, 3) := by decide +kernel
theorem dX11_measureReach_15 : decode cX11_measureReach 15 = .ok (.iconst 0, 1) := by decide +kernel
theorem dX11_measureReach_16 : decode cX11_measureReach 16 = .ok (.putfield 234, 3) := by decide +kernel
theorem dX11_measureReach_19 : decode cX11_measureReach 19 = .ok (.iconst 0, 1) := by decide +kernel
theorem dX11_measureReach_20 : decode cX11_measureReach 20 = .ok (.istore_n 1, 1) := by decide +kernel
theorem dX11_measureReach_21 : decode cX11_measureReach 21 = .ok (.iload_n 1, 1) := by decide +kernel
theorem dX11_measureReach_22 : decode cX11_measureReach 22 = .ok (.bipush 64, 2) := by decide +kernel
theorem dX11_measureReach_24 : decode cX11_measureReach 24 = .ok (.if_icmp .gt 64, 3) := by decide +kernel
theorem dX11_measureReach_27 : decode cX11_measureReach 27 = .ok (.iconst 0, 1) := by decide +kernel
theorem dX11_measureReach_28 : decode cX11_measureReach 28 = .ok (.istore_n 2, 1) := by decide +kernel
theorem dX11_measureReach_29 : decode cX11_measureReach 29 = .ok (.iload_n 2, 1) := by decide +kernel
theorem dX11_measureReach_30 : decode cX11_measureReach 30 = .ok (.iconst 4, 1) := by decide +kernel
theorem dX11_measureReach_31 : decode cX11_measureReach 31 = .ok (.if_icmp .ge 44, 3) := by decide +kernel
theorem dX11_measureReach_34 : decode cX11_measureReach 34 = .ok (.aload_n 0, 1) := by decide +kernel
theorem dX11_measureReach_35 : decode cX11_measureReach 35 = .ok (.getfield 29, 3) := by decide +kernel
theorem dX11_measureReach_38 : decode cX11_measureReach 38 = .ok (.bipush 127, 2) := by decide +kernel
theorem dX11_measureReach_40 : decode cX11_measureReach 40 = .ok (.iload_n 2, 1) := by decide +kernel
theorem dX11_measureReach_41 : decode cX11_measureReach 41 = .ok (.invokevirtual 202, 3) := by decide +kernel
theorem dX11_measureReach_44 : decode cX11_measureReach 44 = .ok (.istore_n 3, 1) := by decide +kernel
theorem dX11_measureReach_45 : decode cX11_measureReach 45 = .ok (.aload_n 0, 1) := by decide +kernel
theorem dX11_measureReach_46 : decode cX11_measureReach 46 = .ok (.getfield 57, 3) := by decide +kernel
theorem dX11_measureReach_49 : decode cX11_measureReach 49 = .ok (.iload_n 2, 1) := by decide +kernel
theorem dX11_measureReach_50 : decode cX11_measureReach 50 = .ok (.iload_n 1, 1) := by decide +kernel
theorem dX11_measureReach_51 : decode cX11_measureReach 51 = .ok (.ifCond .ne 7, 3) := by decide +kernel
theorem dX11_measureReach_54 : decode cX11_measureReach 54 = .ok (.iload_n 3, 1) := by decide +kernel
theorem dX11_measureReach_55 : decode cX11_measureReach 55 = .ok (.goto 13, 3) := by decide +kernel
theorem dX11_measureReach_58 : decode cX11_measureReach 58 = .ok (.aload_n 0, 1) := by decide +kernel
theorem dX11_measureReach_59 : decode cX11_measureReach 59 = .ok (.getfield 57, 3) := by decide +kernel
theorem dX11_measureReach_62 : decode cX11_measureReach 62 = .ok (.iload_n 2, 1) := by decide +kernel
theorem dX11_measureReach_63 : decode cX11_measureReach 63 = .ok (.iaload, 1) := by decide +kernel
theorem dX11_measureReach_64 : decode cX11_measureReach 64 = .ok (.iload_n 3, 1) := by decide +kernel
theorem dX11_measureReach_65 : decode cX11_measureReach 65 = .ok (.invokestatic 301, 3) := by decide +kernel
theorem dX11_measureReach_68 : decode cX11_measureReach 68 = .ok (.iastore, 1) := by decide +kernel
theorem dX11_measureReach_69 : decode cX11_measureReach 69 = .ok (.iinc 2 1, 3) := by decide +kernel
theorem dX11_measureReach_72 : decode cX11_measureReach 72 = .ok (.goto (-43), 3) := by decide +kernel
theorem dX11_measureReach_75 : decode cX11_measureReach 75 = .ok (.aload_n 0, 1) := by decide +kernel
theorem dX11_measureReach_76 : decode cX11_measureReach 76 = .ok (.getfield 29, 3) := by decide +kernel
theorem dX11_measureReach_79 : decode cX11_measureReach 79 = .ok (.invokevirtual 161, 3) := by decide +kernel
theorem dX11_measureReach_82 : decode cX11_measureReach 82 = .ok (.iinc 1 1, 3) := by decide +kernel
theorem dX11_measureReach_85 : decode cX11_measureReach 85 = .ok (.goto (-64), 3) := by decide +kernel
theorem dX11_measureReach_88 : decode cX11_measureReach 88 = .ok (.return_, 1) := by decide +kernel
theorem dX11_worstOfHanging_0 : decode cX11_worstOfHanging 0 = .ok (.iconst 0, 1) := by decide +kernel
theorem dX11_worstOfHanging_1 : decode cX11_worstOfHanging 1 = .ok (.istore_n 2, 1) := by decide +kernel
theorem dX11_worstOfHanging_2 : decode cX11_worstOfHanging 2 = .ok (.iconst 0, 1) := by decide +kernel
theorem dX11_worstOfHanging_3 : decode cX11_worstOfHanging 3 = .ok (.istore_n 3, 1) := by decide +kernel
theorem dX11_worstOfHanging_4 : decode cX11_worstOfHanging 4 = .ok (.iload_n 3, 1) := by decide +kernel
theorem dX11_worstOfHanging_5 : decode cX11_worstOfHanging 5 = .ok (.iconst 4, 1) := by decide +kernel
theorem dX11_worstOfHanging_6 : decode cX11_worstOfHanging 6 = .ok (.if_icmp .ge 71, 3) := by decide +kernel
theorem dX11_worstOfHanging_9 : decode cX11_worstOfHanging 9 = .ok (.aload_n 0, 1) := by decide +kernel
theorem dX11_worstOfHanging_10 : decode cX11_worstOfHanging 10 = .ok (.getfield 57, 3) := by decide +kernel
theorem dX11_worstOfHanging_13 : decode cX11_worstOfHanging 13 = .ok (.iload_n 3, 1) := by decide +kernel
theorem dX11_worstOfHanging_14 : decode cX11_worstOfHanging 14 = .ok (.iaload, 1) := by decide +kernel
theorem dX11_worstOfHanging_15 : decode cX11_worstOfHanging 15 = .ok (.istore 4, 2) := by decide +kernel
theorem dX11_worstOfHanging_17 : decode cX11_worstOfHanging 17 = .ok (.iconst 0, 1) := by decide +kernel
theorem dX11_worstOfHanging_18 : decode cX11_worstOfHanging 18 = .ok (.istore 5, 2) := by decide +kernel
theorem dX11_worstOfHanging_20 : decode cX11_worstOfHanging 20 = .ok (.iload 5, 2) := by decide +kernel
theorem dX11_worstOfHanging_22 : decode cX11_worstOfHanging 22 = .ok (.aload_n 0, 1) := by decide +kernel
theorem dX11_worstOfHanging_23 : decode cX11_worstOfHanging 23 = .ok (.getfield 25, 3) := by decide +kernel
theorem dX11_worstOfHanging_26 : decode cX11_worstOfHanging 26 = .ok (.getfield 234, 3) := by decide +kernel
theorem dX11_worstOfHanging_29 : decode cX11_worstOfHanging 29 = .ok (.if_icmp .ge 35, 3) := by decide +kernel
theorem dX11_worstOfHanging_32 : decode cX11_worstOfHanging 32 = .ok (.iload 4, 2) := by decide +kernel
theorem dX11_worstOfHanging_34 : decode cX11_worstOfHanging 34 = .ok (.aload_n 0, 1) := by decide +kernel
theorem dX11_worstOfHanging_35 : decode cX11_worstOfHanging 35 = .ok (.getfield 25, 3) := by decide +kernel
theorem dX11_worstOfHanging_38 : decode cX11_worstOfHanging 38 = .ok (.getfield 304, 3) := by decide +kernel
theorem dX11_worstOfHanging_41 : decode cX11_worstOfHanging 41 = .ok (.iload 5, 2) := by decide +kernel
theorem dX11_worstOfHanging_43 : decode cX11_worstOfHanging 43 = .ok (.iaload, 1) := by decide +kernel
theorem dX11_worstOfHanging_44 : decode cX11_worstOfHanging 44 = .ok (.aload_n 0, 1) := by decide +kernel
theorem dX11_worstOfHanging_45 : decode cX11_worstOfHanging 45 = .ok (.iload_n 1, 1) := by decide +kernel
theorem dX11_worstOfHanging_46 : decode cX11_worstOfHanging 46 = .ok (.iload 5, 2) := by decide +kernel
theorem dX11_worstOfHanging_48 : decode cX11_worstOfHanging 48 = .ok (.invokevirtual 240, 3) := by decide +kernel
theorem dX11_worstOfHanging_51 : decode cX11_worstOfHanging 51 = .ok (.iload_n 3, 1) := by decide +kernel
theorem dX11_worstOfHanging_52 : decode cX11_worstOfHanging 52 = .ok (.invokestatic 307, 3) := by decide +kernel
theorem dX11_worstOfHanging_55 : decode cX11_worstOfHanging 55 = .ok (.iadd, 1) := by decide +kernel
theorem dX11_worstOfHanging_56 : decode cX11_worstOfHanging 56 = .ok (.istore 4, 2) := by decide +kernel
theorem dX11_worstOfHanging_58 : decode cX11_worstOfHanging 58 = .ok (.iinc 5 1, 3) := by decide +kernel
theorem dX11_worstOfHanging_61 : decode cX11_worstOfHanging 61 = .ok (.goto (-41), 3) := by decide +kernel
theorem dX11_worstOfHanging_64 : decode cX11_worstOfHanging 64 = .ok (.iload_n 2, 1) := by decide +kernel
theorem dX11_worstOfHanging_65 : decode cX11_worstOfHanging 65 = .ok (.iload 4, 2) := by decide +kernel
theorem dX11_worstOfHanging_67 : decode cX11_worstOfHanging 67 = .ok (.invokestatic 301, 3) := by decide +kernel
theorem dX11_worstOfHanging_70 : decode cX11_worstOfHanging 70 = .ok (.istore_n 2, 1) := by decide +kernel
theorem dX11_worstOfHanging_71 : decode cX11_worstOfHanging 71 = .ok (.iinc 3 1, 3) := by decide +kernel
theorem dX11_worstOfHanging_74 : decode cX11_worstOfHanging 74 = .ok (.goto (-70), 3) := by decide +kernel
theorem dX11_worstOfHanging_77 : decode cX11_worstOfHanging 77 = .ok (.iload_n 2, 1) := by decide +kernel
theorem dX11_worstOfHanging_78 : decode cX11_worstOfHanging 78 = .ok (.ireturn, 1) := by decide +kernel
theorem dX11_sideIn_0 : decode cX11_sideIn 0 = .ok (.iload_n 1, 1) := by decide +kernel
theorem dX11_sideIn_1 : decode cX11_sideIn 1 = .ok (.iconst 2, 1) := by decide +kernel
theorem dX11_sideIn_2 : decode cX11_sideIn 2 = .ok (.aload_n 0, 1) := by decide +kernel
theorem dX11_sideIn_3 : decode cX11_sideIn 3 = .ok (.getfield 25, 3) := by decide +kernel
theorem dX11_sideIn_6 : decode cX11_sideIn 6 = .ok (.getfield 234, 3) := by decide +kernel
theorem dX11_sideIn_9 : decode cX11_sideIn 9 = .ok (.iconst 1, 1) := by decide +kernel
theorem dX11_sideIn_10 : decode cX11_sideIn 10 = .ok (.isub, 1) := by decide +kernel
theorem dX11_sideIn_11 : decode cX11_sideIn 11 = .ok (.iload_n 2, 1) := by decide +kernel
theorem dX11_sideIn_12 : decode cX11_sideIn 12 = .ok (.isub, 1) := by decide +kernel
theorem dX11_sideIn_13 : decode cX11_sideIn 13 = .ok (.imul, 1) := by decide +kernel
theorem dX11_sideIn_14 : decode cX11_sideIn 14 = .ok (.ishr, 1) := by decide +kernel
theorem dX11_sideIn_15 : decode cX11_sideIn 15 = .ok (.iconst 3, 1) := by decide +kernel
theorem dX11_sideIn_16 : decode cX11_sideIn 16 = .ok (.iand, 1) := by decide +kernel
theorem dX11_sideIn_17 : decode cX11_sideIn 17 = .ok (.ireturn, 1) := by decide +kernel
theorem dX11_isMark_0 : decode cX11_isMark 0 = .ok (.iload_n 0, 1) := by decide +kernel
theorem dX11_isMark_1 : decode cX11_isMark 1 = .ok (.sipush (-999), 3) := by decide +kernel
theorem dX11_isMark_4 : decode cX11_isMark 4 = .ok (.if_icmp .lt 14, 3) := by decide +kernel
theorem dX11_isMark_7 : decode cX11_isMark 7 = .ok (.iload_n 0, 1) := by decide +kernel
theorem dX11_isMark_8 : decode cX11_isMark 8 = .ok (.sipush 999, 3) := by decide +kernel
theorem dX11_isMark_11 : decode cX11_isMark 11 = .ok (.if_icmp .gt 7, 3) := by decide +kernel
theorem dX11_isMark_14 : decode cX11_isMark 14 = .ok (.iconst 1, 1) := by decide +kernel
theorem dX11_isMark_15 : decode cX11_isMark 15 = .ok (.goto 4, 3) := by decide +kernel
theorem dX11_isMark_18 : decode cX11_isMark 18 = .ok (.iconst 0, 1) := by decide +kernel
theorem dX11_isMark_19 : decode cX11_isMark 19 = .ok (.ireturn, 1) := by decide +kernel
theorem dX11_setThatMakes_0 : decode cX11_setThatMakes 0 = .ok (.iconst 0, 1) := by decide +kernel
theorem dX11_setThatMakes_1 : decode cX11_setThatMakes 1 = .ok (.istore 4, 2) := by decide +kernel
theorem dX11_setThatMakes_3 : decode cX11_setThatMakes 3 = .ok (.iconst 0, 1) := by decide +kernel
theorem dX11_setThatMakes_4 : decode cX11_setThatMakes 4 = .ok (.istore 5, 2) := by decide +kernel
theorem dX11_setThatMakes_6 : decode cX11_setThatMakes 6 = .ok (.iload 5, 2) := by decide +kernel
theorem dX11_setThatMakes_8 : decode cX11_setThatMakes 8 = .ok (.iconst 1, 1) := by decide +kernel
theorem dX11_setThatMakes_9 : decode cX11_setThatMakes 9 = .ok (.aload_n 0, 1) := by decide +kernel
theorem dX11_setThatMakes_10 : decode cX11_setThatMakes 10 = .ok (.getfield 29, 3) := by decide +kernel
theorem dX11_setThatMakes_13 : decode cX11_setThatMakes 13 = .ok (.getfield 131, 3) := by decide +kernel
theorem dX11_setThatMakes_16 : decode cX11_setThatMakes 16 = .ok (.ishl, 1) := by decide +kernel
theorem dX11_setThatMakes_17 : decode cX11_setThatMakes 17 = .ok (.if_icmp .ge 49, 3) := by decide +kernel
theorem dX11_setThatMakes_20 : decode cX11_setThatMakes 20 = .ok (.aload_n 0, 1) := by decide +kernel
theorem dX11_setThatMakes_21 : decode cX11_setThatMakes 21 = .ok (.getfield 29, 3) := by decide +kernel
theorem dX11_setThatMakes_24 : decode cX11_setThatMakes 24 = .ok (.iload 5, 2) := by decide +kernel
theorem dX11_setThatMakes_26 : decode cX11_setThatMakes 26 = .ok (.iconst 0, 1) := by decide +kernel
theorem dX11_setThatMakes_27 : decode cX11_setThatMakes 27 = .ok (.invokevirtual 202, 3) := by decide +kernel
theorem dX11_setThatMakes_30 : decode cX11_setThatMakes 30 = .ok (.iload_n 1, 1) := by decide +kernel
theorem dX11_setThatMakes_31 : decode cX11_setThatMakes 31 = .ok (.if_icmp .ne 29, 3) := by decide +kernel
theorem dX11_setThatMakes_34 : decode cX11_setThatMakes 34 = .ok (.aload_n 0, 1) := by decide +kernel
theorem dX11_setThatMakes_35 : decode cX11_setThatMakes 35 = .ok (.getfield 29, 3) := by decide +kernel
theorem dX11_setThatMakes_38 : decode cX11_setThatMakes 38 = .ok (.iload 5, 2) := by decide +kernel
theorem dX11_setThatMakes_40 : decode cX11_setThatMakes 40 = .ok (.iconst 1, 1) := by decide +kernel
theorem dX11_setThatMakes_41 : decode cX11_setThatMakes 41 = .ok (.invokevirtual 202, 3) := by decide +kernel
theorem dX11_setThatMakes_44 : decode cX11_setThatMakes 44 = .ok (.iload_n 2, 1) := by decide +kernel
theorem dX11_setThatMakes_45 : decode cX11_setThatMakes 45 = .ok (.if_icmp .ne 15, 3) := by decide +kernel
theorem dX11_setThatMakes_48 : decode cX11_setThatMakes 48 = .ok (.iload 4, 2) := by decide +kernel
theorem dX11_setThatMakes_50 : decode cX11_setThatMakes 50 = .ok (.iload_n 3, 1) := by decide +kernel
theorem dX11_setThatMakes_51 : decode cX11_setThatMakes 51 = .ok (.if_icmp .ne 6, 3) := by decide +kernel
theorem dX11_setThatMakes_54 : decode cX11_setThatMakes 54 = .ok (.iload 5, 2) := by decide +kernel
theorem dX11_setThatMakes_56 : decode cX11_setThatMakes 56 = .ok (.ireturn, 1) := by decide +kernel
theorem dX11_setThatMakes_57 : decode cX11_setThatMakes 57 = .ok (.iinc 4 1, 3) := by decide +kernel
theorem dX11_setThatMakes_60 : decode cX11_setThatMakes 60 = .ok (.iinc 5 1, 3) := by decide +kernel
theorem dX11_setThatMakes_63 : decode cX11_setThatMakes 63 = .ok (.goto (-57), 3) := by decide +kernel
theorem dX11_setThatMakes_66 : decode cX11_setThatMakes 66 = .ok (.iload_n 3, 1) := by decide +kernel
theorem dX11_setThatMakes_67 : decode cX11_setThatMakes 67 = .ok (.iconst (-1), 1) := by decide +kernel
theorem dX11_setThatMakes_68 : decode cX11_setThatMakes 68 = .ok (.if_icmp .ne 8, 3) := by decide +kernel
theorem dX11_setThatMakes_71 : decode cX11_setThatMakes 71 = .ok (.iload 4, 2) := by decide +kernel
theorem dX11_setThatMakes_73 : decode cX11_setThatMakes 73 = .ok (.goto 5, 3) := by decide +kernel
theorem dX11_setThatMakes_76 : decode cX11_setThatMakes 76 = .ok (.ldc 160, 2) := by decide +kernel
theorem dX11_setThatMakes_78 : decode cX11_setThatMakes 78 = .ok (.ireturn, 1) := by decide +kernel
theorem dX11_findRescuable_0 : decode cX11_findRescuable 0 = .ok (.iconst 0, 1) := by decide +kernel
theorem dX11_findRescuable_1 : decode cX11_findRescuable 1 = .ok (.istore_n 2, 1) := by decide +kernel
theorem dX11_findRescuable_2 : decode cX11_findRescuable 2 = .ok (.iload_n 2, 1) := by decide +kernel
theorem dX11_findRescuable_3 : decode cX11_findRescuable 3 = .ok (.iload_n 1, 1) := by decide +kernel
theorem dX11_findRescuable_4 : decode cX11_findRescuable 4 = .ok (.if_icmp .gt 70, 3) := by decide +kernel
theorem dX11_findRescuable_7 : decode cX11_findRescuable 7 = .ok (.iload_n 2, 1) := by decide +kernel
theorem dX11_findRescuable_8 : decode cX11_findRescuable 8 = .ok (.iload_n 1, 1) := by decide +kernel
theorem dX11_findRescuable_9 : decode cX11_findRescuable 9 = .ok (.iconst (-1), 1) := by decide +kernel
theorem dX11_findRescuable_10 : decode cX11_findRescuable 10 = .ok (.ixor, 1) := by decide +kernel
theorem dX11_findRescuable_11 : decode cX11_findRescuable 11 = .ok (.iand, 1) := by decide +kernel
theorem dX11_findRescuable_12 : decode cX11_findRescuable 12 = .ok (.ifCond .ne 25, 3) := by decide +kernel
theorem dX11_findRescuable_15 : decode cX11_findRescuable 15 = .ok (.aload_n 0, 1) := by decide +kernel
theorem dX11_findRescuable_16 : decode cX11_findRescuable 16 = .ok (.getfield 25, 3) := by decide +kernel
theorem dX11_findRescuable_19 : decode cX11_findRescuable 19 = .ok (.iload_n 2, 1) := by decide +kernel
theorem dX11_findRescuable_20 : decode cX11_findRescuable 20 = .ok (.invokevirtual 310, 3) := by decide +kernel
theorem dX11_findRescuable_23 : decode cX11_findRescuable 23 = .ok (.aload_n 0, 1) := by decide +kernel
theorem dX11_findRescuable_24 : decode cX11_findRescuable 24 = .ok (.getfield 25, 3) := by decide +kernel
theorem dX11_findRescuable_27 : decode cX11_findRescuable 27 = .ok (.getfield 313, 3) := by decide +kernel
theorem dX11_findRescuable_30 : decode cX11_findRescuable 30 = .ok (.if_icmp .gt 7, 3) := by decide +kernel
theorem dX11_findRescuable_33 : decode cX11_findRescuable 33 = .ok (.iconst 1, 1) := by decide +kernel
theorem dX11_findRescuable_34 : decode cX11_findRescuable 34 = .ok (.goto 4, 3) := by decide +kernel
theorem dX11_findRescuable_37 : decode cX11_findRescuable 37 = .ok (.iconst 0, 1) := by decide +kernel
theorem dX11_findRescuable_38 : decode cX11_findRescuable 38 = .ok (.istore_n 3, 1) := by decide +kernel
theorem dX11_findRescuable_39 : decode cX11_findRescuable 39 = .ok (.aload_n 0, 1) := by decide +kernel
theorem dX11_findRescuable_40 : decode cX11_findRescuable 40 = .ok (.getfield 53, 3) := by decide +kernel
theorem dX11_findRescuable_43 : decode cX11_findRescuable 43 = .ok (.iload_n 2, 1) := by decide +kernel
theorem dX11_findRescuable_44 : decode cX11_findRescuable 44 = .ok (.iload_n 3, 1) := by decide +kernel
theorem dX11_findRescuable_45 : decode cX11_findRescuable 45 = .ok (.ifCond .eq 21, 3) := by decide +kernel
theorem dX11_findRescuable_48 : decode cX11_findRescuable 48 = .ok (.iload_n 2, 1) := by decide +kernel
theorem dX11_findRescuable_49 : decode cX11_findRescuable 49 = .ok (.ifCond .eq 13, 3) := by decide +kernel
theorem dX11_findRescuable_52 : decode cX11_findRescuable 52 = .ok (.aload_n 0, 1) := by decide +kernel
theorem dX11_findRescuable_53 : decode cX11_findRescuable 53 = .ok (.iload_n 2, 1) := by decide +kernel
theorem dX11_findRescuable_54 : decode cX11_findRescuable 54 = .ok (.invokevirtual 263, 3) := by decide +kernel
theorem dX11_findRescuable_57 : decode cX11_findRescuable 57 = .ok (.ldc 160, 2) := by decide +kernel
theorem dX11_findRescuable_59 : decode cX11_findRescuable 59 = .ok (.if_icmp .eq 7, 3) := by decide +kernel
theorem dX11_findRescuable_62 : decode cX11_findRescuable 62 = .ok (.iconst 1, 1) := by decide +kernel
theorem dX11_findRescuable_63 : decode cX11_findRescuable 63 = .ok (.goto 4, 3) := by decide +kernel
theorem dX11_findRescuable_66 : decode cX11_findRescuable 66 = .ok (.iconst 0, 1) := by decide +kernel
theorem dX11_findRescuable_67 : decode cX11_findRescuable 67 = .ok (.bastore, 1) := by decide +kernel
theorem dX11_findRescuable_68 : decode cX11_findRescuable 68 = .ok (.iinc 2 1, 3) := by decide +kernel
theorem dX11_findRescuable_71 : decode cX11_findRescuable 71 = .ok (.goto (-69), 3) := by decide +kernel
theorem dX11_findRescuable_74 : decode cX11_findRescuable 74 = .ok (.return_, 1) := by decide +kernel
theorem dX11_nextOut_0 : decode cX11_nextOut 0 = .ok (.iconst 0, 1) := by decide +kernel
theorem dX11_nextOut_1 : decode cX11_nextOut 1 = .ok (.istore_n 2, 1) := by decide +kernel
theorem dX11_nextOut_2 : decode cX11_nextOut 2 = .ok (.iload_n 2, 1) := by decide +kernel
theorem dX11_nextOut_3 : decode cX11_nextOut 3 = .ok (.bipush 7, 2) := by decide +kernel
theorem dX11_nextOut_5 : decode cX11_nextOut 5 = .ok (.if_icmp .ge 35, 3) := by decide +kernel
theorem dX11_nextOut_8 : decode cX11_nextOut 8 = .ok (.iload_n 1, 1) := by decide +kernel
theorem dX11_nextOut_9 : decode cX11_nextOut 9 = .ok (.iload_n 2, 1) := by decide +kernel
theorem dX11_nextOut_10 : decode cX11_nextOut 10 = .ok (.ishr, 1) := by decide +kernel
theorem dX11_nextOut_11 : decode cX11_nextOut 11 = .ok (.iconst 1, 1) := by decide +kernel
theorem dX11_nextOut_12 : decode cX11_nextOut 12 = .ok (.iand, 1) := by decide +kernel
theorem dX11_nextOut_13 : decode cX11_nextOut 13 = .ok (.iconst 1, 1) := by decide +kernel
theorem dX11_nextOut_14 : decode cX11_nextOut 14 = .ok (.if_icmp .ne 20, 3) := by decide +kernel
theorem dX11_nextOut_17 : decode cX11_nextOut 17 = .ok (.aload_n 0, 1) := by decide +kernel
theorem dX11_nextOut_18 : decode cX11_nextOut 18 = .ok (.getfield 53, 3) := by decide +kernel
theorem dX11_nextOut_21 : decode cX11_nextOut 21 = .ok (.iload_n 1, 1) := by decide +kernel
theorem dX11_nextOut_22 : decode cX11_nextOut 22 = .ok (.iconst 1, 1) := by decide +kernel
theorem dX11_nextOut_23 : decode cX11_nextOut 23 = .ok (.iload_n 2, 1) := by decide +kernel
theorem dX11_nextOut_24 : decode cX11_nextOut 24 = .ok (.ishl, 1) := by decide +kernel
theorem dX11_nextOut_25 : decode cX11_nextOut 25 = .ok (.iconst (-1), 1) := by decide +kernel
theorem dX11_nextOut_26 : decode cX11_nextOut 26 = .ok (.ixor, 1) := by decide +kernel
theorem dX11_nextOut_27 : decode cX11_nextOut 27 = .ok (.iand, 1) := by decide +kernel
theorem dX11_nextOut_28 : decode cX11_nextOut 28 = .ok (.baload, 1) := by decide +kernel
theorem dX11_nextOut_29 : decode cX11_nextOut 29 = .ok (.ifCond .eq 5, 3) := by decide +kernel
theorem dX11_nextOut_32 : decode cX11_nextOut 32 = .ok (.iload_n 2, 1) := by decide +kernel
theorem dX11_nextOut_33 : decode cX11_nextOut 33 = .ok (.ireturn, 1) := by decide +kernel
theorem dX11_nextOut_34 : decode cX11_nextOut 34 = .ok (.iinc 2 1, 3) := by decide +kernel
theorem dX11_nextOut_37 : decode cX11_nextOut 37 = .ok (.goto (-35), 3) := by decide +kernel
theorem dX11_nextOut_40 : decode cX11_nextOut 40 = .ok (.ldc 160, 2) := by decide +kernel
theorem dX11_nextOut_42 : decode cX11_nextOut 42 = .ok (.ireturn, 1) := by decide +kernel
theorem dX11_isOne_0 : decode cX11_isOne 0 = .ok (.iload_n 1, 1) := by decide +kernel
theorem dX11_isOne_1 : decode cX11_isOne 1 = .ok (.tableswitch 66 0 5 #[39, 41, 46, 51, 56, 61], 39) := by decide +kernel
theorem dX11_isOne_40 : decode cX11_isOne 40 = .ok (.iconst 1, 1) := by decide +kernel
theorem dX11_isOne_41 : decode cX11_isOne 41 = .ok (.ireturn, 1) := by decide +kernel
theorem dX11_isOne_42 : decode cX11_isOne 42 = .ok (.aload_n 0, 1) := by decide +kernel
theorem dX11_isOne_43 : decode cX11_isOne 43 = .ok (.instanceof 316, 3) := by decide +kernel
theorem dX11_isOne_46 : decode cX11_isOne 46 = .ok (.ireturn, 1) := by decide +kernel
theorem dX11_isOne_47 : decode cX11_isOne 47 = .ok (.aload_n 0, 1) := by decide +kernel
theorem dX11_isOne_48 : decode cX11_isOne 48 = .ok (.instanceof 318, 3) := by decide +kernel
theorem dX11_isOne_51 : decode cX11_isOne 51 = .ok (.ireturn, 1) := by decide +kernel
theorem dX11_isOne_52 : decode cX11_isOne 52 = .ok (.aload_n 0, 1) := by decide +kernel
theorem dX11_isOne_53 : decode cX11_isOne 53 = .ok (.instanceof 320, 3) := by decide +kernel
theorem dX11_isOne_56 : decode cX11_isOne 56 = .ok (.ireturn, 1) := by decide +kernel
theorem dX11_isOne_57 : decode cX11_isOne 57 = .ok (.aload_n 0, 1) := by decide +kernel
theorem dX11_isOne_58 : decode cX11_isOne 58 = .ok (.instanceof 322, 3) := by decide +kernel
theorem dX11_isOne_61 : decode cX11_isOne 61 = .ok (.ireturn, 1) := by decide +kernel
theorem dX11_isOne_62 : decode cX11_isOne 62 = .ok (.aload_n 0, 1) := by decide +kernel
theorem dX11_isOne_63 : decode cX11_isOne 63 = .ok (.instanceof 324, 3) := by decide +kernel
theorem dX11_isOne_66 : decode cX11_isOne 66 = .ok (.ireturn, 1) := by decide +kernel
theorem dX11_isOne_67 : decode cX11_isOne 67 = .ok (.iconst 0, 1) := by decide +kernel
theorem dX11_isOne_68 : decode cX11_isOne 68 = .ok (.ireturn, 1) := by decide +kernel
theorem dX12_init_0 : decode cX12_init 0 = .ok (.aload_n 0, 1) := by decide +kernel
theorem dX12_init_1 : decode cX12_init 1 = .ok (.invokespecial 1, 3) := by decide +kernel
theorem dX12_init_4 : decode cX12_init 4 = .ok (.aload_n 0, 1) := by decide +kernel
theorem dX12_init_5 : decode cX12_init 5 = .ok (.sipush 1450, 3) := by decide +kernel
theorem dX12_init_8 : decode cX12_init 8 = .ok (.newarray .int, 2) := by decide +kernel
theorem dX12_init_10 : decode cX12_init 10 = .ok (.putfield 7, 3) := by decide +kernel
theorem dX12_init_13 : decode cX12_init 13 = .ok (.aload_n 0, 1) := by decide +kernel
theorem dX12_init_14 : decode cX12_init 14 = .ok (.iconst 2, 1) := by decide +kernel
theorem dX12_init_15 : decode cX12_init 15 = .ok (.newarray .boolean, 2) := by decide +kernel
theorem dX12_init_17 : decode cX12_init 17 = .ok (.putfield 13, 3) := by decide +kernel
theorem dX12_init_20 : decode cX12_init 20 = .ok (.aload_n 0, 1) := by decide +kernel
theorem dX12_init_21 : decode cX12_init 21 = .ok (.sipush 320, 3) := by decide +kernel
theorem dX12_init_24 : decode cX12_init 24 = .ok (.newarray .int, 2) := by decide +kernel
theorem dX12_init_26 : decode cX12_init 26 = .ok (.putfield 17, 3) := by decide +kernel
theorem dX12_init_29 : decode cX12_init 29 = .ok (.aload_n 0, 1) := by decide +kernel
theorem dX12_init_30 : decode cX12_init 30 = .ok (.bipush 8, 2) := by decide +kernel
theorem dX12_init_32 : decode cX12_init 32 = .ok (.newarray .int, 2) := by decide +kernel
theorem dX12_init_34 : decode cX12_init 34 = .ok (.putfield 20, 3) := by decide +kernel
theorem dX12_init_37 : decode cX12_init 37 = .ok (.aload_n 0, 1) := by decide +kernel
theorem dX12_init_38 : decode cX12_init 38 = .ok (.bipush 8, 2) := by decide +kernel
theorem dX12_init_40 : decode cX12_init 40 = .ok (.newarray .int, 2) := by decide +kernel
theorem dX12_init_42 : decode cX12_init 42 = .ok (.putfield 23, 3) := by decide +kernel
theorem dX12_init_45 : decode cX12_init 45 = .ok (.aload_n 0, 1) := by decide +kernel
theorem dX12_init_46 : decode cX12_init 46 = .ok (.sipush 400, 3) := by decide +kernel
theorem dX12_init_49 : decode cX12_init 49 = .ok (.newarray .int, 2) := by decide +kernel
theorem dX12_init_51 : decode cX12_init 51 = .ok (.putfield 26, 3) := by decide +kernel
theorem dX12_init_54 : decode cX12_init 54 = .ok (.aload_n 0, 1) := by decide +kernel
theorem dX12_init_55 : decode cX12_init 55 = .ok (.bipush 40, 2) := by decide +kernel
theorem dX12_init_57 : decode cX12_init 57 = .ok (.newarray .int, 2) := by decide +kernel
theorem dX12_init_59 : decode cX12_init 59 = .ok (.putfield 29, 3) := by decide +kernel
theorem dX12_init_62 : decode cX12_init 62 = .ok (.aload_n 0, 1) := by decide +kernel
theorem dX12_init_63 : decode cX12_init 63 = .ok (.sipush 128, 3) := by decide +kernel
theorem dX12_init_66 : decode cX12_init 66 = .ok (.newarray .boolean, 2) := by decide +kernel
theorem dX12_init_68 : decode cX12_init 68 = .ok (.putfield 32, 3) := by decide +kernel
theorem dX12_init_71 : decode cX12_init 71 = .ok (.aload_n 0, 1) := by decide +kernel
theorem dX12_init_72 : decode cX12_init 72 = .ok (.bipush 16, 2) := by decide +kernel
theorem dX12_init_74 : decode cX12_init 74 = .ok (.newarray .int, 2) := by decide +kernel
theorem dX12_init_76 : decode cX12_init 76 = .ok (.putfield 35, 3) := by decide +kernel
theorem dX12_init_79 : decode cX12_init 79 = .ok (.iconst 0, 1) := by decide +kernel
theorem dX12_init_80 : decode cX12_init 80 = .ok (.istore_n 1, 1) := by decide +kernel
theorem dX12_init_81 : decode cX12_init 81 = .ok (.iload_n 1, 1) := by decide +kernel
theorem dX12_init_82 : decode cX12_init 82 = .ok (.bipush 8, 2) := by decide +kernel
theorem dX12_init_84 : decode cX12_init 84 = .ok (.if_icmp .ge 16, 3) := by decide +kernel
theorem dX12_init_87 : decode cX12_init 87 = .ok (.aload_n 0, 1) := by decide +kernel
theorem dX12_init_88 : decode cX12_init 88 = .ok (.getfield 20, 3) := by decide +kernel
theorem dX12_init_91 : decode cX12_init 91 = .ok (.iload_n 1, 1) := by decide +kernel
theorem dX12_init_92 : decode cX12_init 92 = .ok (.iconst (-1), 1) := by decide +kernel
theorem dX12_init_93 : decode cX12_init 93 = .ok (.iastore, 1) := by decide +kernel
theorem dX12_init_94 : decode cX12_init 94 = .ok (.iinc 1 1, 3) := by decide +kernel
theorem dX12_init_97 : decode cX12_init 97 = .ok (.goto (-16), 3) := by decide +kernel
theorem dX12_init_100 : decode cX12_init 100 = .ok (.return_, 1) := by decide +kernel
theorem dX12_in_0 : decode cX12_in 0 = .ok (.lload_n 0, 1) := by decide +kernel
theorem dX12_in_1 : decode cX12_in 1 = .ok (.lload_n 2, 1) := by decide +kernel
theorem dX12_in_2 : decode cX12_in 2 = .ok (.lcmp, 1) := by decide +kernel
theorem dX12_in_3 : decode cX12_in 3 = .ok (.ifCond .lt 14, 3) := by decide +kernel
theorem dX12_in_6 : decode cX12_in 6 = .ok (.lload_n 0, 1) := by decide +kernel
theorem dX12_in_7 : decode cX12_in 7 = .ok (.lload 4, 2) := by decide +kernel
theorem dX12_in_9 : decode cX12_in 9 = .ok (.lcmp, 1) := by decide +kernel
theorem dX12_in_10 : decode cX12_in 10 = .ok (.ifCond .gt 7, 3) := by decide +kernel
theorem dX12_in_13 : decode cX12_in 13 = .ok (.iconst 1, 1) := by decide +kernel
theorem dX12_in_14 : decode cX12_in 14 = .ok (.goto 4, 3) := by decide +kernel
theorem dX12_in_17 : decode cX12_in 17 = .ok (.iconst 0, 1) := by decide +kernel
theorem dX12_in_18 : decode cX12_in 18 = .ok (.ireturn, 1) := by decide +kernel
theorem dX12_has_0 : decode cX12_has 0 = .ok (.iload_n 0, 1) := by decide +kernel
theorem dX12_has_1 : decode cX12_has 1 = .ok (.iload_n 1, 1) := by decide +kernel
theorem dX12_has_2 : decode cX12_has 2 = .ok (.ishr, 1) := by decide +kernel
theorem dX12_has_3 : decode cX12_has 3 = .ok (.iconst 1, 1) := by decide +kernel
theorem dX12_has_4 : decode cX12_has 4 = .ok (.iand, 1) := by decide +kernel
theorem dX12_has_5 : decode cX12_has 5 = .ok (.iconst 1, 1) := by decide +kernel
theorem dX12_has_6 : decode cX12_has 6 = .ok (.if_icmp .ne 7, 3) := by decide +kernel
theorem dX12_has_9 : decode cX12_has 9 = .ok (.iconst 1, 1) := by decide +kernel
theorem dX12_has_10 : decode cX12_has 10 = .ok (.goto 4, 3) := by decide +kernel
theorem dX12_has_13 : decode cX12_has 13 = .ok (.iconst 0, 1) := by decide +kernel
theorem dX12_has_14 : decode cX12_has 14 = .ok (.ireturn, 1) := by decide +kernel
theorem dX12_sizeOf_0 : decode cX12_sizeOf 0 = .ok (.iload_n 0, 1) := by decide +kernel
theorem dX12_sizeOf_1 : decode cX12_sizeOf 1 = .ok (.ifCond .ge 8, 3) := by decide +kernel
theorem dX12_sizeOf_4 : decode cX12_sizeOf 4 = .ok (.iload_n 0, 1) := by decide +kernel
theorem dX12_sizeOf_5 : decode cX12_sizeOf 5 = .ok (.ineg, 1) := by decide +kernel
theorem dX12_sizeOf_6 : decode cX12_sizeOf 6 = .ok (.goto 4, 3) := by decide +kernel
theorem dX12_sizeOf_9 : decode cX12_sizeOf 9 = .ok (.iload_n 0, 1) := by decide +kernel
theorem dX12_sizeOf_10 : decode cX12_sizeOf 10 = .ok (.ireturn, 1) := by decide +kernel
theorem dX12_greater_0 : decode cX12_greater 0 = .ok (.iload_n 0, 1) := by decide +kernel
theorem dX12_greater_1 : decode cX12_greater 1 = .ok (.iload_n 1, 1) := by decide +kernel
theorem dX12_greater_2 : decode cX12_greater 2 = .ok (.if_icmp .le 7, 3) := by decide +kernel
theorem dX12_greater_5 : decode cX12_greater 5 = .ok (.iload_n 0, 1) := by decide +kernel
theorem dX12_greater_6 : decode cX12_greater 6 = .ok (.goto 4, 3) := by decide +kernel
theorem dX12_greater_9 : decode cX12_greater 9 = .ok (.iload_n 1, 1) := by decide +kernel
theorem dX12_greater_10 : decode cX12_greater 10 = .ok (.ireturn, 1) := by decide +kernel
theorem dX12_ones_0 : decode cX12_ones 0 = .ok (.iconst 0, 1) := by decide +kernel
theorem dX12_ones_1 : decode cX12_ones 1 = .ok (.istore_n 1, 1) := by decide +kernel
theorem dX12_ones_2 : decode cX12_ones 2 = .ok (.iconst 0, 1) := by decide +kernel
theorem dX12_ones_3 : decode cX12_ones 3 = .ok (.istore_n 2, 1) := by decide +kernel
theorem dX12_ones_4 : decode cX12_ones 4 = .ok (.iload_n 2, 1) := by decide +kernel
theorem dX12_ones_5 : decode cX12_ones 5 = .ok (.bipush 7, 2) := by decide +kernel
theorem dX12_ones_7 : decode cX12_ones 7 = .ok (.if_icmp .ge 17, 3) := by decide +kernel
theorem dX12_ones_10 : decode cX12_ones 10 = .ok (.iload_n 1, 1) := by decide +kernel
theorem dX12_ones_11 : decode cX12_ones 11 = .ok (.iload_n 0, 1) := by decide +kernel
theorem dX12_ones_12 : decode cX12_ones 12 = .ok (.iload_n 2, 1) := by decide +kernel
theorem dX12_ones_13 : decode cX12_ones 13 = .ok (.ishr, 1) := by decide +kernel
theorem dX12_ones_14 : decode cX12_ones 14 = .ok (.iconst 1, 1) := by decide +kernel
theorem dX12_ones_15 : decode cX12_ones 15 = .ok (.iand, 1) := by decide +kernel
theorem dX12_ones_16 : decode cX12_ones 16 = .ok (.iadd, 1) := by decide +kernel
theorem dX12_ones_17 : decode cX12_ones 17 = .ok (.istore_n 1, 1) := by decide +kernel
theorem dX12_ones_18 : decode cX12_ones 18 = .ok (.iinc 2 1, 3) := by decide +kernel
theorem dX12_ones_21 : decode cX12_ones 21 = .ok (.goto (-17), 3) := by decide +kernel
theorem dX12_ones_24 : decode cX12_ones 24 = .ok (.iload_n 1, 1) := by decide +kernel
theorem dX12_ones_25 : decode cX12_ones 25 = .ok (.ireturn, 1) := by decide +kernel
theorem dX12_copyAll_0 : decode cX12_copyAll 0 = .ok (.iconst 0, 1) := by decide +kernel
theorem dX12_copyAll_1 : decode cX12_copyAll 1 = .ok (.istore_n 3, 1) := by decide +kernel
theorem dX12_copyAll_2 : decode cX12_copyAll 2 = .ok (.iload_n 3, 1) := by decide +kernel
theorem dX12_copyAll_3 : decode cX12_copyAll 3 = .ok (.bipush 50, 2) := by decide +kernel
theorem dX12_copyAll_5 : decode cX12_copyAll 5 = .ok (.if_icmp .ge 25, 3) := by decide +kernel
theorem dX12_copyAll_8 : decode cX12_copyAll 8 = .ok (.aload_n 0, 1) := by decide +kernel
theorem dX12_copyAll_9 : decode cX12_copyAll 9 = .ok (.getfield 7, 3) := by decide +kernel
theorem dX12_copyAll_12 : decode cX12_copyAll 12 = .ok (.iload_n 2, 1) := by decide +kernel
theorem dX12_copyAll_13 : decode cX12_copyAll 13 = .ok (.iload_n 3, 1) := by decide +kernel
theorem dX12_copyAll_14 : decode cX12_copyAll 14 = .ok (.iadd, 1) := by decide +kernel
theorem dX12_copyAll_15 : decode cX12_copyAll 15 = .ok (.aload_n 0, 1) := by decide +kernel
theorem dX12_copyAll_16 : decode cX12_copyAll 16 = .ok (.getfield 7, 3) := by decide +kernel
theorem dX12_copyAll_19 : decode cX12_copyAll 19 = .ok (.iload_n 1, 1) := by decide +kernel
theorem dX12_copyAll_20 : decode cX12_copyAll 20 = .ok (.iload_n 3, 1) := by decide +kernel
theorem dX12_copyAll_21 : decode cX12_copyAll 21 = .ok (.iadd, 1) := by decide +kernel
theorem dX12_copyAll_22 : decode cX12_copyAll 22 = .ok (.iaload, 1) := by decide +kernel
theorem dX12_copyAll_23 : decode cX12_copyAll 23 = .ok (.iastore, 1) := by decide +kernel
theorem dX12_copyAll_24 : decode cX12_copyAll 24 = .ok (.iinc 3 1, 3) := by decide +kernel
theorem dX12_copyAll_27 : decode cX12_copyAll 27 = .ok (.goto (-25), 3) := by decide +kernel
theorem dX12_copyAll_30 : decode cX12_copyAll 30 = .ok (.return_, 1) := by decide +kernel
theorem dX12_isRow_0 : decode cX12_isRow 0 = .ok (.iload_n 0, 1) := by decide +kernel
theorem dX12_isRow_1 : decode cX12_isRow 1 = .ok (.i2l, 1) := by decide +kernel
theorem dX12_isRow_2 : decode cX12_isRow 2 = .ok (.lconst 0, 1) := by decide +kernel
theorem dX12_isRow_3 : decode cX12_isRow 3 = .ok (.ldc2_w 38, 3) := by decide +kernel
theorem dX12_isRow_6 : decode cX12_isRow 6 = .ok (.invokestatic 40, 3) := by decide +kernel
theorem dX12_isRow_9 : decode cX12_isRow 9 = .ok (.ireturn, 1) := by decide +kernel
theorem dX12_met_0 : decode cX12_met 0 = .ok (.aload_n 0, 1) := by decide +kernel
theorem dX12_met_1 : decode cX12_met 1 = .ok (.iload_n 1, 1) := by decide +kernel
theorem dX12_met_2 : decode cX12_met 2 = .ok (.putfield 44, 3) := by decide +kernel
theorem dX12_met_5 : decode cX12_met 5 = .ok (.ldc 48, 2) := by decide +kernel
theorem dX12_met_7 : decode cX12_met 7 = .ok (.iload_n 1, 1) := by decide +kernel
theorem dX12_met_8 : decode cX12_met 8 = .ok (.isub, 1) := by decide +kernel
theorem dX12_met_9 : decode cX12_met 9 = .ok (.ireturn, 1) := by decide +kernel
theorem dX12_fine_0 : decode cX12_fine 0 = .ok (.aload_n 0, 1) := by decide +kernel
theorem dX12_fine_1 : decode cX12_fine 1 = .ok (.iconst 0, 1) := by decide +kernel
theorem dX12_fine_2 : decode cX12_fine 2 = .ok (.putfield 44, 3) := by decide +kernel
theorem dX12_fine_5 : decode cX12_fine 5 = .ok (.iload_n 1, 1) := by decide +kernel
theorem dX12_fine_6 : decode cX12_fine 6 = .ok (.ireturn, 1) := by decide +kernel
theorem dX12_cut_0 : decode cX12_cut 0 = .ok (.iload_n 0, 1) := by decide +kernel
theorem dX12_cut_1 : decode cX12_cut 1 = .ok (.ifCond .ne 8, 3) := by decide +kernel
theorem dX12_cut_4 : decode cX12_cut 4 = .ok (.iload_n 1, 1) := by decide +kernel
theorem dX12_cut_5 : decode cX12_cut 5 = .ok (.i2b, 1) := by decide +kernel
theorem dX12_cut_6 : decode cX12_cut 6 = .ok (.goto 14, 3) := by decide +kernel
theorem dX12_cut_9 : decode cX12_cut 9 = .ok (.iload_n 0, 1) := by decide +kernel
theorem dX12_cut_10 : decode cX12_cut 10 = .ok (.iconst 1, 1) := by decide +kernel
theorem dX12_cut_11 : decode cX12_cut 11 = .ok (.if_icmp .ne 8, 3) := by decide +kernel
theorem dX12_cut_14 : decode cX12_cut 14 = .ok (.iload_n 1, 1) := by decide +kernel
theorem dX12_cut_15 : decode cX12_cut 15 = .ok (.i2s, 1) := by decide +kernel
theorem dX12_cut_16 : decode cX12_cut 16 = .ok (.goto 4, 3) := by decide +kernel
theorem dX12_cut_19 : decode cX12_cut 19 = .ok (.iload_n 1, 1) := by decide +kernel
theorem dX12_cut_20 : decode cX12_cut 20 = .ok (.ireturn, 1) := by decide +kernel
theorem dX12_row_0 : decode cX12_row 0 = .ok (.iload_n 1, 1) := by decide +kernel
theorem dX12_row_1 : decode cX12_row 1 = .ok (.invokestatic 49, 3) := by decide +kernel
theorem dX12_row_4 : decode cX12_row 4 = .ok (.ifCond .eq 21, 3) := by decide +kernel
theorem dX12_row_7 : decode cX12_row 7 = .ok (.iload_n 2, 1) := by decide +kernel
theorem dX12_row_8 : decode cX12_row 8 = .ok (.i2l, 1) := by decide +kernel
theorem dX12_row_9 : decode cX12_row 9 = .ok (.lconst 0, 1) := by decide +kernel
theorem dX12_row_10 : decode cX12_row 10 = .ok (.ldc2_w 53, 3) := by decide +kernel
theorem dX12_row_13 : decode cX12_row 13 = .ok (.invokestatic 40, 3) := by decide +kernel
theorem dX12_row_16 : decode cX12_row 16 = .ok (.ifCond .eq 9, 3) := by decide +kernel
theorem dX12_row_19 : decode cX12_row 19 = .ok (.iload_n 3, 1) := by decide +kernel
theorem dX12_row_20 : decode cX12_row 20 = .ok (.bipush 40, 2) := by decide +kernel
theorem dX12_row_22 : decode cX12_row 22 = .ok (.if_icmp .le 6, 3) := by decide +kernel
theorem dX12_row_25 : decode cX12_row 25 = .ok (.ldc 55, 2) := by decide +kernel
theorem dX12_row_27 : decode cX12_row 27 = .ok (.ireturn, 1) := by decide +kernel
theorem dX12_row_28 : decode cX12_row 28 = .ok (.iload_n 3, 1) := by decide +kernel
theorem dX12_row_29 : decode cX12_row 29 = .ok (.ifCond .ge 9, 3) := by decide +kernel
theorem dX12_row_32 : decode cX12_row 32 = .ok (.aload_n 0, 1) := by decide +kernel
theorem dX12_row_33 : decode cX12_row 33 = .ok (.iconst 4, 1) := by decide +kernel
theorem dX12_row_34 : decode cX12_row 34 = .ok (.invokevirtual 56, 3) := by decide +kernel
theorem dX12_row_37 : decode cX12_row 37 = .ok (.ireturn, 1) := by decide +kernel
theorem dX12_row_38 : decode cX12_row 38 = .ok (.aload_n 0, 1) := by decide +kernel
theorem dX12_row_39 : decode cX12_row 39 = .ok (.getfield 20, 3) := by decide +kernel
theorem dX12_row_42 : decode cX12_row 42 = .ok (.iload_n 1, 1) := by decide +kernel
theorem dX12_row_43 : decode cX12_row 43 = .ok (.iload_n 2, 1) := by decide +kernel
theorem dX12_row_44 : decode cX12_row 44 = .ok (.iastore, 1) := by decide +kernel
theorem dX12_row_45 : decode cX12_row 45 = .ok (.aload_n 0, 1) := by decide +kernel
theorem dX12_row_46 : decode cX12_row 46 = .ok (.getfield 23, 3) := by decide +kernel
theorem dX12_row_49 : decode cX12_row 49 = .ok (.iload_n 1, 1) := by decide +kernel
theorem dX12_row_50 : decode cX12_row 50 = .ok (.iload_n 3, 1) := by decide +kernel
theorem dX12_row_51 : decode cX12_row 51 = .ok (.iastore, 1) := by decide +kernel
theorem dX12_row_52 : decode cX12_row 52 = .ok (.iconst 0, 1) := by decide +kernel
theorem dX12_row_53 : decode cX12_row 53 = .ok (.istore 4, 2) := by decide +kernel
theorem dX12_row_55 : decode cX12_row 55 = .ok (.iload 4, 2) := by decide +kernel
theorem dX12_row_57 : decode cX12_row 57 = .ok (.iload_n 3, 1) := by decide +kernel
theorem dX12_row_58 : decode cX12_row 58 = .ok (.if_icmp .ge 22, 3) := by decide +kernel
theorem dX12_row_61 : decode cX12_row 61 = .ok (.aload_n 0, 1) := by decide +kernel
theorem dX12_row_62 : decode cX12_row 62 = .ok (.getfield 17, 3) := by decide +kernel
theorem dX12_row_65 : decode cX12_row 65 = .ok (.bipush 40, 2) := by decide +kernel
theorem dX12_row_67 : decode cX12_row 67 = .ok (.iload_n 1, 1) := by decide +kernel
theorem dX12_row_68 : decode cX12_row 68 = .ok (.imul, 1) := by decide +kernel
theorem dX12_row_69 : decode cX12_row 69 = .ok (.iload 4, 2) := by decide +kernel
theorem dX12_row_71 : decode cX12_row 71 = .ok (.iadd, 1) := by decide +kernel
theorem dX12_row_72 : decode cX12_row 72 = .ok (.iconst 0, 1) := by decide +kernel
theorem dX12_row_73 : decode cX12_row 73 = .ok (.iastore, 1) := by decide +kernel
theorem dX12_row_74 : decode cX12_row 74 = .ok (.iinc 4 1, 3) := by decide +kernel
theorem dX12_row_77 : decode cX12_row 77 = .ok (.goto (-22), 3) := by decide +kernel
theorem dX12_row_80 : decode cX12_row 80 = .ok (.aload_n 0, 1) := by decide +kernel
theorem dX12_row_81 : decode cX12_row 81 = .ok (.iload_n 3, 1) := by decide +kernel
theorem dX12_row_82 : decode cX12_row 82 = .ok (.invokevirtual 60, 3) := by decide +kernel
theorem dX12_row_85 : decode cX12_row 85 = .ok (.ireturn, 1) := by decide +kernel
theorem dX12_set_0 : decode cX12_set 0 = .ok (.iload_n 1, 1) := by decide +kernel
theorem dX12_set_1 : decode cX12_set 1 = .ok (.invokestatic 49, 3) := by decide +kernel
theorem dX12_set_4 : decode cX12_set 4 = .ok (.ifCond .ne 6, 3) := by decide +kernel
theorem dX12_set_7 : decode cX12_set 7 = .ok (.ldc 55, 2) := by decide +kernel
theorem dX12_set_9 : decode cX12_set 9 = .ok (.ireturn, 1) := by decide +kernel
theorem dX12_set_10 : decode cX12_set 10 = .ok (.aload_n 0, 1) := by decide +kernel
theorem dX12_set_11 : decode cX12_set 11 = .ok (.getfield 20, 3) := by decide +kernel
theorem dX12_set_14 : decode cX12_set 14 = .ok (.iload_n 1, 1) := by decide +kernel
theorem dX12_set_15 : decode cX12_set 15 = .ok (.iaload, 1) := by decide +kernel
theorem dX12_set_16 : decode cX12_set 16 = .ok (.ifCond .ge 9, 3) := by decide +kernel
theorem dX12_set_19 : decode cX12_set 19 = .ok (.aload_n 0, 1) := by decide +kernel
theorem dX12_set_20 : decode cX12_set 20 = .ok (.iconst 1, 1) := by decide +kernel
theorem dX12_set_21 : decode cX12_set 21 = .ok (.invokevirtual 56, 3) := by decide +kernel
theorem dX12_set_24 : decode cX12_set 24 = .ok (.ireturn, 1) := by decide +kernel
theorem dX12_set_25 : decode cX12_set 25 = .ok (.iload_n 2, 1) := by decide +kernel
theorem dX12_set_26 : decode cX12_set 26 = .ok (.i2l, 1) := by decide +kernel
theorem dX12_set_27 : decode cX12_set 27 = .ok (.lconst 0, 1) := by decide +kernel
theorem dX12_set_28 : decode cX12_set 28 = .ok (.aload_n 0, 1) := by decide +kernel
theorem dX12_set_29 : decode cX12_set 29 = .ok (.getfield 23, 3) := by decide +kernel
theorem dX12_set_32 : decode cX12_set 32 = .ok (.iload_n 1, 1) := by decide +kernel
theorem dX12_set_33 : decode cX12_set 33 = .ok (.iaload, 1) := by decide +kernel
theorem dX12_set_34 : decode cX12_set 34 = .ok (.iconst 1, 1) := by decide +kernel
theorem dX12_set_35 : decode cX12_set 35 = .ok (.isub, 1) := by decide +kernel
theorem dX12_set_36 : decode cX12_set 36 = .ok (.i2l, 1) := by decide +kernel
theorem dX12_set_37 : decode cX12_set 37 = .ok (.invokestatic 40, 3) := by decide +kernel
theorem dX12_set_40 : decode cX12_set 40 = .ok (.ifCond .ne 9, 3) := by decide +kernel
theorem dX12_set_43 : decode cX12_set 43 = .ok (.aload_n 0, 1) := by decide +kernel
theorem dX12_set_44 : decode cX12_set 44 = .ok (.iconst 2, 1) := by decide +kernel
theorem dX12_set_45 : decode cX12_set 45 = .ok (.invokevirtual 56, 3) := by decide +kernel
theorem dX12_set_48 : decode cX12_set 48 = .ok (.ireturn, 1) := by decide +kernel
theorem dX12_set_49 : decode cX12_set 49 = .ok (.aload_n 0, 1) := by decide +kernel
theorem dX12_set_50 : decode cX12_set 50 = .ok (.getfield 17, 3) := by decide +kernel
theorem dX12_set_53 : decode cX12_set 53 = .ok (.bipush 40, 2) := by decide +kernel
theorem dX12_set_55 : decode cX12_set 55 = .ok (.iload_n 1, 1) := by decide +kernel
theorem dX12_set_56 : decode cX12_set 56 = .ok (.imul, 1) := by decide +kernel
theorem dX12_set_57 : decode cX12_set 57 = .ok (.iload_n 2, 1) := by decide +kernel
theorem dX12_set_58 : decode cX12_set 58 = .ok (.iadd, 1) := by decide +kernel
theorem dX12_set_59 : decode cX12_set 59 = .ok (.aload_n 0, 1) := by decide +kernel
theorem dX12_set_60 : decode cX12_set 60 = .ok (.getfield 20, 3) := by decide +kernel
theorem dX12_set_63 : decode cX12_set 63 = .ok (.iload_n 1, 1) := by decide +kernel
theorem dX12_set_64 : decode cX12_set 64 = .ok (.iaload, 1) := by decide +kernel
theorem dX12_set_65 : decode cX12_set 65 = .ok (.iload_n 3, 1) := by decide +kernel
theorem dX12_set_66 : decode cX12_set 66 = .ok (.invokestatic 63, 3) := by decide +kernel
theorem dX12_set_69 : decode cX12_set 69 = .ok (.iastore, 1) := by decide +kernel
theorem dX12_set_70 : decode cX12_set 70 = .ok (.aload_n 0, 1) := by decide +kernel
theorem dX12_set_71 : decode cX12_set 71 = .ok (.aload_n 0, 1) := by decide +kernel
theorem dX12_set_72 : decode cX12_set 72 = .ok (.getfield 17, 3) := by decide +kernel
theorem dX12_set_75 : decode cX12_set 75 = .ok (.bipush 40, 2) := by decide +kernel
theorem dX12_set_77 : decode cX12_set 77 = .ok (.iload_n 1, 1) := by decide +kernel
theorem dX12_set_78 : decode cX12_set 78 = .ok (.imul, 1) := by decide +kernel
theorem dX12_set_79 : decode cX12_set 79 = .ok (.iload_n 2, 1) := by decide +kernel
theorem dX12_set_80 : decode cX12_set 80 = .ok (.iadd, 1) := by decide +kernel
theorem dX12_set_81 : decode cX12_set 81 = .ok (.iaload, 1) := by decide +kernel
theorem dX12_set_82 : decode cX12_set 82 = .ok (.invokevirtual 60, 3) := by decide +kernel
theorem dX12_set_85 : decode cX12_set 85 = .ok (.ireturn, 1) := by decide +kernel
theorem dX12_copy_0 : decode cX12_copy 0 = .ok (.iload_n 1, 1) := by decide +kernel
theorem dX12_copy_1 : decode cX12_copy 1 = .ok (.invokestatic 49, 3) := by decide +kernel
theorem dX12_copy_4 : decode cX12_copy 4 = .ok (.ifCond .eq 10, 3) := by decide +kernel
theorem dX12_copy_7 : decode cX12_copy 7 = .ok (.iload_n 3, 1) := by decide +kernel
theorem dX12_copy_8 : decode cX12_copy 8 = .ok (.invokestatic 49, 3) := by decide +kernel
theorem dX12_copy_11 : decode cX12_copy 11 = .ok (.ifCond .ne 6, 3) := by decide +kernel
theorem dX12_copy_14 : decode cX12_copy 14 = .ok (.ldc 55, 2) := by decide +kernel
theorem dX12_copy_16 : decode cX12_copy 16 = .ok (.ireturn, 1) := by decide +kernel
theorem dX12_copy_17 : decode cX12_copy 17 = .ok (.aload_n 0, 1) := by decide +kernel
theorem dX12_copy_18 : decode cX12_copy 18 = .ok (.getfield 20, 3) := by decide +kernel
theorem dX12_copy_21 : decode cX12_copy 21 = .ok (.iload_n 1, 1) := by decide +kernel
theorem dX12_copy_22 : decode cX12_copy 22 = .ok (.iaload, 1) := by decide +kernel
theorem dX12_copy_23 : decode cX12_copy 23 = .ok (.ifCond .lt 12, 3) := by decide +kernel
theorem dX12_copy_26 : decode cX12_copy 26 = .ok (.aload_n 0, 1) := by decide +kernel
theorem dX12_copy_27 : decode cX12_copy 27 = .ok (.getfield 20, 3) := by decide +kernel
theorem dX12_copy_30 : decode cX12_copy 30 = .ok (.iload_n 3, 1) := by decide +kernel
theorem dX12_copy_31 : decode cX12_copy 31 = .ok (.iaload, 1) := by decide +kernel
theorem dX12_copy_32 : decode cX12_copy 32 = .ok (.ifCond .ge 9, 3) := by decide +kernel
theorem dX12_copy_35 : decode cX12_copy 35 = .ok (.aload_n 0, 1) := by decide +kernel
theorem dX12_copy_36 : decode cX12_copy 36 = .ok (.iconst 1, 1) := by decide +kernel
theorem dX12_copy_37 : decode cX12_copy 37 = .ok (.invokevirtual 56, 3) := by decide +kernel
theorem dX12_copy_40 : decode cX12_copy 40 = .ok (.ireturn, 1) := by decide +kernel
theorem dX12_copy_41 : decode cX12_copy 41 = .ok (.aload_n 0, 1) := by decide +kernel
theorem dX12_copy_42 : decode cX12_copy 42 = .ok (.getfield 20, 3) := by decide +kernel
theorem dX12_copy_45 : decode cX12_copy 45 = .ok (.iload_n 1, 1) := by decide +kernel
theorem dX12_copy_46 : decode cX12_copy 46 = .ok (.iaload, 1) := by decide +kernel
theorem dX12_copy_47 : decode cX12_copy 47 = .ok (.aload_n 0, 1) := by decide +kernel
theorem dX12_copy_48 : decode cX12_copy 48 = .ok (.getfield 20, 3) := by decide +kernel
theorem dX12_copy_51 : decode cX12_copy 51 = .ok (.iload_n 3, 1) := by decide +kernel
theorem dX12_copy_52 : decode cX12_copy 52 = .ok (.iaload, 1) := by decide +kernel
theorem dX12_copy_53 : decode cX12_copy 53 = .ok (.if_icmp .eq 9, 3) := by decide +kernel
theorem dX12_copy_56 : decode cX12_copy 56 = .ok (.aload_n 0, 1) := by decide +kernel
theorem dX12_copy_57 : decode cX12_copy 57 = .ok (.iconst 5, 1) := by decide +kernel
theorem dX12_copy_58 : decode cX12_copy 58 = .ok (.invokevirtual 56, 3) := by decide +kernel
theorem dX12_copy_61 : decode cX12_copy 61 = .ok (.ireturn, 1) := by decide +kernel
theorem dX12_copy_62 : decode cX12_copy 62 = .ok (.iload_n 2, 1) := by decide +kernel
theorem dX12_copy_63 : decode cX12_copy 63 = .ok (.ifCond .lt 48, 3) := by decide +kernel
theorem dX12_copy_66 : decode cX12_copy 66 = .ok (.iload 4, 2) := by decide +kernel
theorem dX12_copy_68 : decode cX12_copy 68 = .ok (.ifCond .lt 43, 3) := by decide +kernel
theorem dX12_copy_71 : decode cX12_copy 71 = .ok (.iload 5, 2) := by decide +kernel
theorem dX12_copy_73 : decode cX12_copy 73 = .ok (.ifCond .lt 38, 3) := by decide +kernel
theorem dX12_copy_76 : decode cX12_copy 76 = .ok (.iload_n 2, 1) := by decide +kernel
theorem dX12_copy_77 : decode cX12_copy 77 = .ok (.i2l, 1) := by decide +kernel
theorem dX12_copy_78 : decode cX12_copy 78 = .ok (.iload 5, 2) := by decide +kernel
theorem dX12_copy_80 : decode cX12_copy 80 = .ok (.i2l, 1) := by decide +kernel
theorem dX12_copy_81 : decode cX12_copy 81 = .ok (.ladd, 1) := by decide +kernel
theorem dX12_copy_82 : decode cX12_copy 82 = .ok (.aload_n 0, 1) := by decide +kernel
theorem dX12_copy_83 : decode cX12_copy 83 = .ok (.getfield 23, 3) := by decide +kernel
theorem dX12_copy_86 : decode cX12_copy 86 = .ok (.iload_n 1, 1) := by decide +kernel
theorem dX12_copy_87 : decode cX12_copy 87 = .ok (.iaload, 1) := by decide +kernel
theorem dX12_copy_88 : decode cX12_copy 88 = .ok (.i2l, 1) := by decide +kernel
theorem dX12_copy_89 : decode cX12_copy 89 = .ok (.lcmp, 1) := by decide +kernel
theorem dX12_copy_90 : decode cX12_copy 90 = .ok (.ifCond .gt 21, 3) := by decide +kernel
theorem dX12_copy_93 : decode cX12_copy 93 = .ok (.iload 4, 2) := by decide +kernel
theorem dX12_copy_95 : decode cX12_copy 95 = .ok (.i2l, 1) := by decide +kernel
theorem dX12_copy_96 : decode cX12_copy 96 = .ok (.iload 5, 2) := by decide +kernel
theorem dX12_copy_98 : decode cX12_copy 98 = .ok (.i2l, 1) := by decide +kernel
theorem dX12_copy_99 : decode cX12_copy 99 = .ok (.ladd, 1) := by decide +kernel
theorem dX12_copy_100 : decode cX12_copy 100 = .ok (.aload_n 0, 1) := by decide +kernel
theorem dX12_copy_101 : decode cX12_copy 101 = .ok (.getfield 23, 3) := by decide +kernel
theorem dX12_copy_104 : decode cX12_copy 104 = .ok (.iload_n 3, 1) := by decide +kernel
theorem dX12_copy_105 : decode cX12_copy 105 = .ok (.iaload, 1) := by decide +kernel
theorem dX12_copy_106 : decode cX12_copy 106 = .ok (.i2l, 1) := by decide +kernel
theorem dX12_copy_107 : decode cX12_copy 107 = .ok (.lcmp, 1) := by decide +kernel
theorem dX12_copy_108 : decode cX12_copy 108 = .ok (.ifCond .le 9, 3) := by decide +kernel
theorem dX12_copy_111 : decode cX12_copy 111 = .ok (.aload_n 0, 1) := by decide +kernel
theorem dX12_copy_112 : decode cX12_copy 112 = .ok (.iconst 2, 1) := by decide +kernel
theorem dX12_copy_113 : decode cX12_copy 113 = .ok (.invokevirtual 56, 3) := by decide +kernel
theorem dX12_copy_116 : decode cX12_copy 116 = .ok (.ireturn, 1) := by decide +kernel
theorem dX12_copy_117 : decode cX12_copy 117 = .ok (.iconst 0, 1) := by decide +kernel
theorem dX12_copy_118 : decode cX12_copy 118 = .ok (.istore 6, 2) := by decide +kernel
theorem dX12_copy_120 : decode cX12_copy 120 = .ok (.iload 6, 2) := by decide +kernel
theorem dX12_copy_122 : decode cX12_copy 122 = .ok (.iload 5, 2) := by decide +kernel
theorem dX12_copy_124 : decode cX12_copy 124 = .ok (.if_icmp .ge 30, 3) := by decide +kernel
theorem dX12_copy_127 : decode cX12_copy 127 = .ok (.aload_n 0, 1) := by decide +kernel
theorem dX12_copy_128 : decode cX12_copy 128 = .ok (.getfield 29, 3) := by decide +kernel
theorem dX12_copy_131 : decode cX12_copy 131 = .ok (.iload 6, 2) := by decide +kernel
theorem dX12_copy_133 : decode cX12_copy 133 = .ok (.aload_n 0, 1) := by decide +kernel
theorem dX12_copy_134 : decode cX12_copy 134 = .ok (.getfield 17, 3) := by decide +kernel
theorem dX12_copy_137 : decode cX12_copy 137 = .ok (.bipush 40, 2) := by decide +kernel
theorem dX12_copy_139 : decode cX12_copy 139 = .ok (.iload_n 1, 1) := by decide +kernel
theorem dX12_copy_140 : decode cX12_copy 140 = .ok (.imul, 1) := by decide +kernel
theorem dX12_copy_141 : decode cX12_copy 141 = .ok (.iload_n 2, 1) := by decide +kernel
theorem dX12_copy_142 : decode cX12_copy 142 = .ok (.iadd, 1) := by decide +kernel
theorem dX12_copy_143 : decode cX12_copy 143 = .ok (.iload 6, 2) := by decide +kernel
theorem dX12_copy_145 : decode cX12_copy 145 = .ok (.iadd, 1) := by decide +kernel
theorem dX12_copy_146 : decode cX12_copy 146 = .ok (.iaload, 1) := by decide +kernel
theorem dX12_copy_147 : decode cX12_copy 147 = .ok (.iastore, 1) := by decide +kernel
theorem dX12_copy_148 : decode cX12_copy 148 = .ok (.iinc 6 1, 3) := by decide +kernel
theorem dX12_copy_151 : decode cX12_copy 151 = .ok (.goto (-31), 3) := by decide +kernel
theorem dX12_copy_154 : decode cX12_copy 154 = .ok (.iconst 0, 1) := by decide +kernel
theorem dX12_copy_155 : decode cX12_copy 155 = .ok (.istore 6, 2) := by decide +kernel
theorem dX12_copy_157 : decode cX12_copy 157 = .ok (.iload 6, 2) := by decide +kernel
theorem dX12_copy_159 : decode cX12_copy 159 = .ok (.iload 5, 2) := by decide +kernel
theorem dX12_copy_161 : decode cX12_copy 161 = .ok (.if_icmp .ge 31, 3) := by decide +kernel
theorem dX12_copy_164 : decode cX12_copy 164 = .ok (.aload_n 0, 1) := by decide +kernel
theorem dX12_copy_165 : decode cX12_copy 165 = .ok (.getfield 17, 3) := by decide +kernel
theorem dX12_copy_168 : decode cX12_copy 168 = .ok (.bipush 40, 2) := by decide +kernel
theorem dX12_copy_170 : decode cX12_copy 170 = .ok (.iload_n 3, 1) := by decide +kernel
theorem dX12_copy_171 : decode cX12_copy 171 = .ok (.imul, 1) := by decide +kernel
theorem dX12_copy_172 : decode cX12_copy 172 = .ok (.iload 4, 2) := by decide +kernel
theorem dX12_copy_174 : decode cX12_copy 174 = .ok (.iadd, 1) := by decide +kernel
theorem dX12_copy_175 : decode cX12_copy 175 = .ok (.iload 6, 2) := by decide +kernel
theorem dX12_copy_177 : decode cX12_copy 177 = .ok (.iadd, 1) := by decide +kernel
theorem dX12_copy_178 : decode cX12_copy 178 = .ok (.aload_n 0, 1) := by decide +kernel
theorem dX12_copy_179 : decode cX12_copy 179 = .ok (.getfield 29, 3) := by decide +kernel
theorem dX12_copy_182 : decode cX12_copy 182 = .ok (.iload 6, 2) := by decide +kernel
theorem dX12_copy_184 : decode cX12_copy 184 = .ok (.iaload, 1) := by decide +kernel
theorem dX12_copy_185 : decode cX12_copy 185 = .ok (.iastore, 1) := by decide +kernel
theorem dX12_copy_186 : decode cX12_copy 186 = .ok (.iinc 6 1, 3) := by decide +kernel
theorem dX12_copy_189 : decode cX12_copy 189 = .ok (.goto (-32), 3) := by decide +kernel
theorem dX12_copy_192 : decode cX12_copy 192 = .ok (.aload_n 0, 1) := by decide +kernel
theorem dX12_copy_193 : decode cX12_copy 193 = .ok (.iload 5, 2) := by decide +kernel
theorem dX12_copy_195 : decode cX12_copy 195 = .ok (.invokevirtual 60, 3) := by decide +kernel
theorem dX12_copy_198 : decode cX12_copy 198 = .ok (.ireturn, 1) := by decide +kernel
theorem dX12_drop_0 : decode cX12_drop 0 = .ok (.iload_n 1, 1) := by decide +kernel
theorem dX12_drop_1 : decode cX12_drop 1 = .ok (.invokestatic 49, 3) := by decide +kernel
theorem dX12_drop_4 : decode cX12_drop 4 = .ok (.ifCond .ne 6, 3) := by decide +kernel
theorem dX12_drop_7 : decode cX12_drop 7 = .ok (.ldc 55, 2) := by decide +kernel
theorem dX12_drop_9 : decode cX12_drop 9 = .ok (.ireturn, 1) := by decide +kernel
theorem dX12_drop_10 : decode cX12_drop 10 = .ok (.aload_n 0, 1) := by decide +kernel
theorem dX12_drop_11 : decode cX12_drop 11 = .ok (.getfield 20, 3) := by decide +kernel
theorem dX12_drop_14 : decode cX12_drop 14 = .ok (.iload_n 1, 1) := by decide +kernel
theorem dX12_drop_15 : decode cX12_drop 15 = .ok (.iaload, 1) := by decide +kernel
theorem dX12_drop_16 : decode cX12_drop 16 = .ok (.ifCond .ge 9, 3) := by decide +kernel
theorem dX12_drop_19 : decode cX12_drop 19 = .ok (.aload_n 0, 1) := by decide +kernel
theorem dX12_drop_20 : decode cX12_drop 20 = .ok (.iconst 1, 1) := by decide +kernel
theorem dX12_drop_21 : decode cX12_drop 21 = .ok (.invokevirtual 56, 3) := by decide +kernel
theorem dX12_drop_24 : decode cX12_drop 24 = .ok (.ireturn, 1) := by decide +kernel
theorem dX12_drop_25 : decode cX12_drop 25 = .ok (.aload_n 0, 1) := by decide +kernel
theorem dX12_drop_26 : decode cX12_drop 26 = .ok (.getfield 20, 3) := by decide +kernel
theorem dX12_drop_29 : decode cX12_drop 29 = .ok (.iload_n 1, 1) := by decide +kernel
theorem dX12_drop_30 : decode cX12_drop 30 = .ok (.iconst (-1), 1) := by decide +kernel
theorem dX12_drop_31 : decode cX12_drop 31 = .ok (.iastore, 1) := by decide +kernel
theorem dX12_drop_32 : decode cX12_drop 32 = .ok (.aload_n 0, 1) := by decide +kernel
theorem dX12_drop_33 : decode cX12_drop 33 = .ok (.aload_n 0, 1) := by decide +kernel
theorem dX12_drop_34 : decode cX12_drop 34 = .ok (.getfield 23, 3) := by decide +kernel
theorem dX12_drop_37 : decode cX12_drop 37 = .ok (.iload_n 1, 1) := by decide +kernel
theorem dX12_drop_38 : decode cX12_drop 38 = .ok (.iaload, 1) := by decide +kernel
theorem dX12_drop_39 : decode cX12_drop 39 = .ok (.invokevirtual 60, 3) := by decide +kernel
theorem dX12_drop_42 : decode cX12_drop 42 = .ok (.ireturn, 1) := by decide +kernel
theorem dX12_feed_0 : decode cX12_feed 0 = .ok (.iload_n 3, 1) := by decide +kernel
theorem dX12_feed_1 : decode cX12_feed 1 = .ok (.i2l, 1) := by decide +kernel
theorem dX12_feed_2 : decode cX12_feed 2 = .ok (.lconst 1, 1) := by decide +kernel
theorem dX12_feed_3 : decode cX12_feed 3 = .ok (.ldc2_w 67, 3) := by decide +kernel
theorem dX12_feed_6 : decode cX12_feed 6 = .ok (.invokestatic 40, 3) := by decide +kernel
theorem dX12_feed_9 : decode cX12_feed 9 = .ok (.ifCond .ne 6, 3) := by decide +kernel
theorem dX12_feed_12 : decode cX12_feed 12 = .ok (.ldc 55, 2) := by decide +kernel
theorem dX12_feed_14 : decode cX12_feed 14 = .ok (.ireturn, 1) := by decide +kernel
theorem dX12_feed_15 : decode cX12_feed 15 = .ok (.aload_n 0, 1) := by decide +kernel
theorem dX12_feed_16 : decode cX12_feed 16 = .ok (.getfield 69, 3) := by decide +kernel
theorem dX12_feed_19 : decode cX12_feed 19 = .ok (.iload_n 3, 1) := by decide +kernel
theorem dX12_feed_20 : decode cX12_feed 20 = .ok (.iadd, 1) := by decide +kernel
theorem dX12_feed_21 : decode cX12_feed 21 = .ok (.sipush 400, 3) := by decide +kernel
theorem dX12_feed_24 : decode cX12_feed 24 = .ok (.if_icmp .le 6, 3) := by decide +kernel
theorem dX12_feed_27 : decode cX12_feed 27 = .ok (.ldc 72, 2) := by decide +kernel
theorem dX12_feed_29 : decode cX12_feed 29 = .ok (.ireturn, 1) := by decide +kernel
theorem dX12_feed_30 : decode cX12_feed 30 = .ok (.iload_n 3, 1) := by decide +kernel
theorem dX12_feed_31 : decode cX12_feed 31 = .ok (.iconst 1, 1) := by decide +kernel
theorem dX12_feed_32 : decode cX12_feed 32 = .ok (.isub, 1) := by decide +kernel
theorem dX12_feed_33 : decode cX12_feed 33 = .ok (.istore 4, 2) := by decide +kernel
theorem dX12_feed_35 : decode cX12_feed 35 = .ok (.iload 4, 2) := by decide +kernel
theorem dX12_feed_37 : decode cX12_feed 37 = .ok (.ifCond .lt 40, 3) := by decide +kernel
theorem dX12_feed_40 : decode cX12_feed 40 = .ok (.aload_n 0, 1) := by decide +kernel
theorem dX12_feed_41 : decode cX12_feed 41 = .ok (.getfield 26, 3) := by decide +kernel
theorem dX12_feed_44 : decode cX12_feed 44 = .ok (.aload_n 0, 1) := by decide +kernel
theorem dX12_feed_45 : decode cX12_feed 45 = .ok (.getfield 69, 3) := by decide +kernel
theorem dX12_feed_48 : decode cX12_feed 48 = .ok (.lload_n 1, 1) := by decide +kernel
theorem dX12_feed_49 : decode cX12_feed 49 = .ok (.bipush 8, 2) := by decide +kernel
theorem dX12_feed_51 : decode cX12_feed 51 = .ok (.iload 4, 2) := by decide +kernel
theorem dX12_feed_53 : decode cX12_feed 53 = .ok (.imul, 1) := by decide +kernel
theorem dX12_feed_54 : decode cX12_feed 54 = .ok (.lshr, 1) := by decide +kernel
theorem dX12_feed_55 : decode cX12_feed 55 = .ok (.ldc2_w 73, 3) := by decide +kernel
theorem dX12_feed_58 : decode cX12_feed 58 = .ok (.land, 1) := by decide +kernel
theorem dX12_feed_59 : decode cX12_feed 59 = .ok (.l2i, 1) := by decide +kernel
theorem dX12_feed_60 : decode cX12_feed 60 = .ok (.iastore, 1) := by decide +kernel
theorem dX12_feed_61 : decode cX12_feed 61 = .ok (.aload_n 0, 1) := by decide +kernel
theorem dX12_feed_62 : decode cX12_feed 62 = .ok (.dup, 1) := by decide +kernel
theorem dX12_feed_63 : decode cX12_feed 63 = .ok (.getfield 69, 3) := by decide +kernel
theorem dX12_feed_66 : decode cX12_feed 66 = .ok (.iconst 1, 1) := by decide +kernel
theorem dX12_feed_67 : decode cX12_feed 67 = .ok (.iadd, 1) := by decide +kernel
theorem dX12_feed_68 : decode cX12_feed 68 = .ok (.putfield 69, 3) := by decide +kernel
theorem dX12_feed_71 : decode cX12_feed 71 = .ok (.iinc 4 (-1), 3) := by decide +kernel
theorem dX12_feed_74 : decode cX12_feed 74 = .ok (.goto (-39), 3) := by decide +kernel
theorem dX12_feed_77 : decode cX12_feed 77 = .ok (.aload_n 0, 1) := by decide +kernel
theorem dX12_feed_78 : decode cX12_feed 78 = .ok (.getfield 69, 3) := by decide +kernel
theorem dX12_feed_81 : decode cX12_feed 81 = .ok (.ireturn, 1) := by decide +kernel
theorem dX12_next_0 : decode cX12_next 0 = .ok (.aload_n 0, 1) := by decide +kernel
theorem dX12_next_1 : decode cX12_next 1 = .ok (.getfield 75, 3) := by decide +kernel
theorem dX12_next_4 : decode cX12_next 4 = .ok (.aload_n 0, 1) := by decide +kernel
theorem dX12_next_5 : decode cX12_next 5 = .ok (.getfield 69, 3) := by decide +kernel
theorem dX12_next_8 : decode cX12_next 8 = .ok (.if_icmp .ge 44, 3) := by decide +kernel
theorem dX12_next_11 : decode cX12_next 11 = .ok (.aload_n 0, 1) := by decide +kernel
theorem dX12_next_12 : decode cX12_next 12 = .ok (.getfield 26, 3) := by decide +kernel
theorem dX12_next_15 : decode cX12_next 15 = .ok (.aload_n 0, 1) := by decide +kernel
theorem dX12_next_16 : decode cX12_next 16 = .ok (.getfield 75, 3) := by decide +kernel
theorem dX12_next_19 : decode cX12_next 19 = .ok (.iaload, 1) := by decide +kernel
theorem dX12_next_20 : decode cX12_next 20 = .ok (.bipush 32, 2) := by decide +kernel
theorem dX12_next_22 : decode cX12_next 22 = .ok (.if_icmp .eq 17, 3) := by decide +kernel
theorem dX12_next_25 : decode cX12_next 25 = .ok (.aload_n 0, 1) := by decide +kernel
theorem dX12_next_26 : decode cX12_next 26 = .ok (.getfield 26, 3) := by decide +kernel
theorem dX12_next_29 : decode cX12_next 29 = .ok (.aload_n 0, 1) := by decide +kernel
theorem dX12_next_30 : decode cX12_next 30 = .ok (.getfield 75, 3) := by decide +kernel
theorem dX12_next_33 : decode cX12_next 33 = .ok (.iaload, 1) := by decide +kernel
theorem dX12_next_34 : decode cX12_next 34 = .ok (.bipush 10, 2) := by decide +kernel
theorem dX12_next_36 : decode cX12_next 36 = .ok (.if_icmp .ne 16, 3) := by decide +kernel
theorem dX12_next_39 : decode cX12_next 39 = .ok (.aload_n 0, 1) := by decide +kernel
theorem dX12_next_40 : decode cX12_next 40 = .ok (.dup, 1) := by decide +kernel
theorem dX12_next_41 : decode cX12_next 41 = .ok (.getfield 75, 3) := by decide +kernel
theorem dX12_next_44 : decode cX12_next 44 = .ok (.iconst 1, 1) := by decide +kernel
theorem dX12_next_45 : decode cX12_next 45 = .ok (.iadd, 1) := by decide +kernel
theorem dX12_next_46 : decode cX12_next 46 = .ok (.putfield 75, 3) := by decide +kernel
theorem dX12_next_49 : decode cX12_next 49 = .ok (.goto (-49), 3) := by decide +kernel
theorem dX12_next_52 : decode cX12_next 52 = .ok (.aload_n 0, 1) := by decide +kernel
theorem dX12_next_53 : decode cX12_next 53 = .ok (.aload_n 0, 1) := by decide +kernel
theorem dX12_next_54 : decode cX12_next 54 = .ok (.getfield 75, 3) := by decide +kernel
theorem dX12_next_57 : decode cX12_next 57 = .ok (.putfield 78, 3) := by decide +kernel
theorem dX12_next_60 : decode cX12_next 60 = .ok (.aload_n 0, 1) := by decide +kernel
theorem dX12_next_61 : decode cX12_next 61 = .ok (.aload_n 0, 1) := by decide +kernel
theorem dX12_next_62 : decode cX12_next 62 = .ok (.getfield 75, 3) := by decide +kernel
theorem dX12_next_65 : decode cX12_next 65 = .ok (.aload_n 0, 1) := by decide +kernel
theorem dX12_next_66 : decode cX12_next 66 = .ok (.getfield 69, 3) := by decide +kernel
theorem dX12_next_69 : decode cX12_next 69 = .ok (.if_icmp .ne 7, 3) := by decide +kernel
theorem dX12_next_72 : decode cX12_next 72 = .ok (.iconst 4, 1) := by decide +kernel
theorem dX12_next_73 : decode cX12_next 73 = .ok (.goto 22, 3) := by decide +kernel
theorem dX12_next_76 : decode cX12_next 76 = .ok (.aload_n 0, 1) := by decide +kernel
theorem dX12_next_77 : decode cX12_next 77 = .ok (.getfield 26, 3) := by decide +kernel
theorem dX12_next_80 : decode cX12_next 80 = .ok (.aload_n 0, 1) := by decide +kernel
theorem dX12_next_81 : decode cX12_next 81 = .ok (.getfield 75, 3) := by decide +kernel
theorem dX12_next_84 : decode cX12_next 84 = .ok (.iaload, 1) := by decide +kernel
theorem dX12_next_85 : decode cX12_next 85 = .ok (.bipush 59, 2) := by decide +kernel
theorem dX12_next_87 : decode cX12_next 87 = .ok (.if_icmp .ne 7, 3) := by decide +kernel
theorem dX12_next_90 : decode cX12_next 90 = .ok (.iconst 2, 1) := by decide +kernel
theorem dX12_next_91 : decode cX12_next 91 = .ok (.goto 4, 3) := by decide +kernel
theorem dX12_next_94 : decode cX12_next 94 = .ok (.iconst 3, 1) := by decide +kernel
theorem dX12_next_95 : decode cX12_next 95 = .ok (.putfield 81, 3) := by decide +kernel
theorem dX12_next_98 : decode cX12_next 98 = .ok (.aload_n 0, 1) := by decide +kernel
theorem dX12_next_99 : decode cX12_next 99 = .ok (.lconst 0, 1) := by decide +kernel
theorem dX12_next_100 : decode cX12_next 100 = .ok (.putfield 84, 3) := by decide +kernel
theorem dX12_next_103 : decode cX12_next 103 = .ok (.aload_n 0, 1) := by decide +kernel
theorem dX12_next_104 : decode cX12_next 104 = .ok (.iconst 0, 1) := by decide +kernel
theorem dX12_next_105 : decode cX12_next 105 = .ok (.putfield 88, 3) := by decide +kernel
theorem dX12_next_108 : decode cX12_next 108 = .ok (.aload_n 0, 1) := by decide +kernel
theorem dX12_next_109 : decode cX12_next 109 = .ok (.getfield 75, 3) := by decide +kernel
theorem dX12_next_112 : decode cX12_next 112 = .ok (.aload_n 0, 1) := by decide +kernel
theorem dX12_next_113 : decode cX12_next 113 = .ok (.getfield 69, 3) := by decide +kernel
theorem dX12_next_116 : decode cX12_next 116 = .ok (.if_icmp .ge 90, 3) := by decide +kernel
theorem dX12_next_119 : decode cX12_next 119 = .ok (.aload_n 0, 1) := by decide +kernel
theorem dX12_next_120 : decode cX12_next 120 = .ok (.getfield 26, 3) := by decide +kernel
theorem dX12_next_123 : decode cX12_next 123 = .ok (.aload_n 0, 1) := by decide +kernel
theorem dX12_next_124 : decode cX12_next 124 = .ok (.getfield 75, 3) := by decide +kernel
theorem dX12_next_127 : decode cX12_next 127 = .ok (.iaload, 1) := by decide +kernel
theorem dX12_next_128 : decode cX12_next 128 = .ok (.i2l, 1) := by decide +kernel
theorem dX12_next_129 : decode cX12_next 129 = .ok (.ldc2_w 91, 3) := by decide +kernel
theorem dX12_next_132 : decode cX12_next 132 = .ok (.ldc2_w 93, 3) := by decide +kernel
theorem dX12_next_135 : decode cX12_next 135 = .ok (.invokestatic 40, 3) := by decide +kernel
theorem dX12_next_138 : decode cX12_next 138 = .ok (.ifCond .eq 68, 3) := by decide +kernel
theorem dX12_next_141 : decode cX12_next 141 = .ok (.aload_n 0, 1) := by decide +kernel
theorem dX12_next_142 : decode cX12_next 142 = .ok (.aload_n 0, 1) := by decide +kernel
theorem dX12_next_143 : decode cX12_next 143 = .ok (.getfield 75, 3) := by decide +kernel
theorem dX12_next_146 : decode cX12_next 146 = .ok (.aload_n 0, 1) := by decide +kernel
theorem dX12_next_147 : decode cX12_next 147 = .ok (.getfield 78, 3) := by decide +kernel
theorem dX12_next_150 : decode cX12_next 150 = .ok (.isub, 1) := by decide +kernel
theorem dX12_next_151 : decode cX12_next 151 = .ok (.bipush 9, 2) := by decide +kernel
theorem dX12_next_153 : decode cX12_next 153 = .ok (.if_icmp .ge 29, 3) := by decide +kernel
end
section
theorem dX12_next_156 : decode cX12_next 156 = .ok (.ldc2_w 95, 3) := by decide +kernel
theorem dX12_next_159 : decode cX12_next 159 = .ok (.aload_n 0, 1) := by decide +kernel
theorem dX12_next_160 : decode cX12_next 160 = .ok (.getfield 84, 3) := by decide +kernel
theorem dX12_next_163 : decode cX12_next 163 = .ok (.lmul, 1) := by decide +kernel
theorem dX12_next_164 : decode cX12_next 164 = .ok (.aload_n 0, 1) := by decide +kernel
theorem dX12_next_165 : decode cX12_next 165 = .ok (.getfield 26, 3) := by decide +kernel
theorem dX12_next_168 : decode cX12_next 168 = .ok (.aload_n 0, 1) := by decide +kernel
theorem dX12_next_169 : decode cX12_next 169 = .ok (.getfield 75, 3) := by decide +kernel
theorem dX12_next_172 : decode cX12_next 172 = .ok (.iaload, 1) := by decide +kernel
theorem dX12_next_173 : decode cX12_next 173 = .ok (.i2l, 1) := by decide +kernel
theorem dX12_next_174 : decode cX12_next 174 = .ok (.ladd, 1) := by decide +kernel
theorem dX12_next_175 : decode cX12_next 175 = .ok (.ldc2_w 97, 3) := by decide +kernel
theorem dX12_next_178 : decode cX12_next 178 = .ok (.lsub, 1) := by decide +kernel
theorem dX12_next_179 : decode cX12_next 179 = .ok (.goto 6, 3) := by decide +kernel
theorem dX12_next_182 : decode cX12_next 182 = .ok (.ldc2_w 99, 3) := by decide +kernel
theorem dX12_next_185 : decode cX12_next 185 = .ok (.putfield 84, 3) := by decide +kernel
theorem dX12_next_188 : decode cX12_next 188 = .ok (.aload_n 0, 1) := by decide +kernel
theorem dX12_next_189 : decode cX12_next 189 = .ok (.iconst 0, 1) := by decide +kernel
theorem dX12_next_190 : decode cX12_next 190 = .ok (.putfield 81, 3) := by decide +kernel
theorem dX12_next_193 : decode cX12_next 193 = .ok (.aload_n 0, 1) := by decide +kernel
theorem dX12_next_194 : decode cX12_next 194 = .ok (.dup, 1) := by decide +kernel
theorem dX12_next_195 : decode cX12_next 195 = .ok (.getfield 75, 3) := by decide +kernel
theorem dX12_next_198 : decode cX12_next 198 = .ok (.iconst 1, 1) := by decide +kernel
theorem dX12_next_199 : decode cX12_next 199 = .ok (.iadd, 1) := by decide +kernel
theorem dX12_next_200 : decode cX12_next 200 = .ok (.putfield 75, 3) := by decide +kernel
theorem dX12_next_203 : decode cX12_next 203 = .ok (.goto (-95), 3) := by decide +kernel
theorem dX12_next_206 : decode cX12_next 206 = .ok (.aload_n 0, 1) := by decide +kernel
theorem dX12_next_207 : decode cX12_next 207 = .ok (.getfield 81, 3) := by decide +kernel
theorem dX12_next_210 : decode cX12_next 210 = .ok (.ifCond .eq 112, 3) := by decide +kernel
theorem dX12_next_213 : decode cX12_next 213 = .ok (.aload_n 0, 1) := by decide +kernel
theorem dX12_next_214 : decode cX12_next 214 = .ok (.getfield 75, 3) := by decide +kernel
theorem dX12_next_217 : decode cX12_next 217 = .ok (.aload_n 0, 1) := by decide +kernel
theorem dX12_next_218 : decode cX12_next 218 = .ok (.getfield 69, 3) := by decide +kernel
theorem dX12_next_221 : decode cX12_next 221 = .ok (.if_icmp .ge 101, 3) := by decide +kernel
theorem dX12_next_224 : decode cX12_next 224 = .ok (.aload_n 0, 1) := by decide +kernel
theorem dX12_next_225 : decode cX12_next 225 = .ok (.getfield 26, 3) := by decide +kernel
theorem dX12_next_228 : decode cX12_next 228 = .ok (.aload_n 0, 1) := by decide +kernel
theorem dX12_next_229 : decode cX12_next 229 = .ok (.getfield 75, 3) := by decide +kernel
theorem dX12_next_232 : decode cX12_next 232 = .ok (.iaload, 1) := by decide +kernel
theorem dX12_next_233 : decode cX12_next 233 = .ok (.i2l, 1) := by decide +kernel
theorem dX12_next_234 : decode cX12_next 234 = .ok (.ldc2_w 101, 3) := by decide +kernel
theorem dX12_next_237 : decode cX12_next 237 = .ok (.ldc2_w 103, 3) := by decide +kernel
theorem dX12_next_240 : decode cX12_next 240 = .ok (.invokestatic 40, 3) := by decide +kernel
theorem dX12_next_243 : decode cX12_next 243 = .ok (.ifCond .eq 79, 3) := by decide +kernel
theorem dX12_next_246 : decode cX12_next 246 = .ok (.aload_n 0, 1) := by decide +kernel
theorem dX12_next_247 : decode cX12_next 247 = .ok (.aload_n 0, 1) := by decide +kernel
theorem dX12_next_248 : decode cX12_next 248 = .ok (.getfield 75, 3) := by decide +kernel
theorem dX12_next_251 : decode cX12_next 251 = .ok (.aload_n 0, 1) := by decide +kernel
theorem dX12_next_252 : decode cX12_next 252 = .ok (.getfield 78, 3) := by decide +kernel
theorem dX12_next_255 : decode cX12_next 255 = .ok (.isub, 1) := by decide +kernel
theorem dX12_next_256 : decode cX12_next 256 = .ok (.iconst 3, 1) := by decide +kernel
theorem dX12_next_257 : decode cX12_next 257 = .ok (.if_icmp .ge 26, 3) := by decide +kernel
theorem dX12_next_260 : decode cX12_next 260 = .ok (.bipush 10, 2) := by decide +kernel
theorem dX12_next_262 : decode cX12_next 262 = .ok (.aload_n 0, 1) := by decide +kernel
theorem dX12_next_263 : decode cX12_next 263 = .ok (.getfield 88, 3) := by decide +kernel
theorem dX12_next_266 : decode cX12_next 266 = .ok (.imul, 1) := by decide +kernel
theorem dX12_next_267 : decode cX12_next 267 = .ok (.aload_n 0, 1) := by decide +kernel
theorem dX12_next_268 : decode cX12_next 268 = .ok (.getfield 26, 3) := by decide +kernel
theorem dX12_next_271 : decode cX12_next 271 = .ok (.aload_n 0, 1) := by decide +kernel
theorem dX12_next_272 : decode cX12_next 272 = .ok (.getfield 75, 3) := by decide +kernel
theorem dX12_next_275 : decode cX12_next 275 = .ok (.iaload, 1) := by decide +kernel
theorem dX12_next_276 : decode cX12_next 276 = .ok (.iadd, 1) := by decide +kernel
theorem dX12_next_277 : decode cX12_next 277 = .ok (.bipush 48, 2) := by decide +kernel
theorem dX12_next_279 : decode cX12_next 279 = .ok (.isub, 1) := by decide +kernel
theorem dX12_next_280 : decode cX12_next 280 = .ok (.goto 4, 3) := by decide +kernel
theorem dX12_next_283 : decode cX12_next 283 = .ok (.iconst 0, 1) := by decide +kernel
theorem dX12_next_284 : decode cX12_next 284 = .ok (.putfield 88, 3) := by decide +kernel
theorem dX12_next_287 : decode cX12_next 287 = .ok (.aload_n 0, 1) := by decide +kernel
theorem dX12_next_288 : decode cX12_next 288 = .ok (.aload_n 0, 1) := by decide +kernel
theorem dX12_next_289 : decode cX12_next 289 = .ok (.getfield 75, 3) := by decide +kernel
theorem dX12_next_292 : decode cX12_next 292 = .ok (.aload_n 0, 1) := by decide +kernel
theorem dX12_next_293 : decode cX12_next 293 = .ok (.getfield 78, 3) := by decide +kernel
theorem dX12_next_296 : decode cX12_next 296 = .ok (.isub, 1) := by decide +kernel
theorem dX12_next_297 : decode cX12_next 297 = .ok (.iconst 3, 1) := by decide +kernel
theorem dX12_next_298 : decode cX12_next 298 = .ok (.if_icmp .ge 7, 3) := by decide +kernel
theorem dX12_next_301 : decode cX12_next 301 = .ok (.iconst 1, 1) := by decide +kernel
theorem dX12_next_302 : decode cX12_next 302 = .ok (.goto 4, 3) := by decide +kernel
theorem dX12_next_305 : decode cX12_next 305 = .ok (.iconst 3, 1) := by decide +kernel
theorem dX12_next_306 : decode cX12_next 306 = .ok (.putfield 81, 3) := by decide +kernel
theorem dX12_next_309 : decode cX12_next 309 = .ok (.aload_n 0, 1) := by decide +kernel
theorem dX12_next_310 : decode cX12_next 310 = .ok (.dup, 1) := by decide +kernel
theorem dX12_next_311 : decode cX12_next 311 = .ok (.getfield 75, 3) := by decide +kernel
theorem dX12_next_314 : decode cX12_next 314 = .ok (.iconst 1, 1) := by decide +kernel
theorem dX12_next_315 : decode cX12_next 315 = .ok (.iadd, 1) := by decide +kernel
theorem dX12_next_316 : decode cX12_next 316 = .ok (.putfield 75, 3) := by decide +kernel
theorem dX12_next_319 : decode cX12_next 319 = .ok (.goto (-113), 3) := by decide +kernel
theorem dX12_next_322 : decode cX12_next 322 = .ok (.aload_n 0, 1) := by decide +kernel
theorem dX12_next_323 : decode cX12_next 323 = .ok (.dup, 1) := by decide +kernel
theorem dX12_next_324 : decode cX12_next 324 = .ok (.getfield 75, 3) := by decide +kernel
theorem dX12_next_327 : decode cX12_next 327 = .ok (.aload_n 0, 1) := by decide +kernel
theorem dX12_next_328 : decode cX12_next 328 = .ok (.getfield 81, 3) := by decide +kernel
theorem dX12_next_331 : decode cX12_next 331 = .ok (.iconst 2, 1) := by decide +kernel
theorem dX12_next_332 : decode cX12_next 332 = .ok (.if_icmp .ne 7, 3) := by decide +kernel
theorem dX12_next_335 : decode cX12_next 335 = .ok (.iconst 1, 1) := by decide +kernel
theorem dX12_next_336 : decode cX12_next 336 = .ok (.goto 4, 3) := by decide +kernel
theorem dX12_next_339 : decode cX12_next 339 = .ok (.iconst 0, 1) := by decide +kernel
theorem dX12_next_340 : decode cX12_next 340 = .ok (.iadd, 1) := by decide +kernel
theorem dX12_next_341 : decode cX12_next 341 = .ok (.putfield 75, 3) := by decide +kernel
theorem dX12_next_344 : decode cX12_next 344 = .ok (.return_, 1) := by decide +kernel
theorem dX12_fails_0 : decode cX12_fails 0 = .ok (.aload_n 0, 1) := by decide +kernel
theorem dX12_fails_1 : decode cX12_fails 1 = .ok (.iload_n 1, 1) := by decide +kernel
theorem dX12_fails_2 : decode cX12_fails 2 = .ok (.putfield 105, 3) := by decide +kernel
theorem dX12_fails_5 : decode cX12_fails 5 = .ok (.iconst (-1), 1) := by decide +kernel
theorem dX12_fails_6 : decode cX12_fails 6 = .ok (.ireturn, 1) := by decide +kernel
theorem dX12_takeNumber_0 : decode cX12_takeNumber 0 = .ok (.aload_n 0, 1) := by decide +kernel
theorem dX12_takeNumber_1 : decode cX12_takeNumber 1 = .ok (.getfield 81, 3) := by decide +kernel
theorem dX12_takeNumber_4 : decode cX12_takeNumber 4 = .ok (.iconst 1, 1) := by decide +kernel
theorem dX12_takeNumber_5 : decode cX12_takeNumber 5 = .ok (.if_icmp .eq 9, 3) := by decide +kernel
theorem dX12_takeNumber_8 : decode cX12_takeNumber 8 = .ok (.aload_n 0, 1) := by decide +kernel
theorem dX12_takeNumber_9 : decode cX12_takeNumber 9 = .ok (.iconst 1, 1) := by decide +kernel
theorem dX12_takeNumber_10 : decode cX12_takeNumber 10 = .ok (.invokevirtual 108, 3) := by decide +kernel
theorem dX12_takeNumber_13 : decode cX12_takeNumber 13 = .ok (.ireturn, 1) := by decide +kernel
theorem dX12_takeNumber_14 : decode cX12_takeNumber 14 = .ok (.aload_n 0, 1) := by decide +kernel
theorem dX12_takeNumber_15 : decode cX12_takeNumber 15 = .ok (.getfield 88, 3) := by decide +kernel
theorem dX12_takeNumber_18 : decode cX12_takeNumber 18 = .ok (.i2l, 1) := by decide +kernel
theorem dX12_takeNumber_19 : decode cX12_takeNumber 19 = .ok (.iload_n 1, 1) := by decide +kernel
theorem dX12_takeNumber_20 : decode cX12_takeNumber 20 = .ok (.i2l, 1) := by decide +kernel
theorem dX12_takeNumber_21 : decode cX12_takeNumber 21 = .ok (.iload_n 2, 1) := by decide +kernel
theorem dX12_takeNumber_22 : decode cX12_takeNumber 22 = .ok (.i2l, 1) := by decide +kernel
theorem dX12_takeNumber_23 : decode cX12_takeNumber 23 = .ok (.invokestatic 40, 3) := by decide +kernel
theorem dX12_takeNumber_26 : decode cX12_takeNumber 26 = .ok (.ifCond .ne 17, 3) := by decide +kernel
theorem dX12_takeNumber_29 : decode cX12_takeNumber 29 = .ok (.aload_n 0, 1) := by decide +kernel
theorem dX12_takeNumber_30 : decode cX12_takeNumber 30 = .ok (.getfield 88, 3) := by decide +kernel
theorem dX12_takeNumber_33 : decode cX12_takeNumber 33 = .ok (.iload_n 3, 1) := by decide +kernel
theorem dX12_takeNumber_34 : decode cX12_takeNumber 34 = .ok (.if_icmp .eq 9, 3) := by decide +kernel
theorem dX12_takeNumber_37 : decode cX12_takeNumber 37 = .ok (.aload_n 0, 1) := by decide +kernel
theorem dX12_takeNumber_38 : decode cX12_takeNumber 38 = .ok (.iconst 2, 1) := by decide +kernel
theorem dX12_takeNumber_39 : decode cX12_takeNumber 39 = .ok (.invokevirtual 108, 3) := by decide +kernel
theorem dX12_takeNumber_42 : decode cX12_takeNumber 42 = .ok (.ireturn, 1) := by decide +kernel
theorem dX12_takeNumber_43 : decode cX12_takeNumber 43 = .ok (.aload_n 0, 1) := by decide +kernel
theorem dX12_takeNumber_44 : decode cX12_takeNumber 44 = .ok (.getfield 88, 3) := by decide +kernel
theorem dX12_takeNumber_47 : decode cX12_takeNumber 47 = .ok (.istore 4, 2) := by decide +kernel
theorem dX12_takeNumber_49 : decode cX12_takeNumber 49 = .ok (.aload_n 0, 1) := by decide +kernel
theorem dX12_takeNumber_50 : decode cX12_takeNumber 50 = .ok (.invokevirtual 111, 3) := by decide +kernel
theorem dX12_takeNumber_53 : decode cX12_takeNumber 53 = .ok (.iload 4, 2) := by decide +kernel
theorem dX12_takeNumber_55 : decode cX12_takeNumber 55 = .ok (.ireturn, 1) := by decide +kernel
theorem dX12_takeSign_0 : decode cX12_takeSign 0 = .ok (.aload_n 0, 1) := by decide +kernel
theorem dX12_takeSign_1 : decode cX12_takeSign 1 = .ok (.getfield 105, 3) := by decide +kernel
theorem dX12_takeSign_4 : decode cX12_takeSign 4 = .ok (.ifCond .ne 19, 3) := by decide +kernel
theorem dX12_takeSign_7 : decode cX12_takeSign 7 = .ok (.aload_n 0, 1) := by decide +kernel
theorem dX12_takeSign_8 : decode cX12_takeSign 8 = .ok (.getfield 81, 3) := by decide +kernel
theorem dX12_takeSign_11 : decode cX12_takeSign 11 = .ok (.iconst 2, 1) := by decide +kernel
theorem dX12_takeSign_12 : decode cX12_takeSign 12 = .ok (.if_icmp .eq 11, 3) := by decide +kernel
theorem dX12_takeSign_15 : decode cX12_takeSign 15 = .ok (.aload_n 0, 1) := by decide +kernel
theorem dX12_takeSign_16 : decode cX12_takeSign 16 = .ok (.iconst 1, 1) := by decide +kernel
theorem dX12_takeSign_17 : decode cX12_takeSign 17 = .ok (.putfield 105, 3) := by decide +kernel
theorem dX12_takeSign_20 : decode cX12_takeSign 20 = .ok (.goto 14, 3) := by decide +kernel
theorem dX12_takeSign_23 : decode cX12_takeSign 23 = .ok (.aload_n 0, 1) := by decide +kernel
theorem dX12_takeSign_24 : decode cX12_takeSign 24 = .ok (.getfield 105, 3) := by decide +kernel
theorem dX12_takeSign_27 : decode cX12_takeSign 27 = .ok (.ifCond .ne 7, 3) := by decide +kernel
theorem dX12_takeSign_30 : decode cX12_takeSign 30 = .ok (.aload_n 0, 1) := by decide +kernel
theorem dX12_takeSign_31 : decode cX12_takeSign 31 = .ok (.invokevirtual 111, 3) := by decide +kernel
theorem dX12_takeSign_34 : decode cX12_takeSign 34 = .ok (.return_, 1) := by decide +kernel
theorem dX12_takeLaw_0 : decode cX12_takeLaw 0 = .ok (.aload_n 0, 1) := by decide +kernel
theorem dX12_takeLaw_1 : decode cX12_takeLaw 1 = .ok (.getfield 81, 3) := by decide +kernel
theorem dX12_takeLaw_4 : decode cX12_takeLaw 4 = .ok (.ifCond .ne 14, 3) := by decide +kernel
theorem dX12_takeLaw_7 : decode cX12_takeLaw 7 = .ok (.aload_n 0, 1) := by decide +kernel
theorem dX12_takeLaw_8 : decode cX12_takeLaw 8 = .ok (.getfield 84, 3) := by decide +kernel
theorem dX12_takeLaw_11 : decode cX12_takeLaw 11 = .ok (.ldc2_w 114, 3) := by decide +kernel
theorem dX12_takeLaw_14 : decode cX12_takeLaw 14 = .ok (.lcmp, 1) := by decide +kernel
theorem dX12_takeLaw_15 : decode cX12_takeLaw 15 = .ok (.ifCond .eq 9, 3) := by decide +kernel
theorem dX12_takeLaw_18 : decode cX12_takeLaw 18 = .ok (.aload_n 0, 1) := by decide +kernel
theorem dX12_takeLaw_19 : decode cX12_takeLaw 19 = .ok (.iconst 1, 1) := by decide +kernel
theorem dX12_takeLaw_20 : decode cX12_takeLaw 20 = .ok (.putfield 105, 3) := by decide +kernel
theorem dX12_takeLaw_23 : decode cX12_takeLaw 23 = .ok (.return_, 1) := by decide +kernel
theorem dX12_takeLaw_24 : decode cX12_takeLaw 24 = .ok (.aload_n 0, 1) := by decide +kernel
theorem dX12_takeLaw_25 : decode cX12_takeLaw 25 = .ok (.invokevirtual 111, 3) := by decide +kernel
theorem dX12_takeLaw_28 : decode cX12_takeLaw 28 = .ok (.aload_n 0, 1) := by decide +kernel
theorem dX12_takeLaw_29 : decode cX12_takeLaw 29 = .ok (.getfield 7, 3) := by decide +kernel
theorem dX12_takeLaw_32 : decode cX12_takeLaw 32 = .ok (.sipush 150, 3) := by decide +kernel
theorem dX12_takeLaw_35 : decode cX12_takeLaw 35 = .ok (.aload_n 0, 1) := by decide +kernel
theorem dX12_takeLaw_36 : decode cX12_takeLaw 36 = .ok (.iconst 4, 1) := by decide +kernel
theorem dX12_takeLaw_37 : decode cX12_takeLaw 37 = .ok (.bipush 32, 2) := by decide +kernel
theorem dX12_takeLaw_39 : decode cX12_takeLaw 39 = .ok (.iconst 4, 1) := by decide +kernel
theorem dX12_takeLaw_40 : decode cX12_takeLaw 40 = .ok (.invokevirtual 116, 3) := by decide +kernel
theorem dX12_takeLaw_43 : decode cX12_takeLaw 43 = .ok (.iastore, 1) := by decide +kernel
theorem dX12_takeLaw_44 : decode cX12_takeLaw 44 = .ok (.aload_n 0, 1) := by decide +kernel
theorem dX12_takeLaw_45 : decode cX12_takeLaw 45 = .ok (.getfield 7, 3) := by decide +kernel
theorem dX12_takeLaw_48 : decode cX12_takeLaw 48 = .ok (.sipush 151, 3) := by decide +kernel
theorem dX12_takeLaw_51 : decode cX12_takeLaw 51 = .ok (.aload_n 0, 1) := by decide +kernel
theorem dX12_takeLaw_52 : decode cX12_takeLaw 52 = .ok (.getfield 105, 3) := by decide +kernel
theorem dX12_takeLaw_55 : decode cX12_takeLaw 55 = .ok (.ifCond .ne 14, 3) := by decide +kernel
theorem dX12_takeLaw_58 : decode cX12_takeLaw 58 = .ok (.aload_n 0, 1) := by decide +kernel
theorem dX12_takeLaw_59 : decode cX12_takeLaw 59 = .ok (.iconst 1, 1) := by decide +kernel
theorem dX12_takeLaw_60 : decode cX12_takeLaw 60 = .ok (.bipush 99, 2) := by decide +kernel
theorem dX12_takeLaw_62 : decode cX12_takeLaw 62 = .ok (.iconst 1, 1) := by decide +kernel
theorem dX12_takeLaw_63 : decode cX12_takeLaw 63 = .ok (.invokevirtual 116, 3) := by decide +kernel
theorem dX12_takeLaw_66 : decode cX12_takeLaw 66 = .ok (.goto 4, 3) := by decide +kernel
theorem dX12_takeLaw_69 : decode cX12_takeLaw 69 = .ok (.iconst 0, 1) := by decide +kernel
theorem dX12_takeLaw_70 : decode cX12_takeLaw 70 = .ok (.iastore, 1) := by decide +kernel
theorem dX12_takeLaw_71 : decode cX12_takeLaw 71 = .ok (.aload_n 0, 1) := by decide +kernel
theorem dX12_takeLaw_72 : decode cX12_takeLaw 72 = .ok (.invokevirtual 120, 3) := by decide +kernel
theorem dX12_takeLaw_75 : decode cX12_takeLaw 75 = .ok (.return_, 1) := by decide +kernel
theorem dX12_takePerson_0 : decode cX12_takePerson 0 = .ok (.aload_n 0, 1) := by decide +kernel
theorem dX12_takePerson_1 : decode cX12_takePerson 1 = .ok (.getfield 7, 3) := by decide +kernel
theorem dX12_takePerson_4 : decode cX12_takePerson 4 = .ok (.sipush 152, 3) := by decide +kernel
theorem dX12_takePerson_7 : decode cX12_takePerson 7 = .ok (.iaload, 1) := by decide +kernel
theorem dX12_takePerson_8 : decode cX12_takePerson 8 = .ok (.istore_n 1, 1) := by decide +kernel
theorem dX12_takePerson_9 : decode cX12_takePerson 9 = .ok (.iload_n 1, 1) := by decide +kernel
theorem dX12_takePerson_10 : decode cX12_takePerson 10 = .ok (.bipush 7, 2) := by decide +kernel
theorem dX12_takePerson_12 : decode cX12_takePerson 12 = .ok (.if_icmp .ne 9, 3) := by decide +kernel
theorem dX12_takePerson_15 : decode cX12_takePerson 15 = .ok (.aload_n 0, 1) := by decide +kernel
theorem dX12_takePerson_16 : decode cX12_takePerson 16 = .ok (.iconst 3, 1) := by decide +kernel
theorem dX12_takePerson_17 : decode cX12_takePerson 17 = .ok (.putfield 105, 3) := by decide +kernel
theorem dX12_takePerson_20 : decode cX12_takePerson 20 = .ok (.return_, 1) := by decide +kernel
theorem dX12_takePerson_21 : decode cX12_takePerson 21 = .ok (.aload_n 0, 1) := by decide +kernel
theorem dX12_takePerson_22 : decode cX12_takePerson 22 = .ok (.invokevirtual 111, 3) := by decide +kernel
theorem dX12_takePerson_25 : decode cX12_takePerson 25 = .ok (.aload_n 0, 1) := by decide +kernel
theorem dX12_takePerson_26 : decode cX12_takePerson 26 = .ok (.getfield 81, 3) := by decide +kernel
theorem dX12_takePerson_29 : decode cX12_takePerson 29 = .ok (.ifCond .ne 13, 3) := by decide +kernel
theorem dX12_takePerson_32 : decode cX12_takePerson 32 = .ok (.aload_n 0, 1) := by decide +kernel
theorem dX12_takePerson_33 : decode cX12_takePerson 33 = .ok (.getfield 84, 3) := by decide +kernel
theorem dX12_takePerson_36 : decode cX12_takePerson 36 = .ok (.invokestatic 123, 3) := by decide +kernel
theorem dX12_takePerson_39 : decode cX12_takePerson 39 = .ok (.goto 4, 3) := by decide +kernel
theorem dX12_takePerson_42 : decode cX12_takePerson 42 = .ok (.iconst (-1), 1) := by decide +kernel
theorem dX12_takePerson_43 : decode cX12_takePerson 43 = .ok (.istore_n 2, 1) := by decide +kernel
theorem dX12_takePerson_44 : decode cX12_takePerson 44 = .ok (.iload_n 2, 1) := by decide +kernel
theorem dX12_takePerson_45 : decode cX12_takePerson 45 = .ok (.ifCond .ge 9, 3) := by decide +kernel
theorem dX12_takePerson_48 : decode cX12_takePerson 48 = .ok (.aload_n 0, 1) := by decide +kernel
theorem dX12_takePerson_49 : decode cX12_takePerson 49 = .ok (.iconst 1, 1) := by decide +kernel
theorem dX12_takePerson_50 : decode cX12_takePerson 50 = .ok (.putfield 105, 3) := by decide +kernel
theorem dX12_takePerson_53 : decode cX12_takePerson 53 = .ok (.return_, 1) := by decide +kernel
theorem dX12_takePerson_54 : decode cX12_takePerson 54 = .ok (.aload_n 0, 1) := by decide +kernel
theorem dX12_takePerson_55 : decode cX12_takePerson 55 = .ok (.invokevirtual 111, 3) := by decide +kernel
theorem dX12_takePerson_58 : decode cX12_takePerson 58 = .ok (.aload_n 0, 1) := by decide +kernel
theorem dX12_takePerson_59 : decode cX12_takePerson 59 = .ok (.getfield 7, 3) := by decide +kernel
theorem dX12_takePerson_62 : decode cX12_takePerson 62 = .ok (.sipush 153, 3) := by decide +kernel
theorem dX12_takePerson_65 : decode cX12_takePerson 65 = .ok (.iload_n 1, 1) := by decide +kernel
theorem dX12_takePerson_66 : decode cX12_takePerson 66 = .ok (.iadd, 1) := by decide +kernel
theorem dX12_takePerson_67 : decode cX12_takePerson 67 = .ok (.iload_n 2, 1) := by decide +kernel
theorem dX12_takePerson_68 : decode cX12_takePerson 68 = .ok (.iastore, 1) := by decide +kernel
theorem dX12_takePerson_69 : decode cX12_takePerson 69 = .ok (.aload_n 0, 1) := by decide +kernel
theorem dX12_takePerson_70 : decode cX12_takePerson 70 = .ok (.getfield 7, 3) := by decide +kernel
theorem dX12_takePerson_73 : decode cX12_takePerson 73 = .ok (.sipush 160, 3) := by decide +kernel
theorem dX12_takePerson_76 : decode cX12_takePerson 76 = .ok (.iload_n 1, 1) := by decide +kernel
theorem dX12_takePerson_77 : decode cX12_takePerson 77 = .ok (.iadd, 1) := by decide +kernel
theorem dX12_takePerson_78 : decode cX12_takePerson 78 = .ok (.aload_n 0, 1) := by decide +kernel
theorem dX12_takePerson_79 : decode cX12_takePerson 79 = .ok (.iconst 1, 1) := by decide +kernel
theorem dX12_takePerson_80 : decode cX12_takePerson 80 = .ok (.bipush 20, 2) := by decide +kernel
theorem dX12_takePerson_82 : decode cX12_takePerson 82 = .ok (.iconst 1, 1) := by decide +kernel
theorem dX12_takePerson_83 : decode cX12_takePerson 83 = .ok (.invokevirtual 116, 3) := by decide +kernel
theorem dX12_takePerson_86 : decode cX12_takePerson 86 = .ok (.iastore, 1) := by decide +kernel
theorem dX12_takePerson_87 : decode cX12_takePerson 87 = .ok (.aload_n 0, 1) := by decide +kernel
theorem dX12_takePerson_88 : decode cX12_takePerson 88 = .ok (.getfield 7, 3) := by decide +kernel
theorem dX12_takePerson_91 : decode cX12_takePerson 91 = .ok (.sipush 167, 3) := by decide +kernel
theorem dX12_takePerson_94 : decode cX12_takePerson 94 = .ok (.iload_n 1, 1) := by decide +kernel
theorem dX12_takePerson_95 : decode cX12_takePerson 95 = .ok (.iadd, 1) := by decide +kernel
theorem dX12_takePerson_96 : decode cX12_takePerson 96 = .ok (.aload_n 0, 1) := by decide +kernel
theorem dX12_takePerson_97 : decode cX12_takePerson 97 = .ok (.getfield 105, 3) := by decide +kernel
theorem dX12_takePerson_100 : decode cX12_takePerson 100 = .ok (.ifCond .ne 13, 3) := by decide +kernel
theorem dX12_takePerson_103 : decode cX12_takePerson 103 = .ok (.aload_n 0, 1) := by decide +kernel
theorem dX12_takePerson_104 : decode cX12_takePerson 104 = .ok (.iconst 1, 1) := by decide +kernel
theorem dX12_takePerson_105 : decode cX12_takePerson 105 = .ok (.iconst 4, 1) := by decide +kernel
theorem dX12_takePerson_106 : decode cX12_takePerson 106 = .ok (.iconst 1, 1) := by decide +kernel
theorem dX12_takePerson_107 : decode cX12_takePerson 107 = .ok (.invokevirtual 116, 3) := by decide +kernel
theorem dX12_takePerson_110 : decode cX12_takePerson 110 = .ok (.goto 4, 3) := by decide +kernel
theorem dX12_takePerson_113 : decode cX12_takePerson 113 = .ok (.iconst 0, 1) := by decide +kernel
theorem dX12_takePerson_114 : decode cX12_takePerson 114 = .ok (.iastore, 1) := by decide +kernel
theorem dX12_takePerson_115 : decode cX12_takePerson 115 = .ok (.aload_n 0, 1) := by decide +kernel
theorem dX12_takePerson_116 : decode cX12_takePerson 116 = .ok (.getfield 105, 3) := by decide +kernel
theorem dX12_takePerson_119 : decode cX12_takePerson 119 = .ok (.ifCond .ne 23, 3) := by decide +kernel
theorem dX12_takePerson_122 : decode cX12_takePerson 122 = .ok (.aload_n 0, 1) := by decide +kernel
theorem dX12_takePerson_123 : decode cX12_takePerson 123 = .ok (.iconst 0, 1) := by decide +kernel
theorem dX12_takePerson_124 : decode cX12_takePerson 124 = .ok (.aload_n 0, 1) := by decide +kernel
theorem dX12_takePerson_125 : decode cX12_takePerson 125 = .ok (.getfield 7, 3) := by decide +kernel
theorem dX12_takePerson_128 : decode cX12_takePerson 128 = .ok (.sipush 150, 3) := by decide +kernel
theorem dX12_takePerson_131 : decode cX12_takePerson 131 = .ok (.iaload, 1) := by decide +kernel
theorem dX12_takePerson_132 : decode cX12_takePerson 132 = .ok (.iconst 1, 1) := by decide +kernel
theorem dX12_takePerson_133 : decode cX12_takePerson 133 = .ok (.isub, 1) := by decide +kernel
theorem dX12_takePerson_134 : decode cX12_takePerson 134 = .ok (.bipush 99, 2) := by decide +kernel
theorem dX12_takePerson_136 : decode cX12_takePerson 136 = .ok (.invokevirtual 116, 3) := by decide +kernel
theorem dX12_takePerson_139 : decode cX12_takePerson 139 = .ok (.goto 4, 3) := by decide +kernel
theorem dX12_takePerson_142 : decode cX12_takePerson 142 = .ok (.iconst 0, 1) := by decide +kernel
theorem dX12_takePerson_143 : decode cX12_takePerson 143 = .ok (.istore_n 3, 1) := by decide +kernel
theorem dX12_takePerson_144 : decode cX12_takePerson 144 = .ok (.aload_n 0, 1) := by decide +kernel
theorem dX12_takePerson_145 : decode cX12_takePerson 145 = .ok (.getfield 7, 3) := by decide +kernel
theorem dX12_takePerson_148 : decode cX12_takePerson 148 = .ok (.sipush 174, 3) := by decide +kernel
theorem dX12_takePerson_151 : decode cX12_takePerson 151 = .ok (.iload_n 1, 1) := by decide +kernel
theorem dX12_takePerson_152 : decode cX12_takePerson 152 = .ok (.iadd, 1) := by decide +kernel
theorem dX12_takePerson_153 : decode cX12_takePerson 153 = .ok (.iload_n 3, 1) := by decide +kernel
theorem dX12_takePerson_154 : decode cX12_takePerson 154 = .ok (.bipush 99, 2) := by decide +kernel
theorem dX12_takePerson_156 : decode cX12_takePerson 156 = .ok (.if_icmp .ne 7, 3) := by decide +kernel
theorem dX12_takePerson_159 : decode cX12_takePerson 159 = .ok (.iconst (-1), 1) := by decide +kernel
theorem dX12_takePerson_160 : decode cX12_takePerson 160 = .ok (.goto 4, 3) := by decide +kernel
theorem dX12_takePerson_163 : decode cX12_takePerson 163 = .ok (.iload_n 3, 1) := by decide +kernel
theorem dX12_takePerson_164 : decode cX12_takePerson 164 = .ok (.iastore, 1) := by decide +kernel
theorem dX12_takePerson_165 : decode cX12_takePerson 165 = .ok (.aload_n 0, 1) := by decide +kernel
theorem dX12_takePerson_166 : decode cX12_takePerson 166 = .ok (.getfield 7, 3) := by decide +kernel
theorem dX12_takePerson_169 : decode cX12_takePerson 169 = .ok (.sipush 181, 3) := by decide +kernel
theorem dX12_takePerson_172 : decode cX12_takePerson 172 = .ok (.iload_n 1, 1) := by decide +kernel
theorem dX12_takePerson_173 : decode cX12_takePerson 173 = .ok (.iadd, 1) := by decide +kernel
theorem dX12_takePerson_174 : decode cX12_takePerson 174 = .ok (.iconst 0, 1) := by decide +kernel
theorem dX12_takePerson_175 : decode cX12_takePerson 175 = .ok (.iastore, 1) := by decide +kernel
theorem dX12_takePerson_176 : decode cX12_takePerson 176 = .ok (.aload_n 0, 1) := by decide +kernel
theorem dX12_takePerson_177 : decode cX12_takePerson 177 = .ok (.getfield 7, 3) := by decide +kernel
theorem dX12_takePerson_180 : decode cX12_takePerson 180 = .ok (.sipush 152, 3) := by decide +kernel
theorem dX12_takePerson_183 : decode cX12_takePerson 183 = .ok (.dup2, 1) := by decide +kernel
theorem dX12_takePerson_184 : decode cX12_takePerson 184 = .ok (.iaload, 1) := by decide +kernel
theorem dX12_takePerson_185 : decode cX12_takePerson 185 = .ok (.iconst 1, 1) := by decide +kernel
theorem dX12_takePerson_186 : decode cX12_takePerson 186 = .ok (.iadd, 1) := by decide +kernel
theorem dX12_takePerson_187 : decode cX12_takePerson 187 = .ok (.iastore, 1) := by decide +kernel
theorem dX12_takePerson_188 : decode cX12_takePerson 188 = .ok (.aload_n 0, 1) := by decide +kernel
theorem dX12_takePerson_189 : decode cX12_takePerson 189 = .ok (.invokevirtual 120, 3) := by decide +kernel
theorem dX12_takePerson_192 : decode cX12_takePerson 192 = .ok (.return_, 1) := by decide +kernel
theorem dX12_takeStone_0 : decode cX12_takeStone 0 = .ok (.aload_n 0, 1) := by decide +kernel
theorem dX12_takeStone_1 : decode cX12_takeStone 1 = .ok (.getfield 7, 3) := by decide +kernel
theorem dX12_takeStone_4 : decode cX12_takeStone 4 = .ok (.sipush 188, 3) := by decide +kernel
theorem dX12_takeStone_7 : decode cX12_takeStone 7 = .ok (.iaload, 1) := by decide +kernel
theorem dX12_takeStone_8 : decode cX12_takeStone 8 = .ok (.istore_n 1, 1) := by decide +kernel
theorem dX12_takeStone_9 : decode cX12_takeStone 9 = .ok (.iload_n 1, 1) := by decide +kernel
theorem dX12_takeStone_10 : decode cX12_takeStone 10 = .ok (.iconst 4, 1) := by decide +kernel
theorem dX12_takeStone_11 : decode cX12_takeStone 11 = .ok (.if_icmp .ne 9, 3) := by decide +kernel
theorem dX12_takeStone_14 : decode cX12_takeStone 14 = .ok (.aload_n 0, 1) := by decide +kernel
theorem dX12_takeStone_15 : decode cX12_takeStone 15 = .ok (.iconst 3, 1) := by decide +kernel
theorem dX12_takeStone_16 : decode cX12_takeStone 16 = .ok (.putfield 105, 3) := by decide +kernel
theorem dX12_takeStone_19 : decode cX12_takeStone 19 = .ok (.return_, 1) := by decide +kernel
theorem dX12_takeStone_20 : decode cX12_takeStone 20 = .ok (.aload_n 0, 1) := by decide +kernel
theorem dX12_takeStone_21 : decode cX12_takeStone 21 = .ok (.invokevirtual 111, 3) := by decide +kernel
theorem dX12_takeStone_24 : decode cX12_takeStone 24 = .ok (.aload_n 0, 1) := by decide +kernel
theorem dX12_takeStone_25 : decode cX12_takeStone 25 = .ok (.getfield 7, 3) := by decide +kernel
theorem dX12_takeStone_28 : decode cX12_takeStone 28 = .ok (.sipush 189, 3) := by decide +kernel
theorem dX12_takeStone_31 : decode cX12_takeStone 31 = .ok (.iload_n 1, 1) := by decide +kernel
theorem dX12_takeStone_32 : decode cX12_takeStone 32 = .ok (.iadd, 1) := by decide +kernel
theorem dX12_takeStone_33 : decode cX12_takeStone 33 = .ok (.aload_n 0, 1) := by decide +kernel
theorem dX12_takeStone_34 : decode cX12_takeStone 34 = .ok (.iconst 1, 1) := by decide +kernel
theorem dX12_takeStone_35 : decode cX12_takeStone 35 = .ok (.bipush 20, 2) := by decide +kernel
theorem dX12_takeStone_37 : decode cX12_takeStone 37 = .ok (.iconst 1, 1) := by decide +kernel
theorem dX12_takeStone_38 : decode cX12_takeStone 38 = .ok (.invokevirtual 116, 3) := by decide +kernel
theorem dX12_takeStone_41 : decode cX12_takeStone 41 = .ok (.iastore, 1) := by decide +kernel
theorem dX12_takeStone_42 : decode cX12_takeStone 42 = .ok (.aload_n 0, 1) := by decide +kernel
theorem dX12_takeStone_43 : decode cX12_takeStone 43 = .ok (.getfield 7, 3) := by decide +kernel
theorem dX12_takeStone_46 : decode cX12_takeStone 46 = .ok (.sipush 193, 3) := by decide +kernel
theorem dX12_takeStone_49 : decode cX12_takeStone 49 = .ok (.iload_n 1, 1) := by decide +kernel
theorem dX12_takeStone_50 : decode cX12_takeStone 50 = .ok (.iadd, 1) := by decide +kernel
theorem dX12_takeStone_51 : decode cX12_takeStone 51 = .ok (.aload_n 0, 1) := by decide +kernel
theorem dX12_takeStone_52 : decode cX12_takeStone 52 = .ok (.getfield 105, 3) := by decide +kernel
theorem dX12_takeStone_55 : decode cX12_takeStone 55 = .ok (.ifCond .ne 13, 3) := by decide +kernel
theorem dX12_takeStone_58 : decode cX12_takeStone 58 = .ok (.aload_n 0, 1) := by decide +kernel
theorem dX12_takeStone_59 : decode cX12_takeStone 59 = .ok (.iconst 0, 1) := by decide +kernel
theorem dX12_takeStone_60 : decode cX12_takeStone 60 = .ok (.iconst 3, 1) := by decide +kernel
theorem dX12_takeStone_61 : decode cX12_takeStone 61 = .ok (.iconst 0, 1) := by decide +kernel
theorem dX12_takeStone_62 : decode cX12_takeStone 62 = .ok (.invokevirtual 116, 3) := by decide +kernel
theorem dX12_takeStone_65 : decode cX12_takeStone 65 = .ok (.goto 4, 3) := by decide +kernel
theorem dX12_takeStone_68 : decode cX12_takeStone 68 = .ok (.iconst 0, 1) := by decide +kernel
theorem dX12_takeStone_69 : decode cX12_takeStone 69 = .ok (.iastore, 1) := by decide +kernel
theorem dX12_takeStone_70 : decode cX12_takeStone 70 = .ok (.aload_n 0, 1) := by decide +kernel
theorem dX12_takeStone_71 : decode cX12_takeStone 71 = .ok (.getfield 7, 3) := by decide +kernel
theorem dX12_takeStone_74 : decode cX12_takeStone 74 = .ok (.sipush 188, 3) := by decide +kernel
theorem dX12_takeStone_77 : decode cX12_takeStone 77 = .ok (.dup2, 1) := by decide +kernel
theorem dX12_takeStone_78 : decode cX12_takeStone 78 = .ok (.iaload, 1) := by decide +kernel
theorem dX12_takeStone_79 : decode cX12_takeStone 79 = .ok (.iconst 1, 1) := by decide +kernel
theorem dX12_takeStone_80 : decode cX12_takeStone 80 = .ok (.iadd, 1) := by decide +kernel
theorem dX12_takeStone_81 : decode cX12_takeStone 81 = .ok (.iastore, 1) := by decide +kernel
theorem dX12_takeStone_82 : decode cX12_takeStone 82 = .ok (.aload_n 0, 1) := by decide +kernel
theorem dX12_takeStone_83 : decode cX12_takeStone 83 = .ok (.invokevirtual 120, 3) := by decide +kernel
theorem dX12_takeStone_86 : decode cX12_takeStone 86 = .ok (.return_, 1) := by decide +kernel
theorem dX12_sortOf_0 : decode cX12_sortOf 0 = .ok (.lload_n 0, 1) := by decide +kernel
theorem dX12_sortOf_1 : decode cX12_sortOf 1 = .ok (.ldc2_w 127, 3) := by decide +kernel
theorem dX12_sortOf_4 : decode cX12_sortOf 4 = .ok (.lcmp, 1) := by decide +kernel
theorem dX12_sortOf_5 : decode cX12_sortOf 5 = .ok (.ifCond .ne 7, 3) := by decide +kernel
theorem dX12_sortOf_8 : decode cX12_sortOf 8 = .ok (.iconst 1, 1) := by decide +kernel
theorem dX12_sortOf_9 : decode cX12_sortOf 9 = .ok (.goto 52, 3) := by decide +kernel
theorem dX12_sortOf_12 : decode cX12_sortOf 12 = .ok (.lload_n 0, 1) := by decide +kernel
theorem dX12_sortOf_13 : decode cX12_sortOf 13 = .ok (.ldc2_w 129, 3) := by decide +kernel
theorem dX12_sortOf_16 : decode cX12_sortOf 16 = .ok (.lcmp, 1) := by decide +kernel
theorem dX12_sortOf_17 : decode cX12_sortOf 17 = .ok (.ifCond .ne 7, 3) := by decide +kernel
theorem dX12_sortOf_20 : decode cX12_sortOf 20 = .ok (.iconst 4, 1) := by decide +kernel
theorem dX12_sortOf_21 : decode cX12_sortOf 21 = .ok (.goto 40, 3) := by decide +kernel
theorem dX12_sortOf_24 : decode cX12_sortOf 24 = .ok (.lload_n 0, 1) := by decide +kernel
theorem dX12_sortOf_25 : decode cX12_sortOf 25 = .ok (.ldc2_w 131, 3) := by decide +kernel
theorem dX12_sortOf_28 : decode cX12_sortOf 28 = .ok (.lcmp, 1) := by decide +kernel
theorem dX12_sortOf_29 : decode cX12_sortOf 29 = .ok (.ifCond .ne 7, 3) := by decide +kernel
theorem dX12_sortOf_32 : decode cX12_sortOf 32 = .ok (.iconst 2, 1) := by decide +kernel
theorem dX12_sortOf_33 : decode cX12_sortOf 33 = .ok (.goto 28, 3) := by decide +kernel
theorem dX12_sortOf_36 : decode cX12_sortOf 36 = .ok (.lload_n 0, 1) := by decide +kernel
theorem dX12_sortOf_37 : decode cX12_sortOf 37 = .ok (.ldc2_w 133, 3) := by decide +kernel
theorem dX12_sortOf_40 : decode cX12_sortOf 40 = .ok (.lcmp, 1) := by decide +kernel
theorem dX12_sortOf_41 : decode cX12_sortOf 41 = .ok (.ifCond .ne 7, 3) := by decide +kernel
theorem dX12_sortOf_44 : decode cX12_sortOf 44 = .ok (.iconst 5, 1) := by decide +kernel
theorem dX12_sortOf_45 : decode cX12_sortOf 45 = .ok (.goto 16, 3) := by decide +kernel
theorem dX12_sortOf_48 : decode cX12_sortOf 48 = .ok (.lload_n 0, 1) := by decide +kernel
theorem dX12_sortOf_49 : decode cX12_sortOf 49 = .ok (.ldc2_w 135, 3) := by decide +kernel
theorem dX12_sortOf_52 : decode cX12_sortOf 52 = .ok (.lcmp, 1) := by decide +kernel
theorem dX12_sortOf_53 : decode cX12_sortOf 53 = .ok (.ifCond .ne 7, 3) := by decide +kernel
theorem dX12_sortOf_56 : decode cX12_sortOf 56 = .ok (.iconst 3, 1) := by decide +kernel
theorem dX12_sortOf_57 : decode cX12_sortOf 57 = .ok (.goto 4, 3) := by decide +kernel
theorem dX12_sortOf_60 : decode cX12_sortOf 60 = .ok (.iconst (-1), 1) := by decide +kernel
theorem dX12_sortOf_61 : decode cX12_sortOf 61 = .ok (.ireturn, 1) := by decide +kernel
theorem dX12_tower_0 : decode cX12_tower 0 = .ok (.iconst 0, 1) := by decide +kernel
theorem dX12_tower_1 : decode cX12_tower 1 = .ok (.istore_n 1, 1) := by decide +kernel
theorem dX12_tower_2 : decode cX12_tower 2 = .ok (.iload_n 1, 1) := by decide +kernel
theorem dX12_tower_3 : decode cX12_tower 3 = .ok (.bipush 50, 2) := by decide +kernel
theorem dX12_tower_5 : decode cX12_tower 5 = .ok (.if_icmp .ge 20, 3) := by decide +kernel
theorem dX12_tower_8 : decode cX12_tower 8 = .ok (.aload_n 0, 1) := by decide +kernel
theorem dX12_tower_9 : decode cX12_tower 9 = .ok (.getfield 7, 3) := by decide +kernel
theorem dX12_tower_12 : decode cX12_tower 12 = .ok (.sipush 150, 3) := by decide +kernel
theorem dX12_tower_15 : decode cX12_tower 15 = .ok (.iload_n 1, 1) := by decide +kernel
theorem dX12_tower_16 : decode cX12_tower 16 = .ok (.iadd, 1) := by decide +kernel
theorem dX12_tower_17 : decode cX12_tower 17 = .ok (.iconst 0, 1) := by decide +kernel
theorem dX12_tower_18 : decode cX12_tower 18 = .ok (.iastore, 1) := by decide +kernel
theorem dX12_tower_19 : decode cX12_tower 19 = .ok (.iinc 1 1, 3) := by decide +kernel
theorem dX12_tower_22 : decode cX12_tower 22 = .ok (.goto (-20), 3) := by decide +kernel
theorem dX12_tower_25 : decode cX12_tower 25 = .ok (.aload_n 0, 1) := by decide +kernel
theorem dX12_tower_26 : decode cX12_tower 26 = .ok (.iconst 0, 1) := by decide +kernel
theorem dX12_tower_27 : decode cX12_tower 27 = .ok (.putfield 75, 3) := by decide +kernel
theorem dX12_tower_30 : decode cX12_tower 30 = .ok (.aload_n 0, 1) := by decide +kernel
theorem dX12_tower_31 : decode cX12_tower 31 = .ok (.iconst 0, 1) := by decide +kernel
theorem dX12_tower_32 : decode cX12_tower 32 = .ok (.putfield 105, 3) := by decide +kernel
theorem dX12_tower_35 : decode cX12_tower 35 = .ok (.aload_n 0, 1) := by decide +kernel
theorem dX12_tower_36 : decode cX12_tower 36 = .ok (.invokevirtual 111, 3) := by decide +kernel
theorem dX12_tower_39 : decode cX12_tower 39 = .ok (.aload_n 0, 1) := by decide +kernel
theorem dX12_tower_40 : decode cX12_tower 40 = .ok (.invokevirtual 137, 3) := by decide +kernel
theorem dX12_tower_43 : decode cX12_tower 43 = .ok (.aload_n 0, 1) := by decide +kernel
theorem dX12_tower_44 : decode cX12_tower 44 = .ok (.getfield 105, 3) := by decide +kernel
theorem dX12_tower_47 : decode cX12_tower 47 = .ok (.ifCond .ne 28, 3) := by decide +kernel
theorem dX12_tower_50 : decode cX12_tower 50 = .ok (.aload_n 0, 1) := by decide +kernel
theorem dX12_tower_51 : decode cX12_tower 51 = .ok (.getfield 81, 3) := by decide +kernel
theorem dX12_tower_54 : decode cX12_tower 54 = .ok (.ifCond .ne 21, 3) := by decide +kernel
theorem dX12_tower_57 : decode cX12_tower 57 = .ok (.aload_n 0, 1) := by decide +kernel
theorem dX12_tower_58 : decode cX12_tower 58 = .ok (.getfield 84, 3) := by decide +kernel
theorem dX12_tower_61 : decode cX12_tower 61 = .ok (.ldc2_w 140, 3) := by decide +kernel
theorem dX12_tower_64 : decode cX12_tower 64 = .ok (.lcmp, 1) := by decide +kernel
theorem dX12_tower_65 : decode cX12_tower 65 = .ok (.ifCond .ne 10, 3) := by decide +kernel
theorem dX12_tower_68 : decode cX12_tower 68 = .ok (.aload_n 0, 1) := by decide +kernel
theorem dX12_tower_69 : decode cX12_tower 69 = .ok (.invokevirtual 142, 3) := by decide +kernel
theorem dX12_tower_72 : decode cX12_tower 72 = .ok (.goto (-29), 3) := by decide +kernel
theorem dX12_tower_75 : decode cX12_tower 75 = .ok (.aload_n 0, 1) := by decide +kernel
theorem dX12_tower_76 : decode cX12_tower 76 = .ok (.getfield 105, 3) := by decide +kernel
theorem dX12_tower_79 : decode cX12_tower 79 = .ok (.ifCond .ne 28, 3) := by decide +kernel
theorem dX12_tower_82 : decode cX12_tower 82 = .ok (.aload_n 0, 1) := by decide +kernel
theorem dX12_tower_83 : decode cX12_tower 83 = .ok (.getfield 81, 3) := by decide +kernel
theorem dX12_tower_86 : decode cX12_tower 86 = .ok (.ifCond .ne 21, 3) := by decide +kernel
theorem dX12_tower_89 : decode cX12_tower 89 = .ok (.aload_n 0, 1) := by decide +kernel
theorem dX12_tower_90 : decode cX12_tower 90 = .ok (.getfield 84, 3) := by decide +kernel
theorem dX12_tower_93 : decode cX12_tower 93 = .ok (.ldc2_w 145, 3) := by decide +kernel
theorem dX12_tower_96 : decode cX12_tower 96 = .ok (.lcmp, 1) := by decide +kernel
theorem dX12_tower_97 : decode cX12_tower 97 = .ok (.ifCond .ne 10, 3) := by decide +kernel
theorem dX12_tower_100 : decode cX12_tower 100 = .ok (.aload_n 0, 1) := by decide +kernel
theorem dX12_tower_101 : decode cX12_tower 101 = .ok (.invokevirtual 147, 3) := by decide +kernel
theorem dX12_tower_104 : decode cX12_tower 104 = .ok (.goto (-29), 3) := by decide +kernel
theorem dX12_tower_107 : decode cX12_tower 107 = .ok (.aload_n 0, 1) := by decide +kernel
theorem dX12_tower_108 : decode cX12_tower 108 = .ok (.aload_n 0, 1) := by decide +kernel
theorem dX12_tower_109 : decode cX12_tower 109 = .ok (.getfield 105, 3) := by decide +kernel
theorem dX12_tower_112 : decode cX12_tower 112 = .ok (.ifCond .ne 15, 3) := by decide +kernel
theorem dX12_tower_115 : decode cX12_tower 115 = .ok (.aload_n 0, 1) := by decide +kernel
theorem dX12_tower_116 : decode cX12_tower 116 = .ok (.getfield 81, 3) := by decide +kernel
theorem dX12_tower_119 : decode cX12_tower 119 = .ok (.iconst 4, 1) := by decide +kernel
theorem dX12_tower_120 : decode cX12_tower 120 = .ok (.if_icmp .eq 7, 3) := by decide +kernel
theorem dX12_tower_123 : decode cX12_tower 123 = .ok (.iconst 1, 1) := by decide +kernel
theorem dX12_tower_124 : decode cX12_tower 124 = .ok (.goto 7, 3) := by decide +kernel
theorem dX12_tower_127 : decode cX12_tower 127 = .ok (.aload_n 0, 1) := by decide +kernel
theorem dX12_tower_128 : decode cX12_tower 128 = .ok (.getfield 105, 3) := by decide +kernel
theorem dX12_tower_131 : decode cX12_tower 131 = .ok (.putfield 105, 3) := by decide +kernel
theorem dX12_tower_134 : decode cX12_tower 134 = .ok (.aload_n 0, 1) := by decide +kernel
theorem dX12_tower_135 : decode cX12_tower 135 = .ok (.iconst 0, 1) := by decide +kernel
theorem dX12_tower_136 : decode cX12_tower 136 = .ok (.putfield 69, 3) := by decide +kernel
theorem dX12_tower_139 : decode cX12_tower 139 = .ok (.aload_n 0, 1) := by decide +kernel
theorem dX12_tower_140 : decode cX12_tower 140 = .ok (.getfield 105, 3) := by decide +kernel
theorem dX12_tower_143 : decode cX12_tower 143 = .ok (.ifCond .eq 19, 3) := by decide +kernel
theorem dX12_tower_146 : decode cX12_tower 146 = .ok (.aload_n 0, 1) := by decide +kernel
theorem dX12_tower_147 : decode cX12_tower 147 = .ok (.aload_n 0, 1) := by decide +kernel
theorem dX12_tower_148 : decode cX12_tower 148 = .ok (.getfield 105, 3) := by decide +kernel
theorem dX12_tower_151 : decode cX12_tower 151 = .ok (.putfield 150, 3) := by decide +kernel
theorem dX12_tower_154 : decode cX12_tower 154 = .ok (.ldc 153, 2) := by decide +kernel
theorem dX12_tower_156 : decode cX12_tower 156 = .ok (.aload_n 0, 1) := by decide +kernel
theorem dX12_tower_157 : decode cX12_tower 157 = .ok (.getfield 78, 3) := by decide +kernel
theorem dX12_tower_160 : decode cX12_tower 160 = .ok (.isub, 1) := by decide +kernel
theorem dX12_tower_161 : decode cX12_tower 161 = .ok (.ireturn, 1) := by decide +kernel
theorem dX12_tower_162 : decode cX12_tower 162 = .ok (.aload_n 0, 1) := by decide +kernel
theorem dX12_tower_163 : decode cX12_tower 163 = .ok (.sipush 150, 3) := by decide +kernel
theorem dX12_tower_166 : decode cX12_tower 166 = .ok (.iconst 0, 1) := by decide +kernel
theorem dX12_tower_167 : decode cX12_tower 167 = .ok (.invokevirtual 154, 3) := by decide +kernel
theorem dX12_tower_170 : decode cX12_tower 170 = .ok (.aload_n 0, 1) := by decide +kernel
theorem dX12_tower_171 : decode cX12_tower 171 = .ok (.iconst 0, 1) := by decide +kernel
theorem dX12_tower_172 : decode cX12_tower 172 = .ok (.putfield 158, 3) := by decide +kernel
theorem dX12_tower_175 : decode cX12_tower 175 = .ok (.aload_n 0, 1) := by decide +kernel
theorem dX12_tower_176 : decode cX12_tower 176 = .ok (.getfield 7, 3) := by decide +kernel
theorem dX12_tower_179 : decode cX12_tower 179 = .ok (.iconst 2, 1) := by decide +kernel
theorem dX12_tower_180 : decode cX12_tower 180 = .ok (.iaload, 1) := by decide +kernel
theorem dX12_tower_181 : decode cX12_tower 181 = .ok (.ireturn, 1) := by decide +kernel
theorem dX12_fault_0 : decode cX12_fault 0 = .ok (.aload_n 0, 1) := by decide +kernel
theorem dX12_fault_1 : decode cX12_fault 1 = .ok (.getfield 150, 3) := by decide +kernel
theorem dX12_fault_4 : decode cX12_fault 4 = .ok (.ireturn, 1) := by decide +kernel
theorem dX12_isTower_0 : decode cX12_isTower 0 = .ok (.aload_n 0, 1) := by decide +kernel
theorem dX12_isTower_1 : decode cX12_isTower 1 = .ok (.getfield 7, 3) := by decide +kernel
theorem dX12_isTower_4 : decode cX12_isTower 4 = .ok (.iconst 0, 1) := by decide +kernel
theorem dX12_isTower_5 : decode cX12_isTower 5 = .ok (.iaload, 1) := by decide +kernel
theorem dX12_isTower_6 : decode cX12_isTower 6 = .ok (.ifCond .le 7, 3) := by decide +kernel
theorem dX12_isTower_9 : decode cX12_isTower 9 = .ok (.iconst 1, 1) := by decide +kernel
theorem dX12_isTower_10 : decode cX12_isTower 10 = .ok (.goto 4, 3) := by decide +kernel
theorem dX12_isTower_13 : decode cX12_isTower 13 = .ok (.iconst 0, 1) := by decide +kernel
theorem dX12_isTower_14 : decode cX12_isTower 14 = .ok (.ireturn, 1) := by decide +kernel
theorem dX12_isOne_0 : decode cX12_isOne 0 = .ok (.iload_n 1, 1) := by decide +kernel
theorem dX12_isOne_1 : decode cX12_isOne 1 = .ok (.i2l, 1) := by decide +kernel
theorem dX12_isOne_2 : decode cX12_isOne 2 = .ok (.lconst 0, 1) := by decide +kernel
theorem dX12_isOne_3 : decode cX12_isOne 3 = .ok (.aload_n 0, 1) := by decide +kernel
theorem dX12_isOne_4 : decode cX12_isOne 4 = .ok (.getfield 7, 3) := by decide +kernel
theorem dX12_isOne_7 : decode cX12_isOne 7 = .ok (.iconst 2, 1) := by decide +kernel
theorem dX12_isOne_8 : decode cX12_isOne 8 = .ok (.iaload, 1) := by decide +kernel
theorem dX12_isOne_9 : decode cX12_isOne 9 = .ok (.iconst 1, 1) := by decide +kernel
theorem dX12_isOne_10 : decode cX12_isOne 10 = .ok (.isub, 1) := by decide +kernel
theorem dX12_isOne_11 : decode cX12_isOne 11 = .ok (.i2l, 1) := by decide +kernel
theorem dX12_isOne_12 : decode cX12_isOne 12 = .ok (.invokestatic 40, 3) := by decide +kernel
theorem dX12_isOne_15 : decode cX12_isOne 15 = .ok (.ireturn, 1) := by decide +kernel
theorem dX12_burdenOf_0 : decode cX12_burdenOf 0 = .ok (.aload_n 0, 1) := by decide +kernel
theorem dX12_burdenOf_1 : decode cX12_burdenOf 1 = .ok (.getfield 7, 3) := by decide +kernel
theorem dX12_burdenOf_4 : decode cX12_burdenOf 4 = .ok (.bipush 10, 2) := by decide +kernel
theorem dX12_burdenOf_6 : decode cX12_burdenOf 6 = .ok (.iload_n 1, 1) := by decide +kernel
theorem dX12_burdenOf_7 : decode cX12_burdenOf 7 = .ok (.iadd, 1) := by decide +kernel
theorem dX12_burdenOf_8 : decode cX12_burdenOf 8 = .ok (.iaload, 1) := by decide +kernel
theorem dX12_burdenOf_9 : decode cX12_burdenOf 9 = .ok (.istore_n 2, 1) := by decide +kernel
theorem dX12_burdenOf_10 : decode cX12_burdenOf 10 = .ok (.aload_n 0, 1) := by decide +kernel
theorem dX12_burdenOf_11 : decode cX12_burdenOf 11 = .ok (.getfield 7, 3) := by decide +kernel
theorem dX12_burdenOf_14 : decode cX12_burdenOf 14 = .ok (.iconst 3, 1) := by decide +kernel
theorem dX12_burdenOf_15 : decode cX12_burdenOf 15 = .ok (.iload_n 1, 1) := by decide +kernel
theorem dX12_burdenOf_16 : decode cX12_burdenOf 16 = .ok (.iadd, 1) := by decide +kernel
theorem dX12_burdenOf_17 : decode cX12_burdenOf 17 = .ok (.iaload, 1) := by decide +kernel
theorem dX12_burdenOf_18 : decode cX12_burdenOf 18 = .ok (.tableswitch 42 2 5 #[30, 38, 42, 34], 30) := by decide +kernel
theorem dX12_burdenOf_48 : decode cX12_burdenOf 48 = .ok (.iconst 2, 1) := by decide +kernel
theorem dX12_burdenOf_49 : decode cX12_burdenOf 49 = .ok (.iload_n 2, 1) := by decide +kernel
theorem dX12_burdenOf_50 : decode cX12_burdenOf 50 = .ok (.imul, 1) := by decide +kernel
theorem dX12_burdenOf_51 : decode cX12_burdenOf 51 = .ok (.ireturn, 1) := by decide +kernel
theorem dX12_burdenOf_52 : decode cX12_burdenOf 52 = .ok (.iload_n 2, 1) := by decide +kernel
theorem dX12_burdenOf_53 : decode cX12_burdenOf 53 = .ok (.iconst 5, 1) := by decide +kernel
theorem dX12_burdenOf_54 : decode cX12_burdenOf 54 = .ok (.iadd, 1) := by decide +kernel
theorem dX12_burdenOf_55 : decode cX12_burdenOf 55 = .ok (.ireturn, 1) := by decide +kernel
theorem dX12_burdenOf_56 : decode cX12_burdenOf 56 = .ok (.iload_n 2, 1) := by decide +kernel
theorem dX12_burdenOf_57 : decode cX12_burdenOf 57 = .ok (.iconst 2, 1) := by decide +kernel
theorem dX12_burdenOf_58 : decode cX12_burdenOf 58 = .ok (.idiv, 1) := by decide +kernel
theorem dX12_burdenOf_59 : decode cX12_burdenOf 59 = .ok (.ireturn, 1) := by decide +kernel
theorem dX12_burdenOf_60 : decode cX12_burdenOf 60 = .ok (.iload_n 2, 1) := by decide +kernel
theorem dX12_burdenOf_61 : decode cX12_burdenOf 61 = .ok (.ireturn, 1) := by decide +kernel
theorem dX12_sideOf_0 : decode cX12_sideOf 0 = .ok (.iload_n 1, 1) := by decide +kernel
theorem dX12_sideOf_1 : decode cX12_sideOf 1 = .ok (.ifCond .lt 15, 3) := by decide +kernel
theorem dX12_sideOf_4 : decode cX12_sideOf 4 = .ok (.iload_n 1, 1) := by decide +kernel
theorem dX12_sideOf_5 : decode cX12_sideOf 5 = .ok (.aload_n 0, 1) := by decide +kernel
theorem dX12_sideOf_6 : decode cX12_sideOf 6 = .ok (.getfield 7, 3) := by decide +kernel
theorem dX12_sideOf_9 : decode cX12_sideOf 9 = .ok (.iconst 0, 1) := by decide +kernel
theorem dX12_sideOf_10 : decode cX12_sideOf 10 = .ok (.iaload, 1) := by decide +kernel
theorem dX12_sideOf_11 : decode cX12_sideOf 11 = .ok (.iconst 1, 1) := by decide +kernel
theorem dX12_sideOf_12 : decode cX12_sideOf 12 = .ok (.isub, 1) := by decide +kernel
theorem dX12_sideOf_13 : decode cX12_sideOf 13 = .ok (.if_icmp .ne 7, 3) := by decide +kernel
theorem dX12_sideOf_16 : decode cX12_sideOf 16 = .ok (.iconst (-1), 1) := by decide +kernel
theorem dX12_sideOf_17 : decode cX12_sideOf 17 = .ok (.goto 6, 3) := by decide +kernel
theorem dX12_sideOf_20 : decode cX12_sideOf 20 = .ok (.iload_n 1, 1) := by decide +kernel
theorem dX12_sideOf_21 : decode cX12_sideOf 21 = .ok (.iconst 4, 1) := by decide +kernel
theorem dX12_sideOf_22 : decode cX12_sideOf 22 = .ok (.irem, 1) := by decide +kernel
theorem dX12_sideOf_23 : decode cX12_sideOf 23 = .ok (.ireturn, 1) := by decide +kernel
theorem dX12_pull_0 : decode cX12_pull 0 = .ok (.iload_n 0, 1) := by decide +kernel
theorem dX12_pull_1 : decode cX12_pull 1 = .ok (.ifCond .lt 18, 3) := by decide +kernel
theorem dX12_pull_4 : decode cX12_pull 4 = .ok (.iload_n 0, 1) := by decide +kernel
theorem dX12_pull_5 : decode cX12_pull 5 = .ok (.iconst 2, 1) := by decide +kernel
theorem dX12_pull_6 : decode cX12_pull 6 = .ok (.irem, 1) := by decide +kernel
theorem dX12_pull_7 : decode cX12_pull 7 = .ok (.ifCond .ne 7, 3) := by decide +kernel
theorem dX12_pull_10 : decode cX12_pull 10 = .ok (.iconst 1, 1) := by decide +kernel
theorem dX12_pull_11 : decode cX12_pull 11 = .ok (.goto 4, 3) := by decide +kernel
theorem dX12_pull_14 : decode cX12_pull 14 = .ok (.iconst 0, 1) := by decide +kernel
theorem dX12_pull_15 : decode cX12_pull 15 = .ok (.iload_n 1, 1) := by decide +kernel
theorem dX12_pull_16 : decode cX12_pull 16 = .ok (.if_icmp .eq 7, 3) := by decide +kernel
theorem dX12_pull_19 : decode cX12_pull 19 = .ok (.iconst 0, 1) := by decide +kernel
theorem dX12_pull_20 : decode cX12_pull 20 = .ok (.goto 13, 3) := by decide +kernel
theorem dX12_pull_23 : decode cX12_pull 23 = .ok (.iload_n 0, 1) := by decide +kernel
theorem dX12_pull_24 : decode cX12_pull 24 = .ok (.iconst 2, 1) := by decide +kernel
theorem dX12_pull_25 : decode cX12_pull 25 = .ok (.if_icmp .ge 7, 3) := by decide +kernel
theorem dX12_pull_28 : decode cX12_pull 28 = .ok (.iconst 1, 1) := by decide +kernel
theorem dX12_pull_29 : decode cX12_pull 29 = .ok (.goto 4, 3) := by decide +kernel
theorem dX12_pull_32 : decode cX12_pull 32 = .ok (.iconst (-1), 1) := by decide +kernel
theorem dX12_pull_33 : decode cX12_pull 33 = .ok (.ireturn, 1) := by decide +kernel
theorem dX12_leanOf_0 : decode cX12_leanOf 0 = .ok (.aload_n 0, 1) := by decide +kernel
theorem dX12_leanOf_1 : decode cX12_leanOf 1 = .ok (.getfield 7, 3) := by decide +kernel
theorem dX12_leanOf_4 : decode cX12_leanOf 4 = .ok (.iload_n 1, 1) := by decide +kernel
theorem dX12_leanOf_5 : decode cX12_leanOf 5 = .ok (.iload_n 2, 1) := by decide +kernel
theorem dX12_leanOf_6 : decode cX12_leanOf 6 = .ok (.ifCond .eq 8, 3) := by decide +kernel
theorem dX12_leanOf_9 : decode cX12_leanOf 9 = .ok (.bipush 48, 2) := by decide +kernel
theorem dX12_leanOf_11 : decode cX12_leanOf 11 = .ok (.goto 5, 3) := by decide +kernel
theorem dX12_leanOf_14 : decode cX12_leanOf 14 = .ok (.bipush 49, 2) := by decide +kernel
theorem dX12_leanOf_16 : decode cX12_leanOf 16 = .ok (.iadd, 1) := by decide +kernel
theorem dX12_leanOf_17 : decode cX12_leanOf 17 = .ok (.iaload, 1) := by decide +kernel
theorem dX12_leanOf_18 : decode cX12_leanOf 18 = .ok (.istore_n 3, 1) := by decide +kernel
theorem dX12_leanOf_19 : decode cX12_leanOf 19 = .ok (.iconst 0, 1) := by decide +kernel
theorem dX12_leanOf_20 : decode cX12_leanOf 20 = .ok (.istore 4, 2) := by decide +kernel
theorem dX12_leanOf_22 : decode cX12_leanOf 22 = .ok (.iload 4, 2) := by decide +kernel
theorem dX12_leanOf_24 : decode cX12_leanOf 24 = .ok (.aload_n 0, 1) := by decide +kernel
theorem dX12_leanOf_25 : decode cX12_leanOf 25 = .ok (.getfield 7, 3) := by decide +kernel
theorem dX12_leanOf_28 : decode cX12_leanOf 28 = .ok (.iconst 2, 1) := by decide +kernel
theorem dX12_leanOf_29 : decode cX12_leanOf 29 = .ok (.iaload, 1) := by decide +kernel
theorem dX12_leanOf_30 : decode cX12_leanOf 30 = .ok (.if_icmp .ge 39, 3) := by decide +kernel
theorem dX12_leanOf_33 : decode cX12_leanOf 33 = .ok (.iload_n 3, 1) := by decide +kernel
theorem dX12_leanOf_34 : decode cX12_leanOf 34 = .ok (.aload_n 0, 1) := by decide +kernel
theorem dX12_leanOf_35 : decode cX12_leanOf 35 = .ok (.iload 4, 2) := by decide +kernel
theorem dX12_leanOf_37 : decode cX12_leanOf 37 = .ok (.invokevirtual 161, 3) := by decide +kernel
theorem dX12_leanOf_40 : decode cX12_leanOf 40 = .ok (.aload_n 0, 1) := by decide +kernel
theorem dX12_leanOf_41 : decode cX12_leanOf 41 = .ok (.aload_n 0, 1) := by decide +kernel
theorem dX12_leanOf_42 : decode cX12_leanOf 42 = .ok (.getfield 7, 3) := by decide +kernel
theorem dX12_leanOf_45 : decode cX12_leanOf 45 = .ok (.iload_n 1, 1) := by decide +kernel
theorem dX12_leanOf_46 : decode cX12_leanOf 46 = .ok (.bipush 24, 2) := by decide +kernel
theorem dX12_leanOf_48 : decode cX12_leanOf 48 = .ok (.iadd, 1) := by decide +kernel
theorem dX12_leanOf_49 : decode cX12_leanOf 49 = .ok (.iload 4, 2) := by decide +kernel
theorem dX12_leanOf_51 : decode cX12_leanOf 51 = .ok (.iadd, 1) := by decide +kernel
theorem dX12_leanOf_52 : decode cX12_leanOf 52 = .ok (.iaload, 1) := by decide +kernel
theorem dX12_leanOf_53 : decode cX12_leanOf 53 = .ok (.invokevirtual 164, 3) := by decide +kernel
theorem dX12_leanOf_56 : decode cX12_leanOf 56 = .ok (.iload_n 2, 1) := by decide +kernel
theorem dX12_leanOf_57 : decode cX12_leanOf 57 = .ok (.invokestatic 167, 3) := by decide +kernel
theorem dX12_leanOf_60 : decode cX12_leanOf 60 = .ok (.imul, 1) := by decide +kernel
theorem dX12_leanOf_61 : decode cX12_leanOf 61 = .ok (.iadd, 1) := by decide +kernel
theorem dX12_leanOf_62 : decode cX12_leanOf 62 = .ok (.istore_n 3, 1) := by decide +kernel
theorem dX12_leanOf_63 : decode cX12_leanOf 63 = .ok (.iinc 4 1, 3) := by decide +kernel
theorem dX12_leanOf_66 : decode cX12_leanOf 66 = .ok (.goto (-44), 3) := by decide +kernel
theorem dX12_leanOf_69 : decode cX12_leanOf 69 = .ok (.iconst 0, 1) := by decide +kernel
theorem dX12_leanOf_70 : decode cX12_leanOf 70 = .ok (.istore 4, 2) := by decide +kernel
theorem dX12_leanOf_72 : decode cX12_leanOf 72 = .ok (.iload 4, 2) := by decide +kernel
theorem dX12_leanOf_74 : decode cX12_leanOf 74 = .ok (.aload_n 0, 1) := by decide +kernel
theorem dX12_leanOf_75 : decode cX12_leanOf 75 = .ok (.getfield 7, 3) := by decide +kernel
theorem dX12_leanOf_78 : decode cX12_leanOf 78 = .ok (.bipush 38, 2) := by decide +kernel
theorem dX12_leanOf_80 : decode cX12_leanOf 80 = .ok (.iaload, 1) := by decide +kernel
theorem dX12_leanOf_81 : decode cX12_leanOf 81 = .ok (.if_icmp .ge 39, 3) := by decide +kernel
theorem dX12_leanOf_84 : decode cX12_leanOf 84 = .ok (.iload_n 3, 1) := by decide +kernel
theorem dX12_leanOf_85 : decode cX12_leanOf 85 = .ok (.aload_n 0, 1) := by decide +kernel
theorem dX12_leanOf_86 : decode cX12_leanOf 86 = .ok (.getfield 7, 3) := by decide +kernel
theorem dX12_leanOf_89 : decode cX12_leanOf 89 = .ok (.bipush 39, 2) := by decide +kernel
theorem dX12_leanOf_91 : decode cX12_leanOf 91 = .ok (.iload 4, 2) := by decide +kernel
theorem dX12_leanOf_93 : decode cX12_leanOf 93 = .ok (.iadd, 1) := by decide +kernel
theorem dX12_leanOf_94 : decode cX12_leanOf 94 = .ok (.iaload, 1) := by decide +kernel
theorem dX12_leanOf_95 : decode cX12_leanOf 95 = .ok (.aload_n 0, 1) := by decide +kernel
theorem dX12_leanOf_96 : decode cX12_leanOf 96 = .ok (.getfield 7, 3) := by decide +kernel
theorem dX12_leanOf_99 : decode cX12_leanOf 99 = .ok (.iload_n 1, 1) := by decide +kernel
theorem dX12_leanOf_100 : decode cX12_leanOf 100 = .ok (.bipush 43, 2) := by decide +kernel
theorem dX12_leanOf_102 : decode cX12_leanOf 102 = .ok (.iadd, 1) := by decide +kernel
theorem dX12_leanOf_103 : decode cX12_leanOf 103 = .ok (.iload 4, 2) := by decide +kernel
theorem dX12_leanOf_105 : decode cX12_leanOf 105 = .ok (.iadd, 1) := by decide +kernel
theorem dX12_leanOf_106 : decode cX12_leanOf 106 = .ok (.iaload, 1) := by decide +kernel
theorem dX12_leanOf_107 : decode cX12_leanOf 107 = .ok (.iload_n 2, 1) := by decide +kernel
theorem dX12_leanOf_108 : decode cX12_leanOf 108 = .ok (.invokestatic 167, 3) := by decide +kernel
theorem dX12_leanOf_111 : decode cX12_leanOf 111 = .ok (.imul, 1) := by decide +kernel
theorem dX12_leanOf_112 : decode cX12_leanOf 112 = .ok (.iadd, 1) := by decide +kernel
theorem dX12_leanOf_113 : decode cX12_leanOf 113 = .ok (.istore_n 3, 1) := by decide +kernel
theorem dX12_leanOf_114 : decode cX12_leanOf 114 = .ok (.iinc 4 1, 3) := by decide +kernel
theorem dX12_leanOf_117 : decode cX12_leanOf 117 = .ok (.goto (-45), 3) := by decide +kernel
theorem dX12_leanOf_120 : decode cX12_leanOf 120 = .ok (.iload_n 3, 1) := by decide +kernel
theorem dX12_leanOf_121 : decode cX12_leanOf 121 = .ok (.ireturn, 1) := by decide +kernel
theorem dX12_worstOf_0 : decode cX12_worstOf 0 = .ok (.aload_n 0, 1) := by decide +kernel
theorem dX12_worstOf_1 : decode cX12_worstOf 1 = .ok (.iload_n 1, 1) := by decide +kernel
theorem dX12_worstOf_2 : decode cX12_worstOf 2 = .ok (.iconst 1, 1) := by decide +kernel
theorem dX12_worstOf_3 : decode cX12_worstOf 3 = .ok (.invokevirtual 171, 3) := by decide +kernel
theorem dX12_worstOf_6 : decode cX12_worstOf 6 = .ok (.invokestatic 174, 3) := by decide +kernel
theorem dX12_worstOf_9 : decode cX12_worstOf 9 = .ok (.aload_n 0, 1) := by decide +kernel
theorem dX12_worstOf_10 : decode cX12_worstOf 10 = .ok (.iload_n 1, 1) := by decide +kernel
theorem dX12_worstOf_11 : decode cX12_worstOf 11 = .ok (.iconst 0, 1) := by decide +kernel
theorem dX12_worstOf_12 : decode cX12_worstOf 12 = .ok (.invokevirtual 171, 3) := by decide +kernel
theorem dX12_worstOf_15 : decode cX12_worstOf 15 = .ok (.invokestatic 174, 3) := by decide +kernel
theorem dX12_worstOf_18 : decode cX12_worstOf 18 = .ok (.invokestatic 177, 3) := by decide +kernel
theorem dX12_worstOf_21 : decode cX12_worstOf 21 = .ok (.ireturn, 1) := by decide +kernel
theorem dX12_half_0 : decode cX12_half 0 = .ok (.aload_n 0, 1) := by decide +kernel
theorem dX12_half_1 : decode cX12_half 1 = .ok (.getfield 7, 3) := by decide +kernel
theorem dX12_half_4 : decode cX12_half 4 = .ok (.iload_n 1, 1) := by decide +kernel
theorem dX12_half_5 : decode cX12_half 5 = .ok (.bipush 47, 2) := by decide +kernel
theorem dX12_half_7 : decode cX12_half 7 = .ok (.iadd, 1) := by decide +kernel
theorem dX12_half_8 : decode cX12_half 8 = .ok (.dup2, 1) := by decide +kernel
theorem dX12_half_9 : decode cX12_half 9 = .ok (.iaload, 1) := by decide +kernel
theorem dX12_half_10 : decode cX12_half 10 = .ok (.iconst 1, 1) := by decide +kernel
theorem dX12_half_11 : decode cX12_half 11 = .ok (.iadd, 1) := by decide +kernel
theorem dX12_half_12 : decode cX12_half 12 = .ok (.iastore, 1) := by decide +kernel
theorem dX12_half_13 : decode cX12_half 13 = .ok (.iconst 0, 1) := by decide +kernel
theorem dX12_half_14 : decode cX12_half 14 = .ok (.istore_n 2, 1) := by decide +kernel
theorem dX12_half_15 : decode cX12_half 15 = .ok (.iload_n 2, 1) := by decide +kernel
theorem dX12_half_16 : decode cX12_half 16 = .ok (.aload_n 0, 1) := by decide +kernel
theorem dX12_half_17 : decode cX12_half 17 = .ok (.getfield 7, 3) := by decide +kernel
theorem dX12_half_20 : decode cX12_half 20 = .ok (.iconst 2, 1) := by decide +kernel
theorem dX12_half_21 : decode cX12_half 21 = .ok (.iaload, 1) := by decide +kernel
theorem dX12_half_22 : decode cX12_half 22 = .ok (.if_icmp .ge 169, 3) := by decide +kernel
theorem dX12_half_25 : decode cX12_half 25 = .ok (.aload_n 0, 1) := by decide +kernel
theorem dX12_half_26 : decode cX12_half 26 = .ok (.getfield 7, 3) := by decide +kernel
theorem dX12_half_29 : decode cX12_half 29 = .ok (.iload_n 1, 1) := by decide +kernel
theorem dX12_half_30 : decode cX12_half 30 = .ok (.bipush 31, 2) := by decide +kernel
theorem dX12_half_32 : decode cX12_half 32 = .ok (.iadd, 1) := by decide +kernel
theorem dX12_half_33 : decode cX12_half 33 = .ok (.iload_n 2, 1) := by decide +kernel
theorem dX12_half_34 : decode cX12_half 34 = .ok (.iadd, 1) := by decide +kernel
theorem dX12_half_35 : decode cX12_half 35 = .ok (.iaload, 1) := by decide +kernel
theorem dX12_half_36 : decode cX12_half 36 = .ok (.istore_n 3, 1) := by decide +kernel
theorem dX12_half_37 : decode cX12_half 37 = .ok (.iload_n 3, 1) := by decide +kernel
theorem dX12_half_38 : decode cX12_half 38 = .ok (.ifCond .eq 147, 3) := by decide +kernel
theorem dX12_half_41 : decode cX12_half 41 = .ok (.aload_n 0, 1) := by decide +kernel
theorem dX12_half_42 : decode cX12_half 42 = .ok (.getfield 7, 3) := by decide +kernel
theorem dX12_half_45 : decode cX12_half 45 = .ok (.iload_n 1, 1) := by decide +kernel
theorem dX12_half_46 : decode cX12_half 46 = .ok (.bipush 47, 2) := by decide +kernel
theorem dX12_half_48 : decode cX12_half 48 = .ok (.iadd, 1) := by decide +kernel
theorem dX12_half_49 : decode cX12_half 49 = .ok (.iaload, 1) := by decide +kernel
theorem dX12_half_50 : decode cX12_half 50 = .ok (.aload_n 0, 1) := by decide +kernel
theorem dX12_half_51 : decode cX12_half 51 = .ok (.getfield 7, 3) := by decide +kernel
theorem dX12_half_54 : decode cX12_half 54 = .ok (.bipush 17, 2) := by decide +kernel
theorem dX12_half_56 : decode cX12_half 56 = .ok (.iload_n 2, 1) := by decide +kernel
theorem dX12_half_57 : decode cX12_half 57 = .ok (.iadd, 1) := by decide +kernel
theorem dX12_half_58 : decode cX12_half 58 = .ok (.iaload, 1) := by decide +kernel
theorem dX12_half_59 : decode cX12_half 59 = .ok (.irem, 1) := by decide +kernel
theorem dX12_half_60 : decode cX12_half 60 = .ok (.ifCond .eq 6, 3) := by decide +kernel
theorem dX12_half_63 : decode cX12_half 63 = .ok (.goto 122, 3) := by decide +kernel
theorem dX12_half_66 : decode cX12_half 66 = .ok (.aload_n 0, 1) := by decide +kernel
theorem dX12_half_67 : decode cX12_half 67 = .ok (.getfield 7, 3) := by decide +kernel
theorem dX12_half_70 : decode cX12_half 70 = .ok (.iload_n 1, 1) := by decide +kernel
theorem dX12_half_71 : decode cX12_half 71 = .ok (.bipush 24, 2) := by decide +kernel
theorem dX12_half_73 : decode cX12_half 73 = .ok (.iadd, 1) := by decide +kernel
theorem dX12_half_74 : decode cX12_half 74 = .ok (.iload_n 2, 1) := by decide +kernel
theorem dX12_half_75 : decode cX12_half 75 = .ok (.iadd, 1) := by decide +kernel
theorem dX12_half_76 : decode cX12_half 76 = .ok (.iaload, 1) := by decide +kernel
theorem dX12_half_77 : decode cX12_half 77 = .ok (.iload_n 3, 1) := by decide +kernel
theorem dX12_half_78 : decode cX12_half 78 = .ok (.aload_n 0, 1) := by decide +kernel
theorem dX12_half_79 : decode cX12_half 79 = .ok (.getfield 7, 3) := by decide +kernel
theorem dX12_half_82 : decode cX12_half 82 = .ok (.iconst 3, 1) := by decide +kernel
theorem dX12_half_83 : decode cX12_half 83 = .ok (.iload_n 2, 1) := by decide +kernel
theorem dX12_half_84 : decode cX12_half 84 = .ok (.iadd, 1) := by decide +kernel
theorem dX12_half_85 : decode cX12_half 85 = .ok (.iaload, 1) := by decide +kernel
theorem dX12_half_86 : decode cX12_half 86 = .ok (.iconst 4, 1) := by decide +kernel
theorem dX12_half_87 : decode cX12_half 87 = .ok (.if_icmp .ne 7, 3) := by decide +kernel
theorem dX12_half_90 : decode cX12_half 90 = .ok (.iconst 2, 1) := by decide +kernel
theorem dX12_half_91 : decode cX12_half 91 = .ok (.goto 4, 3) := by decide +kernel
theorem dX12_half_94 : decode cX12_half 94 = .ok (.iconst 1, 1) := by decide +kernel
theorem dX12_half_95 : decode cX12_half 95 = .ok (.imul, 1) := by decide +kernel
theorem dX12_half_96 : decode cX12_half 96 = .ok (.iadd, 1) := by decide +kernel
theorem dX12_half_97 : decode cX12_half 97 = .ok (.istore 4, 2) := by decide +kernel
theorem dX12_half_99 : decode cX12_half 99 = .ok (.iload 4, 2) := by decide +kernel
theorem dX12_half_101 : decode cX12_half 101 = .ok (.iconst (-1), 1) := by decide +kernel
theorem dX12_half_102 : decode cX12_half 102 = .ok (.if_icmp .ge 7, 3) := by decide +kernel
theorem dX12_half_105 : decode cX12_half 105 = .ok (.iconst (-1), 1) := by decide +kernel
theorem dX12_half_106 : decode cX12_half 106 = .ok (.goto 27, 3) := by decide +kernel
theorem dX12_half_109 : decode cX12_half 109 = .ok (.iload 4, 2) := by decide +kernel
theorem dX12_half_111 : decode cX12_half 111 = .ok (.aload_n 0, 1) := by decide +kernel
theorem dX12_half_112 : decode cX12_half 112 = .ok (.getfield 7, 3) := by decide +kernel
theorem dX12_half_115 : decode cX12_half 115 = .ok (.iconst 0, 1) := by decide +kernel
theorem dX12_half_116 : decode cX12_half 116 = .ok (.iaload, 1) := by decide +kernel
theorem dX12_half_117 : decode cX12_half 117 = .ok (.if_icmp .lt 14, 3) := by decide +kernel
theorem dX12_half_120 : decode cX12_half 120 = .ok (.aload_n 0, 1) := by decide +kernel
theorem dX12_half_121 : decode cX12_half 121 = .ok (.getfield 7, 3) := by decide +kernel
theorem dX12_half_124 : decode cX12_half 124 = .ok (.iconst 0, 1) := by decide +kernel
theorem dX12_half_125 : decode cX12_half 125 = .ok (.iaload, 1) := by decide +kernel
theorem dX12_half_126 : decode cX12_half 126 = .ok (.iconst 1, 1) := by decide +kernel
theorem dX12_half_127 : decode cX12_half 127 = .ok (.isub, 1) := by decide +kernel
theorem dX12_half_128 : decode cX12_half 128 = .ok (.goto 5, 3) := by decide +kernel
theorem dX12_half_131 : decode cX12_half 131 = .ok (.iload 4, 2) := by decide +kernel
theorem dX12_half_133 : decode cX12_half 133 = .ok (.istore 4, 2) := by decide +kernel
theorem dX12_half_135 : decode cX12_half 135 = .ok (.aload_n 0, 1) := by decide +kernel
theorem dX12_half_136 : decode cX12_half 136 = .ok (.getfield 7, 3) := by decide +kernel
theorem dX12_half_139 : decode cX12_half 139 = .ok (.iload_n 1, 1) := by decide +kernel
theorem dX12_half_140 : decode cX12_half 140 = .ok (.bipush 24, 2) := by decide +kernel
theorem dX12_half_142 : decode cX12_half 142 = .ok (.iadd, 1) := by decide +kernel
theorem dX12_half_143 : decode cX12_half 143 = .ok (.iload_n 2, 1) := by decide +kernel
theorem dX12_half_144 : decode cX12_half 144 = .ok (.iadd, 1) := by decide +kernel
theorem dX12_half_145 : decode cX12_half 145 = .ok (.iload 4, 2) := by decide +kernel
theorem dX12_half_147 : decode cX12_half 147 = .ok (.iastore, 1) := by decide +kernel
theorem dX12_half_148 : decode cX12_half 148 = .ok (.aload_n 0, 1) := by decide +kernel
theorem dX12_half_149 : decode cX12_half 149 = .ok (.getfield 7, 3) := by decide +kernel
theorem dX12_half_152 : decode cX12_half 152 = .ok (.iload_n 1, 1) := by decide +kernel
theorem dX12_half_153 : decode cX12_half 153 = .ok (.bipush 31, 2) := by decide +kernel
theorem dX12_half_155 : decode cX12_half 155 = .ok (.iadd, 1) := by decide +kernel
theorem dX12_half_156 : decode cX12_half 156 = .ok (.iload_n 2, 1) := by decide +kernel
theorem dX12_half_157 : decode cX12_half 157 = .ok (.iadd, 1) := by decide +kernel
theorem dX12_half_158 : decode cX12_half 158 = .ok (.iload 4, 2) := by decide +kernel
theorem dX12_half_160 : decode cX12_half 160 = .ok (.iload_n 3, 1) := by decide +kernel
theorem dX12_half_161 : decode cX12_half 161 = .ok (.ifCond .le 14, 3) := by decide +kernel
theorem dX12_half_164 : decode cX12_half 164 = .ok (.aload_n 0, 1) := by decide +kernel
theorem dX12_half_165 : decode cX12_half 165 = .ok (.getfield 7, 3) := by decide +kernel
theorem dX12_half_168 : decode cX12_half 168 = .ok (.iconst 0, 1) := by decide +kernel
theorem dX12_half_169 : decode cX12_half 169 = .ok (.iaload, 1) := by decide +kernel
theorem dX12_half_170 : decode cX12_half 170 = .ok (.iconst 1, 1) := by decide +kernel
theorem dX12_half_171 : decode cX12_half 171 = .ok (.isub, 1) := by decide +kernel
theorem dX12_half_172 : decode cX12_half 172 = .ok (.goto 4, 3) := by decide +kernel
theorem dX12_half_175 : decode cX12_half 175 = .ok (.iconst (-1), 1) := by decide +kernel
theorem dX12_half_176 : decode cX12_half 176 = .ok (.if_icmp .ne 7, 3) := by decide +kernel
theorem dX12_half_179 : decode cX12_half 179 = .ok (.iconst 0, 1) := by decide +kernel
theorem dX12_half_180 : decode cX12_half 180 = .ok (.goto 4, 3) := by decide +kernel
theorem dX12_half_183 : decode cX12_half 183 = .ok (.iload_n 3, 1) := by decide +kernel
theorem dX12_half_184 : decode cX12_half 184 = .ok (.iastore, 1) := by decide +kernel
theorem dX12_half_185 : decode cX12_half 185 = .ok (.iinc 2 1, 3) := by decide +kernel
theorem dX12_half_188 : decode cX12_half 188 = .ok (.goto (-173), 3) := by decide +kernel
theorem dX12_half_191 : decode cX12_half 191 = .ok (.return_, 1) := by decide +kernel
theorem dX12_minds_0 : decode cX12_minds 0 = .ok (.aload_n 0, 1) := by decide +kernel
theorem dX12_minds_1 : decode cX12_minds 1 = .ok (.getfield 158, 3) := by decide +kernel
theorem dX12_minds_4 : decode cX12_minds 4 = .ok (.bipush 24, 2) := by decide +kernel
theorem dX12_minds_6 : decode cX12_minds 6 = .ok (.if_icmp .ne 49, 3) := by decide +kernel
theorem dX12_minds_9 : decode cX12_minds 9 = .ok (.iconst 1, 1) := by decide +kernel
theorem dX12_minds_10 : decode cX12_minds 10 = .ok (.istore_n 1, 1) := by decide +kernel
theorem dX12_minds_11 : decode cX12_minds 11 = .ok (.iload_n 1, 1) := by decide +kernel
theorem dX12_minds_12 : decode cX12_minds 12 = .ok (.bipush 24, 2) := by decide +kernel
theorem dX12_minds_14 : decode cX12_minds 14 = .ok (.if_icmp .ge 31, 3) := by decide +kernel
theorem dX12_minds_17 : decode cX12_minds 17 = .ok (.aload_n 0, 1) := by decide +kernel
theorem dX12_minds_18 : decode cX12_minds 18 = .ok (.sipush 250, 3) := by decide +kernel
theorem dX12_minds_21 : decode cX12_minds 21 = .ok (.bipush 50, 2) := by decide +kernel
theorem dX12_minds_23 : decode cX12_minds 23 = .ok (.iload_n 1, 1) := by decide +kernel
theorem dX12_minds_24 : decode cX12_minds 24 = .ok (.imul, 1) := by decide +kernel
theorem dX12_minds_25 : decode cX12_minds 25 = .ok (.iadd, 1) := by decide +kernel
theorem dX12_minds_26 : decode cX12_minds 26 = .ok (.sipush 250, 3) := by decide +kernel
theorem dX12_minds_29 : decode cX12_minds 29 = .ok (.bipush 50, 2) := by decide +kernel
theorem dX12_minds_31 : decode cX12_minds 31 = .ok (.iload_n 1, 1) := by decide +kernel
theorem dX12_minds_32 : decode cX12_minds 32 = .ok (.iconst 1, 1) := by decide +kernel
theorem dX12_minds_33 : decode cX12_minds 33 = .ok (.isub, 1) := by decide +kernel
theorem dX12_minds_34 : decode cX12_minds 34 = .ok (.imul, 1) := by decide +kernel
theorem dX12_minds_35 : decode cX12_minds 35 = .ok (.iadd, 1) := by decide +kernel
theorem dX12_minds_36 : decode cX12_minds 36 = .ok (.invokevirtual 154, 3) := by decide +kernel
theorem dX12_minds_39 : decode cX12_minds 39 = .ok (.iinc 1 1, 3) := by decide +kernel
theorem dX12_minds_42 : decode cX12_minds 42 = .ok (.goto (-31), 3) := by decide +kernel
theorem dX12_minds_45 : decode cX12_minds 45 = .ok (.aload_n 0, 1) := by decide +kernel
theorem dX12_minds_46 : decode cX12_minds 46 = .ok (.dup, 1) := by decide +kernel
theorem dX12_minds_47 : decode cX12_minds 47 = .ok (.getfield 158, 3) := by decide +kernel
theorem dX12_minds_50 : decode cX12_minds 50 = .ok (.iconst 1, 1) := by decide +kernel
theorem dX12_minds_51 : decode cX12_minds 51 = .ok (.isub, 1) := by decide +kernel
theorem dX12_minds_52 : decode cX12_minds 52 = .ok (.putfield 158, 3) := by decide +kernel
theorem dX12_minds_55 : decode cX12_minds 55 = .ok (.aload_n 0, 1) := by decide +kernel
theorem dX12_minds_56 : decode cX12_minds 56 = .ok (.iconst 0, 1) := by decide +kernel
theorem dX12_minds_57 : decode cX12_minds 57 = .ok (.sipush 250, 3) := by decide +kernel
theorem dX12_minds_60 : decode cX12_minds 60 = .ok (.bipush 50, 2) := by decide +kernel
theorem dX12_minds_62 : decode cX12_minds 62 = .ok (.aload_n 0, 1) := by decide +kernel
theorem dX12_minds_63 : decode cX12_minds 63 = .ok (.getfield 158, 3) := by decide +kernel
theorem dX12_minds_66 : decode cX12_minds 66 = .ok (.imul, 1) := by decide +kernel
theorem dX12_minds_67 : decode cX12_minds 67 = .ok (.iadd, 1) := by decide +kernel
theorem dX12_minds_68 : decode cX12_minds 68 = .ok (.invokevirtual 154, 3) := by decide +kernel
theorem dX12_minds_71 : decode cX12_minds 71 = .ok (.aload_n 0, 1) := by decide +kernel
theorem dX12_minds_72 : decode cX12_minds 72 = .ok (.dup, 1) := by decide +kernel
theorem dX12_minds_73 : decode cX12_minds 73 = .ok (.getfield 158, 3) := by decide +kernel
theorem dX12_minds_76 : decode cX12_minds 76 = .ok (.iconst 1, 1) := by decide +kernel
theorem dX12_minds_77 : decode cX12_minds 77 = .ok (.iadd, 1) := by decide +kernel
theorem dX12_minds_78 : decode cX12_minds 78 = .ok (.putfield 158, 3) := by decide +kernel
theorem dX12_minds_81 : decode cX12_minds 81 = .ok (.return_, 1) := by decide +kernel
theorem dX12_go_0 : decode cX12_go 0 = .ok (.aload_n 0, 1) := by decide +kernel
theorem dX12_go_1 : decode cX12_go 1 = .ok (.iload_n 1, 1) := by decide +kernel
theorem dX12_go_2 : decode cX12_go 2 = .ok (.invokevirtual 180, 3) := by decide +kernel
theorem dX12_go_5 : decode cX12_go 5 = .ok (.ifCond .eq 15, 3) := by decide +kernel
theorem dX12_go_8 : decode cX12_go 8 = .ok (.iload_n 2, 1) := by decide +kernel
theorem dX12_go_9 : decode cX12_go 9 = .ok (.i2l, 1) := by decide +kernel
theorem dX12_go_10 : decode cX12_go 10 = .ok (.ldc2_w 99, 3) := by decide +kernel
theorem dX12_go_13 : decode cX12_go 13 = .ok (.lconst 1, 1) := by decide +kernel
theorem dX12_go_14 : decode cX12_go 14 = .ok (.invokestatic 40, 3) := by decide +kernel
theorem dX12_go_17 : decode cX12_go 17 = .ok (.ifCond .ne 6, 3) := by decide +kernel
theorem dX12_go_20 : decode cX12_go 20 = .ok (.ldc 55, 2) := by decide +kernel
theorem dX12_go_22 : decode cX12_go 22 = .ok (.ireturn, 1) := by decide +kernel
theorem dX12_go_23 : decode cX12_go 23 = .ok (.aload_n 0, 1) := by decide +kernel
theorem dX12_go_24 : decode cX12_go 24 = .ok (.getfield 7, 3) := by decide +kernel
theorem dX12_go_27 : decode cX12_go 27 = .ok (.bipush 31, 2) := by decide +kernel
theorem dX12_go_29 : decode cX12_go 29 = .ok (.iload_n 1, 1) := by decide +kernel
theorem dX12_go_30 : decode cX12_go 30 = .ok (.iadd, 1) := by decide +kernel
theorem dX12_go_31 : decode cX12_go 31 = .ok (.iaload, 1) := by decide +kernel
theorem dX12_go_32 : decode cX12_go 32 = .ok (.istore_n 3, 1) := by decide +kernel
theorem dX12_go_33 : decode cX12_go 33 = .ok (.aload_n 0, 1) := by decide +kernel
theorem dX12_go_34 : decode cX12_go 34 = .ok (.invokevirtual 183, 3) := by decide +kernel
theorem dX12_go_37 : decode cX12_go 37 = .ok (.aload_n 0, 1) := by decide +kernel
theorem dX12_go_38 : decode cX12_go 38 = .ok (.getfield 7, 3) := by decide +kernel
theorem dX12_go_41 : decode cX12_go 41 = .ok (.bipush 31, 2) := by decide +kernel
theorem dX12_go_43 : decode cX12_go 43 = .ok (.iload_n 1, 1) := by decide +kernel
theorem dX12_go_44 : decode cX12_go 44 = .ok (.iadd, 1) := by decide +kernel
theorem dX12_go_45 : decode cX12_go 45 = .ok (.iload_n 2, 1) := by decide +kernel
theorem dX12_go_46 : decode cX12_go 46 = .ok (.iastore, 1) := by decide +kernel
theorem dX12_go_47 : decode cX12_go 47 = .ok (.iload_n 3, 1) := by decide +kernel
theorem dX12_go_48 : decode cX12_go 48 = .ok (.ireturn, 1) := by decide +kernel
theorem dX12_hang_0 : decode cX12_hang 0 = .ok (.iload_n 1, 1) := by decide +kernel
theorem dX12_hang_1 : decode cX12_hang 1 = .ok (.i2l, 1) := by decide +kernel
theorem dX12_hang_2 : decode cX12_hang 2 = .ok (.lconst 0, 1) := by decide +kernel
theorem dX12_hang_3 : decode cX12_hang 3 = .ok (.aload_n 0, 1) := by decide +kernel
theorem dX12_hang_4 : decode cX12_hang 4 = .ok (.getfield 7, 3) := by decide +kernel
theorem dX12_hang_7 : decode cX12_hang 7 = .ok (.bipush 38, 2) := by decide +kernel
theorem dX12_hang_9 : decode cX12_hang 9 = .ok (.iaload, 1) := by decide +kernel
theorem dX12_hang_10 : decode cX12_hang 10 = .ok (.iconst 1, 1) := by decide +kernel
theorem dX12_hang_11 : decode cX12_hang 11 = .ok (.isub, 1) := by decide +kernel
theorem dX12_hang_12 : decode cX12_hang 12 = .ok (.i2l, 1) := by decide +kernel
theorem dX12_hang_13 : decode cX12_hang 13 = .ok (.invokestatic 40, 3) := by decide +kernel
theorem dX12_hang_16 : decode cX12_hang 16 = .ok (.ifCond .eq 15, 3) := by decide +kernel
theorem dX12_hang_19 : decode cX12_hang 19 = .ok (.iload_n 2, 1) := by decide +kernel
theorem dX12_hang_20 : decode cX12_hang 20 = .ok (.i2l, 1) := by decide +kernel
theorem dX12_hang_21 : decode cX12_hang 21 = .ok (.lconst 0, 1) := by decide +kernel
theorem dX12_hang_22 : decode cX12_hang 22 = .ok (.ldc2_w 186, 3) := by decide +kernel
theorem dX12_hang_25 : decode cX12_hang 25 = .ok (.invokestatic 40, 3) := by decide +kernel
theorem dX12_hang_28 : decode cX12_hang 28 = .ok (.ifCond .ne 6, 3) := by decide +kernel
theorem dX12_hang_31 : decode cX12_hang 31 = .ok (.ldc 55, 2) := by decide +kernel
theorem dX12_hang_33 : decode cX12_hang 33 = .ok (.ireturn, 1) := by decide +kernel
theorem dX12_hang_34 : decode cX12_hang 34 = .ok (.aload_n 0, 1) := by decide +kernel
theorem dX12_hang_35 : decode cX12_hang 35 = .ok (.getfield 7, 3) := by decide +kernel
theorem dX12_hang_38 : decode cX12_hang 38 = .ok (.bipush 43, 2) := by decide +kernel
theorem dX12_hang_40 : decode cX12_hang 40 = .ok (.iload_n 1, 1) := by decide +kernel
theorem dX12_hang_41 : decode cX12_hang 41 = .ok (.iadd, 1) := by decide +kernel
theorem dX12_hang_42 : decode cX12_hang 42 = .ok (.iaload, 1) := by decide +kernel
theorem dX12_hang_43 : decode cX12_hang 43 = .ok (.istore_n 3, 1) := by decide +kernel
theorem dX12_hang_44 : decode cX12_hang 44 = .ok (.aload_n 0, 1) := by decide +kernel
theorem dX12_hang_45 : decode cX12_hang 45 = .ok (.invokevirtual 183, 3) := by decide +kernel
theorem dX12_hang_48 : decode cX12_hang 48 = .ok (.aload_n 0, 1) := by decide +kernel
theorem dX12_hang_49 : decode cX12_hang 49 = .ok (.getfield 7, 3) := by decide +kernel
theorem dX12_hang_52 : decode cX12_hang 52 = .ok (.bipush 43, 2) := by decide +kernel
theorem dX12_hang_54 : decode cX12_hang 54 = .ok (.iload_n 1, 1) := by decide +kernel
theorem dX12_hang_55 : decode cX12_hang 55 = .ok (.iadd, 1) := by decide +kernel
theorem dX12_hang_56 : decode cX12_hang 56 = .ok (.iload_n 2, 1) := by decide +kernel
theorem dX12_hang_57 : decode cX12_hang 57 = .ok (.iastore, 1) := by decide +kernel
theorem dX12_hang_58 : decode cX12_hang 58 = .ok (.iload_n 3, 1) := by decide +kernel
theorem dX12_hang_59 : decode cX12_hang 59 = .ok (.ireturn, 1) := by decide +kernel
theorem dX12_halves_0 : decode cX12_halves 0 = .ok (.aload_n 0, 1) := by decide +kernel
theorem dX12_halves_1 : decode cX12_halves 1 = .ok (.invokevirtual 188, 3) := by decide +kernel
theorem dX12_halves_4 : decode cX12_halves 4 = .ok (.ifCond .ne 6, 3) := by decide +kernel
theorem dX12_halves_7 : decode cX12_halves 7 = .ok (.ldc 192, 2) := by decide +kernel
theorem dX12_halves_9 : decode cX12_halves 9 = .ok (.ireturn, 1) := by decide +kernel
theorem dX12_halves_10 : decode cX12_halves 10 = .ok (.iload_n 1, 1) := by decide +kernel
theorem dX12_halves_11 : decode cX12_halves 11 = .ok (.i2l, 1) := by decide +kernel
theorem dX12_halves_12 : decode cX12_halves 12 = .ok (.lconst 1, 1) := by decide +kernel
theorem dX12_halves_13 : decode cX12_halves 13 = .ok (.ldc2_w 193, 3) := by decide +kernel
theorem dX12_halves_16 : decode cX12_halves 16 = .ok (.invokestatic 40, 3) := by decide +kernel
theorem dX12_halves_19 : decode cX12_halves 19 = .ok (.ifCond .ne 6, 3) := by decide +kernel
theorem dX12_halves_22 : decode cX12_halves 22 = .ok (.ldc 55, 2) := by decide +kernel
theorem dX12_halves_24 : decode cX12_halves 24 = .ok (.ireturn, 1) := by decide +kernel
theorem dX12_halves_25 : decode cX12_halves 25 = .ok (.aload_n 0, 1) := by decide +kernel
theorem dX12_halves_26 : decode cX12_halves 26 = .ok (.getfield 7, 3) := by decide +kernel
theorem dX12_halves_29 : decode cX12_halves 29 = .ok (.bipush 47, 2) := by decide +kernel
theorem dX12_halves_31 : decode cX12_halves 31 = .ok (.iaload, 1) := by decide +kernel
theorem dX12_halves_32 : decode cX12_halves 32 = .ok (.iload_n 1, 1) := by decide +kernel
theorem dX12_halves_33 : decode cX12_halves 33 = .ok (.iadd, 1) := by decide +kernel
theorem dX12_halves_34 : decode cX12_halves 34 = .ok (.sipush 9999, 3) := by decide +kernel
theorem dX12_halves_37 : decode cX12_halves 37 = .ok (.if_icmp .le 6, 3) := by decide +kernel
theorem dX12_halves_40 : decode cX12_halves 40 = .ok (.ldc 72, 2) := by decide +kernel
theorem dX12_halves_42 : decode cX12_halves 42 = .ok (.ireturn, 1) := by decide +kernel
theorem dX12_halves_43 : decode cX12_halves 43 = .ok (.aload_n 0, 1) := by decide +kernel
theorem dX12_halves_44 : decode cX12_halves 44 = .ok (.invokevirtual 183, 3) := by decide +kernel
theorem dX12_halves_47 : decode cX12_halves 47 = .ok (.ldc 195, 2) := by decide +kernel
theorem dX12_halves_49 : decode cX12_halves 49 = .ok (.istore_n 2, 1) := by decide +kernel
theorem dX12_halves_50 : decode cX12_halves 50 = .ok (.iconst 1, 1) := by decide +kernel
theorem dX12_halves_51 : decode cX12_halves 51 = .ok (.istore_n 3, 1) := by decide +kernel
theorem dX12_halves_52 : decode cX12_halves 52 = .ok (.iload_n 3, 1) := by decide +kernel
theorem dX12_halves_53 : decode cX12_halves 53 = .ok (.iload_n 1, 1) := by decide +kernel
theorem dX12_halves_54 : decode cX12_halves 54 = .ok (.if_icmp .gt 40, 3) := by decide +kernel
theorem dX12_halves_57 : decode cX12_halves 57 = .ok (.aload_n 0, 1) := by decide +kernel
theorem dX12_halves_58 : decode cX12_halves 58 = .ok (.iconst 0, 1) := by decide +kernel
theorem dX12_halves_59 : decode cX12_halves 59 = .ok (.invokevirtual 196, 3) := by decide +kernel
theorem dX12_halves_62 : decode cX12_halves 62 = .ok (.iload_n 2, 1) := by decide +kernel
theorem dX12_halves_63 : decode cX12_halves 63 = .ok (.ldc 195, 2) := by decide +kernel
theorem dX12_halves_65 : decode cX12_halves 65 = .ok (.if_icmp .ne 21, 3) := by decide +kernel
theorem dX12_halves_68 : decode cX12_halves 68 = .ok (.aload_n 0, 1) := by decide +kernel
theorem dX12_halves_69 : decode cX12_halves 69 = .ok (.iconst 0, 1) := by decide +kernel
theorem dX12_halves_70 : decode cX12_halves 70 = .ok (.invokevirtual 200, 3) := by decide +kernel
theorem dX12_halves_73 : decode cX12_halves 73 = .ok (.aload_n 0, 1) := by decide +kernel
theorem dX12_halves_74 : decode cX12_halves 74 = .ok (.getfield 7, 3) := by decide +kernel
theorem dX12_halves_77 : decode cX12_halves 77 = .ok (.iconst 1, 1) := by decide +kernel
theorem dX12_halves_78 : decode cX12_halves 78 = .ok (.iaload, 1) := by decide +kernel
theorem dX12_halves_79 : decode cX12_halves 79 = .ok (.if_icmp .le 7, 3) := by decide +kernel
theorem dX12_halves_82 : decode cX12_halves 82 = .ok (.iload_n 3, 1) := by decide +kernel
theorem dX12_halves_83 : decode cX12_halves 83 = .ok (.goto 4, 3) := by decide +kernel
theorem dX12_halves_86 : decode cX12_halves 86 = .ok (.iload_n 2, 1) := by decide +kernel
theorem dX12_halves_87 : decode cX12_halves 87 = .ok (.istore_n 2, 1) := by decide +kernel
theorem dX12_halves_88 : decode cX12_halves 88 = .ok (.iinc 3 1, 3) := by decide +kernel
theorem dX12_halves_91 : decode cX12_halves 91 = .ok (.goto (-39), 3) := by decide +kernel
theorem dX12_halves_94 : decode cX12_halves 94 = .ok (.iload_n 2, 1) := by decide +kernel
theorem dX12_halves_95 : decode cX12_halves 95 = .ok (.ireturn, 1) := by decide +kernel
theorem dX12_creep_0 : decode cX12_creep 0 = .ok (.aload_n 0, 1) := by decide +kernel
theorem dX12_creep_1 : decode cX12_creep 1 = .ok (.iload_n 1, 1) := by decide +kernel
theorem dX12_creep_2 : decode cX12_creep 2 = .ok (.iconst 1, 1) := by decide +kernel
theorem dX12_creep_3 : decode cX12_creep 3 = .ok (.invokevirtual 171, 3) := by decide +kernel
theorem dX12_creep_6 : decode cX12_creep 6 = .ok (.bipush 10, 2) := by decide +kernel
theorem dX12_creep_8 : decode cX12_creep 8 = .ok (.idiv, 1) := by decide +kernel
theorem dX12_creep_9 : decode cX12_creep 9 = .ok (.istore_n 2, 1) := by decide +kernel
theorem dX12_creep_10 : decode cX12_creep 10 = .ok (.aload_n 0, 1) := by decide +kernel
theorem dX12_creep_11 : decode cX12_creep 11 = .ok (.iload_n 1, 1) := by decide +kernel
theorem dX12_creep_12 : decode cX12_creep 12 = .ok (.iconst 0, 1) := by decide +kernel
theorem dX12_creep_13 : decode cX12_creep 13 = .ok (.invokevirtual 171, 3) := by decide +kernel
theorem dX12_creep_16 : decode cX12_creep 16 = .ok (.bipush 10, 2) := by decide +kernel
theorem dX12_creep_18 : decode cX12_creep 18 = .ok (.idiv, 1) := by decide +kernel
theorem dX12_creep_19 : decode cX12_creep 19 = .ok (.istore_n 3, 1) := by decide +kernel
theorem dX12_creep_20 : decode cX12_creep 20 = .ok (.aload_n 0, 1) := by decide +kernel
theorem dX12_creep_21 : decode cX12_creep 21 = .ok (.getfield 7, 3) := by decide +kernel
theorem dX12_creep_24 : decode cX12_creep 24 = .ok (.iload_n 1, 1) := by decide +kernel
theorem dX12_creep_25 : decode cX12_creep 25 = .ok (.bipush 48, 2) := by decide +kernel
theorem dX12_creep_27 : decode cX12_creep 27 = .ok (.iadd, 1) := by decide +kernel
theorem dX12_creep_28 : decode cX12_creep 28 = .ok (.dup2, 1) := by decide +kernel
theorem dX12_creep_29 : decode cX12_creep 29 = .ok (.iaload, 1) := by decide +kernel
theorem dX12_creep_30 : decode cX12_creep 30 = .ok (.iload_n 2, 1) := by decide +kernel
theorem dX12_creep_31 : decode cX12_creep 31 = .ok (.iadd, 1) := by decide +kernel
theorem dX12_creep_32 : decode cX12_creep 32 = .ok (.iastore, 1) := by decide +kernel
theorem dX12_creep_33 : decode cX12_creep 33 = .ok (.aload_n 0, 1) := by decide +kernel
theorem dX12_creep_34 : decode cX12_creep 34 = .ok (.getfield 7, 3) := by decide +kernel
theorem dX12_creep_37 : decode cX12_creep 37 = .ok (.iload_n 1, 1) := by decide +kernel
theorem dX12_creep_38 : decode cX12_creep 38 = .ok (.bipush 49, 2) := by decide +kernel
theorem dX12_creep_40 : decode cX12_creep 40 = .ok (.iadd, 1) := by decide +kernel
theorem dX12_creep_41 : decode cX12_creep 41 = .ok (.dup2, 1) := by decide +kernel
theorem dX12_creep_42 : decode cX12_creep 42 = .ok (.iaload, 1) := by decide +kernel
theorem dX12_creep_43 : decode cX12_creep 43 = .ok (.iload_n 3, 1) := by decide +kernel
theorem dX12_creep_44 : decode cX12_creep 44 = .ok (.iadd, 1) := by decide +kernel
theorem dX12_creep_45 : decode cX12_creep 45 = .ok (.iastore, 1) := by decide +kernel
theorem dX12_creep_46 : decode cX12_creep 46 = .ok (.return_, 1) := by decide +kernel
theorem dX12_year_0 : decode cX12_year 0 = .ok (.aload_n 0, 1) := by decide +kernel
theorem dX12_year_1 : decode cX12_year 1 = .ok (.invokevirtual 188, 3) := by decide +kernel
theorem dX12_year_4 : decode cX12_year 4 = .ok (.ifCond .ne 6, 3) := by decide +kernel
theorem dX12_year_7 : decode cX12_year 7 = .ok (.ldc 192, 2) := by decide +kernel
theorem dX12_year_9 : decode cX12_year 9 = .ok (.ireturn, 1) := by decide +kernel
theorem dX12_year_10 : decode cX12_year 10 = .ok (.aload_n 0, 1) := by decide +kernel
theorem dX12_year_11 : decode cX12_year 11 = .ok (.getfield 7, 3) := by decide +kernel
theorem dX12_year_14 : decode cX12_year 14 = .ok (.bipush 48, 2) := by decide +kernel
theorem dX12_year_16 : decode cX12_year 16 = .ok (.iaload, 1) := by decide +kernel
theorem dX12_year_17 : decode cX12_year 17 = .ok (.invokestatic 174, 3) := by decide +kernel
theorem dX12_year_20 : decode cX12_year 20 = .ok (.sipush 9999, 3) := by decide +kernel
theorem dX12_year_23 : decode cX12_year 23 = .ok (.if_icmp .gt 19, 3) := by decide +kernel
theorem dX12_year_26 : decode cX12_year 26 = .ok (.aload_n 0, 1) := by decide +kernel
theorem dX12_year_27 : decode cX12_year 27 = .ok (.getfield 7, 3) := by decide +kernel
theorem dX12_year_30 : decode cX12_year 30 = .ok (.bipush 49, 2) := by decide +kernel
theorem dX12_year_32 : decode cX12_year 32 = .ok (.iaload, 1) := by decide +kernel
theorem dX12_year_33 : decode cX12_year 33 = .ok (.invokestatic 174, 3) := by decide +kernel
theorem dX12_year_36 : decode cX12_year 36 = .ok (.sipush 9999, 3) := by decide +kernel
theorem dX12_year_39 : decode cX12_year 39 = .ok (.if_icmp .le 6, 3) := by decide +kernel
theorem dX12_year_42 : decode cX12_year 42 = .ok (.ldc 72, 2) := by decide +kernel
theorem dX12_year_44 : decode cX12_year 44 = .ok (.ireturn, 1) := by decide +kernel
theorem dX12_year_45 : decode cX12_year 45 = .ok (.aload_n 0, 1) := by decide +kernel
theorem dX12_year_46 : decode cX12_year 46 = .ok (.invokevirtual 183, 3) := by decide +kernel
theorem dX12_year_49 : decode cX12_year 49 = .ok (.aload_n 0, 1) := by decide +kernel
theorem dX12_year_50 : decode cX12_year 50 = .ok (.iconst 0, 1) := by decide +kernel
theorem dX12_year_51 : decode cX12_year 51 = .ok (.invokevirtual 203, 3) := by decide +kernel
theorem dX12_year_54 : decode cX12_year 54 = .ok (.iconst 1, 1) := by decide +kernel
theorem dX12_year_55 : decode cX12_year 55 = .ok (.ireturn, 1) := by decide +kernel
theorem dX12_undo_0 : decode cX12_undo 0 = .ok (.aload_n 0, 1) := by decide +kernel
theorem dX12_undo_1 : decode cX12_undo 1 = .ok (.getfield 158, 3) := by decide +kernel
theorem dX12_undo_4 : decode cX12_undo 4 = .ok (.ifCond .ne 6, 3) := by decide +kernel
theorem dX12_undo_7 : decode cX12_undo 7 = .ok (.ldc 192, 2) := by decide +kernel
theorem dX12_undo_9 : decode cX12_undo 9 = .ok (.ireturn, 1) := by decide +kernel
theorem dX12_undo_10 : decode cX12_undo 10 = .ok (.aload_n 0, 1) := by decide +kernel
theorem dX12_undo_11 : decode cX12_undo 11 = .ok (.dup, 1) := by decide +kernel
theorem dX12_undo_12 : decode cX12_undo 12 = .ok (.getfield 158, 3) := by decide +kernel
theorem dX12_undo_15 : decode cX12_undo 15 = .ok (.iconst 1, 1) := by decide +kernel
theorem dX12_undo_16 : decode cX12_undo 16 = .ok (.isub, 1) := by decide +kernel
theorem dX12_undo_17 : decode cX12_undo 17 = .ok (.putfield 158, 3) := by decide +kernel
theorem dX12_undo_20 : decode cX12_undo 20 = .ok (.aload_n 0, 1) := by decide +kernel
theorem dX12_undo_21 : decode cX12_undo 21 = .ok (.sipush 250, 3) := by decide +kernel
theorem dX12_undo_24 : decode cX12_undo 24 = .ok (.bipush 50, 2) := by decide +kernel
theorem dX12_undo_26 : decode cX12_undo 26 = .ok (.aload_n 0, 1) := by decide +kernel
theorem dX12_undo_27 : decode cX12_undo 27 = .ok (.getfield 158, 3) := by decide +kernel
theorem dX12_undo_30 : decode cX12_undo 30 = .ok (.imul, 1) := by decide +kernel
theorem dX12_undo_31 : decode cX12_undo 31 = .ok (.iadd, 1) := by decide +kernel
theorem dX12_undo_32 : decode cX12_undo 32 = .ok (.iconst 0, 1) := by decide +kernel
theorem dX12_undo_33 : decode cX12_undo 33 = .ok (.invokevirtual 154, 3) := by decide +kernel
theorem dX12_undo_36 : decode cX12_undo 36 = .ok (.aload_n 0, 1) := by decide +kernel
theorem dX12_undo_37 : decode cX12_undo 37 = .ok (.getfield 158, 3) := by decide +kernel
theorem dX12_undo_40 : decode cX12_undo 40 = .ok (.ireturn, 1) := by decide +kernel
theorem dX12_person_0 : decode cX12_person 0 = .ok (.aload_n 0, 1) := by decide +kernel
theorem dX12_person_1 : decode cX12_person 1 = .ok (.iload_n 1, 1) := by decide +kernel
theorem dX12_person_2 : decode cX12_person 2 = .ok (.invokevirtual 180, 3) := by decide +kernel
theorem dX12_person_5 : decode cX12_person 5 = .ok (.ifCond .eq 15, 3) := by decide +kernel
theorem dX12_person_8 : decode cX12_person 8 = .ok (.iload_n 2, 1) := by decide +kernel
theorem dX12_person_9 : decode cX12_person 9 = .ok (.i2l, 1) := by decide +kernel
theorem dX12_person_10 : decode cX12_person 10 = .ok (.lconst 0, 1) := by decide +kernel
theorem dX12_person_11 : decode cX12_person 11 = .ok (.ldc2_w 206, 3) := by decide +kernel
theorem dX12_person_14 : decode cX12_person 14 = .ok (.invokestatic 40, 3) := by decide +kernel
theorem dX12_person_17 : decode cX12_person 17 = .ok (.ifCond .ne 6, 3) := by decide +kernel
theorem dX12_person_20 : decode cX12_person 20 = .ok (.ldc 55, 2) := by decide +kernel
theorem dX12_person_22 : decode cX12_person 22 = .ok (.ireturn, 1) := by decide +kernel
theorem dX12_person_23 : decode cX12_person 23 = .ok (.aload_n 0, 1) := by decide +kernel
theorem dX12_person_24 : decode cX12_person 24 = .ok (.aload_n 0, 1) := by decide +kernel
theorem dX12_person_25 : decode cX12_person 25 = .ok (.getfield 7, 3) := by decide +kernel
theorem dX12_person_28 : decode cX12_person 28 = .ok (.bipush 24, 2) := by decide +kernel
theorem dX12_person_30 : decode cX12_person 30 = .ok (.iload_n 1, 1) := by decide +kernel
theorem dX12_person_31 : decode cX12_person 31 = .ok (.iadd, 1) := by decide +kernel
theorem dX12_person_32 : decode cX12_person 32 = .ok (.iaload, 1) := by decide +kernel
theorem dX12_person_33 : decode cX12_person 33 = .ok (.invokevirtual 164, 3) := by decide +kernel
theorem dX12_person_36 : decode cX12_person 36 = .ok (.istore_n 3, 1) := by decide +kernel
theorem dX12_person_37 : decode cX12_person 37 = .ok (.iload_n 2, 1) := by decide +kernel
theorem dX12_person_38 : decode cX12_person 38 = .ok (.ifCond .ne 15, 3) := by decide +kernel
theorem dX12_person_41 : decode cX12_person 41 = .ok (.aload_n 0, 1) := by decide +kernel
theorem dX12_person_42 : decode cX12_person 42 = .ok (.getfield 7, 3) := by decide +kernel
theorem dX12_person_45 : decode cX12_person 45 = .ok (.bipush 24, 2) := by decide +kernel
theorem dX12_person_47 : decode cX12_person 47 = .ok (.iload_n 1, 1) := by decide +kernel
theorem dX12_person_48 : decode cX12_person 48 = .ok (.iadd, 1) := by decide +kernel
theorem dX12_person_49 : decode cX12_person 49 = .ok (.iaload, 1) := by decide +kernel
theorem dX12_person_50 : decode cX12_person 50 = .ok (.goto 60, 3) := by decide +kernel
theorem dX12_person_53 : decode cX12_person 53 = .ok (.iload_n 2, 1) := by decide +kernel
theorem dX12_person_54 : decode cX12_person 54 = .ok (.iconst 1, 1) := by decide +kernel
theorem dX12_person_55 : decode cX12_person 55 = .ok (.if_icmp .ne 15, 3) := by decide +kernel
theorem dX12_person_58 : decode cX12_person 58 = .ok (.aload_n 0, 1) := by decide +kernel
theorem dX12_person_59 : decode cX12_person 59 = .ok (.getfield 7, 3) := by decide +kernel
theorem dX12_person_62 : decode cX12_person 62 = .ok (.bipush 31, 2) := by decide +kernel
theorem dX12_person_64 : decode cX12_person 64 = .ok (.iload_n 1, 1) := by decide +kernel
theorem dX12_person_65 : decode cX12_person 65 = .ok (.iadd, 1) := by decide +kernel
theorem dX12_person_66 : decode cX12_person 66 = .ok (.iaload, 1) := by decide +kernel
theorem dX12_person_67 : decode cX12_person 67 = .ok (.goto 43, 3) := by decide +kernel
theorem dX12_person_70 : decode cX12_person 70 = .ok (.iload_n 2, 1) := by decide +kernel
theorem dX12_person_71 : decode cX12_person 71 = .ok (.iconst 2, 1) := by decide +kernel
theorem dX12_person_72 : decode cX12_person 72 = .ok (.if_icmp .ne 11, 3) := by decide +kernel
theorem dX12_person_75 : decode cX12_person 75 = .ok (.aload_n 0, 1) := by decide +kernel
theorem dX12_person_76 : decode cX12_person 76 = .ok (.iload_n 1, 1) := by decide +kernel
theorem dX12_person_77 : decode cX12_person 77 = .ok (.invokevirtual 161, 3) := by decide +kernel
theorem dX12_person_80 : decode cX12_person 80 = .ok (.goto 30, 3) := by decide +kernel
theorem dX12_person_83 : decode cX12_person 83 = .ok (.iload_n 2, 1) := by decide +kernel
theorem dX12_person_84 : decode cX12_person 84 = .ok (.iconst 3, 1) := by decide +kernel
theorem dX12_person_85 : decode cX12_person 85 = .ok (.if_icmp .ne 15, 3) := by decide +kernel
theorem dX12_person_88 : decode cX12_person 88 = .ok (.aload_n 0, 1) := by decide +kernel
theorem dX12_person_89 : decode cX12_person 89 = .ok (.getfield 7, 3) := by decide +kernel
theorem dX12_person_92 : decode cX12_person 92 = .ok (.bipush 17, 2) := by decide +kernel
theorem dX12_person_94 : decode cX12_person 94 = .ok (.iload_n 1, 1) := by decide +kernel
theorem dX12_person_95 : decode cX12_person 95 = .ok (.iadd, 1) := by decide +kernel
theorem dX12_person_96 : decode cX12_person 96 = .ok (.iaload, 1) := by decide +kernel
theorem dX12_person_97 : decode cX12_person 97 = .ok (.goto 13, 3) := by decide +kernel
theorem dX12_person_100 : decode cX12_person 100 = .ok (.iload_n 3, 1) := by decide +kernel
theorem dX12_person_101 : decode cX12_person 101 = .ok (.ifCond .ge 8, 3) := by decide +kernel
theorem dX12_person_104 : decode cX12_person 104 = .ok (.ldc 195, 2) := by decide +kernel
theorem dX12_person_106 : decode cX12_person 106 = .ok (.goto 4, 3) := by decide +kernel
theorem dX12_person_109 : decode cX12_person 109 = .ok (.iload_n 3, 1) := by decide +kernel
theorem dX12_person_110 : decode cX12_person 110 = .ok (.ireturn, 1) := by decide +kernel
theorem dX12_lean_0 : decode cX12_lean 0 = .ok (.aload_n 0, 1) := by decide +kernel
theorem dX12_lean_1 : decode cX12_lean 1 = .ok (.invokevirtual 188, 3) := by decide +kernel
theorem dX12_lean_4 : decode cX12_lean 4 = .ok (.ifCond .ne 6, 3) := by decide +kernel
theorem dX12_lean_7 : decode cX12_lean 7 = .ok (.ldc 192, 2) := by decide +kernel
theorem dX12_lean_9 : decode cX12_lean 9 = .ok (.ireturn, 1) := by decide +kernel
theorem dX12_lean_10 : decode cX12_lean 10 = .ok (.iload_n 1, 1) := by decide +kernel
theorem dX12_lean_11 : decode cX12_lean 11 = .ok (.tableswitch 83 0 4 #[33, 40, 47, 67, 75], 33) := by decide +kernel
theorem dX12_lean_44 : decode cX12_lean 44 = .ok (.aload_n 0, 1) := by decide +kernel
theorem dX12_lean_45 : decode cX12_lean 45 = .ok (.iconst 0, 1) := by decide +kernel
theorem dX12_lean_46 : decode cX12_lean 46 = .ok (.iconst 1, 1) := by decide +kernel
theorem dX12_lean_47 : decode cX12_lean 47 = .ok (.invokevirtual 171, 3) := by decide +kernel
theorem dX12_lean_50 : decode cX12_lean 50 = .ok (.ireturn, 1) := by decide +kernel
theorem dX12_lean_51 : decode cX12_lean 51 = .ok (.aload_n 0, 1) := by decide +kernel
theorem dX12_lean_52 : decode cX12_lean 52 = .ok (.iconst 0, 1) := by decide +kernel
theorem dX12_lean_53 : decode cX12_lean 53 = .ok (.iconst 0, 1) := by decide +kernel
theorem dX12_lean_54 : decode cX12_lean 54 = .ok (.invokevirtual 171, 3) := by decide +kernel
theorem dX12_lean_57 : decode cX12_lean 57 = .ok (.ireturn, 1) := by decide +kernel
theorem dX12_lean_58 : decode cX12_lean 58 = .ok (.aload_n 0, 1) := by decide +kernel
theorem dX12_lean_59 : decode cX12_lean 59 = .ok (.iconst 0, 1) := by decide +kernel
theorem dX12_lean_60 : decode cX12_lean 60 = .ok (.invokevirtual 200, 3) := by decide +kernel
theorem dX12_lean_63 : decode cX12_lean 63 = .ok (.aload_n 0, 1) := by decide +kernel
theorem dX12_lean_64 : decode cX12_lean 64 = .ok (.getfield 7, 3) := by decide +kernel
theorem dX12_lean_67 : decode cX12_lean 67 = .ok (.iconst 1, 1) := by decide +kernel
theorem dX12_lean_68 : decode cX12_lean 68 = .ok (.iaload, 1) := by decide +kernel
theorem dX12_lean_69 : decode cX12_lean 69 = .ok (.if_icmp .le 7, 3) := by decide +kernel
theorem dX12_lean_72 : decode cX12_lean 72 = .ok (.iconst 1, 1) := by decide +kernel
theorem dX12_lean_73 : decode cX12_lean 73 = .ok (.goto 4, 3) := by decide +kernel
theorem dX12_lean_76 : decode cX12_lean 76 = .ok (.iconst 0, 1) := by decide +kernel
theorem dX12_lean_77 : decode cX12_lean 77 = .ok (.ireturn, 1) := by decide +kernel
theorem dX12_lean_78 : decode cX12_lean 78 = .ok (.aload_n 0, 1) := by decide +kernel
theorem dX12_lean_79 : decode cX12_lean 79 = .ok (.getfield 7, 3) := by decide +kernel
theorem dX12_lean_82 : decode cX12_lean 82 = .ok (.bipush 48, 2) := by decide +kernel
theorem dX12_lean_84 : decode cX12_lean 84 = .ok (.iaload, 1) := by decide +kernel
theorem dX12_lean_85 : decode cX12_lean 85 = .ok (.ireturn, 1) := by decide +kernel
theorem dX12_lean_86 : decode cX12_lean 86 = .ok (.aload_n 0, 1) := by decide +kernel
theorem dX12_lean_87 : decode cX12_lean 87 = .ok (.getfield 7, 3) := by decide +kernel
theorem dX12_lean_90 : decode cX12_lean 90 = .ok (.bipush 49, 2) := by decide +kernel
theorem dX12_lean_92 : decode cX12_lean 92 = .ok (.iaload, 1) := by decide +kernel
theorem dX12_lean_93 : decode cX12_lean 93 = .ok (.ireturn, 1) := by decide +kernel
theorem dX12_lean_94 : decode cX12_lean 94 = .ok (.ldc 55, 2) := by decide +kernel
theorem dX12_lean_96 : decode cX12_lean 96 = .ok (.ireturn, 1) := by decide +kernel
theorem dX12_foretell_0 : decode cX12_foretell 0 = .ok (.iconst 0, 1) := by decide +kernel
theorem dX12_foretell_1 : decode cX12_foretell 1 = .ok (.istore_n 3, 1) := by decide +kernel
theorem dX12_foretell_2 : decode cX12_foretell 2 = .ok (.aload_n 0, 1) := by decide +kernel
theorem dX12_foretell_3 : decode cX12_foretell 3 = .ok (.ldc 195, 2) := by decide +kernel
theorem dX12_foretell_5 : decode cX12_foretell 5 = .ok (.putfield 208, 3) := by decide +kernel
theorem dX12_foretell_8 : decode cX12_foretell 8 = .ok (.iconst 0, 1) := by decide +kernel
theorem dX12_foretell_9 : decode cX12_foretell 9 = .ok (.istore 4, 2) := by decide +kernel
theorem dX12_foretell_11 : decode cX12_foretell 11 = .ok (.iload 4, 2) := by decide +kernel
theorem dX12_foretell_13 : decode cX12_foretell 13 = .ok (.bipush 64, 2) := by decide +kernel
theorem dX12_foretell_15 : decode cX12_foretell 15 = .ok (.if_icmp .gt 91, 3) := by decide +kernel
theorem dX12_foretell_18 : decode cX12_foretell 18 = .ok (.iload 4, 2) := by decide +kernel
theorem dX12_foretell_20 : decode cX12_foretell 20 = .ok (.ifCond .le 10, 3) := by decide +kernel
theorem dX12_foretell_23 : decode cX12_foretell 23 = .ok (.aload_n 0, 1) := by decide +kernel
theorem dX12_foretell_24 : decode cX12_foretell 24 = .ok (.sipush 200, 3) := by decide +kernel
theorem dX12_foretell_27 : decode cX12_foretell 27 = .ok (.invokevirtual 196, 3) := by decide +kernel
theorem dX12_foretell_30 : decode cX12_foretell 30 = .ok (.aload_n 0, 1) := by decide +kernel
theorem dX12_foretell_31 : decode cX12_foretell 31 = .ok (.sipush 200, 3) := by decide +kernel
theorem dX12_foretell_34 : decode cX12_foretell 34 = .ok (.invokevirtual 200, 3) := by decide +kernel
theorem dX12_foretell_37 : decode cX12_foretell 37 = .ok (.istore 5, 2) := by decide +kernel
theorem dX12_foretell_39 : decode cX12_foretell 39 = .ok (.aload_n 0, 1) := by decide +kernel
theorem dX12_foretell_40 : decode cX12_foretell 40 = .ok (.aload_n 0, 1) := by decide +kernel
theorem dX12_foretell_41 : decode cX12_foretell 41 = .ok (.getfield 208, 3) := by decide +kernel
theorem dX12_foretell_44 : decode cX12_foretell 44 = .ok (.ldc 195, 2) := by decide +kernel
theorem dX12_foretell_46 : decode cX12_foretell 46 = .ok (.if_icmp .ne 19, 3) := by decide +kernel
theorem dX12_foretell_49 : decode cX12_foretell 49 = .ok (.iload 5, 2) := by decide +kernel
theorem dX12_foretell_51 : decode cX12_foretell 51 = .ok (.aload_n 0, 1) := by decide +kernel
theorem dX12_foretell_52 : decode cX12_foretell 52 = .ok (.getfield 7, 3) := by decide +kernel
theorem dX12_foretell_55 : decode cX12_foretell 55 = .ok (.iconst 1, 1) := by decide +kernel
theorem dX12_foretell_56 : decode cX12_foretell 56 = .ok (.iaload, 1) := by decide +kernel
theorem dX12_foretell_57 : decode cX12_foretell 57 = .ok (.if_icmp .le 8, 3) := by decide +kernel
theorem dX12_foretell_60 : decode cX12_foretell 60 = .ok (.iload 4, 2) := by decide +kernel
theorem dX12_foretell_62 : decode cX12_foretell 62 = .ok (.goto 7, 3) := by decide +kernel
theorem dX12_foretell_65 : decode cX12_foretell 65 = .ok (.aload_n 0, 1) := by decide +kernel
theorem dX12_foretell_66 : decode cX12_foretell 66 = .ok (.getfield 208, 3) := by decide +kernel
theorem dX12_foretell_69 : decode cX12_foretell 69 = .ok (.putfield 208, 3) := by decide +kernel
theorem dX12_foretell_72 : decode cX12_foretell 72 = .ok (.iload_n 3, 1) := by decide +kernel
theorem dX12_foretell_73 : decode cX12_foretell 73 = .ok (.iload 5, 2) := by decide +kernel
theorem dX12_foretell_75 : decode cX12_foretell 75 = .ok (.invokestatic 177, 3) := by decide +kernel
theorem dX12_foretell_78 : decode cX12_foretell 78 = .ok (.istore_n 3, 1) := by decide +kernel
theorem dX12_foretell_79 : decode cX12_foretell 79 = .ok (.iload 4, 2) := by decide +kernel
theorem dX12_foretell_81 : decode cX12_foretell 81 = .ok (.iload_n 2, 1) := by decide +kernel
theorem dX12_foretell_82 : decode cX12_foretell 82 = .ok (.if_icmp .ne 18, 3) := by decide +kernel
theorem dX12_foretell_85 : decode cX12_foretell 85 = .ok (.iload_n 1, 1) := by decide +kernel
theorem dX12_foretell_86 : decode cX12_foretell 86 = .ok (.ifCond .lt 14, 3) := by decide +kernel
theorem dX12_foretell_89 : decode cX12_foretell 89 = .ok (.aload_n 0, 1) := by decide +kernel
theorem dX12_foretell_90 : decode cX12_foretell 90 = .ok (.getfield 7, 3) := by decide +kernel
theorem dX12_foretell_93 : decode cX12_foretell 93 = .ok (.sipush 231, 3) := by decide +kernel
theorem dX12_foretell_96 : decode cX12_foretell 96 = .ok (.iload_n 1, 1) := by decide +kernel
theorem dX12_foretell_97 : decode cX12_foretell 97 = .ok (.iadd, 1) := by decide +kernel
theorem dX12_foretell_98 : decode cX12_foretell 98 = .ok (.iconst 1, 1) := by decide +kernel
theorem dX12_foretell_99 : decode cX12_foretell 99 = .ok (.iastore, 1) := by decide +kernel
theorem dX12_foretell_100 : decode cX12_foretell 100 = .ok (.iinc 4 1, 3) := by decide +kernel
theorem dX12_foretell_103 : decode cX12_foretell 103 = .ok (.goto (-92), 3) := by decide +kernel
theorem dX12_foretell_106 : decode cX12_foretell 106 = .ok (.iload_n 3, 1) := by decide +kernel
theorem dX12_foretell_107 : decode cX12_foretell 107 = .ok (.ireturn, 1) := by decide +kernel
theorem dX12_foretellNow_0 : decode cX12_foretellNow 0 = .ok (.aload_n 0, 1) := by decide +kernel
theorem dX12_foretellNow_1 : decode cX12_foretellNow 1 = .ok (.iconst 0, 1) := by decide +kernel
theorem dX12_foretellNow_2 : decode cX12_foretellNow 2 = .ok (.sipush 200, 3) := by decide +kernel
theorem dX12_foretellNow_5 : decode cX12_foretellNow 5 = .ok (.invokevirtual 154, 3) := by decide +kernel
theorem dX12_foretellNow_8 : decode cX12_foretellNow 8 = .ok (.aload_n 0, 1) := by decide +kernel
theorem dX12_foretellNow_9 : decode cX12_foretellNow 9 = .ok (.iconst (-1), 1) := by decide +kernel
theorem dX12_foretellNow_10 : decode cX12_foretellNow 10 = .ok (.iconst 0, 1) := by decide +kernel
theorem dX12_foretellNow_11 : decode cX12_foretellNow 11 = .ok (.invokevirtual 211, 3) := by decide +kernel
theorem dX12_foretellNow_14 : decode cX12_foretellNow 14 = .ok (.ireturn, 1) := by decide +kernel
theorem dX12_worst_0 : decode cX12_worst 0 = .ok (.aload_n 0, 1) := by decide +kernel
theorem dX12_worst_1 : decode cX12_worst 1 = .ok (.invokevirtual 188, 3) := by decide +kernel
theorem dX12_worst_4 : decode cX12_worst 4 = .ok (.ifCond .ne 6, 3) := by decide +kernel
theorem dX12_worst_7 : decode cX12_worst 7 = .ok (.ldc 192, 2) := by decide +kernel
theorem dX12_worst_9 : decode cX12_worst 9 = .ok (.ireturn, 1) := by decide +kernel
theorem dX12_worst_10 : decode cX12_worst 10 = .ok (.iload_n 1, 1) := by decide +kernel
theorem dX12_worst_11 : decode cX12_worst 11 = .ok (.i2l, 1) := by decide +kernel
theorem dX12_worst_12 : decode cX12_worst 12 = .ok (.lconst 0, 1) := by decide +kernel
theorem dX12_worst_13 : decode cX12_worst 13 = .ok (.lconst 1, 1) := by decide +kernel
theorem dX12_worst_14 : decode cX12_worst 14 = .ok (.invokestatic 40, 3) := by decide +kernel
theorem dX12_worst_17 : decode cX12_worst 17 = .ok (.ifCond .ne 6, 3) := by decide +kernel
theorem dX12_worst_20 : decode cX12_worst 20 = .ok (.ldc 55, 2) := by decide +kernel
theorem dX12_worst_22 : decode cX12_worst 22 = .ok (.ireturn, 1) := by decide +kernel
theorem dX12_worst_23 : decode cX12_worst 23 = .ok (.aload_n 0, 1) := by decide +kernel
theorem dX12_worst_24 : decode cX12_worst 24 = .ok (.invokevirtual 214, 3) := by decide +kernel
theorem dX12_worst_27 : decode cX12_worst 27 = .ok (.istore_n 2, 1) := by decide +kernel
theorem dX12_worst_28 : decode cX12_worst 28 = .ok (.iload_n 1, 1) := by decide +kernel
theorem dX12_worst_29 : decode cX12_worst 29 = .ok (.ifCond .ne 7, 3) := by decide +kernel
theorem dX12_worst_32 : decode cX12_worst 32 = .ok (.iload_n 2, 1) := by decide +kernel
theorem dX12_worst_33 : decode cX12_worst 33 = .ok (.goto 7, 3) := by decide +kernel
theorem dX12_worst_36 : decode cX12_worst 36 = .ok (.aload_n 0, 1) := by decide +kernel
theorem dX12_worst_37 : decode cX12_worst 37 = .ok (.getfield 208, 3) := by decide +kernel
theorem dX12_worst_40 : decode cX12_worst 40 = .ok (.ireturn, 1) := by decide +kernel
theorem dX12_most_0 : decode cX12_most 0 = .ok (.aload_n 0, 1) := by decide +kernel
theorem dX12_most_1 : decode cX12_most 1 = .ok (.invokevirtual 188, 3) := by decide +kernel
theorem dX12_most_4 : decode cX12_most 4 = .ok (.ifCond .ne 6, 3) := by decide +kernel
theorem dX12_most_7 : decode cX12_most 7 = .ok (.ldc 192, 2) := by decide +kernel
theorem dX12_most_9 : decode cX12_most 9 = .ok (.ireturn, 1) := by decide +kernel
theorem dX12_most_10 : decode cX12_most 10 = .ok (.iconst 0, 1) := by decide +kernel
theorem dX12_most_11 : decode cX12_most 11 = .ok (.istore_n 1, 1) := by decide +kernel
theorem dX12_most_12 : decode cX12_most 12 = .ok (.iconst 0, 1) := by decide +kernel
theorem dX12_most_13 : decode cX12_most 13 = .ok (.istore_n 2, 1) := by decide +kernel
theorem dX12_most_14 : decode cX12_most 14 = .ok (.iload_n 2, 1) := by decide +kernel
theorem dX12_most_15 : decode cX12_most 15 = .ok (.aload_n 0, 1) := by decide +kernel
theorem dX12_most_16 : decode cX12_most 16 = .ok (.getfield 7, 3) := by decide +kernel
theorem dX12_most_19 : decode cX12_most 19 = .ok (.iconst 2, 1) := by decide +kernel
theorem dX12_most_20 : decode cX12_most 20 = .ok (.iaload, 1) := by decide +kernel
theorem dX12_most_21 : decode cX12_most 21 = .ok (.if_icmp .ge 31, 3) := by decide +kernel
theorem dX12_most_24 : decode cX12_most 24 = .ok (.iload_n 1, 1) := by decide +kernel
theorem dX12_most_25 : decode cX12_most 25 = .ok (.aload_n 0, 1) := by decide +kernel
theorem dX12_most_26 : decode cX12_most 26 = .ok (.getfield 7, 3) := by decide +kernel
theorem dX12_most_29 : decode cX12_most 29 = .ok (.bipush 24, 2) := by decide +kernel
theorem dX12_most_31 : decode cX12_most 31 = .ok (.iload_n 2, 1) := by decide +kernel
theorem dX12_most_32 : decode cX12_most 32 = .ok (.iadd, 1) := by decide +kernel
theorem dX12_most_33 : decode cX12_most 33 = .ok (.iaload, 1) := by decide +kernel
theorem dX12_most_34 : decode cX12_most 34 = .ok (.ifCond .ge 9, 3) := by decide +kernel
theorem dX12_most_37 : decode cX12_most 37 = .ok (.iconst 1, 1) := by decide +kernel
theorem dX12_most_38 : decode cX12_most 38 = .ok (.iload_n 2, 1) := by decide +kernel
theorem dX12_most_39 : decode cX12_most 39 = .ok (.ishl, 1) := by decide +kernel
theorem dX12_most_40 : decode cX12_most 40 = .ok (.goto 4, 3) := by decide +kernel
theorem dX12_most_43 : decode cX12_most 43 = .ok (.iconst 0, 1) := by decide +kernel
theorem dX12_most_44 : decode cX12_most 44 = .ok (.ior, 1) := by decide +kernel
theorem dX12_most_45 : decode cX12_most 45 = .ok (.istore_n 1, 1) := by decide +kernel
theorem dX12_most_46 : decode cX12_most 46 = .ok (.iinc 2 1, 3) := by decide +kernel
theorem dX12_most_49 : decode cX12_most 49 = .ok (.goto (-35), 3) := by decide +kernel
theorem dX12_most_52 : decode cX12_most 52 = .ok (.ldc 195, 2) := by decide +kernel
theorem dX12_most_54 : decode cX12_most 54 = .ok (.istore_n 2, 1) := by decide +kernel
theorem dX12_most_55 : decode cX12_most 55 = .ok (.iconst 0, 1) := by decide +kernel
theorem dX12_most_56 : decode cX12_most 56 = .ok (.istore_n 3, 1) := by decide +kernel
theorem dX12_most_57 : decode cX12_most 57 = .ok (.iload_n 3, 1) := by decide +kernel
theorem dX12_most_58 : decode cX12_most 58 = .ok (.iload_n 1, 1) := by decide +kernel
theorem dX12_most_59 : decode cX12_most 59 = .ok (.if_icmp .gt 119, 3) := by decide +kernel
theorem dX12_most_62 : decode cX12_most 62 = .ok (.iload_n 3, 1) := by decide +kernel
theorem dX12_most_63 : decode cX12_most 63 = .ok (.iload_n 1, 1) := by decide +kernel
theorem dX12_most_64 : decode cX12_most 64 = .ok (.iconst (-1), 1) := by decide +kernel
theorem dX12_most_65 : decode cX12_most 65 = .ok (.ixor, 1) := by decide +kernel
theorem dX12_most_66 : decode cX12_most 66 = .ok (.iand, 1) := by decide +kernel
theorem dX12_most_67 : decode cX12_most 67 = .ok (.ifCond .ne 105, 3) := by decide +kernel
theorem dX12_most_70 : decode cX12_most 70 = .ok (.iload_n 2, 1) := by decide +kernel
theorem dX12_most_71 : decode cX12_most 71 = .ok (.ldc 195, 2) := by decide +kernel
theorem dX12_most_73 : decode cX12_most 73 = .ok (.if_icmp .eq 14, 3) := by decide +kernel
theorem dX12_most_76 : decode cX12_most 76 = .ok (.iload_n 3, 1) := by decide +kernel
theorem dX12_most_77 : decode cX12_most 77 = .ok (.invokestatic 218, 3) := by decide +kernel
theorem dX12_most_80 : decode cX12_most 80 = .ok (.iload_n 2, 1) := by decide +kernel
theorem dX12_most_81 : decode cX12_most 81 = .ok (.invokestatic 218, 3) := by decide +kernel
theorem dX12_most_84 : decode cX12_most 84 = .ok (.if_icmp .le 88, 3) := by decide +kernel
theorem dX12_most_87 : decode cX12_most 87 = .ok (.aload_n 0, 1) := by decide +kernel
theorem dX12_most_88 : decode cX12_most 88 = .ok (.iconst 0, 1) := by decide +kernel
theorem dX12_most_89 : decode cX12_most 89 = .ok (.sipush 200, 3) := by decide +kernel
theorem dX12_most_92 : decode cX12_most 92 = .ok (.invokevirtual 154, 3) := by decide +kernel
theorem dX12_most_95 : decode cX12_most 95 = .ok (.iconst 0, 1) := by decide +kernel
theorem dX12_most_96 : decode cX12_most 96 = .ok (.istore 4, 2) := by decide +kernel
theorem dX12_most_98 : decode cX12_most 98 = .ok (.iload 4, 2) := by decide +kernel
theorem dX12_most_100 : decode cX12_most 100 = .ok (.aload_n 0, 1) := by decide +kernel
theorem dX12_most_101 : decode cX12_most 101 = .ok (.getfield 7, 3) := by decide +kernel
theorem dX12_most_104 : decode cX12_most 104 = .ok (.iconst 2, 1) := by decide +kernel
theorem dX12_most_105 : decode cX12_most 105 = .ok (.iaload, 1) := by decide +kernel
theorem dX12_most_106 : decode cX12_most 106 = .ok (.if_icmp .ge 44, 3) := by decide +kernel
theorem dX12_most_109 : decode cX12_most 109 = .ok (.aload_n 0, 1) := by decide +kernel
theorem dX12_most_110 : decode cX12_most 110 = .ok (.getfield 7, 3) := by decide +kernel
theorem dX12_most_113 : decode cX12_most 113 = .ok (.sipush 231, 3) := by decide +kernel
theorem dX12_most_116 : decode cX12_most 116 = .ok (.iload 4, 2) := by decide +kernel
theorem dX12_most_118 : decode cX12_most 118 = .ok (.iadd, 1) := by decide +kernel
theorem dX12_most_119 : decode cX12_most 119 = .ok (.iload_n 3, 1) := by decide +kernel
theorem dX12_most_120 : decode cX12_most 120 = .ok (.iload 4, 2) := by decide +kernel
theorem dX12_most_122 : decode cX12_most 122 = .ok (.invokestatic 221, 3) := by decide +kernel
theorem dX12_most_125 : decode cX12_most 125 = .ok (.ifCond .eq 7, 3) := by decide +kernel
theorem dX12_most_128 : decode cX12_most 128 = .ok (.iconst 1, 1) := by decide +kernel
theorem dX12_most_129 : decode cX12_most 129 = .ok (.goto 14, 3) := by decide +kernel
theorem dX12_most_132 : decode cX12_most 132 = .ok (.aload_n 0, 1) := by decide +kernel
theorem dX12_most_133 : decode cX12_most 133 = .ok (.getfield 7, 3) := by decide +kernel
theorem dX12_most_136 : decode cX12_most 136 = .ok (.sipush 231, 3) := by decide +kernel
theorem dX12_most_139 : decode cX12_most 139 = .ok (.iload 4, 2) := by decide +kernel
theorem dX12_most_141 : decode cX12_most 141 = .ok (.iadd, 1) := by decide +kernel
theorem dX12_most_142 : decode cX12_most 142 = .ok (.iaload, 1) := by decide +kernel
theorem dX12_most_143 : decode cX12_most 143 = .ok (.iastore, 1) := by decide +kernel
theorem dX12_most_144 : decode cX12_most 144 = .ok (.iinc 4 1, 3) := by decide +kernel
theorem dX12_most_147 : decode cX12_most 147 = .ok (.goto (-49), 3) := by decide +kernel
theorem dX12_most_150 : decode cX12_most 150 = .ok (.aload_n 0, 1) := by decide +kernel
theorem dX12_most_151 : decode cX12_most 151 = .ok (.iconst (-1), 1) := by decide +kernel
theorem dX12_most_152 : decode cX12_most 152 = .ok (.iconst 0, 1) := by decide +kernel
theorem dX12_most_153 : decode cX12_most 153 = .ok (.invokevirtual 211, 3) := by decide +kernel
theorem dX12_most_156 : decode cX12_most 156 = .ok (.pop, 1) := by decide +kernel
theorem dX12_most_157 : decode cX12_most 157 = .ok (.aload_n 0, 1) := by decide +kernel
theorem dX12_most_158 : decode cX12_most 158 = .ok (.getfield 208, 3) := by decide +kernel
theorem dX12_most_161 : decode cX12_most 161 = .ok (.ldc 195, 2) := by decide +kernel
theorem dX12_most_163 : decode cX12_most 163 = .ok (.if_icmp .ne 7, 3) := by decide +kernel
theorem dX12_most_166 : decode cX12_most 166 = .ok (.iload_n 3, 1) := by decide +kernel
theorem dX12_most_167 : decode cX12_most 167 = .ok (.goto 4, 3) := by decide +kernel
theorem dX12_most_170 : decode cX12_most 170 = .ok (.iload_n 2, 1) := by decide +kernel
theorem dX12_most_171 : decode cX12_most 171 = .ok (.istore_n 2, 1) := by decide +kernel
theorem dX12_most_172 : decode cX12_most 172 = .ok (.iinc 3 1, 3) := by decide +kernel
theorem dX12_most_175 : decode cX12_most 175 = .ok (.goto (-118), 3) := by decide +kernel
theorem dX12_most_178 : decode cX12_most 178 = .ok (.iload_n 2, 1) := by decide +kernel
theorem dX12_most_179 : decode cX12_most 179 = .ok (.ireturn, 1) := by decide +kernel
theorem dX12_two_0 : decode cX12_two 0 = .ok (.aload_n 0, 1) := by decide +kernel
theorem dX12_two_1 : decode cX12_two 1 = .ok (.iload_n 1, 1) := by decide +kernel
theorem dX12_two_2 : decode cX12_two 2 = .ok (.invokevirtual 180, 3) := by decide +kernel
theorem dX12_two_5 : decode cX12_two 5 = .ok (.ifCond .eq 50, 3) := by decide +kernel
theorem dX12_two_8 : decode cX12_two 8 = .ok (.aload_n 0, 1) := by decide +kernel
theorem dX12_two_9 : decode cX12_two 9 = .ok (.iload_n 2, 1) := by decide +kernel
theorem dX12_two_10 : decode cX12_two 10 = .ok (.invokevirtual 180, 3) := by decide +kernel
theorem dX12_two_13 : decode cX12_two 13 = .ok (.ifCond .eq 42, 3) := by decide +kernel
theorem dX12_two_16 : decode cX12_two 16 = .ok (.iload_n 1, 1) := by decide +kernel
theorem dX12_two_17 : decode cX12_two 17 = .ok (.iload_n 2, 1) := by decide +kernel
theorem dX12_two_18 : decode cX12_two 18 = .ok (.if_icmp .eq 37, 3) := by decide +kernel
theorem dX12_two_21 : decode cX12_two 21 = .ok (.aload_n 0, 1) := by decide +kernel
theorem dX12_two_22 : decode cX12_two 22 = .ok (.getfield 7, 3) := by decide +kernel
theorem dX12_two_25 : decode cX12_two 25 = .ok (.bipush 24, 2) := by decide +kernel
theorem dX12_two_27 : decode cX12_two 27 = .ok (.iload_n 1, 1) := by decide +kernel
theorem dX12_two_28 : decode cX12_two 28 = .ok (.iadd, 1) := by decide +kernel
theorem dX12_two_29 : decode cX12_two 29 = .ok (.iaload, 1) := by decide +kernel
theorem dX12_two_30 : decode cX12_two 30 = .ok (.ifCond .ge 25, 3) := by decide +kernel
theorem dX12_two_33 : decode cX12_two 33 = .ok (.aload_n 0, 1) := by decide +kernel
theorem dX12_two_34 : decode cX12_two 34 = .ok (.getfield 7, 3) := by decide +kernel
theorem dX12_two_37 : decode cX12_two 37 = .ok (.bipush 24, 2) := by decide +kernel
theorem dX12_two_39 : decode cX12_two 39 = .ok (.iload_n 2, 1) := by decide +kernel
theorem dX12_two_40 : decode cX12_two 40 = .ok (.iadd, 1) := by decide +kernel
theorem dX12_two_41 : decode cX12_two 41 = .ok (.iaload, 1) := by decide +kernel
theorem dX12_two_42 : decode cX12_two 42 = .ok (.ifCond .ge 13, 3) := by decide +kernel
theorem dX12_two_45 : decode cX12_two 45 = .ok (.iload_n 3, 1) := by decide +kernel
theorem dX12_two_46 : decode cX12_two 46 = .ok (.i2l, 1) := by decide +kernel
theorem dX12_two_47 : decode cX12_two 47 = .ok (.lconst 0, 1) := by decide +kernel
theorem dX12_two_48 : decode cX12_two 48 = .ok (.lconst 1, 1) := by decide +kernel
theorem dX12_two_49 : decode cX12_two 49 = .ok (.invokestatic 40, 3) := by decide +kernel
theorem dX12_two_52 : decode cX12_two 52 = .ok (.ifCond .ne 6, 3) := by decide +kernel
theorem dX12_two_55 : decode cX12_two 55 = .ok (.ldc 55, 2) := by decide +kernel
theorem dX12_two_57 : decode cX12_two 57 = .ok (.ireturn, 1) := by decide +kernel
theorem dX12_two_58 : decode cX12_two 58 = .ok (.iconst 0, 1) := by decide +kernel
theorem dX12_two_59 : decode cX12_two 59 = .ok (.istore 4, 2) := by decide +kernel
theorem dX12_two_61 : decode cX12_two 61 = .ok (.iconst 0, 1) := by decide +kernel
theorem dX12_two_62 : decode cX12_two 62 = .ok (.istore 5, 2) := by decide +kernel
theorem dX12_two_64 : decode cX12_two 64 = .ok (.iconst 0, 1) := by decide +kernel
theorem dX12_two_65 : decode cX12_two 65 = .ok (.istore 6, 2) := by decide +kernel
theorem dX12_two_67 : decode cX12_two 67 = .ok (.iload 6, 2) := by decide +kernel
theorem dX12_two_69 : decode cX12_two 69 = .ok (.bipush 10, 2) := by decide +kernel
theorem dX12_two_71 : decode cX12_two 71 = .ok (.if_icmp .ge 90, 3) := by decide +kernel
theorem dX12_two_74 : decode cX12_two 74 = .ok (.aload_n 0, 1) := by decide +kernel
theorem dX12_two_75 : decode cX12_two 75 = .ok (.iconst 0, 1) := by decide +kernel
theorem dX12_two_76 : decode cX12_two 76 = .ok (.sipush 200, 3) := by decide +kernel
theorem dX12_two_79 : decode cX12_two 79 = .ok (.invokevirtual 154, 3) := by decide +kernel
theorem dX12_two_82 : decode cX12_two 82 = .ok (.aload_n 0, 1) := by decide +kernel
theorem dX12_two_83 : decode cX12_two 83 = .ok (.getfield 7, 3) := by decide +kernel
theorem dX12_two_86 : decode cX12_two 86 = .ok (.sipush 231, 3) := by decide +kernel
theorem dX12_two_89 : decode cX12_two 89 = .ok (.iload_n 1, 1) := by decide +kernel
theorem dX12_two_90 : decode cX12_two 90 = .ok (.iadd, 1) := by decide +kernel
theorem dX12_two_91 : decode cX12_two 91 = .ok (.iconst 1, 1) := by decide +kernel
theorem dX12_two_92 : decode cX12_two 92 = .ok (.iastore, 1) := by decide +kernel
theorem dX12_two_93 : decode cX12_two 93 = .ok (.aload_n 0, 1) := by decide +kernel
theorem dX12_two_94 : decode cX12_two 94 = .ok (.getfield 7, 3) := by decide +kernel
theorem dX12_two_97 : decode cX12_two 97 = .ok (.sipush 231, 3) := by decide +kernel
theorem dX12_two_100 : decode cX12_two 100 = .ok (.iload_n 2, 1) := by decide +kernel
theorem dX12_two_101 : decode cX12_two 101 = .ok (.iadd, 1) := by decide +kernel
theorem dX12_two_102 : decode cX12_two 102 = .ok (.iconst 0, 1) := by decide +kernel
theorem dX12_two_103 : decode cX12_two 103 = .ok (.iastore, 1) := by decide +kernel
theorem dX12_two_104 : decode cX12_two 104 = .ok (.aload_n 0, 1) := by decide +kernel
theorem dX12_two_105 : decode cX12_two 105 = .ok (.iload_n 2, 1) := by decide +kernel
theorem dX12_two_106 : decode cX12_two 106 = .ok (.iload 6, 2) := by decide +kernel
theorem dX12_two_108 : decode cX12_two 108 = .ok (.invokevirtual 211, 3) := by decide +kernel
theorem dX12_two_111 : decode cX12_two 111 = .ok (.istore 7, 2) := by decide +kernel
theorem dX12_two_113 : decode cX12_two 113 = .ok (.iload 6, 2) := by decide +kernel
theorem dX12_two_115 : decode cX12_two 115 = .ok (.ifCond .eq 10, 3) := by decide +kernel
theorem dX12_two_118 : decode cX12_two 118 = .ok (.iload 7, 2) := by decide +kernel
theorem dX12_two_120 : decode cX12_two 120 = .ok (.iload 5, 2) := by decide +kernel
theorem dX12_two_122 : decode cX12_two 122 = .ok (.if_icmp .ge 8, 3) := by decide +kernel
theorem dX12_two_125 : decode cX12_two 125 = .ok (.iload 6, 2) := by decide +kernel
theorem dX12_two_127 : decode cX12_two 127 = .ok (.goto 5, 3) := by decide +kernel
theorem dX12_two_130 : decode cX12_two 130 = .ok (.iload 4, 2) := by decide +kernel
theorem dX12_two_132 : decode cX12_two 132 = .ok (.istore 4, 2) := by decide +kernel
theorem dX12_two_134 : decode cX12_two 134 = .ok (.iload 6, 2) := by decide +kernel
theorem dX12_two_136 : decode cX12_two 136 = .ok (.ifCond .eq 10, 3) := by decide +kernel
theorem dX12_two_139 : decode cX12_two 139 = .ok (.iload 7, 2) := by decide +kernel
theorem dX12_two_141 : decode cX12_two 141 = .ok (.iload 5, 2) := by decide +kernel
theorem dX12_two_143 : decode cX12_two 143 = .ok (.if_icmp .ge 8, 3) := by decide +kernel
theorem dX12_two_146 : decode cX12_two 146 = .ok (.iload 7, 2) := by decide +kernel
theorem dX12_two_148 : decode cX12_two 148 = .ok (.goto 5, 3) := by decide +kernel
theorem dX12_two_151 : decode cX12_two 151 = .ok (.iload 5, 2) := by decide +kernel
theorem dX12_two_153 : decode cX12_two 153 = .ok (.istore 5, 2) := by decide +kernel
theorem dX12_two_155 : decode cX12_two 155 = .ok (.iinc 6 1, 3) := by decide +kernel
theorem dX12_two_158 : decode cX12_two 158 = .ok (.goto (-91), 3) := by decide +kernel
theorem dX12_two_161 : decode cX12_two 161 = .ok (.iload_n 3, 1) := by decide +kernel
theorem dX12_two_162 : decode cX12_two 162 = .ok (.ifCond .ne 8, 3) := by decide +kernel
theorem dX12_two_165 : decode cX12_two 165 = .ok (.iload 4, 2) := by decide +kernel
theorem dX12_two_167 : decode cX12_two 167 = .ok (.goto 5, 3) := by decide +kernel
theorem dX12_two_170 : decode cX12_two 170 = .ok (.iload 5, 2) := by decide +kernel
theorem dX12_two_172 : decode cX12_two 172 = .ok (.ireturn, 1) := by decide +kernel
theorem dX12_stones_0 : decode cX12_stones 0 = .ok (.aload_n 0, 1) := by decide +kernel
theorem dX12_stones_1 : decode cX12_stones 1 = .ok (.invokevirtual 188, 3) := by decide +kernel
theorem dX12_stones_4 : decode cX12_stones 4 = .ok (.ifCond .ne 6, 3) := by decide +kernel
theorem dX12_stones_7 : decode cX12_stones 7 = .ok (.ldc 192, 2) := by decide +kernel
theorem dX12_stones_9 : decode cX12_stones 9 = .ok (.ireturn, 1) := by decide +kernel
theorem dX12_stones_10 : decode cX12_stones 10 = .ok (.aload_n 0, 1) := by decide +kernel
theorem dX12_stones_11 : decode cX12_stones 11 = .ok (.getfield 7, 3) := by decide +kernel
theorem dX12_stones_14 : decode cX12_stones 14 = .ok (.bipush 38, 2) := by decide +kernel
theorem dX12_stones_16 : decode cX12_stones 16 = .ok (.iaload, 1) := by decide +kernel
theorem dX12_stones_17 : decode cX12_stones 17 = .ok (.istore_n 2, 1) := by decide +kernel
theorem dX12_stones_18 : decode cX12_stones 18 = .ok (.iload_n 1, 1) := by decide +kernel
theorem dX12_stones_19 : decode cX12_stones 19 = .ok (.i2l, 1) := by decide +kernel
theorem dX12_stones_20 : decode cX12_stones 20 = .ok (.ldc2_w 99, 3) := by decide +kernel
theorem dX12_stones_23 : decode cX12_stones 23 = .ok (.iload_n 2, 1) := by decide +kernel
theorem dX12_stones_24 : decode cX12_stones 24 = .ok (.iconst 1, 1) := by decide +kernel
theorem dX12_stones_25 : decode cX12_stones 25 = .ok (.isub, 1) := by decide +kernel
theorem dX12_stones_26 : decode cX12_stones 26 = .ok (.i2l, 1) := by decide +kernel
theorem dX12_stones_27 : decode cX12_stones 27 = .ok (.invokestatic 40, 3) := by decide +kernel
theorem dX12_stones_30 : decode cX12_stones 30 = .ok (.ifCond .ne 6, 3) := by decide +kernel
theorem dX12_stones_33 : decode cX12_stones 33 = .ok (.ldc 55, 2) := by decide +kernel
theorem dX12_stones_35 : decode cX12_stones 35 = .ok (.ireturn, 1) := by decide +kernel
theorem dX12_stones_36 : decode cX12_stones 36 = .ok (.iconst 0, 1) := by decide +kernel
theorem dX12_stones_37 : decode cX12_stones 37 = .ok (.istore_n 3, 1) := by decide +kernel
theorem dX12_stones_38 : decode cX12_stones 38 = .ok (.iconst 0, 1) := by decide +kernel
theorem dX12_stones_39 : decode cX12_stones 39 = .ok (.istore 4, 2) := by decide +kernel
theorem dX12_stones_41 : decode cX12_stones 41 = .ok (.iconst 0, 1) := by decide +kernel
theorem dX12_stones_42 : decode cX12_stones 42 = .ok (.istore 5, 2) := by decide +kernel
theorem dX12_stones_44 : decode cX12_stones 44 = .ok (.iload 5, 2) := by decide +kernel
theorem dX12_stones_46 : decode cX12_stones 46 = .ok (.iconst 1, 1) := by decide +kernel
theorem dX12_stones_47 : decode cX12_stones 47 = .ok (.iconst 2, 1) := by decide +kernel
theorem dX12_stones_48 : decode cX12_stones 48 = .ok (.iload_n 2, 1) := by decide +kernel
theorem dX12_stones_49 : decode cX12_stones 49 = .ok (.imul, 1) := by decide +kernel
theorem dX12_stones_50 : decode cX12_stones 50 = .ok (.ishl, 1) := by decide +kernel
theorem dX12_stones_51 : decode cX12_stones 51 = .ok (.if_icmp .ge 104, 3) := by decide +kernel
theorem dX12_stones_54 : decode cX12_stones 54 = .ok (.aload_n 0, 1) := by decide +kernel
theorem dX12_stones_55 : decode cX12_stones 55 = .ok (.iconst 0, 1) := by decide +kernel
theorem dX12_stones_56 : decode cX12_stones 56 = .ok (.sipush 200, 3) := by decide +kernel
theorem dX12_stones_59 : decode cX12_stones 59 = .ok (.invokevirtual 154, 3) := by decide +kernel
theorem dX12_stones_62 : decode cX12_stones 62 = .ok (.iconst 0, 1) := by decide +kernel
theorem dX12_stones_63 : decode cX12_stones 63 = .ok (.istore 6, 2) := by decide +kernel
theorem dX12_stones_65 : decode cX12_stones 65 = .ok (.iload 6, 2) := by decide +kernel
theorem dX12_stones_67 : decode cX12_stones 67 = .ok (.iload_n 2, 1) := by decide +kernel
theorem dX12_stones_68 : decode cX12_stones 68 = .ok (.if_icmp .ge 33, 3) := by decide +kernel
theorem dX12_stones_71 : decode cX12_stones 71 = .ok (.aload_n 0, 1) := by decide +kernel
theorem dX12_stones_72 : decode cX12_stones 72 = .ok (.getfield 7, 3) := by decide +kernel
theorem dX12_stones_75 : decode cX12_stones 75 = .ok (.sipush 243, 3) := by decide +kernel
theorem dX12_stones_78 : decode cX12_stones 78 = .ok (.iload 6, 2) := by decide +kernel
theorem dX12_stones_80 : decode cX12_stones 80 = .ok (.iadd, 1) := by decide +kernel
theorem dX12_stones_81 : decode cX12_stones 81 = .ok (.iload 5, 2) := by decide +kernel
theorem dX12_stones_83 : decode cX12_stones 83 = .ok (.iconst 2, 1) := by decide +kernel
theorem dX12_stones_84 : decode cX12_stones 84 = .ok (.iload_n 2, 1) := by decide +kernel
theorem dX12_stones_85 : decode cX12_stones 85 = .ok (.iconst 1, 1) := by decide +kernel
theorem dX12_stones_86 : decode cX12_stones 86 = .ok (.isub, 1) := by decide +kernel
theorem dX12_stones_87 : decode cX12_stones 87 = .ok (.iload 6, 2) := by decide +kernel
theorem dX12_stones_89 : decode cX12_stones 89 = .ok (.isub, 1) := by decide +kernel
theorem dX12_stones_90 : decode cX12_stones 90 = .ok (.imul, 1) := by decide +kernel
theorem dX12_stones_91 : decode cX12_stones 91 = .ok (.ishr, 1) := by decide +kernel
theorem dX12_stones_92 : decode cX12_stones 92 = .ok (.iconst 3, 1) := by decide +kernel
theorem dX12_stones_93 : decode cX12_stones 93 = .ok (.iand, 1) := by decide +kernel
theorem dX12_stones_94 : decode cX12_stones 94 = .ok (.iastore, 1) := by decide +kernel
theorem dX12_stones_95 : decode cX12_stones 95 = .ok (.iinc 6 1, 3) := by decide +kernel
theorem dX12_stones_98 : decode cX12_stones 98 = .ok (.goto (-33), 3) := by decide +kernel
theorem dX12_stones_101 : decode cX12_stones 101 = .ok (.aload_n 0, 1) := by decide +kernel
theorem dX12_stones_102 : decode cX12_stones 102 = .ok (.iconst (-1), 1) := by decide +kernel
theorem dX12_stones_103 : decode cX12_stones 103 = .ok (.iconst 0, 1) := by decide +kernel
theorem dX12_stones_104 : decode cX12_stones 104 = .ok (.invokevirtual 211, 3) := by decide +kernel
theorem dX12_stones_107 : decode cX12_stones 107 = .ok (.istore 6, 2) := by decide +kernel
theorem dX12_stones_109 : decode cX12_stones 109 = .ok (.iload 5, 2) := by decide +kernel
theorem dX12_stones_111 : decode cX12_stones 111 = .ok (.ifCond .eq 10, 3) := by decide +kernel
theorem dX12_stones_114 : decode cX12_stones 114 = .ok (.iload 6, 2) := by decide +kernel
theorem dX12_stones_116 : decode cX12_stones 116 = .ok (.iload 4, 2) := by decide +kernel
theorem dX12_stones_118 : decode cX12_stones 118 = .ok (.if_icmp .ge 8, 3) := by decide +kernel
theorem dX12_stones_121 : decode cX12_stones 121 = .ok (.iload 5, 2) := by decide +kernel
theorem dX12_stones_123 : decode cX12_stones 123 = .ok (.goto 4, 3) := by decide +kernel
theorem dX12_stones_126 : decode cX12_stones 126 = .ok (.iload_n 3, 1) := by decide +kernel
theorem dX12_stones_127 : decode cX12_stones 127 = .ok (.istore_n 3, 1) := by decide +kernel
theorem dX12_stones_128 : decode cX12_stones 128 = .ok (.iload 5, 2) := by decide +kernel
theorem dX12_stones_130 : decode cX12_stones 130 = .ok (.ifCond .eq 10, 3) := by decide +kernel
theorem dX12_stones_133 : decode cX12_stones 133 = .ok (.iload 6, 2) := by decide +kernel
theorem dX12_stones_135 : decode cX12_stones 135 = .ok (.iload 4, 2) := by decide +kernel
theorem dX12_stones_137 : decode cX12_stones 137 = .ok (.if_icmp .ge 8, 3) := by decide +kernel
theorem dX12_stones_140 : decode cX12_stones 140 = .ok (.iload 6, 2) := by decide +kernel
theorem dX12_stones_142 : decode cX12_stones 142 = .ok (.goto 5, 3) := by decide +kernel
theorem dX12_stones_145 : decode cX12_stones 145 = .ok (.iload 4, 2) := by decide +kernel
theorem dX12_stones_147 : decode cX12_stones 147 = .ok (.istore 4, 2) := by decide +kernel
theorem dX12_stones_149 : decode cX12_stones 149 = .ok (.iinc 5 1, 3) := by decide +kernel
theorem dX12_stones_152 : decode cX12_stones 152 = .ok (.goto (-108), 3) := by decide +kernel
theorem dX12_stones_155 : decode cX12_stones 155 = .ok (.iload_n 1, 1) := by decide +kernel
theorem dX12_stones_156 : decode cX12_stones 156 = .ok (.ifCond .ge 8, 3) := by decide +kernel
theorem dX12_stones_159 : decode cX12_stones 159 = .ok (.iload 4, 2) := by decide +kernel
theorem dX12_stones_161 : decode cX12_stones 161 = .ok (.goto 14, 3) := by decide +kernel
theorem dX12_stones_164 : decode cX12_stones 164 = .ok (.iload_n 3, 1) := by decide +kernel
theorem dX12_stones_165 : decode cX12_stones 165 = .ok (.iconst 2, 1) := by decide +kernel
theorem dX12_stones_166 : decode cX12_stones 166 = .ok (.iload_n 2, 1) := by decide +kernel
theorem dX12_stones_167 : decode cX12_stones 167 = .ok (.iconst 1, 1) := by decide +kernel
theorem dX12_stones_168 : decode cX12_stones 168 = .ok (.isub, 1) := by decide +kernel
theorem dX12_stones_169 : decode cX12_stones 169 = .ok (.iload_n 1, 1) := by decide +kernel
theorem dX12_stones_170 : decode cX12_stones 170 = .ok (.isub, 1) := by decide +kernel
theorem dX12_stones_171 : decode cX12_stones 171 = .ok (.imul, 1) := by decide +kernel
theorem dX12_stones_172 : decode cX12_stones 172 = .ok (.ishr, 1) := by decide +kernel
theorem dX12_stones_173 : decode cX12_stones 173 = .ok (.iconst 3, 1) := by decide +kernel
theorem dX12_stones_174 : decode cX12_stones 174 = .ok (.iand, 1) := by decide +kernel
theorem dX12_stones_175 : decode cX12_stones 175 = .ok (.ireturn, 1) := by decide +kernel
theorem dX12_marks_0 : decode cX12_marks 0 = .ok (.aload_n 0, 1) := by decide +kernel
theorem dX12_marks_1 : decode cX12_marks 1 = .ok (.invokevirtual 188, 3) := by decide +kernel
theorem dX12_marks_4 : decode cX12_marks 4 = .ok (.ifCond .ne 6, 3) := by decide +kernel
theorem dX12_marks_7 : decode cX12_marks 7 = .ok (.ldc 192, 2) := by decide +kernel
theorem dX12_marks_9 : decode cX12_marks 9 = .ok (.ireturn, 1) := by decide +kernel
theorem dX12_marks_10 : decode cX12_marks 10 = .ok (.iload_n 1, 1) := by decide +kernel
theorem dX12_marks_11 : decode cX12_marks 11 = .ok (.invokestatic 49, 3) := by decide +kernel
theorem dX12_marks_14 : decode cX12_marks 14 = .ok (.ifCond .eq 37, 3) := by decide +kernel
theorem dX12_marks_17 : decode cX12_marks 17 = .ok (.iload_n 2, 1) := by decide +kernel
theorem dX12_marks_18 : decode cX12_marks 18 = .ok (.i2l, 1) := by decide +kernel
theorem dX12_marks_19 : decode cX12_marks 19 = .ok (.ldc2_w 225, 3) := by decide +kernel
theorem dX12_marks_22 : decode cX12_marks 22 = .ok (.ldc2_w 227, 3) := by decide +kernel
theorem dX12_marks_25 : decode cX12_marks 25 = .ok (.invokestatic 40, 3) := by decide +kernel
theorem dX12_marks_28 : decode cX12_marks 28 = .ok (.ifCond .eq 23, 3) := by decide +kernel
theorem dX12_marks_31 : decode cX12_marks 31 = .ok (.iload_n 3, 1) := by decide +kernel
theorem dX12_marks_32 : decode cX12_marks 32 = .ok (.i2l, 1) := by decide +kernel
theorem dX12_marks_33 : decode cX12_marks 33 = .ok (.ldc2_w 225, 3) := by decide +kernel
theorem dX12_marks_36 : decode cX12_marks 36 = .ok (.ldc2_w 227, 3) := by decide +kernel
theorem dX12_marks_39 : decode cX12_marks 39 = .ok (.invokestatic 40, 3) := by decide +kernel
theorem dX12_marks_42 : decode cX12_marks 42 = .ok (.ifCond .eq 9, 3) := by decide +kernel
theorem dX12_marks_45 : decode cX12_marks 45 = .ok (.iload 4, 2) := by decide +kernel
theorem dX12_marks_47 : decode cX12_marks 47 = .ok (.iconst (-1), 1) := by decide +kernel
theorem dX12_marks_48 : decode cX12_marks 48 = .ok (.if_icmp .ge 6, 3) := by decide +kernel
theorem dX12_marks_51 : decode cX12_marks 51 = .ok (.ldc 55, 2) := by decide +kernel
theorem dX12_marks_53 : decode cX12_marks 53 = .ok (.ireturn, 1) := by decide +kernel
theorem dX12_marks_54 : decode cX12_marks 54 = .ok (.aload_n 0, 1) := by decide +kernel
theorem dX12_marks_55 : decode cX12_marks 55 = .ok (.getfield 20, 3) := by decide +kernel
theorem dX12_marks_58 : decode cX12_marks 58 = .ok (.iload_n 1, 1) := by decide +kernel
theorem dX12_marks_59 : decode cX12_marks 59 = .ok (.iaload, 1) := by decide +kernel
theorem dX12_marks_60 : decode cX12_marks 60 = .ok (.ifCond .ge 9, 3) := by decide +kernel
theorem dX12_marks_63 : decode cX12_marks 63 = .ok (.aload_n 0, 1) := by decide +kernel
theorem dX12_marks_64 : decode cX12_marks 64 = .ok (.iconst 1, 1) := by decide +kernel
theorem dX12_marks_65 : decode cX12_marks 65 = .ok (.invokevirtual 56, 3) := by decide +kernel
theorem dX12_marks_68 : decode cX12_marks 68 = .ok (.ireturn, 1) := by decide +kernel
theorem dX12_marks_69 : decode cX12_marks 69 = .ok (.aload_n 0, 1) := by decide +kernel
theorem dX12_marks_70 : decode cX12_marks 70 = .ok (.getfield 23, 3) := by decide +kernel
theorem dX12_marks_73 : decode cX12_marks 73 = .ok (.iload_n 1, 1) := by decide +kernel
theorem dX12_marks_74 : decode cX12_marks 74 = .ok (.iaload, 1) := by decide +kernel
theorem dX12_marks_75 : decode cX12_marks 75 = .ok (.aload_n 0, 1) := by decide +kernel
theorem dX12_marks_76 : decode cX12_marks 76 = .ok (.getfield 7, 3) := by decide +kernel
theorem dX12_marks_79 : decode cX12_marks 79 = .ok (.iconst 2, 1) := by decide +kernel
theorem dX12_marks_80 : decode cX12_marks 80 = .ok (.iaload, 1) := by decide +kernel
theorem dX12_marks_81 : decode cX12_marks 81 = .ok (.if_icmp .ge 9, 3) := by decide +kernel
theorem dX12_marks_84 : decode cX12_marks 84 = .ok (.aload_n 0, 1) := by decide +kernel
theorem dX12_marks_85 : decode cX12_marks 85 = .ok (.iconst 2, 1) := by decide +kernel
theorem dX12_marks_86 : decode cX12_marks 86 = .ok (.invokevirtual 56, 3) := by decide +kernel
theorem dX12_marks_89 : decode cX12_marks 89 = .ok (.ireturn, 1) := by decide +kernel
theorem dX12_marks_90 : decode cX12_marks 90 = .ok (.iconst 0, 1) := by decide +kernel
theorem dX12_marks_91 : decode cX12_marks 91 = .ok (.istore 5, 2) := by decide +kernel
theorem dX12_marks_93 : decode cX12_marks 93 = .ok (.iload 5, 2) := by decide +kernel
theorem dX12_marks_95 : decode cX12_marks 95 = .ok (.aload_n 0, 1) := by decide +kernel
theorem dX12_marks_96 : decode cX12_marks 96 = .ok (.getfield 7, 3) := by decide +kernel
theorem dX12_marks_99 : decode cX12_marks 99 = .ok (.iconst 2, 1) := by decide +kernel
theorem dX12_marks_100 : decode cX12_marks 100 = .ok (.iaload, 1) := by decide +kernel
theorem dX12_marks_101 : decode cX12_marks 101 = .ok (.if_icmp .ge 43, 3) := by decide +kernel
theorem dX12_marks_104 : decode cX12_marks 104 = .ok (.aload_n 0, 1) := by decide +kernel
theorem dX12_marks_105 : decode cX12_marks 105 = .ok (.getfield 17, 3) := by decide +kernel
theorem dX12_marks_108 : decode cX12_marks 108 = .ok (.bipush 40, 2) := by decide +kernel
theorem dX12_marks_110 : decode cX12_marks 110 = .ok (.iload_n 1, 1) := by decide +kernel
theorem dX12_marks_111 : decode cX12_marks 111 = .ok (.imul, 1) := by decide +kernel
theorem dX12_marks_112 : decode cX12_marks 112 = .ok (.iload 5, 2) := by decide +kernel
theorem dX12_marks_114 : decode cX12_marks 114 = .ok (.iadd, 1) := by decide +kernel
theorem dX12_marks_115 : decode cX12_marks 115 = .ok (.iaload, 1) := by decide +kernel
theorem dX12_marks_116 : decode cX12_marks 116 = .ok (.i2l, 1) := by decide +kernel
theorem dX12_marks_117 : decode cX12_marks 117 = .ok (.ldc2_w 99, 3) := by decide +kernel
theorem dX12_marks_120 : decode cX12_marks 120 = .ok (.aload_n 0, 1) := by decide +kernel
theorem dX12_marks_121 : decode cX12_marks 121 = .ok (.getfield 7, 3) := by decide +kernel
theorem dX12_marks_124 : decode cX12_marks 124 = .ok (.iconst 0, 1) := by decide +kernel
theorem dX12_marks_125 : decode cX12_marks 125 = .ok (.iaload, 1) := by decide +kernel
theorem dX12_marks_126 : decode cX12_marks 126 = .ok (.iconst 1, 1) := by decide +kernel
theorem dX12_marks_127 : decode cX12_marks 127 = .ok (.isub, 1) := by decide +kernel
theorem dX12_marks_128 : decode cX12_marks 128 = .ok (.i2l, 1) := by decide +kernel
theorem dX12_marks_129 : decode cX12_marks 129 = .ok (.invokestatic 40, 3) := by decide +kernel
theorem dX12_marks_132 : decode cX12_marks 132 = .ok (.ifCond .ne 6, 3) := by decide +kernel
theorem dX12_marks_135 : decode cX12_marks 135 = .ok (.ldc 55, 2) := by decide +kernel
theorem dX12_marks_137 : decode cX12_marks 137 = .ok (.ireturn, 1) := by decide +kernel
theorem dX12_marks_138 : decode cX12_marks 138 = .ok (.iinc 5 1, 3) := by decide +kernel
theorem dX12_marks_141 : decode cX12_marks 141 = .ok (.goto (-48), 3) := by decide +kernel
theorem dX12_marks_144 : decode cX12_marks 144 = .ok (.aload_n 0, 1) := by decide +kernel
theorem dX12_marks_145 : decode cX12_marks 145 = .ok (.iconst 0, 1) := by decide +kernel
theorem dX12_marks_146 : decode cX12_marks 146 = .ok (.sipush 200, 3) := by decide +kernel
theorem dX12_marks_149 : decode cX12_marks 149 = .ok (.invokevirtual 154, 3) := by decide +kernel
theorem dX12_marks_152 : decode cX12_marks 152 = .ok (.iconst 0, 1) := by decide +kernel
theorem dX12_marks_153 : decode cX12_marks 153 = .ok (.istore 5, 2) := by decide +kernel
theorem dX12_marks_155 : decode cX12_marks 155 = .ok (.iconst 0, 1) := by decide +kernel
theorem dX12_marks_156 : decode cX12_marks 156 = .ok (.istore 6, 2) := by decide +kernel
theorem dX12_marks_158 : decode cX12_marks 158 = .ok (.iload 6, 2) := by decide +kernel
theorem dX12_marks_160 : decode cX12_marks 160 = .ok (.iconst 1, 1) := by decide +kernel
theorem dX12_marks_161 : decode cX12_marks 161 = .ok (.aload_n 0, 1) := by decide +kernel
theorem dX12_marks_162 : decode cX12_marks 162 = .ok (.getfield 7, 3) := by decide +kernel
theorem dX12_marks_165 : decode cX12_marks 165 = .ok (.iconst 2, 1) := by decide +kernel
theorem dX12_marks_166 : decode cX12_marks 166 = .ok (.iaload, 1) := by decide +kernel
theorem dX12_marks_167 : decode cX12_marks 167 = .ok (.ishl, 1) := by decide +kernel
theorem dX12_marks_168 : decode cX12_marks 168 = .ok (.if_icmp .ge 107, 3) := by decide +kernel
theorem dX12_marks_171 : decode cX12_marks 171 = .ok (.iconst 0, 1) := by decide +kernel
theorem dX12_marks_172 : decode cX12_marks 172 = .ok (.istore 7, 2) := by decide +kernel
theorem dX12_marks_174 : decode cX12_marks 174 = .ok (.iload 7, 2) := by decide +kernel
theorem dX12_marks_176 : decode cX12_marks 176 = .ok (.aload_n 0, 1) := by decide +kernel
theorem dX12_marks_177 : decode cX12_marks 177 = .ok (.getfield 7, 3) := by decide +kernel
theorem dX12_marks_180 : decode cX12_marks 180 = .ok (.iconst 2, 1) := by decide +kernel
theorem dX12_marks_181 : decode cX12_marks 181 = .ok (.iaload, 1) := by decide +kernel
theorem dX12_marks_182 : decode cX12_marks 182 = .ok (.if_icmp .ge 46, 3) := by decide +kernel
theorem dX12_marks_185 : decode cX12_marks 185 = .ok (.aload_n 0, 1) := by decide +kernel
theorem dX12_marks_186 : decode cX12_marks 186 = .ok (.getfield 7, 3) := by decide +kernel
theorem dX12_marks_189 : decode cX12_marks 189 = .ok (.sipush 224, 3) := by decide +kernel
theorem dX12_marks_192 : decode cX12_marks 192 = .ok (.iload 7, 2) := by decide +kernel
theorem dX12_marks_194 : decode cX12_marks 194 = .ok (.iadd, 1) := by decide +kernel
theorem dX12_marks_195 : decode cX12_marks 195 = .ok (.iload 6, 2) := by decide +kernel
theorem dX12_marks_197 : decode cX12_marks 197 = .ok (.iload 7, 2) := by decide +kernel
theorem dX12_marks_199 : decode cX12_marks 199 = .ok (.invokestatic 221, 3) := by decide +kernel
theorem dX12_marks_202 : decode cX12_marks 202 = .ok (.ifCond .eq 18, 3) := by decide +kernel
theorem dX12_marks_205 : decode cX12_marks 205 = .ok (.aload_n 0, 1) := by decide +kernel
theorem dX12_marks_206 : decode cX12_marks 206 = .ok (.getfield 17, 3) := by decide +kernel
theorem dX12_marks_209 : decode cX12_marks 209 = .ok (.bipush 40, 2) := by decide +kernel
theorem dX12_marks_211 : decode cX12_marks 211 = .ok (.iload_n 1, 1) := by decide +kernel
theorem dX12_marks_212 : decode cX12_marks 212 = .ok (.imul, 1) := by decide +kernel
theorem dX12_marks_213 : decode cX12_marks 213 = .ok (.iload 7, 2) := by decide +kernel
theorem dX12_marks_215 : decode cX12_marks 215 = .ok (.iadd, 1) := by decide +kernel
theorem dX12_marks_216 : decode cX12_marks 216 = .ok (.iaload, 1) := by decide +kernel
theorem dX12_marks_217 : decode cX12_marks 217 = .ok (.goto 4, 3) := by decide +kernel
theorem dX12_marks_220 : decode cX12_marks 220 = .ok (.iconst (-1), 1) := by decide +kernel
theorem dX12_marks_221 : decode cX12_marks 221 = .ok (.iastore, 1) := by decide +kernel
theorem dX12_marks_222 : decode cX12_marks 222 = .ok (.iinc 7 1, 3) := by decide +kernel
theorem dX12_marks_225 : decode cX12_marks 225 = .ok (.goto (-51), 3) := by decide +kernel
theorem dX12_marks_228 : decode cX12_marks 228 = .ok (.aload_n 0, 1) := by decide +kernel
theorem dX12_marks_229 : decode cX12_marks 229 = .ok (.sipush 200, 3) := by decide +kernel
theorem dX12_marks_232 : decode cX12_marks 232 = .ok (.iconst 1, 1) := by decide +kernel
theorem dX12_marks_233 : decode cX12_marks 233 = .ok (.invokevirtual 171, 3) := by decide +kernel
theorem dX12_marks_236 : decode cX12_marks 236 = .ok (.iload_n 2, 1) := by decide +kernel
theorem dX12_marks_237 : decode cX12_marks 237 = .ok (.if_icmp .ne 32, 3) := by decide +kernel
theorem dX12_marks_240 : decode cX12_marks 240 = .ok (.aload_n 0, 1) := by decide +kernel
theorem dX12_marks_241 : decode cX12_marks 241 = .ok (.sipush 200, 3) := by decide +kernel
theorem dX12_marks_244 : decode cX12_marks 244 = .ok (.iconst 0, 1) := by decide +kernel
theorem dX12_marks_245 : decode cX12_marks 245 = .ok (.invokevirtual 171, 3) := by decide +kernel
theorem dX12_marks_248 : decode cX12_marks 248 = .ok (.iload_n 3, 1) := by decide +kernel
theorem dX12_marks_249 : decode cX12_marks 249 = .ok (.if_icmp .ne 20, 3) := by decide +kernel
theorem dX12_marks_252 : decode cX12_marks 252 = .ok (.iload 5, 2) := by decide +kernel
theorem dX12_marks_254 : decode cX12_marks 254 = .ok (.iload 4, 2) := by decide +kernel
theorem dX12_marks_256 : decode cX12_marks 256 = .ok (.if_icmp .ne 10, 3) := by decide +kernel
theorem dX12_marks_259 : decode cX12_marks 259 = .ok (.aload_n 0, 1) := by decide +kernel
theorem dX12_marks_260 : decode cX12_marks 260 = .ok (.iload 6, 2) := by decide +kernel
theorem dX12_marks_262 : decode cX12_marks 262 = .ok (.invokevirtual 60, 3) := by decide +kernel
theorem dX12_marks_265 : decode cX12_marks 265 = .ok (.ireturn, 1) := by decide +kernel
theorem dX12_marks_266 : decode cX12_marks 266 = .ok (.iinc 5 1, 3) := by decide +kernel
theorem dX12_marks_269 : decode cX12_marks 269 = .ok (.iinc 6 1, 3) := by decide +kernel
theorem dX12_marks_272 : decode cX12_marks 272 = .ok (.goto (-114), 3) := by decide +kernel
theorem dX12_marks_275 : decode cX12_marks 275 = .ok (.aload_n 0, 1) := by decide +kernel
theorem dX12_marks_276 : decode cX12_marks 276 = .ok (.iload 4, 2) := by decide +kernel
theorem dX12_marks_278 : decode cX12_marks 278 = .ok (.ifCond .ge 8, 3) := by decide +kernel
theorem dX12_marks_281 : decode cX12_marks 281 = .ok (.iload 5, 2) := by decide +kernel
theorem dX12_marks_283 : decode cX12_marks 283 = .ok (.goto 5, 3) := by decide +kernel
theorem dX12_marks_286 : decode cX12_marks 286 = .ok (.ldc 195, 2) := by decide +kernel
theorem dX12_marks_288 : decode cX12_marks 288 = .ok (.invokevirtual 60, 3) := by decide +kernel
theorem dX12_marks_291 : decode cX12_marks 291 = .ok (.ireturn, 1) := by decide +kernel
theorem dX12_isSafe_0 : decode cX12_isSafe 0 = .ok (.iconst 0, 1) := by decide +kernel
theorem dX12_isSafe_1 : decode cX12_isSafe 1 = .ok (.istore_n 2, 1) := by decide +kernel
theorem dX12_isSafe_2 : decode cX12_isSafe 2 = .ok (.iload_n 2, 1) := by decide +kernel
theorem dX12_isSafe_3 : decode cX12_isSafe 3 = .ok (.aload_n 0, 1) := by decide +kernel
theorem dX12_isSafe_4 : decode cX12_isSafe 4 = .ok (.getfield 7, 3) := by decide +kernel
theorem dX12_isSafe_7 : decode cX12_isSafe 7 = .ok (.iconst 2, 1) := by decide +kernel
theorem dX12_isSafe_8 : decode cX12_isSafe 8 = .ok (.iaload, 1) := by decide +kernel
theorem dX12_isSafe_9 : decode cX12_isSafe 9 = .ok (.if_icmp .ge 40, 3) := by decide +kernel
theorem dX12_isSafe_12 : decode cX12_isSafe 12 = .ok (.aload_n 0, 1) := by decide +kernel
theorem dX12_isSafe_13 : decode cX12_isSafe 13 = .ok (.getfield 7, 3) := by decide +kernel
theorem dX12_isSafe_16 : decode cX12_isSafe 16 = .ok (.sipush 224, 3) := by decide +kernel
theorem dX12_isSafe_19 : decode cX12_isSafe 19 = .ok (.iload_n 2, 1) := by decide +kernel
theorem dX12_isSafe_20 : decode cX12_isSafe 20 = .ok (.iadd, 1) := by decide +kernel
theorem dX12_isSafe_21 : decode cX12_isSafe 21 = .ok (.iload_n 1, 1) := by decide +kernel
theorem dX12_isSafe_22 : decode cX12_isSafe 22 = .ok (.iload_n 2, 1) := by decide +kernel
theorem dX12_isSafe_23 : decode cX12_isSafe 23 = .ok (.invokestatic 221, 3) := by decide +kernel
theorem dX12_isSafe_26 : decode cX12_isSafe 26 = .ok (.ifCond .eq 7, 3) := by decide +kernel
theorem dX12_isSafe_29 : decode cX12_isSafe 29 = .ok (.iconst (-1), 1) := by decide +kernel
theorem dX12_isSafe_30 : decode cX12_isSafe 30 = .ok (.goto 12, 3) := by decide +kernel
theorem dX12_isSafe_33 : decode cX12_isSafe 33 = .ok (.aload_n 0, 1) := by decide +kernel
theorem dX12_isSafe_34 : decode cX12_isSafe 34 = .ok (.getfield 7, 3) := by decide +kernel
theorem dX12_isSafe_37 : decode cX12_isSafe 37 = .ok (.bipush 24, 2) := by decide +kernel
theorem dX12_isSafe_39 : decode cX12_isSafe 39 = .ok (.iload_n 2, 1) := by decide +kernel
theorem dX12_isSafe_40 : decode cX12_isSafe 40 = .ok (.iadd, 1) := by decide +kernel
theorem dX12_isSafe_41 : decode cX12_isSafe 41 = .ok (.iaload, 1) := by decide +kernel
theorem dX12_isSafe_42 : decode cX12_isSafe 42 = .ok (.iastore, 1) := by decide +kernel
theorem dX12_isSafe_43 : decode cX12_isSafe 43 = .ok (.iinc 2 1, 3) := by decide +kernel
theorem dX12_isSafe_46 : decode cX12_isSafe 46 = .ok (.goto (-44), 3) := by decide +kernel
theorem dX12_isSafe_49 : decode cX12_isSafe 49 = .ok (.aload_n 0, 1) := by decide +kernel
theorem dX12_isSafe_50 : decode cX12_isSafe 50 = .ok (.sipush 200, 3) := by decide +kernel
theorem dX12_isSafe_53 : decode cX12_isSafe 53 = .ok (.invokevirtual 200, 3) := by decide +kernel
theorem dX12_isSafe_56 : decode cX12_isSafe 56 = .ok (.aload_n 0, 1) := by decide +kernel
theorem dX12_isSafe_57 : decode cX12_isSafe 57 = .ok (.getfield 7, 3) := by decide +kernel
theorem dX12_isSafe_60 : decode cX12_isSafe 60 = .ok (.iconst 1, 1) := by decide +kernel
theorem dX12_isSafe_61 : decode cX12_isSafe 61 = .ok (.iaload, 1) := by decide +kernel
theorem dX12_isSafe_62 : decode cX12_isSafe 62 = .ok (.if_icmp .gt 7, 3) := by decide +kernel
theorem dX12_isSafe_65 : decode cX12_isSafe 65 = .ok (.iconst 1, 1) := by decide +kernel
theorem dX12_isSafe_66 : decode cX12_isSafe 66 = .ok (.goto 4, 3) := by decide +kernel
theorem dX12_isSafe_69 : decode cX12_isSafe 69 = .ok (.iconst 0, 1) := by decide +kernel
theorem dX12_isSafe_70 : decode cX12_isSafe 70 = .ok (.ireturn, 1) := by decide +kernel
theorem dX12_rescue_0 : decode cX12_rescue 0 = .ok (.aload_n 0, 1) := by decide +kernel
theorem dX12_rescue_1 : decode cX12_rescue 1 = .ok (.invokevirtual 188, 3) := by decide +kernel
theorem dX12_rescue_4 : decode cX12_rescue 4 = .ok (.ifCond .ne 6, 3) := by decide +kernel
theorem dX12_rescue_7 : decode cX12_rescue 7 = .ok (.ldc 192, 2) := by decide +kernel
theorem dX12_rescue_9 : decode cX12_rescue 9 = .ok (.ireturn, 1) := by decide +kernel
theorem dX12_rescue_10 : decode cX12_rescue 10 = .ok (.iload_n 1, 1) := by decide +kernel
theorem dX12_rescue_11 : decode cX12_rescue 11 = .ok (.ifCond .ge 6, 3) := by decide +kernel
theorem dX12_rescue_14 : decode cX12_rescue 14 = .ok (.ldc 55, 2) := by decide +kernel
theorem dX12_rescue_16 : decode cX12_rescue 16 = .ok (.ireturn, 1) := by decide +kernel
theorem dX12_rescue_17 : decode cX12_rescue 17 = .ok (.iconst 0, 1) := by decide +kernel
theorem dX12_rescue_18 : decode cX12_rescue 18 = .ok (.istore_n 2, 1) := by decide +kernel
theorem dX12_rescue_19 : decode cX12_rescue 19 = .ok (.iconst 0, 1) := by decide +kernel
theorem dX12_rescue_20 : decode cX12_rescue 20 = .ok (.istore_n 3, 1) := by decide +kernel
theorem dX12_rescue_21 : decode cX12_rescue 21 = .ok (.iload_n 3, 1) := by decide +kernel
theorem dX12_rescue_22 : decode cX12_rescue 22 = .ok (.aload_n 0, 1) := by decide +kernel
theorem dX12_rescue_23 : decode cX12_rescue 23 = .ok (.getfield 7, 3) := by decide +kernel
theorem dX12_rescue_26 : decode cX12_rescue 26 = .ok (.iconst 2, 1) := by decide +kernel
theorem dX12_rescue_27 : decode cX12_rescue 27 = .ok (.iaload, 1) := by decide +kernel
theorem dX12_rescue_28 : decode cX12_rescue 28 = .ok (.if_icmp .ge 31, 3) := by decide +kernel
theorem dX12_rescue_31 : decode cX12_rescue 31 = .ok (.iload_n 2, 1) := by decide +kernel
theorem dX12_rescue_32 : decode cX12_rescue 32 = .ok (.aload_n 0, 1) := by decide +kernel
theorem dX12_rescue_33 : decode cX12_rescue 33 = .ok (.getfield 7, 3) := by decide +kernel
theorem dX12_rescue_36 : decode cX12_rescue 36 = .ok (.bipush 24, 2) := by decide +kernel
theorem dX12_rescue_38 : decode cX12_rescue 38 = .ok (.iload_n 3, 1) := by decide +kernel
theorem dX12_rescue_39 : decode cX12_rescue 39 = .ok (.iadd, 1) := by decide +kernel
theorem dX12_rescue_40 : decode cX12_rescue 40 = .ok (.iaload, 1) := by decide +kernel
theorem dX12_rescue_41 : decode cX12_rescue 41 = .ok (.ifCond .ge 9, 3) := by decide +kernel
theorem dX12_rescue_44 : decode cX12_rescue 44 = .ok (.iconst 1, 1) := by decide +kernel
theorem dX12_rescue_45 : decode cX12_rescue 45 = .ok (.iload_n 3, 1) := by decide +kernel
theorem dX12_rescue_46 : decode cX12_rescue 46 = .ok (.ishl, 1) := by decide +kernel
theorem dX12_rescue_47 : decode cX12_rescue 47 = .ok (.goto 4, 3) := by decide +kernel
theorem dX12_rescue_50 : decode cX12_rescue 50 = .ok (.iconst 0, 1) := by decide +kernel
theorem dX12_rescue_51 : decode cX12_rescue 51 = .ok (.ior, 1) := by decide +kernel
theorem dX12_rescue_52 : decode cX12_rescue 52 = .ok (.istore_n 2, 1) := by decide +kernel
theorem dX12_rescue_53 : decode cX12_rescue 53 = .ok (.iinc 3 1, 3) := by decide +kernel
theorem dX12_rescue_56 : decode cX12_rescue 56 = .ok (.goto (-35), 3) := by decide +kernel
theorem dX12_rescue_59 : decode cX12_rescue 59 = .ok (.aload_n 0, 1) := by decide +kernel
theorem dX12_rescue_60 : decode cX12_rescue 60 = .ok (.iconst 0, 1) := by decide +kernel
theorem dX12_rescue_61 : decode cX12_rescue 61 = .ok (.sipush 200, 3) := by decide +kernel
theorem dX12_rescue_64 : decode cX12_rescue 64 = .ok (.invokevirtual 154, 3) := by decide +kernel
theorem dX12_rescue_67 : decode cX12_rescue 67 = .ok (.iconst 1, 1) := by decide +kernel
theorem dX12_rescue_68 : decode cX12_rescue 68 = .ok (.aload_n 0, 1) := by decide +kernel
theorem dX12_rescue_69 : decode cX12_rescue 69 = .ok (.getfield 7, 3) := by decide +kernel
theorem dX12_rescue_72 : decode cX12_rescue 72 = .ok (.iconst 2, 1) := by decide +kernel
theorem dX12_rescue_73 : decode cX12_rescue 73 = .ok (.iaload, 1) := by decide +kernel
theorem dX12_rescue_74 : decode cX12_rescue 74 = .ok (.ishl, 1) := by decide +kernel
theorem dX12_rescue_75 : decode cX12_rescue 75 = .ok (.iconst 1, 1) := by decide +kernel
theorem dX12_rescue_76 : decode cX12_rescue 76 = .ok (.isub, 1) := by decide +kernel
theorem dX12_rescue_77 : decode cX12_rescue 77 = .ok (.istore_n 3, 1) := by decide +kernel
theorem dX12_rescue_78 : decode cX12_rescue 78 = .ok (.iload_n 3, 1) := by decide +kernel
theorem dX12_rescue_79 : decode cX12_rescue 79 = .ok (.istore 4, 2) := by decide +kernel
theorem dX12_rescue_81 : decode cX12_rescue 81 = .ok (.iload 4, 2) := by decide +kernel
theorem dX12_rescue_83 : decode cX12_rescue 83 = .ok (.ifCond .lt 105, 3) := by decide +kernel
theorem dX12_rescue_86 : decode cX12_rescue 86 = .ok (.iload 4, 2) := by decide +kernel
theorem dX12_rescue_88 : decode cX12_rescue 88 = .ok (.iload_n 3, 1) := by decide +kernel
theorem dX12_rescue_89 : decode cX12_rescue 89 = .ok (.if_icmp .ne 7, 3) := by decide +kernel
theorem dX12_rescue_92 : decode cX12_rescue 92 = .ok (.iconst 1, 1) := by decide +kernel
theorem dX12_rescue_93 : decode cX12_rescue 93 = .ok (.goto 4, 3) := by decide +kernel
theorem dX12_rescue_96 : decode cX12_rescue 96 = .ok (.iconst 0, 1) := by decide +kernel
theorem dX12_rescue_97 : decode cX12_rescue 97 = .ok (.istore 5, 2) := by decide +kernel
theorem dX12_rescue_99 : decode cX12_rescue 99 = .ok (.iconst 0, 1) := by decide +kernel
theorem dX12_rescue_100 : decode cX12_rescue 100 = .ok (.istore 6, 2) := by decide +kernel
theorem dX12_rescue_102 : decode cX12_rescue 102 = .ok (.iload 6, 2) := by decide +kernel
theorem dX12_rescue_104 : decode cX12_rescue 104 = .ok (.aload_n 0, 1) := by decide +kernel
theorem dX12_rescue_105 : decode cX12_rescue 105 = .ok (.getfield 7, 3) := by decide +kernel
theorem dX12_rescue_108 : decode cX12_rescue 108 = .ok (.iconst 2, 1) := by decide +kernel
theorem dX12_rescue_109 : decode cX12_rescue 109 = .ok (.iaload, 1) := by decide +kernel
theorem dX12_rescue_110 : decode cX12_rescue 110 = .ok (.if_icmp .ge 46, 3) := by decide +kernel
theorem dX12_rescue_113 : decode cX12_rescue 113 = .ok (.iload 5, 2) := by decide +kernel
theorem dX12_rescue_115 : decode cX12_rescue 115 = .ok (.ifCond .ne 28, 3) := by decide +kernel
theorem dX12_rescue_118 : decode cX12_rescue 118 = .ok (.iload 4, 2) := by decide +kernel
theorem dX12_rescue_120 : decode cX12_rescue 120 = .ok (.iload 6, 2) := by decide +kernel
theorem dX12_rescue_122 : decode cX12_rescue 122 = .ok (.invokestatic 221, 3) := by decide +kernel
theorem dX12_rescue_125 : decode cX12_rescue 125 = .ok (.ifCond .ne 22, 3) := by decide +kernel
theorem dX12_rescue_128 : decode cX12_rescue 128 = .ok (.aload_n 0, 1) := by decide +kernel
theorem dX12_rescue_129 : decode cX12_rescue 129 = .ok (.getfield 32, 3) := by decide +kernel
theorem dX12_rescue_132 : decode cX12_rescue 132 = .ok (.iload 4, 2) := by decide +kernel
theorem dX12_rescue_134 : decode cX12_rescue 134 = .ok (.iconst 1, 1) := by decide +kernel
theorem dX12_rescue_135 : decode cX12_rescue 135 = .ok (.iload 6, 2) := by decide +kernel
theorem dX12_rescue_137 : decode cX12_rescue 137 = .ok (.ishl, 1) := by decide +kernel
theorem dX12_rescue_138 : decode cX12_rescue 138 = .ok (.ior, 1) := by decide +kernel
theorem dX12_rescue_139 : decode cX12_rescue 139 = .ok (.baload, 1) := by decide +kernel
theorem dX12_rescue_140 : decode cX12_rescue 140 = .ok (.ifCond .eq 7, 3) := by decide +kernel
theorem dX12_rescue_143 : decode cX12_rescue 143 = .ok (.iconst 1, 1) := by decide +kernel
theorem dX12_rescue_144 : decode cX12_rescue 144 = .ok (.goto 4, 3) := by decide +kernel
theorem dX12_rescue_147 : decode cX12_rescue 147 = .ok (.iconst 0, 1) := by decide +kernel
theorem dX12_rescue_148 : decode cX12_rescue 148 = .ok (.istore 5, 2) := by decide +kernel
theorem dX12_rescue_150 : decode cX12_rescue 150 = .ok (.iinc 6 1, 3) := by decide +kernel
theorem dX12_rescue_153 : decode cX12_rescue 153 = .ok (.goto (-51), 3) := by decide +kernel
theorem dX12_rescue_156 : decode cX12_rescue 156 = .ok (.aload_n 0, 1) := by decide +kernel
end
section
theorem dX12_rescue_157 : decode cX12_rescue 157 = .ok (.getfield 32, 3) := by decide +kernel
theorem dX12_rescue_160 : decode cX12_rescue 160 = .ok (.iload 4, 2) := by decide +kernel
theorem dX12_rescue_162 : decode cX12_rescue 162 = .ok (.iload 5, 2) := by decide +kernel
theorem dX12_rescue_164 : decode cX12_rescue 164 = .ok (.ifCond .eq 16, 3) := by decide +kernel
theorem dX12_rescue_167 : decode cX12_rescue 167 = .ok (.aload_n 0, 1) := by decide +kernel
theorem dX12_rescue_168 : decode cX12_rescue 168 = .ok (.iload 4, 2) := by decide +kernel
theorem dX12_rescue_170 : decode cX12_rescue 170 = .ok (.invokevirtual 229, 3) := by decide +kernel
theorem dX12_rescue_173 : decode cX12_rescue 173 = .ok (.ifCond .eq 7, 3) := by decide +kernel
theorem dX12_rescue_176 : decode cX12_rescue 176 = .ok (.iconst 1, 1) := by decide +kernel
theorem dX12_rescue_177 : decode cX12_rescue 177 = .ok (.goto 4, 3) := by decide +kernel
theorem dX12_rescue_180 : decode cX12_rescue 180 = .ok (.iconst 0, 1) := by decide +kernel
theorem dX12_rescue_181 : decode cX12_rescue 181 = .ok (.bastore, 1) := by decide +kernel
theorem dX12_rescue_182 : decode cX12_rescue 182 = .ok (.iinc 4 (-1), 3) := by decide +kernel
theorem dX12_rescue_185 : decode cX12_rescue 185 = .ok (.goto (-104), 3) := by decide +kernel
theorem dX12_rescue_188 : decode cX12_rescue 188 = .ok (.aload_n 0, 1) := by decide +kernel
theorem dX12_rescue_189 : decode cX12_rescue 189 = .ok (.getfield 32, 3) := by decide +kernel
theorem dX12_rescue_192 : decode cX12_rescue 192 = .ok (.iload_n 2, 1) := by decide +kernel
theorem dX12_rescue_193 : decode cX12_rescue 193 = .ok (.baload, 1) := by decide +kernel
theorem dX12_rescue_194 : decode cX12_rescue 194 = .ok (.ifCond .eq 18, 3) := by decide +kernel
theorem dX12_rescue_197 : decode cX12_rescue 197 = .ok (.iload_n 1, 1) := by decide +kernel
theorem dX12_rescue_198 : decode cX12_rescue 198 = .ok (.aload_n 0, 1) := by decide +kernel
theorem dX12_rescue_199 : decode cX12_rescue 199 = .ok (.getfield 7, 3) := by decide +kernel
theorem dX12_rescue_202 : decode cX12_rescue 202 = .ok (.iconst 2, 1) := by decide +kernel
theorem dX12_rescue_203 : decode cX12_rescue 203 = .ok (.iaload, 1) := by decide +kernel
theorem dX12_rescue_204 : decode cX12_rescue 204 = .ok (.iload_n 2, 1) := by decide +kernel
theorem dX12_rescue_205 : decode cX12_rescue 205 = .ok (.invokestatic 218, 3) := by decide +kernel
theorem dX12_rescue_208 : decode cX12_rescue 208 = .ok (.isub, 1) := by decide +kernel
theorem dX12_rescue_209 : decode cX12_rescue 209 = .ok (.if_icmp .lt 6, 3) := by decide +kernel
theorem dX12_rescue_212 : decode cX12_rescue 212 = .ok (.ldc 195, 2) := by decide +kernel
theorem dX12_rescue_214 : decode cX12_rescue 214 = .ok (.ireturn, 1) := by decide +kernel
theorem dX12_rescue_215 : decode cX12_rescue 215 = .ok (.iload_n 2, 1) := by decide +kernel
theorem dX12_rescue_216 : decode cX12_rescue 216 = .ok (.istore 4, 2) := by decide +kernel
theorem dX12_rescue_218 : decode cX12_rescue 218 = .ok (.iconst 0, 1) := by decide +kernel
theorem dX12_rescue_219 : decode cX12_rescue 219 = .ok (.istore 5, 2) := by decide +kernel
theorem dX12_rescue_221 : decode cX12_rescue 221 = .ok (.iconst 0, 1) := by decide +kernel
theorem dX12_rescue_222 : decode cX12_rescue 222 = .ok (.istore 6, 2) := by decide +kernel
theorem dX12_rescue_224 : decode cX12_rescue 224 = .ok (.iload 6, 2) := by decide +kernel
theorem dX12_rescue_226 : decode cX12_rescue 226 = .ok (.iload_n 1, 1) := by decide +kernel
theorem dX12_rescue_227 : decode cX12_rescue 227 = .ok (.if_icmp .gt 52, 3) := by decide +kernel
theorem dX12_rescue_230 : decode cX12_rescue 230 = .ok (.iconst 0, 1) := by decide +kernel
theorem dX12_rescue_231 : decode cX12_rescue 231 = .ok (.istore 5, 2) := by decide +kernel
theorem dX12_rescue_233 : decode cX12_rescue 233 = .ok (.iload 4, 2) := by decide +kernel
theorem dX12_rescue_235 : decode cX12_rescue 235 = .ok (.iload 5, 2) := by decide +kernel
theorem dX12_rescue_237 : decode cX12_rescue 237 = .ok (.invokestatic 221, 3) := by decide +kernel
theorem dX12_rescue_240 : decode cX12_rescue 240 = .ok (.ifCond .ne 18, 3) := by decide +kernel
theorem dX12_rescue_243 : decode cX12_rescue 243 = .ok (.aload_n 0, 1) := by decide +kernel
theorem dX12_rescue_244 : decode cX12_rescue 244 = .ok (.getfield 32, 3) := by decide +kernel
theorem dX12_rescue_247 : decode cX12_rescue 247 = .ok (.iload 4, 2) := by decide +kernel
theorem dX12_rescue_249 : decode cX12_rescue 249 = .ok (.iconst 1, 1) := by decide +kernel
theorem dX12_rescue_250 : decode cX12_rescue 250 = .ok (.iload 5, 2) := by decide +kernel
theorem dX12_rescue_252 : decode cX12_rescue 252 = .ok (.ishl, 1) := by decide +kernel
theorem dX12_rescue_253 : decode cX12_rescue 253 = .ok (.ior, 1) := by decide +kernel
theorem dX12_rescue_254 : decode cX12_rescue 254 = .ok (.baload, 1) := by decide +kernel
theorem dX12_rescue_255 : decode cX12_rescue 255 = .ok (.ifCond .ne 9, 3) := by decide +kernel
theorem dX12_rescue_258 : decode cX12_rescue 258 = .ok (.iinc 5 1, 3) := by decide +kernel
theorem dX12_rescue_261 : decode cX12_rescue 261 = .ok (.goto (-28), 3) := by decide +kernel
theorem dX12_rescue_264 : decode cX12_rescue 264 = .ok (.iload 4, 2) := by decide +kernel
theorem dX12_rescue_266 : decode cX12_rescue 266 = .ok (.iconst 1, 1) := by decide +kernel
theorem dX12_rescue_267 : decode cX12_rescue 267 = .ok (.iload 5, 2) := by decide +kernel
theorem dX12_rescue_269 : decode cX12_rescue 269 = .ok (.ishl, 1) := by decide +kernel
theorem dX12_rescue_270 : decode cX12_rescue 270 = .ok (.ior, 1) := by decide +kernel
theorem dX12_rescue_271 : decode cX12_rescue 271 = .ok (.istore 4, 2) := by decide +kernel
theorem dX12_rescue_273 : decode cX12_rescue 273 = .ok (.iinc 6 1, 3) := by decide +kernel
theorem dX12_rescue_276 : decode cX12_rescue 276 = .ok (.goto (-52), 3) := by decide +kernel
theorem dX12_rescue_279 : decode cX12_rescue 279 = .ok (.iload 5, 2) := by decide +kernel
theorem dX12_rescue_281 : decode cX12_rescue 281 = .ok (.ireturn, 1) := by decide +kernel
theorem dX12_fall_0 : decode cX12_fall 0 = .ok (.aload_n 0, 1) := by decide +kernel
theorem dX12_fall_1 : decode cX12_fall 1 = .ok (.invokevirtual 188, 3) := by decide +kernel
theorem dX12_fall_4 : decode cX12_fall 4 = .ok (.ifCond .ne 6, 3) := by decide +kernel
theorem dX12_fall_7 : decode cX12_fall 7 = .ok (.ldc 192, 2) := by decide +kernel
theorem dX12_fall_9 : decode cX12_fall 9 = .ok (.ireturn, 1) := by decide +kernel
theorem dX12_fall_10 : decode cX12_fall 10 = .ok (.aload_n 0, 1) := by decide +kernel
theorem dX12_fall_11 : decode cX12_fall 11 = .ok (.iconst 0, 1) := by decide +kernel
theorem dX12_fall_12 : decode cX12_fall 12 = .ok (.sipush 200, 3) := by decide +kernel
theorem dX12_fall_15 : decode cX12_fall 15 = .ok (.invokevirtual 154, 3) := by decide +kernel
theorem dX12_fall_18 : decode cX12_fall 18 = .ok (.iconst 0, 1) := by decide +kernel
theorem dX12_fall_19 : decode cX12_fall 19 = .ok (.istore_n 1, 1) := by decide +kernel
theorem dX12_fall_20 : decode cX12_fall 20 = .ok (.iload_n 1, 1) := by decide +kernel
theorem dX12_fall_21 : decode cX12_fall 21 = .ok (.bipush 100, 2) := by decide +kernel
theorem dX12_fall_23 : decode cX12_fall 23 = .ok (.if_icmp .ge 34, 3) := by decide +kernel
theorem dX12_fall_26 : decode cX12_fall 26 = .ok (.aload_n 0, 1) := by decide +kernel
theorem dX12_fall_27 : decode cX12_fall 27 = .ok (.sipush 200, 3) := by decide +kernel
theorem dX12_fall_30 : decode cX12_fall 30 = .ok (.invokevirtual 200, 3) := by decide +kernel
theorem dX12_fall_33 : decode cX12_fall 33 = .ok (.aload_n 0, 1) := by decide +kernel
theorem dX12_fall_34 : decode cX12_fall 34 = .ok (.getfield 7, 3) := by decide +kernel
theorem dX12_fall_37 : decode cX12_fall 37 = .ok (.iconst 1, 1) := by decide +kernel
theorem dX12_fall_38 : decode cX12_fall 38 = .ok (.iaload, 1) := by decide +kernel
theorem dX12_fall_39 : decode cX12_fall 39 = .ok (.if_icmp .le 5, 3) := by decide +kernel
theorem dX12_fall_42 : decode cX12_fall 42 = .ok (.iload_n 1, 1) := by decide +kernel
theorem dX12_fall_43 : decode cX12_fall 43 = .ok (.ireturn, 1) := by decide +kernel
theorem dX12_fall_44 : decode cX12_fall 44 = .ok (.aload_n 0, 1) := by decide +kernel
theorem dX12_fall_45 : decode cX12_fall 45 = .ok (.sipush 200, 3) := by decide +kernel
theorem dX12_fall_48 : decode cX12_fall 48 = .ok (.invokevirtual 203, 3) := by decide +kernel
theorem dX12_fall_51 : decode cX12_fall 51 = .ok (.iinc 1 1, 3) := by decide +kernel
theorem dX12_fall_54 : decode cX12_fall 54 = .ok (.goto (-34), 3) := by decide +kernel
theorem dX12_fall_57 : decode cX12_fall 57 = .ok (.ldc 195, 2) := by decide +kernel
theorem dX12_fall_59 : decode cX12_fall 59 = .ok (.ireturn, 1) := by decide +kernel
theorem dX12_bells_0 : decode cX12_bells 0 = .ok (.iload_n 1, 1) := by decide +kernel
theorem dX12_bells_1 : decode cX12_bells 1 = .ok (.invokestatic 49, 3) := by decide +kernel
theorem dX12_bells_4 : decode cX12_bells 4 = .ok (.ifCond .eq 20, 3) := by decide +kernel
theorem dX12_bells_7 : decode cX12_bells 7 = .ok (.iload_n 2, 1) := by decide +kernel
theorem dX12_bells_8 : decode cX12_bells 8 = .ok (.i2l, 1) := by decide +kernel
theorem dX12_bells_9 : decode cX12_bells 9 = .ok (.lconst 1, 1) := by decide +kernel
theorem dX12_bells_10 : decode cX12_bells 10 = .ok (.ldc2_w 232, 3) := by decide +kernel
theorem dX12_bells_13 : decode cX12_bells 13 = .ok (.invokestatic 40, 3) := by decide +kernel
theorem dX12_bells_16 : decode cX12_bells 16 = .ok (.ifCond .eq 8, 3) := by decide +kernel
theorem dX12_bells_19 : decode cX12_bells 19 = .ok (.iload_n 3, 1) := by decide +kernel
theorem dX12_bells_20 : decode cX12_bells 20 = .ok (.iconst (-1), 1) := by decide +kernel
theorem dX12_bells_21 : decode cX12_bells 21 = .ok (.if_icmp .ge 6, 3) := by decide +kernel
theorem dX12_bells_24 : decode cX12_bells 24 = .ok (.ldc 55, 2) := by decide +kernel
theorem dX12_bells_26 : decode cX12_bells 26 = .ok (.ireturn, 1) := by decide +kernel
theorem dX12_bells_27 : decode cX12_bells 27 = .ok (.aload_n 0, 1) := by decide +kernel
theorem dX12_bells_28 : decode cX12_bells 28 = .ok (.getfield 20, 3) := by decide +kernel
theorem dX12_bells_31 : decode cX12_bells 31 = .ok (.iload_n 1, 1) := by decide +kernel
theorem dX12_bells_32 : decode cX12_bells 32 = .ok (.iaload, 1) := by decide +kernel
theorem dX12_bells_33 : decode cX12_bells 33 = .ok (.ifCond .ge 9, 3) := by decide +kernel
theorem dX12_bells_36 : decode cX12_bells 36 = .ok (.aload_n 0, 1) := by decide +kernel
theorem dX12_bells_37 : decode cX12_bells 37 = .ok (.iconst 1, 1) := by decide +kernel
theorem dX12_bells_38 : decode cX12_bells 38 = .ok (.invokevirtual 56, 3) := by decide +kernel
theorem dX12_bells_41 : decode cX12_bells 41 = .ok (.ireturn, 1) := by decide +kernel
theorem dX12_bells_42 : decode cX12_bells 42 = .ok (.aload_n 0, 1) := by decide +kernel
theorem dX12_bells_43 : decode cX12_bells 43 = .ok (.getfield 23, 3) := by decide +kernel
theorem dX12_bells_46 : decode cX12_bells 46 = .ok (.iload_n 1, 1) := by decide +kernel
theorem dX12_bells_47 : decode cX12_bells 47 = .ok (.iaload, 1) := by decide +kernel
theorem dX12_bells_48 : decode cX12_bells 48 = .ok (.iload_n 2, 1) := by decide +kernel
theorem dX12_bells_49 : decode cX12_bells 49 = .ok (.if_icmp .ge 9, 3) := by decide +kernel
theorem dX12_bells_52 : decode cX12_bells 52 = .ok (.aload_n 0, 1) := by decide +kernel
theorem dX12_bells_53 : decode cX12_bells 53 = .ok (.iconst 2, 1) := by decide +kernel
theorem dX12_bells_54 : decode cX12_bells 54 = .ok (.invokevirtual 56, 3) := by decide +kernel
theorem dX12_bells_57 : decode cX12_bells 57 = .ok (.ireturn, 1) := by decide +kernel
theorem dX12_bells_58 : decode cX12_bells 58 = .ok (.iconst 0, 1) := by decide +kernel
theorem dX12_bells_59 : decode cX12_bells 59 = .ok (.istore 4, 2) := by decide +kernel
theorem dX12_bells_61 : decode cX12_bells 61 = .ok (.iload 4, 2) := by decide +kernel
theorem dX12_bells_63 : decode cX12_bells 63 = .ok (.iload_n 2, 1) := by decide +kernel
theorem dX12_bells_64 : decode cX12_bells 64 = .ok (.if_icmp .ge 35, 3) := by decide +kernel
theorem dX12_bells_67 : decode cX12_bells 67 = .ok (.aload_n 0, 1) := by decide +kernel
theorem dX12_bells_68 : decode cX12_bells 68 = .ok (.getfield 17, 3) := by decide +kernel
theorem dX12_bells_71 : decode cX12_bells 71 = .ok (.bipush 40, 2) := by decide +kernel
theorem dX12_bells_73 : decode cX12_bells 73 = .ok (.iload_n 1, 1) := by decide +kernel
theorem dX12_bells_74 : decode cX12_bells 74 = .ok (.imul, 1) := by decide +kernel
theorem dX12_bells_75 : decode cX12_bells 75 = .ok (.iload 4, 2) := by decide +kernel
theorem dX12_bells_77 : decode cX12_bells 77 = .ok (.iadd, 1) := by decide +kernel
theorem dX12_bells_78 : decode cX12_bells 78 = .ok (.iaload, 1) := by decide +kernel
theorem dX12_bells_79 : decode cX12_bells 79 = .ok (.i2l, 1) := by decide +kernel
theorem dX12_bells_80 : decode cX12_bells 80 = .ok (.lconst 1, 1) := by decide +kernel
theorem dX12_bells_81 : decode cX12_bells 81 = .ok (.ldc2_w 234, 3) := by decide +kernel
theorem dX12_bells_84 : decode cX12_bells 84 = .ok (.invokestatic 40, 3) := by decide +kernel
theorem dX12_bells_87 : decode cX12_bells 87 = .ok (.ifCond .ne 6, 3) := by decide +kernel
theorem dX12_bells_90 : decode cX12_bells 90 = .ok (.ldc 55, 2) := by decide +kernel
theorem dX12_bells_92 : decode cX12_bells 92 = .ok (.ireturn, 1) := by decide +kernel
theorem dX12_bells_93 : decode cX12_bells 93 = .ok (.iinc 4 1, 3) := by decide +kernel
theorem dX12_bells_96 : decode cX12_bells 96 = .ok (.goto (-35), 3) := by decide +kernel
theorem dX12_bells_99 : decode cX12_bells 99 = .ok (.aload_n 0, 1) := by decide +kernel
theorem dX12_bells_100 : decode cX12_bells 100 = .ok (.iconst 0, 1) := by decide +kernel
theorem dX12_bells_101 : decode cX12_bells 101 = .ok (.invokevirtual 60, 3) := by decide +kernel
theorem dX12_bells_104 : decode cX12_bells 104 = .ok (.pop, 1) := by decide +kernel
theorem dX12_bells_105 : decode cX12_bells 105 = .ok (.iconst 1, 1) := by decide +kernel
theorem dX12_bells_106 : decode cX12_bells 106 = .ok (.istore 4, 2) := by decide +kernel
theorem dX12_bells_108 : decode cX12_bells 108 = .ok (.iconst 0, 1) := by decide +kernel
theorem dX12_bells_109 : decode cX12_bells 109 = .ok (.istore 5, 2) := by decide +kernel
theorem dX12_bells_111 : decode cX12_bells 111 = .ok (.iload 5, 2) := by decide +kernel
theorem dX12_bells_113 : decode cX12_bells 113 = .ok (.iload_n 2, 1) := by decide +kernel
theorem dX12_bells_114 : decode cX12_bells 114 = .ok (.if_icmp .ge 15, 3) := by decide +kernel
theorem dX12_bells_117 : decode cX12_bells 117 = .ok (.iload 4, 2) := by decide +kernel
theorem dX12_bells_119 : decode cX12_bells 119 = .ok (.iload_n 2, 1) := by decide +kernel
theorem dX12_bells_120 : decode cX12_bells 120 = .ok (.imul, 1) := by decide +kernel
theorem dX12_bells_121 : decode cX12_bells 121 = .ok (.istore 4, 2) := by decide +kernel
theorem dX12_bells_123 : decode cX12_bells 123 = .ok (.iinc 5 1, 3) := by decide +kernel
theorem dX12_bells_126 : decode cX12_bells 126 = .ok (.goto (-15), 3) := by decide +kernel
theorem dX12_bells_129 : decode cX12_bells 129 = .ok (.iconst (-1), 1) := by decide +kernel
theorem dX12_bells_130 : decode cX12_bells 130 = .ok (.istore 5, 2) := by decide +kernel
theorem dX12_bells_132 : decode cX12_bells 132 = .ok (.iconst 0, 1) := by decide +kernel
theorem dX12_bells_133 : decode cX12_bells 133 = .ok (.istore 6, 2) := by decide +kernel
theorem dX12_bells_135 : decode cX12_bells 135 = .ok (.iconst 0, 1) := by decide +kernel
theorem dX12_bells_136 : decode cX12_bells 136 = .ok (.istore 7, 2) := by decide +kernel
theorem dX12_bells_138 : decode cX12_bells 138 = .ok (.iload 7, 2) := by decide +kernel
theorem dX12_bells_140 : decode cX12_bells 140 = .ok (.iload 4, 2) := by decide +kernel
theorem dX12_bells_142 : decode cX12_bells 142 = .ok (.if_icmp .ge 143, 3) := by decide +kernel
theorem dX12_bells_145 : decode cX12_bells 145 = .ok (.iconst 0, 1) := by decide +kernel
theorem dX12_bells_146 : decode cX12_bells 146 = .ok (.istore 8, 2) := by decide +kernel
theorem dX12_bells_148 : decode cX12_bells 148 = .ok (.iload 4, 2) := by decide +kernel
theorem dX12_bells_150 : decode cX12_bells 150 = .ok (.istore 9, 2) := by decide +kernel
theorem dX12_bells_152 : decode cX12_bells 152 = .ok (.iconst 0, 1) := by decide +kernel
theorem dX12_bells_153 : decode cX12_bells 153 = .ok (.istore 10, 2) := by decide +kernel
theorem dX12_bells_155 : decode cX12_bells 155 = .ok (.iconst 0, 1) := by decide +kernel
theorem dX12_bells_156 : decode cX12_bells 156 = .ok (.istore 11, 2) := by decide +kernel
theorem dX12_bells_158 : decode cX12_bells 158 = .ok (.iconst 0, 1) := by decide +kernel
theorem dX12_bells_159 : decode cX12_bells 159 = .ok (.istore 12, 2) := by decide +kernel
theorem dX12_bells_161 : decode cX12_bells 161 = .ok (.iload 12, 2) := by decide +kernel
theorem dX12_bells_163 : decode cX12_bells 163 = .ok (.iload_n 2, 1) := by decide +kernel
theorem dX12_bells_164 : decode cX12_bells 164 = .ok (.if_icmp .ge 85, 3) := by decide +kernel
theorem dX12_bells_167 : decode cX12_bells 167 = .ok (.iload 9, 2) := by decide +kernel
theorem dX12_bells_169 : decode cX12_bells 169 = .ok (.iload_n 2, 1) := by decide +kernel
theorem dX12_bells_170 : decode cX12_bells 170 = .ok (.idiv, 1) := by decide +kernel
theorem dX12_bells_171 : decode cX12_bells 171 = .ok (.istore 9, 2) := by decide +kernel
theorem dX12_bells_173 : decode cX12_bells 173 = .ok (.iload 7, 2) := by decide +kernel
theorem dX12_bells_175 : decode cX12_bells 175 = .ok (.iload 9, 2) := by decide +kernel
theorem dX12_bells_177 : decode cX12_bells 177 = .ok (.idiv, 1) := by decide +kernel
theorem dX12_bells_178 : decode cX12_bells 178 = .ok (.iload_n 2, 1) := by decide +kernel
theorem dX12_bells_179 : decode cX12_bells 179 = .ok (.irem, 1) := by decide +kernel
theorem dX12_bells_180 : decode cX12_bells 180 = .ok (.istore 13, 2) := by decide +kernel
theorem dX12_bells_182 : decode cX12_bells 182 = .ok (.iload 8, 2) := by decide +kernel
theorem dX12_bells_184 : decode cX12_bells 184 = .ok (.iconst 1, 1) := by decide +kernel
theorem dX12_bells_185 : decode cX12_bells 185 = .ok (.iload 13, 2) := by decide +kernel
theorem dX12_bells_187 : decode cX12_bells 187 = .ok (.ishl, 1) := by decide +kernel
theorem dX12_bells_188 : decode cX12_bells 188 = .ok (.ior, 1) := by decide +kernel
theorem dX12_bells_189 : decode cX12_bells 189 = .ok (.istore 8, 2) := by decide +kernel
theorem dX12_bells_191 : decode cX12_bells 191 = .ok (.iload 10, 2) := by decide +kernel
theorem dX12_bells_193 : decode cX12_bells 193 = .ok (.iload 12, 2) := by decide +kernel
theorem dX12_bells_195 : decode cX12_bells 195 = .ok (.iconst 2, 1) := by decide +kernel
theorem dX12_bells_196 : decode cX12_bells 196 = .ok (.irem, 1) := by decide +kernel
theorem dX12_bells_197 : decode cX12_bells 197 = .ok (.ifCond .ne 18, 3) := by decide +kernel
theorem dX12_bells_200 : decode cX12_bells 200 = .ok (.aload_n 0, 1) := by decide +kernel
theorem dX12_bells_201 : decode cX12_bells 201 = .ok (.getfield 17, 3) := by decide +kernel
theorem dX12_bells_204 : decode cX12_bells 204 = .ok (.bipush 40, 2) := by decide +kernel
theorem dX12_bells_206 : decode cX12_bells 206 = .ok (.iload_n 1, 1) := by decide +kernel
theorem dX12_bells_207 : decode cX12_bells 207 = .ok (.imul, 1) := by decide +kernel
theorem dX12_bells_208 : decode cX12_bells 208 = .ok (.iload 13, 2) := by decide +kernel
theorem dX12_bells_210 : decode cX12_bells 210 = .ok (.iadd, 1) := by decide +kernel
theorem dX12_bells_211 : decode cX12_bells 211 = .ok (.iaload, 1) := by decide +kernel
theorem dX12_bells_212 : decode cX12_bells 212 = .ok (.goto 16, 3) := by decide +kernel
theorem dX12_bells_215 : decode cX12_bells 215 = .ok (.aload_n 0, 1) := by decide +kernel
theorem dX12_bells_216 : decode cX12_bells 216 = .ok (.getfield 17, 3) := by decide +kernel
theorem dX12_bells_219 : decode cX12_bells 219 = .ok (.bipush 40, 2) := by decide +kernel
theorem dX12_bells_221 : decode cX12_bells 221 = .ok (.iload_n 1, 1) := by decide +kernel
theorem dX12_bells_222 : decode cX12_bells 222 = .ok (.imul, 1) := by decide +kernel
theorem dX12_bells_223 : decode cX12_bells 223 = .ok (.iload 13, 2) := by decide +kernel
theorem dX12_bells_225 : decode cX12_bells 225 = .ok (.iadd, 1) := by decide +kernel
theorem dX12_bells_226 : decode cX12_bells 226 = .ok (.iaload, 1) := by decide +kernel
theorem dX12_bells_227 : decode cX12_bells 227 = .ok (.ineg, 1) := by decide +kernel
theorem dX12_bells_228 : decode cX12_bells 228 = .ok (.iadd, 1) := by decide +kernel
theorem dX12_bells_229 : decode cX12_bells 229 = .ok (.istore 10, 2) := by decide +kernel
theorem dX12_bells_231 : decode cX12_bells 231 = .ok (.iload 11, 2) := by decide +kernel
theorem dX12_bells_233 : decode cX12_bells 233 = .ok (.iload 10, 2) := by decide +kernel
theorem dX12_bells_235 : decode cX12_bells 235 = .ok (.invokestatic 174, 3) := by decide +kernel
theorem dX12_bells_238 : decode cX12_bells 238 = .ok (.invokestatic 177, 3) := by decide +kernel
theorem dX12_bells_241 : decode cX12_bells 241 = .ok (.istore 11, 2) := by decide +kernel
theorem dX12_bells_243 : decode cX12_bells 243 = .ok (.iinc 12 1, 3) := by decide +kernel
theorem dX12_bells_246 : decode cX12_bells 246 = .ok (.goto (-85), 3) := by decide +kernel
theorem dX12_bells_249 : decode cX12_bells 249 = .ok (.iload 8, 2) := by decide +kernel
theorem dX12_bells_251 : decode cX12_bells 251 = .ok (.iconst 1, 1) := by decide +kernel
theorem dX12_bells_252 : decode cX12_bells 252 = .ok (.iload_n 2, 1) := by decide +kernel
theorem dX12_bells_253 : decode cX12_bells 253 = .ok (.ishl, 1) := by decide +kernel
theorem dX12_bells_254 : decode cX12_bells 254 = .ok (.iconst 1, 1) := by decide +kernel
theorem dX12_bells_255 : decode cX12_bells 255 = .ok (.isub, 1) := by decide +kernel
theorem dX12_bells_256 : decode cX12_bells 256 = .ok (.if_icmp .ne 23, 3) := by decide +kernel
theorem dX12_bells_259 : decode cX12_bells 259 = .ok (.iload 5, 2) := by decide +kernel
theorem dX12_bells_261 : decode cX12_bells 261 = .ok (.ifCond .lt 10, 3) := by decide +kernel
theorem dX12_bells_264 : decode cX12_bells 264 = .ok (.iload 11, 2) := by decide +kernel
theorem dX12_bells_266 : decode cX12_bells 266 = .ok (.iload 6, 2) := by decide +kernel
theorem dX12_bells_268 : decode cX12_bells 268 = .ok (.if_icmp .ge 11, 3) := by decide +kernel
theorem dX12_bells_271 : decode cX12_bells 271 = .ok (.iload 7, 2) := by decide +kernel
theorem dX12_bells_273 : decode cX12_bells 273 = .ok (.istore 5, 2) := by decide +kernel
theorem dX12_bells_275 : decode cX12_bells 275 = .ok (.iload 11, 2) := by decide +kernel
theorem dX12_bells_277 : decode cX12_bells 277 = .ok (.istore 6, 2) := by decide +kernel
theorem dX12_bells_279 : decode cX12_bells 279 = .ok (.iinc 7 1, 3) := by decide +kernel
theorem dX12_bells_282 : decode cX12_bells 282 = .ok (.goto (-144), 3) := by decide +kernel
theorem dX12_bells_285 : decode cX12_bells 285 = .ok (.iload_n 3, 1) := by decide +kernel
theorem dX12_bells_286 : decode cX12_bells 286 = .ok (.ifCond .ge 6, 3) := by decide +kernel
theorem dX12_bells_289 : decode cX12_bells 289 = .ok (.iload 6, 2) := by decide +kernel
theorem dX12_bells_291 : decode cX12_bells 291 = .ok (.ireturn, 1) := by decide +kernel
theorem dX12_bells_292 : decode cX12_bells 292 = .ok (.iload 4, 2) := by decide +kernel
theorem dX12_bells_294 : decode cX12_bells 294 = .ok (.istore 7, 2) := by decide +kernel
theorem dX12_bells_296 : decode cX12_bells 296 = .ok (.iconst 0, 1) := by decide +kernel
theorem dX12_bells_297 : decode cX12_bells 297 = .ok (.istore 8, 2) := by decide +kernel
theorem dX12_bells_299 : decode cX12_bells 299 = .ok (.iload 8, 2) := by decide +kernel
theorem dX12_bells_301 : decode cX12_bells 301 = .ok (.iload_n 3, 1) := by decide +kernel
theorem dX12_bells_302 : decode cX12_bells 302 = .ok (.if_icmp .gt 21, 3) := by decide +kernel
theorem dX12_bells_305 : decode cX12_bells 305 = .ok (.iload 8, 2) := by decide +kernel
theorem dX12_bells_307 : decode cX12_bells 307 = .ok (.iload_n 2, 1) := by decide +kernel
theorem dX12_bells_308 : decode cX12_bells 308 = .ok (.if_icmp .ge 15, 3) := by decide +kernel
theorem dX12_bells_311 : decode cX12_bells 311 = .ok (.iload 7, 2) := by decide +kernel
theorem dX12_bells_313 : decode cX12_bells 313 = .ok (.iload_n 2, 1) := by decide +kernel
theorem dX12_bells_314 : decode cX12_bells 314 = .ok (.idiv, 1) := by decide +kernel
theorem dX12_bells_315 : decode cX12_bells 315 = .ok (.istore 7, 2) := by decide +kernel
theorem dX12_bells_317 : decode cX12_bells 317 = .ok (.iinc 8 1, 3) := by decide +kernel
theorem dX12_bells_320 : decode cX12_bells 320 = .ok (.goto (-21), 3) := by decide +kernel
theorem dX12_bells_323 : decode cX12_bells 323 = .ok (.iload_n 3, 1) := by decide +kernel
theorem dX12_bells_324 : decode cX12_bells 324 = .ok (.iload_n 2, 1) := by decide +kernel
theorem dX12_bells_325 : decode cX12_bells 325 = .ok (.if_icmp .ge 13, 3) := by decide +kernel
theorem dX12_bells_328 : decode cX12_bells 328 = .ok (.iload 5, 2) := by decide +kernel
theorem dX12_bells_330 : decode cX12_bells 330 = .ok (.iload 7, 2) := by decide +kernel
theorem dX12_bells_332 : decode cX12_bells 332 = .ok (.idiv, 1) := by decide +kernel
theorem dX12_bells_333 : decode cX12_bells 333 = .ok (.iload_n 2, 1) := by decide +kernel
theorem dX12_bells_334 : decode cX12_bells 334 = .ok (.irem, 1) := by decide +kernel
theorem dX12_bells_335 : decode cX12_bells 335 = .ok (.goto 5, 3) := by decide +kernel
theorem dX12_bells_338 : decode cX12_bells 338 = .ok (.ldc 195, 2) := by decide +kernel
theorem dX12_bells_340 : decode cX12_bells 340 = .ok (.ireturn, 1) := by decide +kernel
theorem dX12_image_0 : decode cX12_image 0 = .ok (.iload_n 1, 1) := by decide +kernel
theorem dX12_image_1 : decode cX12_image 1 = .ok (.i2l, 1) := by decide +kernel
theorem dX12_image_2 : decode cX12_image 2 = .ok (.lconst 0, 1) := by decide +kernel
theorem dX12_image_3 : decode cX12_image 3 = .ok (.lconst 1, 1) := by decide +kernel
theorem dX12_image_4 : decode cX12_image 4 = .ok (.invokestatic 40, 3) := by decide +kernel
theorem dX12_image_7 : decode cX12_image 7 = .ok (.ifCond .ne 6, 3) := by decide +kernel
theorem dX12_image_10 : decode cX12_image 10 = .ok (.ldc 55, 2) := by decide +kernel
theorem dX12_image_12 : decode cX12_image 12 = .ok (.ireturn, 1) := by decide +kernel
theorem dX12_image_13 : decode cX12_image 13 = .ok (.aload_n 0, 1) := by decide +kernel
theorem dX12_image_14 : decode cX12_image 14 = .ok (.invokevirtual 188, 3) := by decide +kernel
theorem dX12_image_17 : decode cX12_image 17 = .ok (.ifCond .ne 6, 3) := by decide +kernel
theorem dX12_image_20 : decode cX12_image 20 = .ok (.ldc 192, 2) := by decide +kernel
theorem dX12_image_22 : decode cX12_image 22 = .ok (.ireturn, 1) := by decide +kernel
theorem dX12_image_23 : decode cX12_image 23 = .ok (.aload_n 0, 1) := by decide +kernel
theorem dX12_image_24 : decode cX12_image 24 = .ok (.iconst 0, 1) := by decide +kernel
theorem dX12_image_25 : decode cX12_image 25 = .ok (.bipush 50, 2) := by decide +kernel
theorem dX12_image_27 : decode cX12_image 27 = .ok (.iconst 1, 1) := by decide +kernel
theorem dX12_image_28 : decode cX12_image 28 = .ok (.iload_n 1, 1) := by decide +kernel
theorem dX12_image_29 : decode cX12_image 29 = .ok (.iadd, 1) := by decide +kernel
theorem dX12_image_30 : decode cX12_image 30 = .ok (.imul, 1) := by decide +kernel
theorem dX12_image_31 : decode cX12_image 31 = .ok (.invokevirtual 154, 3) := by decide +kernel
theorem dX12_image_34 : decode cX12_image 34 = .ok (.aload_n 0, 1) := by decide +kernel
theorem dX12_image_35 : decode cX12_image 35 = .ok (.getfield 13, 3) := by decide +kernel
theorem dX12_image_38 : decode cX12_image 38 = .ok (.iload_n 1, 1) := by decide +kernel
theorem dX12_image_39 : decode cX12_image 39 = .ok (.iconst 1, 1) := by decide +kernel
theorem dX12_image_40 : decode cX12_image 40 = .ok (.bastore, 1) := by decide +kernel
theorem dX12_image_41 : decode cX12_image 41 = .ok (.iconst 1, 1) := by decide +kernel
theorem dX12_image_42 : decode cX12_image 42 = .ok (.ireturn, 1) := by decide +kernel
theorem dX12_restore_0 : decode cX12_restore 0 = .ok (.iload_n 1, 1) := by decide +kernel
theorem dX12_restore_1 : decode cX12_restore 1 = .ok (.i2l, 1) := by decide +kernel
theorem dX12_restore_2 : decode cX12_restore 2 = .ok (.lconst 0, 1) := by decide +kernel
theorem dX12_restore_3 : decode cX12_restore 3 = .ok (.lconst 1, 1) := by decide +kernel
theorem dX12_restore_4 : decode cX12_restore 4 = .ok (.invokestatic 40, 3) := by decide +kernel
theorem dX12_restore_7 : decode cX12_restore 7 = .ok (.ifCond .ne 6, 3) := by decide +kernel
theorem dX12_restore_10 : decode cX12_restore 10 = .ok (.ldc 55, 2) := by decide +kernel
theorem dX12_restore_12 : decode cX12_restore 12 = .ok (.ireturn, 1) := by decide +kernel
theorem dX12_restore_13 : decode cX12_restore 13 = .ok (.aload_n 0, 1) := by decide +kernel
theorem dX12_restore_14 : decode cX12_restore 14 = .ok (.getfield 13, 3) := by decide +kernel
theorem dX12_restore_17 : decode cX12_restore 17 = .ok (.iload_n 1, 1) := by decide +kernel
theorem dX12_restore_18 : decode cX12_restore 18 = .ok (.baload, 1) := by decide +kernel
theorem dX12_restore_19 : decode cX12_restore 19 = .ok (.ifCond .ne 6, 3) := by decide +kernel
theorem dX12_restore_22 : decode cX12_restore 22 = .ok (.ldc 192, 2) := by decide +kernel
theorem dX12_restore_24 : decode cX12_restore 24 = .ok (.ireturn, 1) := by decide +kernel
theorem dX12_restore_25 : decode cX12_restore 25 = .ok (.aload_n 0, 1) := by decide +kernel
theorem dX12_restore_26 : decode cX12_restore 26 = .ok (.bipush 50, 2) := by decide +kernel
theorem dX12_restore_28 : decode cX12_restore 28 = .ok (.iconst 1, 1) := by decide +kernel
theorem dX12_restore_29 : decode cX12_restore 29 = .ok (.iload_n 1, 1) := by decide +kernel
theorem dX12_restore_30 : decode cX12_restore 30 = .ok (.iadd, 1) := by decide +kernel
theorem dX12_restore_31 : decode cX12_restore 31 = .ok (.imul, 1) := by decide +kernel
theorem dX12_restore_32 : decode cX12_restore 32 = .ok (.iconst 0, 1) := by decide +kernel
theorem dX12_restore_33 : decode cX12_restore 33 = .ok (.invokevirtual 154, 3) := by decide +kernel
theorem dX12_restore_36 : decode cX12_restore 36 = .ok (.aload_n 0, 1) := by decide +kernel
theorem dX12_restore_37 : decode cX12_restore 37 = .ok (.iconst 0, 1) := by decide +kernel
theorem dX12_restore_38 : decode cX12_restore 38 = .ok (.putfield 158, 3) := by decide +kernel
theorem dX12_restore_41 : decode cX12_restore 41 = .ok (.iconst 1, 1) := by decide +kernel
theorem dX12_restore_42 : decode cX12_restore 42 = .ok (.ireturn, 1) := by decide +kernel
theorem dX12_kind_0 : decode cX12_kind 0 = .ok (.aload_n 0, 1) := by decide +kernel
theorem dX12_kind_1 : decode cX12_kind 1 = .ok (.iload_n 1, 1) := by decide +kernel
theorem dX12_kind_2 : decode cX12_kind 2 = .ok (.invokevirtual 180, 3) := by decide +kernel
theorem dX12_kind_5 : decode cX12_kind 5 = .ok (.ifCond .eq 14, 3) := by decide +kernel
theorem dX12_kind_8 : decode cX12_kind 8 = .ok (.aload_n 0, 1) := by decide +kernel
theorem dX12_kind_9 : decode cX12_kind 9 = .ok (.getfield 7, 3) := by decide +kernel
theorem dX12_kind_12 : decode cX12_kind 12 = .ok (.iconst 3, 1) := by decide +kernel
theorem dX12_kind_13 : decode cX12_kind 13 = .ok (.iload_n 1, 1) := by decide +kernel
theorem dX12_kind_14 : decode cX12_kind 14 = .ok (.iadd, 1) := by decide +kernel
theorem dX12_kind_15 : decode cX12_kind 15 = .ok (.iaload, 1) := by decide +kernel
theorem dX12_kind_16 : decode cX12_kind 16 = .ok (.goto 5, 3) := by decide +kernel
theorem dX12_kind_19 : decode cX12_kind 19 = .ok (.ldc 55, 2) := by decide +kernel
theorem dX12_kind_21 : decode cX12_kind 21 = .ok (.ireturn, 1) := by decide +kernel
theorem dX12_isOf_0 : decode cX12_isOf 0 = .ok (.iload_n 1, 1) := by decide +kernel
theorem dX12_isOf_1 : decode cX12_isOf 1 = .ok (.ifCond .eq 28, 3) := by decide +kernel
theorem dX12_isOf_4 : decode cX12_isOf 4 = .ok (.iload_n 0, 1) := by decide +kernel
theorem dX12_isOf_5 : decode cX12_isOf 5 = .ok (.iload_n 1, 1) := by decide +kernel
theorem dX12_isOf_6 : decode cX12_isOf 6 = .ok (.if_icmp .eq 23, 3) := by decide +kernel
theorem dX12_isOf_9 : decode cX12_isOf 9 = .ok (.iload_n 1, 1) := by decide +kernel
theorem dX12_isOf_10 : decode cX12_isOf 10 = .ok (.iconst 1, 1) := by decide +kernel
theorem dX12_isOf_11 : decode cX12_isOf 11 = .ok (.if_icmp .ne 8, 3) := by decide +kernel
theorem dX12_isOf_14 : decode cX12_isOf 14 = .ok (.iload_n 0, 1) := by decide +kernel
theorem dX12_isOf_15 : decode cX12_isOf 15 = .ok (.iconst 3, 1) := by decide +kernel
theorem dX12_isOf_16 : decode cX12_isOf 16 = .ok (.if_icmp .le 13, 3) := by decide +kernel
theorem dX12_isOf_19 : decode cX12_isOf 19 = .ok (.iload_n 1, 1) := by decide +kernel
theorem dX12_isOf_20 : decode cX12_isOf 20 = .ok (.iconst 4, 1) := by decide +kernel
theorem dX12_isOf_21 : decode cX12_isOf 21 = .ok (.if_icmp .ne 12, 3) := by decide +kernel
theorem dX12_isOf_24 : decode cX12_isOf 24 = .ok (.iload_n 0, 1) := by decide +kernel
theorem dX12_isOf_25 : decode cX12_isOf 25 = .ok (.iconst 5, 1) := by decide +kernel
theorem dX12_isOf_26 : decode cX12_isOf 26 = .ok (.if_icmp .ne 7, 3) := by decide +kernel
theorem dX12_isOf_29 : decode cX12_isOf 29 = .ok (.iconst 1, 1) := by decide +kernel
theorem dX12_isOf_30 : decode cX12_isOf 30 = .ok (.goto 4, 3) := by decide +kernel
theorem dX12_isOf_33 : decode cX12_isOf 33 = .ok (.iconst 0, 1) := by decide +kernel
theorem dX12_isOf_34 : decode cX12_isOf 34 = .ok (.ireturn, 1) := by decide +kernel
theorem dX12_as_0 : decode cX12_as 0 = .ok (.aload_n 0, 1) := by decide +kernel
theorem dX12_as_1 : decode cX12_as 1 = .ok (.iload_n 1, 1) := by decide +kernel
theorem dX12_as_2 : decode cX12_as 2 = .ok (.invokevirtual 180, 3) := by decide +kernel
theorem dX12_as_5 : decode cX12_as 5 = .ok (.ifCond .eq 15, 3) := by decide +kernel
theorem dX12_as_8 : decode cX12_as 8 = .ok (.iload_n 2, 1) := by decide +kernel
theorem dX12_as_9 : decode cX12_as 9 = .ok (.i2l, 1) := by decide +kernel
theorem dX12_as_10 : decode cX12_as 10 = .ok (.lconst 0, 1) := by decide +kernel
theorem dX12_as_11 : decode cX12_as 11 = .ok (.ldc2_w 232, 3) := by decide +kernel
theorem dX12_as_14 : decode cX12_as 14 = .ok (.invokestatic 40, 3) := by decide +kernel
theorem dX12_as_17 : decode cX12_as 17 = .ok (.ifCond .ne 6, 3) := by decide +kernel
theorem dX12_as_20 : decode cX12_as 20 = .ok (.ldc 55, 2) := by decide +kernel
theorem dX12_as_22 : decode cX12_as 22 = .ok (.ireturn, 1) := by decide +kernel
theorem dX12_as_23 : decode cX12_as 23 = .ok (.aload_n 0, 1) := by decide +kernel
theorem dX12_as_24 : decode cX12_as 24 = .ok (.getfield 7, 3) := by decide +kernel
theorem dX12_as_27 : decode cX12_as 27 = .ok (.iconst 3, 1) := by decide +kernel
theorem dX12_as_28 : decode cX12_as 28 = .ok (.iload_n 1, 1) := by decide +kernel
theorem dX12_as_29 : decode cX12_as 29 = .ok (.iadd, 1) := by decide +kernel
theorem dX12_as_30 : decode cX12_as 30 = .ok (.iaload, 1) := by decide +kernel
theorem dX12_as_31 : decode cX12_as 31 = .ok (.iload_n 2, 1) := by decide +kernel
theorem dX12_as_32 : decode cX12_as 32 = .ok (.invokestatic 236, 3) := by decide +kernel
theorem dX12_as_35 : decode cX12_as 35 = .ok (.ifCond .eq 11, 3) := by decide +kernel
theorem dX12_as_38 : decode cX12_as 38 = .ok (.aload_n 0, 1) := by decide +kernel
theorem dX12_as_39 : decode cX12_as 39 = .ok (.iload_n 1, 1) := by decide +kernel
theorem dX12_as_40 : decode cX12_as 40 = .ok (.invokevirtual 60, 3) := by decide +kernel
theorem dX12_as_43 : decode cX12_as 43 = .ok (.goto 8, 3) := by decide +kernel
theorem dX12_as_46 : decode cX12_as 46 = .ok (.aload_n 0, 1) := by decide +kernel
theorem dX12_as_47 : decode cX12_as 47 = .ok (.iconst 3, 1) := by decide +kernel
theorem dX12_as_48 : decode cX12_as 48 = .ok (.invokevirtual 56, 3) := by decide +kernel
theorem dX12_as_51 : decode cX12_as 51 = .ok (.ireturn, 1) := by decide +kernel
theorem dX12_leaves_0 : decode cX12_leaves 0 = .ok (.aload_n 0, 1) := by decide +kernel
theorem dX12_leaves_1 : decode cX12_leaves 1 = .ok (.getfield 35, 3) := by decide +kernel
theorem dX12_leaves_4 : decode cX12_leaves 4 = .ok (.aload_n 0, 1) := by decide +kernel
theorem dX12_leaves_5 : decode cX12_leaves 5 = .ok (.getfield 239, 3) := by decide +kernel
theorem dX12_leaves_8 : decode cX12_leaves 8 = .ok (.iload_n 1, 1) := by decide +kernel
theorem dX12_leaves_9 : decode cX12_leaves 9 = .ok (.iastore, 1) := by decide +kernel
theorem dX12_leaves_10 : decode cX12_leaves 10 = .ok (.aload_n 0, 1) := by decide +kernel
theorem dX12_leaves_11 : decode cX12_leaves 11 = .ok (.getfield 35, 3) := by decide +kernel
theorem dX12_leaves_14 : decode cX12_leaves 14 = .ok (.aload_n 0, 1) := by decide +kernel
theorem dX12_leaves_15 : decode cX12_leaves 15 = .ok (.getfield 239, 3) := by decide +kernel
theorem dX12_leaves_18 : decode cX12_leaves 18 = .ok (.iconst 1, 1) := by decide +kernel
theorem dX12_leaves_19 : decode cX12_leaves 19 = .ok (.iadd, 1) := by decide +kernel
theorem dX12_leaves_20 : decode cX12_leaves 20 = .ok (.iload_n 2, 1) := by decide +kernel
theorem dX12_leaves_21 : decode cX12_leaves 21 = .ok (.iastore, 1) := by decide +kernel
theorem dX12_leaves_22 : decode cX12_leaves 22 = .ok (.aload_n 0, 1) := by decide +kernel
theorem dX12_leaves_23 : decode cX12_leaves 23 = .ok (.getfield 35, 3) := by decide +kernel
theorem dX12_leaves_26 : decode cX12_leaves 26 = .ok (.aload_n 0, 1) := by decide +kernel
theorem dX12_leaves_27 : decode cX12_leaves 27 = .ok (.getfield 239, 3) := by decide +kernel
theorem dX12_leaves_30 : decode cX12_leaves 30 = .ok (.iconst 2, 1) := by decide +kernel
theorem dX12_leaves_31 : decode cX12_leaves 31 = .ok (.iadd, 1) := by decide +kernel
theorem dX12_leaves_32 : decode cX12_leaves 32 = .ok (.iload_n 3, 1) := by decide +kernel
theorem dX12_leaves_33 : decode cX12_leaves 33 = .ok (.iastore, 1) := by decide +kernel
theorem dX12_leaves_34 : decode cX12_leaves 34 = .ok (.aload_n 0, 1) := by decide +kernel
theorem dX12_leaves_35 : decode cX12_leaves 35 = .ok (.dup, 1) := by decide +kernel
theorem dX12_leaves_36 : decode cX12_leaves 36 = .ok (.getfield 239, 3) := by decide +kernel
theorem dX12_leaves_39 : decode cX12_leaves 39 = .ok (.iload_n 3, 1) := by decide +kernel
theorem dX12_leaves_40 : decode cX12_leaves 40 = .ok (.ifCond .le 7, 3) := by decide +kernel
theorem dX12_leaves_43 : decode cX12_leaves 43 = .ok (.iconst 3, 1) := by decide +kernel
theorem dX12_leaves_44 : decode cX12_leaves 44 = .ok (.goto 12, 3) := by decide +kernel
theorem dX12_leaves_47 : decode cX12_leaves 47 = .ok (.iload_n 2, 1) := by decide +kernel
theorem dX12_leaves_48 : decode cX12_leaves 48 = .ok (.ifCond .le 7, 3) := by decide +kernel
theorem dX12_leaves_51 : decode cX12_leaves 51 = .ok (.iconst 2, 1) := by decide +kernel
theorem dX12_leaves_52 : decode cX12_leaves 52 = .ok (.goto 4, 3) := by decide +kernel
theorem dX12_leaves_55 : decode cX12_leaves 55 = .ok (.iconst 1, 1) := by decide +kernel
theorem dX12_leaves_56 : decode cX12_leaves 56 = .ok (.iadd, 1) := by decide +kernel
theorem dX12_leaves_57 : decode cX12_leaves 57 = .ok (.putfield 239, 3) := by decide +kernel
theorem dX12_leaves_60 : decode cX12_leaves 60 = .ok (.return_, 1) := by decide +kernel
theorem dX12_plainMark_0 : decode cX12_plainMark 0 = .ok (.iload_n 1, 1) := by decide +kernel
theorem dX12_plainMark_1 : decode cX12_plainMark 1 = .ok (.aload_n 0, 1) := by decide +kernel
theorem dX12_plainMark_2 : decode cX12_plainMark 2 = .ok (.getfield 7, 3) := by decide +kernel
theorem dX12_plainMark_5 : decode cX12_plainMark 5 = .ok (.bipush 17, 2) := by decide +kernel
theorem dX12_plainMark_7 : decode cX12_plainMark 7 = .ok (.iload_n 1, 1) := by decide +kernel
theorem dX12_plainMark_8 : decode cX12_plainMark 8 = .ok (.iadd, 1) := by decide +kernel
theorem dX12_plainMark_9 : decode cX12_plainMark 9 = .ok (.iaload, 1) := by decide +kernel
theorem dX12_plainMark_10 : decode cX12_plainMark 10 = .ok (.iadd, 1) := by decide +kernel
theorem dX12_plainMark_11 : decode cX12_plainMark 11 = .ok (.istore_n 2, 1) := by decide +kernel
theorem dX12_plainMark_12 : decode cX12_plainMark 12 = .ok (.aload_n 0, 1) := by decide +kernel
theorem dX12_plainMark_13 : decode cX12_plainMark 13 = .ok (.getfield 7, 3) := by decide +kernel
theorem dX12_plainMark_16 : decode cX12_plainMark 16 = .ok (.iconst 3, 1) := by decide +kernel
theorem dX12_plainMark_17 : decode cX12_plainMark 17 = .ok (.iload_n 1, 1) := by decide +kernel
theorem dX12_plainMark_18 : decode cX12_plainMark 18 = .ok (.iadd, 1) := by decide +kernel
theorem dX12_plainMark_19 : decode cX12_plainMark 19 = .ok (.iaload, 1) := by decide +kernel
theorem dX12_plainMark_20 : decode cX12_plainMark 20 = .ok (.lookupswitch 58 #[(2, 28), (3, 44)], 28) := by decide +kernel
theorem dX12_plainMark_48 : decode cX12_plainMark 48 = .ok (.aload_n 0, 1) := by decide +kernel
theorem dX12_plainMark_49 : decode cX12_plainMark 49 = .ok (.bipush 22, 2) := by decide +kernel
theorem dX12_plainMark_51 : decode cX12_plainMark 51 = .ok (.bipush 21, 2) := by decide +kernel
theorem dX12_plainMark_53 : decode cX12_plainMark 53 = .ok (.bipush 20, 2) := by decide +kernel
theorem dX12_plainMark_55 : decode cX12_plainMark 55 = .ok (.invokevirtual 242, 3) := by decide +kernel
theorem dX12_plainMark_58 : decode cX12_plainMark 58 = .ok (.iload_n 2, 1) := by decide +kernel
theorem dX12_plainMark_59 : decode cX12_plainMark 59 = .ok (.sipush 1000, 3) := by decide +kernel
theorem dX12_plainMark_62 : decode cX12_plainMark 62 = .ok (.isub, 1) := by decide +kernel
theorem dX12_plainMark_63 : decode cX12_plainMark 63 = .ok (.ireturn, 1) := by decide +kernel
theorem dX12_plainMark_64 : decode cX12_plainMark 64 = .ok (.aload_n 0, 1) := by decide +kernel
theorem dX12_plainMark_65 : decode cX12_plainMark 65 = .ok (.bipush 24, 2) := by decide +kernel
theorem dX12_plainMark_67 : decode cX12_plainMark 67 = .ok (.bipush 21, 2) := by decide +kernel
theorem dX12_plainMark_69 : decode cX12_plainMark 69 = .ok (.bipush 20, 2) := by decide +kernel
theorem dX12_plainMark_71 : decode cX12_plainMark 71 = .ok (.invokevirtual 242, 3) := by decide +kernel
theorem dX12_plainMark_74 : decode cX12_plainMark 74 = .ok (.iconst 2, 1) := by decide +kernel
theorem dX12_plainMark_75 : decode cX12_plainMark 75 = .ok (.iload_n 2, 1) := by decide +kernel
theorem dX12_plainMark_76 : decode cX12_plainMark 76 = .ok (.imul, 1) := by decide +kernel
theorem dX12_plainMark_77 : decode cX12_plainMark 77 = .ok (.ireturn, 1) := by decide +kernel
theorem dX12_plainMark_78 : decode cX12_plainMark 78 = .ok (.aload_n 0, 1) := by decide +kernel
theorem dX12_plainMark_79 : decode cX12_plainMark 79 = .ok (.bipush 21, 2) := by decide +kernel
theorem dX12_plainMark_81 : decode cX12_plainMark 81 = .ok (.bipush 20, 2) := by decide +kernel
theorem dX12_plainMark_83 : decode cX12_plainMark 83 = .ok (.iconst 0, 1) := by decide +kernel
theorem dX12_plainMark_84 : decode cX12_plainMark 84 = .ok (.invokevirtual 242, 3) := by decide +kernel
theorem dX12_plainMark_87 : decode cX12_plainMark 87 = .ok (.iload_n 2, 1) := by decide +kernel
theorem dX12_plainMark_88 : decode cX12_plainMark 88 = .ok (.ireturn, 1) := by decide +kernel
theorem dX12_size_0 : decode cX12_size 0 = .ok (.aload_n 0, 1) := by decide +kernel
theorem dX12_size_1 : decode cX12_size 1 = .ok (.iload_n 1, 1) := by decide +kernel
theorem dX12_size_2 : decode cX12_size 2 = .ok (.invokevirtual 161, 3) := by decide +kernel
theorem dX12_size_5 : decode cX12_size 5 = .ok (.istore_n 2, 1) := by decide +kernel
theorem dX12_size_6 : decode cX12_size 6 = .ok (.aload_n 0, 1) := by decide +kernel
theorem dX12_size_7 : decode cX12_size 7 = .ok (.getfield 7, 3) := by decide +kernel
theorem dX12_size_10 : decode cX12_size 10 = .ok (.iconst 3, 1) := by decide +kernel
theorem dX12_size_11 : decode cX12_size 11 = .ok (.iload_n 1, 1) := by decide +kernel
theorem dX12_size_12 : decode cX12_size 12 = .ok (.iadd, 1) := by decide +kernel
theorem dX12_size_13 : decode cX12_size 13 = .ok (.iaload, 1) := by decide +kernel
theorem dX12_size_14 : decode cX12_size 14 = .ok (.tableswitch 76 3 5 #[57, 26, 40], 26) := by decide +kernel
theorem dX12_size_40 : decode cX12_size 40 = .ok (.aload_n 0, 1) := by decide +kernel
theorem dX12_size_41 : decode cX12_size 41 = .ok (.bipush 13, 2) := by decide +kernel
theorem dX12_size_43 : decode cX12_size 43 = .ok (.bipush 10, 2) := by decide +kernel
theorem dX12_size_45 : decode cX12_size 45 = .ok (.iconst 0, 1) := by decide +kernel
theorem dX12_size_46 : decode cX12_size 46 = .ok (.invokevirtual 242, 3) := by decide +kernel
theorem dX12_size_49 : decode cX12_size 49 = .ok (.iload_n 2, 1) := by decide +kernel
theorem dX12_size_50 : decode cX12_size 50 = .ok (.bipush 100, 2) := by decide +kernel
theorem dX12_size_52 : decode cX12_size 52 = .ok (.isub, 1) := by decide +kernel
theorem dX12_size_53 : decode cX12_size 53 = .ok (.ireturn, 1) := by decide +kernel
theorem dX12_size_54 : decode cX12_size 54 = .ok (.aload_n 0, 1) := by decide +kernel
theorem dX12_size_55 : decode cX12_size 55 = .ok (.bipush 14, 2) := by decide +kernel
theorem dX12_size_57 : decode cX12_size 57 = .ok (.bipush 13, 2) := by decide +kernel
theorem dX12_size_59 : decode cX12_size 59 = .ok (.bipush 10, 2) := by decide +kernel
theorem dX12_size_61 : decode cX12_size 61 = .ok (.invokevirtual 242, 3) := by decide +kernel
theorem dX12_size_64 : decode cX12_size 64 = .ok (.iconst 2, 1) := by decide +kernel
theorem dX12_size_65 : decode cX12_size 65 = .ok (.iload_n 2, 1) := by decide +kernel
theorem dX12_size_66 : decode cX12_size 66 = .ok (.bipush 100, 2) := by decide +kernel
theorem dX12_size_68 : decode cX12_size 68 = .ok (.isub, 1) := by decide +kernel
theorem dX12_size_69 : decode cX12_size 69 = .ok (.imul, 1) := by decide +kernel
theorem dX12_size_70 : decode cX12_size 70 = .ok (.ireturn, 1) := by decide +kernel
theorem dX12_size_71 : decode cX12_size 71 = .ok (.aload_n 0, 1) := by decide +kernel
theorem dX12_size_72 : decode cX12_size 72 = .ok (.bipush 12, 2) := by decide +kernel
theorem dX12_size_74 : decode cX12_size 74 = .ok (.bipush 11, 2) := by decide +kernel
theorem dX12_size_76 : decode cX12_size 76 = .ok (.bipush 10, 2) := by decide +kernel
theorem dX12_size_78 : decode cX12_size 78 = .ok (.invokevirtual 242, 3) := by decide +kernel
theorem dX12_size_81 : decode cX12_size 81 = .ok (.iload_n 2, 1) := by decide +kernel
theorem dX12_size_82 : decode cX12_size 82 = .ok (.aload_n 0, 1) := by decide +kernel
theorem dX12_size_83 : decode cX12_size 83 = .ok (.iload_n 1, 1) := by decide +kernel
theorem dX12_size_84 : decode cX12_size 84 = .ok (.invokevirtual 246, 3) := by decide +kernel
theorem dX12_size_87 : decode cX12_size 87 = .ok (.iadd, 1) := by decide +kernel
theorem dX12_size_88 : decode cX12_size 88 = .ok (.ineg, 1) := by decide +kernel
theorem dX12_size_89 : decode cX12_size 89 = .ok (.ireturn, 1) := by decide +kernel
theorem dX12_size_90 : decode cX12_size 90 = .ok (.aload_n 0, 1) := by decide +kernel
theorem dX12_size_91 : decode cX12_size 91 = .ok (.bipush 11, 2) := by decide +kernel
theorem dX12_size_93 : decode cX12_size 93 = .ok (.bipush 10, 2) := by decide +kernel
theorem dX12_size_95 : decode cX12_size 95 = .ok (.iconst 0, 1) := by decide +kernel
theorem dX12_size_96 : decode cX12_size 96 = .ok (.invokevirtual 242, 3) := by decide +kernel
theorem dX12_size_99 : decode cX12_size 99 = .ok (.iload_n 2, 1) := by decide +kernel
theorem dX12_size_100 : decode cX12_size 100 = .ok (.aload_n 0, 1) := by decide +kernel
theorem dX12_size_101 : decode cX12_size 101 = .ok (.iload_n 1, 1) := by decide +kernel
theorem dX12_size_102 : decode cX12_size 102 = .ok (.invokevirtual 246, 3) := by decide +kernel
theorem dX12_size_105 : decode cX12_size 105 = .ok (.iadd, 1) := by decide +kernel
theorem dX12_size_106 : decode cX12_size 106 = .ok (.ireturn, 1) := by decide +kernel
theorem dX12_ask_0 : decode cX12_ask 0 = .ok (.aload_n 0, 1) := by decide +kernel
theorem dX12_ask_1 : decode cX12_ask 1 = .ok (.iload_n 1, 1) := by decide +kernel
theorem dX12_ask_2 : decode cX12_ask 2 = .ok (.invokevirtual 180, 3) := by decide +kernel
theorem dX12_ask_5 : decode cX12_ask 5 = .ok (.ifCond .eq 13, 3) := by decide +kernel
theorem dX12_ask_8 : decode cX12_ask 8 = .ok (.iload_n 2, 1) := by decide +kernel
theorem dX12_ask_9 : decode cX12_ask 9 = .ok (.i2l, 1) := by decide +kernel
theorem dX12_ask_10 : decode cX12_ask 10 = .ok (.lconst 0, 1) := by decide +kernel
theorem dX12_ask_11 : decode cX12_ask 11 = .ok (.lconst 1, 1) := by decide +kernel
theorem dX12_ask_12 : decode cX12_ask 12 = .ok (.invokestatic 40, 3) := by decide +kernel
theorem dX12_ask_15 : decode cX12_ask 15 = .ok (.ifCond .ne 6, 3) := by decide +kernel
theorem dX12_ask_18 : decode cX12_ask 18 = .ok (.ldc 55, 2) := by decide +kernel
theorem dX12_ask_20 : decode cX12_ask 20 = .ok (.ireturn, 1) := by decide +kernel
theorem dX12_ask_21 : decode cX12_ask 21 = .ok (.aload_n 0, 1) := by decide +kernel
theorem dX12_ask_22 : decode cX12_ask 22 = .ok (.iconst 0, 1) := by decide +kernel
theorem dX12_ask_23 : decode cX12_ask 23 = .ok (.putfield 239, 3) := by decide +kernel
theorem dX12_ask_26 : decode cX12_ask 26 = .ok (.iload_n 2, 1) := by decide +kernel
theorem dX12_ask_27 : decode cX12_ask 27 = .ok (.ifCond .ne 9, 3) := by decide +kernel
theorem dX12_ask_30 : decode cX12_ask 30 = .ok (.aload_n 0, 1) := by decide +kernel
theorem dX12_ask_31 : decode cX12_ask 31 = .ok (.iload_n 1, 1) := by decide +kernel
theorem dX12_ask_32 : decode cX12_ask 32 = .ok (.invokevirtual 249, 3) := by decide +kernel
theorem dX12_ask_35 : decode cX12_ask 35 = .ok (.ireturn, 1) := by decide +kernel
theorem dX12_ask_36 : decode cX12_ask 36 = .ok (.aload_n 0, 1) := by decide +kernel
theorem dX12_ask_37 : decode cX12_ask 37 = .ok (.getfield 7, 3) := by decide +kernel
theorem dX12_ask_40 : decode cX12_ask 40 = .ok (.iconst 3, 1) := by decide +kernel
theorem dX12_ask_41 : decode cX12_ask 41 = .ok (.iload_n 1, 1) := by decide +kernel
theorem dX12_ask_42 : decode cX12_ask 42 = .ok (.iadd, 1) := by decide +kernel
theorem dX12_ask_43 : decode cX12_ask 43 = .ok (.iaload, 1) := by decide +kernel
theorem dX12_ask_44 : decode cX12_ask 44 = .ok (.iconst 4, 1) := by decide +kernel
theorem dX12_ask_45 : decode cX12_ask 45 = .ok (.if_icmp .ge 9, 3) := by decide +kernel
theorem dX12_ask_48 : decode cX12_ask 48 = .ok (.aload_n 0, 1) := by decide +kernel
theorem dX12_ask_49 : decode cX12_ask 49 = .ok (.iload_n 1, 1) := by decide +kernel
theorem dX12_ask_50 : decode cX12_ask 50 = .ok (.invokevirtual 246, 3) := by decide +kernel
theorem dX12_ask_53 : decode cX12_ask 53 = .ok (.ireturn, 1) := by decide +kernel
theorem dX12_ask_54 : decode cX12_ask 54 = .ok (.aload_n 0, 1) := by decide +kernel
theorem dX12_ask_55 : decode cX12_ask 55 = .ok (.bipush 23, 2) := by decide +kernel
theorem dX12_ask_57 : decode cX12_ask 57 = .ok (.bipush 20, 2) := by decide +kernel
theorem dX12_ask_59 : decode cX12_ask 59 = .ok (.iconst 0, 1) := by decide +kernel
theorem dX12_ask_60 : decode cX12_ask 60 = .ok (.invokevirtual 242, 3) := by decide +kernel
theorem dX12_ask_63 : decode cX12_ask 63 = .ok (.iload_n 1, 1) := by decide +kernel
theorem dX12_ask_64 : decode cX12_ask 64 = .ok (.aload_n 0, 1) := by decide +kernel
theorem dX12_ask_65 : decode cX12_ask 65 = .ok (.iload_n 1, 1) := by decide +kernel
theorem dX12_ask_66 : decode cX12_ask 66 = .ok (.invokevirtual 249, 3) := by decide +kernel
theorem dX12_ask_69 : decode cX12_ask 69 = .ok (.isub, 1) := by decide +kernel
theorem dX12_ask_70 : decode cX12_ask 70 = .ok (.ireturn, 1) := by decide +kernel
theorem dX12_trace_0 : decode cX12_trace 0 = .ok (.iload_n 1, 1) := by decide +kernel
theorem dX12_trace_1 : decode cX12_trace 1 = .ok (.i2l, 1) := by decide +kernel
theorem dX12_trace_2 : decode cX12_trace 2 = .ok (.lconst 0, 1) := by decide +kernel
theorem dX12_trace_3 : decode cX12_trace 3 = .ok (.aload_n 0, 1) := by decide +kernel
theorem dX12_trace_4 : decode cX12_trace 4 = .ok (.getfield 239, 3) := by decide +kernel
theorem dX12_trace_7 : decode cX12_trace 7 = .ok (.iconst 1, 1) := by decide +kernel
theorem dX12_trace_8 : decode cX12_trace 8 = .ok (.isub, 1) := by decide +kernel
theorem dX12_trace_9 : decode cX12_trace 9 = .ok (.i2l, 1) := by decide +kernel
theorem dX12_trace_10 : decode cX12_trace 10 = .ok (.invokestatic 40, 3) := by decide +kernel
theorem dX12_trace_13 : decode cX12_trace 13 = .ok (.ifCond .eq 12, 3) := by decide +kernel
theorem dX12_trace_16 : decode cX12_trace 16 = .ok (.aload_n 0, 1) := by decide +kernel
theorem dX12_trace_17 : decode cX12_trace 17 = .ok (.getfield 35, 3) := by decide +kernel
theorem dX12_trace_20 : decode cX12_trace 20 = .ok (.iload_n 1, 1) := by decide +kernel
theorem dX12_trace_21 : decode cX12_trace 21 = .ok (.iaload, 1) := by decide +kernel
theorem dX12_trace_22 : decode cX12_trace 22 = .ok (.goto 5, 3) := by decide +kernel
theorem dX12_trace_25 : decode cX12_trace 25 = .ok (.ldc 195, 2) := by decide +kernel
theorem dX12_trace_27 : decode cX12_trace 27 = .ok (.ireturn, 1) := by decide +kernel
theorem dX12_count_0 : decode cX12_count 0 = .ok (.iconst 0, 1) := by decide +kernel
theorem dX12_count_1 : decode cX12_count 1 = .ok (.istore_n 2, 1) := by decide +kernel
theorem dX12_count_2 : decode cX12_count 2 = .ok (.iconst 0, 1) := by decide +kernel
theorem dX12_count_3 : decode cX12_count 3 = .ok (.istore_n 3, 1) := by decide +kernel
theorem dX12_count_4 : decode cX12_count 4 = .ok (.iload_n 3, 1) := by decide +kernel
theorem dX12_count_5 : decode cX12_count 5 = .ok (.bipush 8, 2) := by decide +kernel
theorem dX12_count_7 : decode cX12_count 7 = .ok (.if_icmp .ge 26, 3) := by decide +kernel
theorem dX12_count_10 : decode cX12_count 10 = .ok (.iload_n 2, 1) := by decide +kernel
theorem dX12_count_11 : decode cX12_count 11 = .ok (.aload_n 0, 1) := by decide +kernel
theorem dX12_count_12 : decode cX12_count 12 = .ok (.getfield 20, 3) := by decide +kernel
theorem dX12_count_15 : decode cX12_count 15 = .ok (.iload_n 3, 1) := by decide +kernel
theorem dX12_count_16 : decode cX12_count 16 = .ok (.iaload, 1) := by decide +kernel
theorem dX12_count_17 : decode cX12_count 17 = .ok (.ifCond .lt 7, 3) := by decide +kernel
theorem dX12_count_20 : decode cX12_count 20 = .ok (.iconst 1, 1) := by decide +kernel
theorem dX12_count_21 : decode cX12_count 21 = .ok (.goto 4, 3) := by decide +kernel
theorem dX12_count_24 : decode cX12_count 24 = .ok (.iconst 0, 1) := by decide +kernel
theorem dX12_count_25 : decode cX12_count 25 = .ok (.iadd, 1) := by decide +kernel
theorem dX12_count_26 : decode cX12_count 26 = .ok (.istore_n 2, 1) := by decide +kernel
theorem dX12_count_27 : decode cX12_count 27 = .ok (.iinc 3 1, 3) := by decide +kernel
theorem dX12_count_30 : decode cX12_count 30 = .ok (.goto (-26), 3) := by decide +kernel
theorem dX12_count_33 : decode cX12_count 33 = .ok (.iconst 0, 1) := by decide +kernel
theorem dX12_count_34 : decode cX12_count 34 = .ok (.istore_n 3, 1) := by decide +kernel
theorem dX12_count_35 : decode cX12_count 35 = .ok (.iconst 0, 1) := by decide +kernel
theorem dX12_count_36 : decode cX12_count 36 = .ok (.istore 4, 2) := by decide +kernel
theorem dX12_count_38 : decode cX12_count 38 = .ok (.iload 4, 2) := by decide +kernel
theorem dX12_count_40 : decode cX12_count 40 = .ok (.aload_n 0, 1) := by decide +kernel
theorem dX12_count_41 : decode cX12_count 41 = .ok (.getfield 7, 3) := by decide +kernel
theorem dX12_count_44 : decode cX12_count 44 = .ok (.iconst 2, 1) := by decide +kernel
theorem dX12_count_45 : decode cX12_count 45 = .ok (.iaload, 1) := by decide +kernel
theorem dX12_count_46 : decode cX12_count 46 = .ok (.if_icmp .ge 30, 3) := by decide +kernel
theorem dX12_count_49 : decode cX12_count 49 = .ok (.iload_n 3, 1) := by decide +kernel
theorem dX12_count_50 : decode cX12_count 50 = .ok (.aload_n 0, 1) := by decide +kernel
theorem dX12_count_51 : decode cX12_count 51 = .ok (.getfield 7, 3) := by decide +kernel
theorem dX12_count_54 : decode cX12_count 54 = .ok (.bipush 24, 2) := by decide +kernel
theorem dX12_count_56 : decode cX12_count 56 = .ok (.iload 4, 2) := by decide +kernel
theorem dX12_count_58 : decode cX12_count 58 = .ok (.iadd, 1) := by decide +kernel
theorem dX12_count_59 : decode cX12_count 59 = .ok (.iaload, 1) := by decide +kernel
theorem dX12_count_60 : decode cX12_count 60 = .ok (.ifCond .lt 7, 3) := by decide +kernel
theorem dX12_count_63 : decode cX12_count 63 = .ok (.iconst 1, 1) := by decide +kernel
theorem dX12_count_64 : decode cX12_count 64 = .ok (.goto 4, 3) := by decide +kernel
theorem dX12_count_67 : decode cX12_count 67 = .ok (.iconst 0, 1) := by decide +kernel
theorem dX12_count_68 : decode cX12_count 68 = .ok (.iadd, 1) := by decide +kernel
theorem dX12_count_69 : decode cX12_count 69 = .ok (.istore_n 3, 1) := by decide +kernel
theorem dX12_count_70 : decode cX12_count 70 = .ok (.iinc 4 1, 3) := by decide +kernel
theorem dX12_count_73 : decode cX12_count 73 = .ok (.goto (-35), 3) := by decide +kernel
theorem dX12_count_76 : decode cX12_count 76 = .ok (.iload_n 1, 1) := by decide +kernel
theorem dX12_count_77 : decode cX12_count 77 = .ok (.tableswitch 80 0 6 #[43, 45, 52, 60, 68, 73, 75], 43) := by decide +kernel
theorem dX12_count_120 : decode cX12_count 120 = .ok (.iload_n 2, 1) := by decide +kernel
theorem dX12_count_121 : decode cX12_count 121 = .ok (.ireturn, 1) := by decide +kernel
theorem dX12_count_122 : decode cX12_count 122 = .ok (.aload_n 0, 1) := by decide +kernel
theorem dX12_count_123 : decode cX12_count 123 = .ok (.getfield 7, 3) := by decide +kernel
theorem dX12_count_126 : decode cX12_count 126 = .ok (.iconst 2, 1) := by decide +kernel
theorem dX12_count_127 : decode cX12_count 127 = .ok (.iaload, 1) := by decide +kernel
theorem dX12_count_128 : decode cX12_count 128 = .ok (.ireturn, 1) := by decide +kernel
theorem dX12_count_129 : decode cX12_count 129 = .ok (.aload_n 0, 1) := by decide +kernel
theorem dX12_count_130 : decode cX12_count 130 = .ok (.getfield 7, 3) := by decide +kernel
theorem dX12_count_133 : decode cX12_count 133 = .ok (.bipush 38, 2) := by decide +kernel
theorem dX12_count_135 : decode cX12_count 135 = .ok (.iaload, 1) := by decide +kernel
theorem dX12_count_136 : decode cX12_count 136 = .ok (.ireturn, 1) := by decide +kernel
theorem dX12_count_137 : decode cX12_count 137 = .ok (.aload_n 0, 1) := by decide +kernel
theorem dX12_count_138 : decode cX12_count 138 = .ok (.getfield 7, 3) := by decide +kernel
theorem dX12_count_141 : decode cX12_count 141 = .ok (.bipush 47, 2) := by decide +kernel
theorem dX12_count_143 : decode cX12_count 143 = .ok (.iaload, 1) := by decide +kernel
theorem dX12_count_144 : decode cX12_count 144 = .ok (.ireturn, 1) := by decide +kernel
theorem dX12_count_145 : decode cX12_count 145 = .ok (.aload_n 0, 1) := by decide +kernel
theorem dX12_count_146 : decode cX12_count 146 = .ok (.getfield 158, 3) := by decide +kernel
theorem dX12_count_149 : decode cX12_count 149 = .ok (.ireturn, 1) := by decide +kernel
theorem dX12_count_150 : decode cX12_count 150 = .ok (.iload_n 3, 1) := by decide +kernel
theorem dX12_count_151 : decode cX12_count 151 = .ok (.ireturn, 1) := by decide +kernel
theorem dX12_count_152 : decode cX12_count 152 = .ok (.aload_n 0, 1) := by decide +kernel
theorem dX12_count_153 : decode cX12_count 153 = .ok (.getfield 69, 3) := by decide +kernel
theorem dX12_count_156 : decode cX12_count 156 = .ok (.ireturn, 1) := by decide +kernel
theorem dX12_count_157 : decode cX12_count 157 = .ok (.ldc 55, 2) := by decide +kernel
theorem dX12_count_159 : decode cX12_count 159 = .ok (.ireturn, 1) := by decide +kernel
theorem dX12_status_0 : decode cX12_status 0 = .ok (.aload_n 0, 1) := by decide +kernel
theorem dX12_status_1 : decode cX12_status 1 = .ok (.getfield 44, 3) := by decide +kernel
theorem dX12_status_4 : decode cX12_status 4 = .ok (.ireturn, 1) := by decide +kernel
theorem dJ6_bitCount_0f7a4_0 : decode cJ6_bitCount_0f7a4 0 = .ok (.iload_n 0, 1) := by decide +kernel
theorem dJ6_bitCount_0f7a4_1 : decode cJ6_bitCount_0f7a4 1 = .ok (.iload_n 0, 1) := by decide +kernel
theorem dJ6_bitCount_0f7a4_2 : decode cJ6_bitCount_0f7a4 2 = .ok (.iconst 1, 1) := by decide +kernel
theorem dJ6_bitCount_0f7a4_3 : decode cJ6_bitCount_0f7a4 3 = .ok (.iushr, 1) := by decide +kernel
theorem dJ6_bitCount_0f7a4_4 : decode cJ6_bitCount_0f7a4 4 = .ok (.ldc_w 265, 3) := by decide +kernel
theorem dJ6_bitCount_0f7a4_7 : decode cJ6_bitCount_0f7a4 7 = .ok (.iand, 1) := by decide +kernel
theorem dJ6_bitCount_0f7a4_8 : decode cJ6_bitCount_0f7a4 8 = .ok (.isub, 1) := by decide +kernel
theorem dJ6_bitCount_0f7a4_9 : decode cJ6_bitCount_0f7a4 9 = .ok (.istore_n 0, 1) := by decide +kernel
theorem dJ6_bitCount_0f7a4_10 : decode cJ6_bitCount_0f7a4 10 = .ok (.iload_n 0, 1) := by decide +kernel
theorem dJ6_bitCount_0f7a4_11 : decode cJ6_bitCount_0f7a4 11 = .ok (.ldc_w 266, 3) := by decide +kernel
theorem dJ6_bitCount_0f7a4_14 : decode cJ6_bitCount_0f7a4 14 = .ok (.iand, 1) := by decide +kernel
theorem dJ6_bitCount_0f7a4_15 : decode cJ6_bitCount_0f7a4 15 = .ok (.iload_n 0, 1) := by decide +kernel
theorem dJ6_bitCount_0f7a4_16 : decode cJ6_bitCount_0f7a4 16 = .ok (.iconst 2, 1) := by decide +kernel
theorem dJ6_bitCount_0f7a4_17 : decode cJ6_bitCount_0f7a4 17 = .ok (.iushr, 1) := by decide +kernel
theorem dJ6_bitCount_0f7a4_18 : decode cJ6_bitCount_0f7a4 18 = .ok (.ldc_w 266, 3) := by decide +kernel
theorem dJ6_bitCount_0f7a4_21 : decode cJ6_bitCount_0f7a4 21 = .ok (.iand, 1) := by decide +kernel
theorem dJ6_bitCount_0f7a4_22 : decode cJ6_bitCount_0f7a4 22 = .ok (.iadd, 1) := by decide +kernel
theorem dJ6_bitCount_0f7a4_23 : decode cJ6_bitCount_0f7a4 23 = .ok (.istore_n 0, 1) := by decide +kernel
theorem dJ6_bitCount_0f7a4_24 : decode cJ6_bitCount_0f7a4 24 = .ok (.iload_n 0, 1) := by decide +kernel
theorem dJ6_bitCount_0f7a4_25 : decode cJ6_bitCount_0f7a4 25 = .ok (.iload_n 0, 1) := by decide +kernel
theorem dJ6_bitCount_0f7a4_26 : decode cJ6_bitCount_0f7a4 26 = .ok (.iconst 4, 1) := by decide +kernel
theorem dJ6_bitCount_0f7a4_27 : decode cJ6_bitCount_0f7a4 27 = .ok (.iushr, 1) := by decide +kernel
theorem dJ6_bitCount_0f7a4_28 : decode cJ6_bitCount_0f7a4 28 = .ok (.iadd, 1) := by decide +kernel
theorem dJ6_bitCount_0f7a4_29 : decode cJ6_bitCount_0f7a4 29 = .ok (.ldc_w 267, 3) := by decide +kernel
theorem dJ6_bitCount_0f7a4_32 : decode cJ6_bitCount_0f7a4 32 = .ok (.iand, 1) := by decide +kernel
theorem dJ6_bitCount_0f7a4_33 : decode cJ6_bitCount_0f7a4 33 = .ok (.istore_n 0, 1) := by decide +kernel
theorem dJ6_bitCount_0f7a4_34 : decode cJ6_bitCount_0f7a4 34 = .ok (.iload_n 0, 1) := by decide +kernel
theorem dJ6_bitCount_0f7a4_35 : decode cJ6_bitCount_0f7a4 35 = .ok (.iload_n 0, 1) := by decide +kernel
theorem dJ6_bitCount_0f7a4_36 : decode cJ6_bitCount_0f7a4 36 = .ok (.bipush 8, 2) := by decide +kernel
theorem dJ6_bitCount_0f7a4_38 : decode cJ6_bitCount_0f7a4 38 = .ok (.iushr, 1) := by decide +kernel
theorem dJ6_bitCount_0f7a4_39 : decode cJ6_bitCount_0f7a4 39 = .ok (.iadd, 1) := by decide +kernel
theorem dJ6_bitCount_0f7a4_40 : decode cJ6_bitCount_0f7a4 40 = .ok (.istore_n 0, 1) := by decide +kernel
theorem dJ6_bitCount_0f7a4_41 : decode cJ6_bitCount_0f7a4 41 = .ok (.iload_n 0, 1) := by decide +kernel
theorem dJ6_bitCount_0f7a4_42 : decode cJ6_bitCount_0f7a4 42 = .ok (.iload_n 0, 1) := by decide +kernel
theorem dJ6_bitCount_0f7a4_43 : decode cJ6_bitCount_0f7a4 43 = .ok (.bipush 16, 2) := by decide +kernel
theorem dJ6_bitCount_0f7a4_45 : decode cJ6_bitCount_0f7a4 45 = .ok (.iushr, 1) := by decide +kernel
theorem dJ6_bitCount_0f7a4_46 : decode cJ6_bitCount_0f7a4 46 = .ok (.iadd, 1) := by decide +kernel
theorem dJ6_bitCount_0f7a4_47 : decode cJ6_bitCount_0f7a4 47 = .ok (.istore_n 0, 1) := by decide +kernel
theorem dJ6_bitCount_0f7a4_48 : decode cJ6_bitCount_0f7a4 48 = .ok (.iload_n 0, 1) := by decide +kernel
theorem dJ6_bitCount_0f7a4_49 : decode cJ6_bitCount_0f7a4 49 = .ok (.bipush 63, 2) := by decide +kernel
theorem dJ6_bitCount_0f7a4_51 : decode cJ6_bitCount_0f7a4 51 = .ok (.iand, 1) := by decide +kernel
theorem dJ6_bitCount_0f7a4_52 : decode cJ6_bitCount_0f7a4 52 = .ok (.ireturn, 1) := by decide +kernel
theorem dJ9_abs_0f7a4_0 : decode cJ9_abs_0f7a4 0 = .ok (.iload_n 0, 1) := by decide +kernel
theorem dJ9_abs_0f7a4_1 : decode cJ9_abs_0f7a4 1 = .ok (.ifCond .ge 8, 3) := by decide +kernel
theorem dJ9_abs_0f7a4_4 : decode cJ9_abs_0f7a4 4 = .ok (.iload_n 0, 1) := by decide +kernel
theorem dJ9_abs_0f7a4_5 : decode cJ9_abs_0f7a4 5 = .ok (.ineg, 1) := by decide +kernel
theorem dJ9_abs_0f7a4_6 : decode cJ9_abs_0f7a4 6 = .ok (.goto 4, 3) := by decide +kernel
theorem dJ9_abs_0f7a4_9 : decode cJ9_abs_0f7a4 9 = .ok (.iload_n 0, 1) := by decide +kernel
theorem dJ9_abs_0f7a4_10 : decode cJ9_abs_0f7a4 10 = .ok (.ireturn, 1) := by decide +kernel
theorem dJ9_max_7cf53_0 : decode cJ9_max_7cf53 0 = .ok (.iload_n 0, 1) := by decide +kernel
theorem dJ9_max_7cf53_1 : decode cJ9_max_7cf53 1 = .ok (.iload_n 1, 1) := by decide +kernel
theorem dJ9_max_7cf53_2 : decode cJ9_max_7cf53 2 = .ok (.if_icmp .lt 7, 3) := by decide +kernel
theorem dJ9_max_7cf53_5 : decode cJ9_max_7cf53 5 = .ok (.iload_n 0, 1) := by decide +kernel
theorem dJ9_max_7cf53_6 : decode cJ9_max_7cf53 6 = .ok (.goto 4, 3) := by decide +kernel
theorem dJ9_max_7cf53_9 : decode cJ9_max_7cf53 9 = .ok (.iload_n 1, 1) := by decide +kernel
theorem dJ9_max_7cf53_10 : decode cJ9_max_7cf53 10 = .ok (.ireturn, 1) := by decide +kernel
theorem dJ9_min_7cf53_0 : decode cJ9_min_7cf53 0 = .ok (.iload_n 0, 1) := by decide +kernel
theorem dJ9_min_7cf53_1 : decode cJ9_min_7cf53 1 = .ok (.iload_n 1, 1) := by decide +kernel
theorem dJ9_min_7cf53_2 : decode cJ9_min_7cf53 2 = .ok (.if_icmp .gt 7, 3) := by decide +kernel
theorem dJ9_min_7cf53_5 : decode cJ9_min_7cf53 5 = .ok (.iload_n 0, 1) := by decide +kernel
theorem dJ9_min_7cf53_6 : decode cJ9_min_7cf53 6 = .ok (.goto 4, 3) := by decide +kernel
theorem dJ9_min_7cf53_9 : decode cJ9_min_7cf53 9 = .ok (.iload_n 1, 1) := by decide +kernel
theorem dJ9_min_7cf53_10 : decode cJ9_min_7cf53 10 = .ok (.ireturn, 1) := by decide +kernel
theorem dJ0_length_8abf5_0 : decode cJ0_length_8abf5 0 = .ok (.aload_n 0, 1) := by decide +kernel
theorem dJ0_length_8abf5_1 : decode cJ0_length_8abf5 1 = .ok (.getfield 9, 3) := by decide +kernel
theorem dJ0_length_8abf5_4 : decode cJ0_length_8abf5 4 = .ok (.arraylength, 1) := by decide +kernel
theorem dJ0_length_8abf5_5 : decode cJ0_length_8abf5 5 = .ok (.aload_n 0, 1) := by decide +kernel
theorem dJ0_length_8abf5_6 : decode cJ0_length_8abf5 6 = .ok (.invokevirtual 335, 3) := by decide +kernel
theorem dJ0_length_8abf5_9 : decode cJ0_length_8abf5 9 = .ok (.ishr, 1) := by decide +kernel
theorem dJ0_length_8abf5_10 : decode cJ0_length_8abf5 10 = .ok (.ireturn, 1) := by decide +kernel
theorem dJ0_charAt_5068e_0 : decode cJ0_charAt_5068e 0 = .ok (.aload_n 0, 1) := by decide +kernel
theorem dJ0_charAt_5068e_1 : decode cJ0_charAt_5068e 1 = .ok (.invokevirtual 492, 3) := by decide +kernel
theorem dJ0_charAt_5068e_4 : decode cJ0_charAt_5068e 4 = .ok (.ifCond .eq 12, 3) := by decide +kernel
theorem dJ0_charAt_5068e_7 : decode cJ0_charAt_5068e 7 = .ok (.aload_n 0, 1) := by decide +kernel
theorem dJ0_charAt_5068e_8 : decode cJ0_charAt_5068e 8 = .ok (.getfield 9, 3) := by decide +kernel
theorem dJ0_charAt_5068e_11 : decode cJ0_charAt_5068e 11 = .ok (.iload_n 1, 1) := by decide +kernel
theorem dJ0_charAt_5068e_12 : decode cJ0_charAt_5068e 12 = .ok (.invokestatic 495, 3) := by decide +kernel
theorem dJ0_charAt_5068e_15 : decode cJ0_charAt_5068e 15 = .ok (.ireturn, 1) := by decide +kernel
theorem dJ0_charAt_5068e_16 : decode cJ0_charAt_5068e 16 = .ok (.aload_n 0, 1) := by decide +kernel
theorem dJ0_charAt_5068e_17 : decode cJ0_charAt_5068e 17 = .ok (.getfield 9, 3) := by decide +kernel
theorem dJ0_charAt_5068e_20 : decode cJ0_charAt_5068e 20 = .ok (.iload_n 1, 1) := by decide +kernel
theorem dJ0_charAt_5068e_21 : decode cJ0_charAt_5068e 21 = .ok (.invokestatic 498, 3) := by decide +kernel
theorem dJ0_charAt_5068e_24 : decode cJ0_charAt_5068e 24 = .ok (.ireturn, 1) := by decide +kernel
theorem dJ0_coder_7d493_0 : decode cJ0_coder_7d493 0 = .ok (.getstatic 38, 3) := by decide +kernel
theorem dJ0_coder_7d493_3 : decode cJ0_coder_7d493 3 = .ok (.ifCond .eq 10, 3) := by decide +kernel
theorem dJ0_coder_7d493_6 : decode cJ0_coder_7d493 6 = .ok (.aload_n 0, 1) := by decide +kernel
theorem dJ0_coder_7d493_7 : decode cJ0_coder_7d493 7 = .ok (.getfield 15, 3) := by decide +kernel
theorem dJ0_coder_7d493_10 : decode cJ0_coder_7d493 10 = .ok (.goto 4, 3) := by decide +kernel
theorem dJ0_coder_7d493_13 : decode cJ0_coder_7d493 13 = .ok (.iconst 1, 1) := by decide +kernel
theorem dJ0_coder_7d493_14 : decode cJ0_coder_7d493 14 = .ok (.ireturn, 1) := by decide +kernel
theorem dJ0_isLatin1_aae02_0 : decode cJ0_isLatin1_aae02 0 = .ok (.getstatic 38, 3) := by decide +kernel
theorem dJ0_isLatin1_aae02_3 : decode cJ0_isLatin1_aae02 3 = .ok (.ifCond .eq 14, 3) := by decide +kernel
theorem dJ0_isLatin1_aae02_6 : decode cJ0_isLatin1_aae02 6 = .ok (.aload_n 0, 1) := by decide +kernel
theorem dJ0_isLatin1_aae02_7 : decode cJ0_isLatin1_aae02 7 = .ok (.getfield 15, 3) := by decide +kernel
theorem dJ0_isLatin1_aae02_10 : decode cJ0_isLatin1_aae02 10 = .ok (.ifCond .ne 7, 3) := by decide +kernel
theorem dJ0_isLatin1_aae02_13 : decode cJ0_isLatin1_aae02 13 = .ok (.iconst 1, 1) := by decide +kernel
theorem dJ0_isLatin1_aae02_14 : decode cJ0_isLatin1_aae02 14 = .ok (.goto 4, 3) := by decide +kernel
theorem dJ0_isLatin1_aae02_17 : decode cJ0_isLatin1_aae02 17 = .ok (.iconst 0, 1) := by decide +kernel
theorem dJ0_isLatin1_aae02_18 : decode cJ0_isLatin1_aae02 18 = .ok (.ireturn, 1) := by decide +kernel
theorem dJ0_checkIndex_df160_0 : decode cJ0_checkIndex_df160 0 = .ok (.iload_n 0, 1) := by decide +kernel
theorem dJ0_checkIndex_df160_1 : decode cJ0_checkIndex_df160 1 = .ok (.iload_n 1, 1) := by decide +kernel
theorem dJ0_checkIndex_df160_2 : decode cJ0_checkIndex_df160 2 = .ok (.getstatic 1053, 3) := by decide +kernel
theorem dJ0_checkIndex_df160_5 : decode cJ0_checkIndex_df160 5 = .ok (.invokestatic 1059, 3) := by decide +kernel
theorem dJ0_checkIndex_df160_8 : decode cJ0_checkIndex_df160 8 = .ok (.pop, 1) := by decide +kernel
theorem dJ0_checkIndex_df160_9 : decode cJ0_checkIndex_df160 9 = .ok (.return_, 1) := by decide +kernel
theorem dJ1_charAt_3b067_0 : decode cJ1_charAt_3b067 0 = .ok (.iload_n 1, 1) := by decide +kernel
theorem dJ1_charAt_3b067_1 : decode cJ1_charAt_3b067 1 = .ok (.aload_n 0, 1) := by decide +kernel
theorem dJ1_charAt_3b067_2 : decode cJ1_charAt_3b067 2 = .ok (.arraylength, 1) := by decide +kernel
theorem dJ1_charAt_3b067_3 : decode cJ1_charAt_3b067 3 = .ok (.invokestatic 9, 3) := by decide +kernel
theorem dJ1_charAt_3b067_6 : decode cJ1_charAt_3b067 6 = .ok (.aload_n 0, 1) := by decide +kernel
theorem dJ1_charAt_3b067_7 : decode cJ1_charAt_3b067 7 = .ok (.iload_n 1, 1) := by decide +kernel
theorem dJ1_charAt_3b067_8 : decode cJ1_charAt_3b067 8 = .ok (.baload, 1) := by decide +kernel
theorem dJ1_charAt_3b067_9 : decode cJ1_charAt_3b067 9 = .ok (.sipush 255, 3) := by decide +kernel
theorem dJ1_charAt_3b067_12 : decode cJ1_charAt_3b067 12 = .ok (.iand, 1) := by decide +kernel
theorem dJ1_charAt_3b067_13 : decode cJ1_charAt_3b067 13 = .ok (.i2c, 1) := by decide +kernel
theorem dJ1_charAt_3b067_14 : decode cJ1_charAt_3b067 14 = .ok (.ireturn, 1) := by decide +kernel
theorem dJ2_getChar_3b067_0 : decode cJ2_getChar_3b067 0 = .ok (.getstatic 44, 3) := by decide +kernel
theorem dJ2_getChar_3b067_3 : decode cJ2_getChar_3b067 3 = .ok (.ifCond .ne 25, 3) := by decide +kernel
theorem dJ2_getChar_3b067_6 : decode cJ2_getChar_3b067 6 = .ok (.iload_n 1, 1) := by decide +kernel
theorem dJ2_getChar_3b067_7 : decode cJ2_getChar_3b067 7 = .ok (.ifCond .lt 11, 3) := by decide +kernel
theorem dJ2_getChar_3b067_10 : decode cJ2_getChar_3b067 10 = .ok (.iload_n 1, 1) := by decide +kernel
theorem dJ2_getChar_3b067_11 : decode cJ2_getChar_3b067 11 = .ok (.aload_n 0, 1) := by decide +kernel
theorem dJ2_getChar_3b067_12 : decode cJ2_getChar_3b067 12 = .ok (.invokestatic 48, 3) := by decide +kernel
theorem dJ2_getChar_3b067_15 : decode cJ2_getChar_3b067 15 = .ok (.if_icmp .lt 13, 3) := by decide +kernel
theorem dJ2_getChar_3b067_18 : decode cJ2_getChar_3b067 18 = .ok (.new 52, 3) := by decide +kernel
theorem dJ2_getChar_3b067_21 : decode cJ2_getChar_3b067 21 = .ok (.dup, 1) := by decide +kernel
theorem dJ2_getChar_3b067_22 : decode cJ2_getChar_3b067 22 = .ok (.ldc 54, 2) := by decide +kernel
theorem dJ2_getChar_3b067_24 : decode cJ2_getChar_3b067 24 = .ok (.invokespecial 56, 3) := by decide +kernel
theorem dJ2_getChar_3b067_27 : decode cJ2_getChar_3b067 27 = .ok (.athrow, 1) := by decide +kernel
theorem dJ2_getChar_3b067_28 : decode cJ2_getChar_3b067 28 = .ok (.iload_n 1, 1) := by decide +kernel
theorem dJ2_getChar_3b067_29 : decode cJ2_getChar_3b067 29 = .ok (.iconst 1, 1) := by decide +kernel
theorem dJ2_getChar_3b067_30 : decode cJ2_getChar_3b067 30 = .ok (.ishl, 1) := by decide +kernel
theorem dJ2_getChar_3b067_31 : decode cJ2_getChar_3b067 31 = .ok (.istore_n 1, 1) := by decide +kernel
theorem dJ2_getChar_3b067_32 : decode cJ2_getChar_3b067 32 = .ok (.aload_n 0, 1) := by decide +kernel
theorem dJ2_getChar_3b067_33 : decode cJ2_getChar_3b067 33 = .ok (.iload_n 1, 1) := by decide +kernel
theorem dJ2_getChar_3b067_34 : decode cJ2_getChar_3b067 34 = .ok (.iinc 1 1, 3) := by decide +kernel
theorem dJ2_getChar_3b067_37 : decode cJ2_getChar_3b067 37 = .ok (.baload, 1) := by decide +kernel
theorem dJ2_getChar_3b067_38 : decode cJ2_getChar_3b067 38 = .ok (.sipush 255, 3) := by decide +kernel
theorem dJ2_getChar_3b067_41 : decode cJ2_getChar_3b067 41 = .ok (.iand, 1) := by decide +kernel
theorem dJ2_getChar_3b067_42 : decode cJ2_getChar_3b067 42 = .ok (.getstatic 59, 3) := by decide +kernel
theorem dJ2_getChar_3b067_45 : decode cJ2_getChar_3b067 45 = .ok (.ishl, 1) := by decide +kernel
theorem dJ2_getChar_3b067_46 : decode cJ2_getChar_3b067 46 = .ok (.aload_n 0, 1) := by decide +kernel
theorem dJ2_getChar_3b067_47 : decode cJ2_getChar_3b067 47 = .ok (.iload_n 1, 1) := by decide +kernel
theorem dJ2_getChar_3b067_48 : decode cJ2_getChar_3b067 48 = .ok (.baload, 1) := by decide +kernel
theorem dJ2_getChar_3b067_49 : decode cJ2_getChar_3b067 49 = .ok (.sipush 255, 3) := by decide +kernel
theorem dJ2_getChar_3b067_52 : decode cJ2_getChar_3b067 52 = .ok (.iand, 1) := by decide +kernel
theorem dJ2_getChar_3b067_53 : decode cJ2_getChar_3b067 53 = .ok (.getstatic 63, 3) := by decide +kernel
theorem dJ2_getChar_3b067_56 : decode cJ2_getChar_3b067 56 = .ok (.ishl, 1) := by decide +kernel
theorem dJ2_getChar_3b067_57 : decode cJ2_getChar_3b067 57 = .ok (.ior, 1) := by decide +kernel
theorem dJ2_getChar_3b067_58 : decode cJ2_getChar_3b067 58 = .ok (.i2c, 1) := by decide +kernel
theorem dJ2_getChar_3b067_59 : decode cJ2_getChar_3b067 59 = .ok (.ireturn, 1) := by decide +kernel
theorem dJ2_length_9d52b_0 : decode cJ2_length_9d52b 0 = .ok (.aload_n 0, 1) := by decide +kernel
theorem dJ2_length_9d52b_1 : decode cJ2_length_9d52b 1 = .ok (.arraylength, 1) := by decide +kernel
theorem dJ2_length_9d52b_2 : decode cJ2_length_9d52b 2 = .ok (.iconst 1, 1) := by decide +kernel
theorem dJ2_length_9d52b_3 : decode cJ2_length_9d52b 3 = .ok (.ishr, 1) := by decide +kernel
theorem dJ2_length_9d52b_4 : decode cJ2_length_9d52b 4 = .ok (.ireturn, 1) := by decide +kernel
theorem dJ2_charAt_3b067_0 : decode cJ2_charAt_3b067 0 = .ok (.iload_n 1, 1) := by decide +kernel
theorem dJ2_charAt_3b067_1 : decode cJ2_charAt_3b067 1 = .ok (.aload_n 0, 1) := by decide +kernel
theorem dJ2_charAt_3b067_2 : decode cJ2_charAt_3b067 2 = .ok (.invokestatic 67, 3) := by decide +kernel
theorem dJ2_charAt_3b067_5 : decode cJ2_charAt_3b067 5 = .ok (.aload_n 0, 1) := by decide +kernel
theorem dJ2_charAt_3b067_6 : decode cJ2_charAt_3b067 6 = .ok (.iload_n 1, 1) := by decide +kernel
theorem dJ2_charAt_3b067_7 : decode cJ2_charAt_3b067 7 = .ok (.invokestatic 71, 3) := by decide +kernel
theorem dJ2_charAt_3b067_10 : decode cJ2_charAt_3b067 10 = .ok (.ireturn, 1) := by decide +kernel
theorem dJ2_checkIndex_2214a_0 : decode cJ2_checkIndex_2214a 0 = .ok (.iload_n 0, 1) := by decide +kernel
theorem dJ2_checkIndex_2214a_1 : decode cJ2_checkIndex_2214a 1 = .ok (.aload_n 1, 1) := by decide +kernel
theorem dJ2_checkIndex_2214a_2 : decode cJ2_checkIndex_2214a 2 = .ok (.invokestatic 48, 3) := by decide +kernel
theorem dJ2_checkIndex_2214a_5 : decode cJ2_checkIndex_2214a 5 = .ok (.invokestatic 414, 3) := by decide +kernel
theorem dJ2_checkIndex_2214a_8 : decode cJ2_checkIndex_2214a 8 = .ok (.return_, 1) := by decide +kernel
theorem dJ3_checkIndex_8e157_0 : decode cJ3_checkIndex_8e157 0 = .ok (.iload_n 0, 1) := by decide +kernel
theorem dJ3_checkIndex_8e157_1 : decode cJ3_checkIndex_8e157 1 = .ok (.ifCond .lt 8, 3) := by decide +kernel
theorem dJ3_checkIndex_8e157_4 : decode cJ3_checkIndex_8e157 4 = .ok (.iload_n 0, 1) := by decide +kernel
theorem dJ3_checkIndex_8e157_5 : decode cJ3_checkIndex_8e157 5 = .ok (.iload_n 1, 1) := by decide +kernel
theorem dJ3_checkIndex_8e157_6 : decode cJ3_checkIndex_8e157 6 = .ok (.if_icmp .lt 10, 3) := by decide +kernel
theorem dJ3_checkIndex_8e157_9 : decode cJ3_checkIndex_8e157 9 = .ok (.aload_n 2, 1) := by decide +kernel
theorem dJ3_checkIndex_8e157_10 : decode cJ3_checkIndex_8e157 10 = .ok (.iload_n 0, 1) := by decide +kernel
theorem dJ3_checkIndex_8e157_11 : decode cJ3_checkIndex_8e157 11 = .ok (.iload_n 1, 1) := by decide +kernel
theorem dJ3_checkIndex_8e157_12 : decode cJ3_checkIndex_8e157 12 = .ok (.invokestatic 95, 3) := by decide +kernel
theorem dJ3_checkIndex_8e157_15 : decode cJ3_checkIndex_8e157 15 = .ok (.athrow, 1) := by decide +kernel
theorem dJ3_checkIndex_8e157_16 : decode cJ3_checkIndex_8e157 16 = .ok (.iload_n 0, 1) := by decide +kernel
theorem dJ3_checkIndex_8e157_17 : decode cJ3_checkIndex_8e157 17 = .ok (.ireturn, 1) := by decide +kernel
theorem dL_law_0 : decode cL_law 0 = .ok (.new 7, 3) := by decide +kernel
theorem dL_law_3 : decode cL_law 3 = .ok (.dup, 1) := by decide +kernel
theorem dL_law_4 : decode cL_law 4 = .ok (.invokespecial 9, 3) := by decide +kernel
theorem dL_law_7 : decode cL_law 7 = .ok (.astore_n 1, 1) := by decide +kernel
theorem dL_law_8 : decode cL_law 8 = .ok (.new 10, 3) := by decide +kernel
theorem dL_law_11 : decode cL_law 11 = .ok (.dup, 1) := by decide +kernel
theorem dL_law_12 : decode cL_law 12 = .ok (.invokespecial 12, 3) := by decide +kernel
theorem dL_law_15 : decode cL_law 15 = .ok (.astore_n 2, 1) := by decide +kernel
theorem dL_law_16 : decode cL_law 16 = .ok (.iconst 0, 1) := by decide +kernel
theorem dL_law_17 : decode cL_law 17 = .ok (.istore_n 3, 1) := by decide +kernel
theorem dL_law_18 : decode cL_law 18 = .ok (.iload_n 3, 1) := by decide +kernel
theorem dL_law_19 : decode cL_law 19 = .ok (.aload_n 0, 1) := by decide +kernel
theorem dL_law_20 : decode cL_law 20 = .ok (.arraylength, 1) := by decide +kernel
theorem dL_law_21 : decode cL_law 21 = .ok (.bipush 6, 2) := by decide +kernel
theorem dL_law_23 : decode cL_law 23 = .ok (.isub, 1) := by decide +kernel
theorem dL_law_24 : decode cL_law 24 = .ok (.if_icmp .gt 1010, 3) := by decide +kernel
theorem dL_law_27 : decode cL_law 27 = .ok (.aload_n 0, 1) := by decide +kernel
theorem dL_law_28 : decode cL_law 28 = .ok (.iload_n 3, 1) := by decide +kernel
theorem dL_law_29 : decode cL_law 29 = .ok (.iaload, 1) := by decide +kernel
theorem dL_law_30 : decode cL_law 30 = .ok (.bipush 31, 2) := by decide +kernel
theorem dL_law_32 : decode cL_law 32 = .ok (.iand, 1) := by decide +kernel
theorem dL_law_33 : decode cL_law 33 = .ok (.tableswitch 995 0 29 #[135, 178, 221, 284, 307, 370, 383, 396, 429, 462, 485, 498, 511, 544, 567, 590, 603, 646, 669, 722, 745, 758, 801, 824, 847, 870, 903, 936, 959, 982], 135) := by decide +kernel
theorem dL_law_168 : decode cL_law 168 = .ok (.aload_n 1, 1) := by decide +kernel
theorem dL_law_169 : decode cL_law 169 = .ok (.aload_n 0, 1) := by decide +kernel
theorem dL_law_170 : decode cL_law 170 = .ok (.iload_n 3, 1) := by decide +kernel
theorem dL_law_171 : decode cL_law 171 = .ok (.iconst 1, 1) := by decide +kernel
theorem dL_law_172 : decode cL_law 172 = .ok (.iadd, 1) := by decide +kernel
theorem dL_law_173 : decode cL_law 173 = .ok (.iaload, 1) := by decide +kernel
theorem dL_law_174 : decode cL_law 174 = .ok (.aload_n 0, 1) := by decide +kernel
theorem dL_law_175 : decode cL_law 175 = .ok (.iload_n 3, 1) := by decide +kernel
theorem dL_law_176 : decode cL_law 176 = .ok (.iconst 2, 1) := by decide +kernel
theorem dL_law_177 : decode cL_law 177 = .ok (.iadd, 1) := by decide +kernel
theorem dL_law_178 : decode cL_law 178 = .ok (.iaload, 1) := by decide +kernel
theorem dL_law_179 : decode cL_law 179 = .ok (.aload_n 0, 1) := by decide +kernel
theorem dL_law_180 : decode cL_law 180 = .ok (.iload_n 3, 1) := by decide +kernel
theorem dL_law_181 : decode cL_law 181 = .ok (.iconst 3, 1) := by decide +kernel
theorem dL_law_182 : decode cL_law 182 = .ok (.iadd, 1) := by decide +kernel
theorem dL_law_183 : decode cL_law 183 = .ok (.iaload, 1) := by decide +kernel
theorem dL_law_184 : decode cL_law 184 = .ok (.invokevirtual 13, 3) := by decide +kernel
theorem dL_law_187 : decode cL_law 187 = .ok (.aload_n 2, 1) := by decide +kernel
theorem dL_law_188 : decode cL_law 188 = .ok (.aload_n 0, 1) := by decide +kernel
theorem dL_law_189 : decode cL_law 189 = .ok (.iload_n 3, 1) := by decide +kernel
theorem dL_law_190 : decode cL_law 190 = .ok (.iconst 1, 1) := by decide +kernel
theorem dL_law_191 : decode cL_law 191 = .ok (.iadd, 1) := by decide +kernel
theorem dL_law_192 : decode cL_law 192 = .ok (.iaload, 1) := by decide +kernel
theorem dL_law_193 : decode cL_law 193 = .ok (.aload_n 0, 1) := by decide +kernel
theorem dL_law_194 : decode cL_law 194 = .ok (.iload_n 3, 1) := by decide +kernel
theorem dL_law_195 : decode cL_law 195 = .ok (.iconst 2, 1) := by decide +kernel
theorem dL_law_196 : decode cL_law 196 = .ok (.iadd, 1) := by decide +kernel
theorem dL_law_197 : decode cL_law 197 = .ok (.iaload, 1) := by decide +kernel
theorem dL_law_198 : decode cL_law 198 = .ok (.aload_n 0, 1) := by decide +kernel
theorem dL_law_199 : decode cL_law 199 = .ok (.iload_n 3, 1) := by decide +kernel
theorem dL_law_200 : decode cL_law 200 = .ok (.iconst 3, 1) := by decide +kernel
theorem dL_law_201 : decode cL_law 201 = .ok (.iadd, 1) := by decide +kernel
theorem dL_law_202 : decode cL_law 202 = .ok (.iaload, 1) := by decide +kernel
theorem dL_law_203 : decode cL_law 203 = .ok (.invokevirtual 17, 3) := by decide +kernel
theorem dL_law_206 : decode cL_law 206 = .ok (.if_icmp .eq 822, 3) := by decide +kernel
theorem dL_law_209 : decode cL_law 209 = .ok (.iconst 0, 1) := by decide +kernel
theorem dL_law_210 : decode cL_law 210 = .ok (.ireturn, 1) := by decide +kernel
theorem dL_law_211 : decode cL_law 211 = .ok (.aload_n 1, 1) := by decide +kernel
theorem dL_law_212 : decode cL_law 212 = .ok (.aload_n 0, 1) := by decide +kernel
theorem dL_law_213 : decode cL_law 213 = .ok (.iload_n 3, 1) := by decide +kernel
theorem dL_law_214 : decode cL_law 214 = .ok (.iconst 1, 1) := by decide +kernel
theorem dL_law_215 : decode cL_law 215 = .ok (.iadd, 1) := by decide +kernel
theorem dL_law_216 : decode cL_law 216 = .ok (.iaload, 1) := by decide +kernel
theorem dL_law_217 : decode cL_law 217 = .ok (.aload_n 0, 1) := by decide +kernel
theorem dL_law_218 : decode cL_law 218 = .ok (.iload_n 3, 1) := by decide +kernel
theorem dL_law_219 : decode cL_law 219 = .ok (.iconst 2, 1) := by decide +kernel
theorem dL_law_220 : decode cL_law 220 = .ok (.iadd, 1) := by decide +kernel
theorem dL_law_221 : decode cL_law 221 = .ok (.iaload, 1) := by decide +kernel
theorem dL_law_222 : decode cL_law 222 = .ok (.aload_n 0, 1) := by decide +kernel
theorem dL_law_223 : decode cL_law 223 = .ok (.iload_n 3, 1) := by decide +kernel
theorem dL_law_224 : decode cL_law 224 = .ok (.iconst 3, 1) := by decide +kernel
theorem dL_law_225 : decode cL_law 225 = .ok (.iadd, 1) := by decide +kernel
theorem dL_law_226 : decode cL_law 226 = .ok (.iaload, 1) := by decide +kernel
theorem dL_law_227 : decode cL_law 227 = .ok (.invokevirtual 18, 3) := by decide +kernel
theorem dL_law_230 : decode cL_law 230 = .ok (.pop, 1) := by decide +kernel
theorem dL_law_231 : decode cL_law 231 = .ok (.aload_n 2, 1) := by decide +kernel
theorem dL_law_232 : decode cL_law 232 = .ok (.aload_n 0, 1) := by decide +kernel
theorem dL_law_233 : decode cL_law 233 = .ok (.iload_n 3, 1) := by decide +kernel
theorem dL_law_234 : decode cL_law 234 = .ok (.iconst 1, 1) := by decide +kernel
theorem dL_law_235 : decode cL_law 235 = .ok (.iadd, 1) := by decide +kernel
theorem dL_law_236 : decode cL_law 236 = .ok (.iaload, 1) := by decide +kernel
theorem dL_law_237 : decode cL_law 237 = .ok (.aload_n 0, 1) := by decide +kernel
theorem dL_law_238 : decode cL_law 238 = .ok (.iload_n 3, 1) := by decide +kernel
theorem dL_law_239 : decode cL_law 239 = .ok (.iconst 2, 1) := by decide +kernel
theorem dL_law_240 : decode cL_law 240 = .ok (.iadd, 1) := by decide +kernel
theorem dL_law_241 : decode cL_law 241 = .ok (.iaload, 1) := by decide +kernel
theorem dL_law_242 : decode cL_law 242 = .ok (.aload_n 0, 1) := by decide +kernel
theorem dL_law_243 : decode cL_law 243 = .ok (.iload_n 3, 1) := by decide +kernel
theorem dL_law_244 : decode cL_law 244 = .ok (.iconst 3, 1) := by decide +kernel
theorem dL_law_245 : decode cL_law 245 = .ok (.iadd, 1) := by decide +kernel
theorem dL_law_246 : decode cL_law 246 = .ok (.iaload, 1) := by decide +kernel
theorem dL_law_247 : decode cL_law 247 = .ok (.invokevirtual 21, 3) := by decide +kernel
theorem dL_law_250 : decode cL_law 250 = .ok (.pop, 1) := by decide +kernel
theorem dL_law_251 : decode cL_law 251 = .ok (.goto 777, 3) := by decide +kernel
theorem dL_law_254 : decode cL_law 254 = .ok (.aload_n 1, 1) := by decide +kernel
theorem dL_law_255 : decode cL_law 255 = .ok (.aload_n 0, 1) := by decide +kernel
theorem dL_law_256 : decode cL_law 256 = .ok (.iload_n 3, 1) := by decide +kernel
theorem dL_law_257 : decode cL_law 257 = .ok (.iconst 1, 1) := by decide +kernel
theorem dL_law_258 : decode cL_law 258 = .ok (.iadd, 1) := by decide +kernel
theorem dL_law_259 : decode cL_law 259 = .ok (.iaload, 1) := by decide +kernel
theorem dL_law_260 : decode cL_law 260 = .ok (.aload_n 0, 1) := by decide +kernel
theorem dL_law_261 : decode cL_law 261 = .ok (.iload_n 3, 1) := by decide +kernel
theorem dL_law_262 : decode cL_law 262 = .ok (.iconst 2, 1) := by decide +kernel
theorem dL_law_263 : decode cL_law 263 = .ok (.iadd, 1) := by decide +kernel
theorem dL_law_264 : decode cL_law 264 = .ok (.iaload, 1) := by decide +kernel
theorem dL_law_265 : decode cL_law 265 = .ok (.aload_n 0, 1) := by decide +kernel
theorem dL_law_266 : decode cL_law 266 = .ok (.iload_n 3, 1) := by decide +kernel
theorem dL_law_267 : decode cL_law 267 = .ok (.iconst 3, 1) := by decide +kernel
theorem dL_law_268 : decode cL_law 268 = .ok (.iadd, 1) := by decide +kernel
theorem dL_law_269 : decode cL_law 269 = .ok (.iaload, 1) := by decide +kernel
theorem dL_law_270 : decode cL_law 270 = .ok (.aload_n 0, 1) := by decide +kernel
theorem dL_law_271 : decode cL_law 271 = .ok (.iload_n 3, 1) := by decide +kernel
theorem dL_law_272 : decode cL_law 272 = .ok (.iconst 4, 1) := by decide +kernel
theorem dL_law_273 : decode cL_law 273 = .ok (.iadd, 1) := by decide +kernel
theorem dL_law_274 : decode cL_law 274 = .ok (.iaload, 1) := by decide +kernel
theorem dL_law_275 : decode cL_law 275 = .ok (.aload_n 0, 1) := by decide +kernel
theorem dL_law_276 : decode cL_law 276 = .ok (.iload_n 3, 1) := by decide +kernel
theorem dL_law_277 : decode cL_law 277 = .ok (.iconst 5, 1) := by decide +kernel
theorem dL_law_278 : decode cL_law 278 = .ok (.iadd, 1) := by decide +kernel
theorem dL_law_279 : decode cL_law 279 = .ok (.iaload, 1) := by decide +kernel
theorem dL_law_280 : decode cL_law 280 = .ok (.invokevirtual 22, 3) := by decide +kernel
theorem dL_law_283 : decode cL_law 283 = .ok (.pop, 1) := by decide +kernel
theorem dL_law_284 : decode cL_law 284 = .ok (.aload_n 2, 1) := by decide +kernel
theorem dL_law_285 : decode cL_law 285 = .ok (.aload_n 0, 1) := by decide +kernel
theorem dL_law_286 : decode cL_law 286 = .ok (.iload_n 3, 1) := by decide +kernel
theorem dL_law_287 : decode cL_law 287 = .ok (.iconst 1, 1) := by decide +kernel
theorem dL_law_288 : decode cL_law 288 = .ok (.iadd, 1) := by decide +kernel
theorem dL_law_289 : decode cL_law 289 = .ok (.iaload, 1) := by decide +kernel
theorem dL_law_290 : decode cL_law 290 = .ok (.aload_n 0, 1) := by decide +kernel
theorem dL_law_291 : decode cL_law 291 = .ok (.iload_n 3, 1) := by decide +kernel
theorem dL_law_292 : decode cL_law 292 = .ok (.iconst 2, 1) := by decide +kernel
theorem dL_law_293 : decode cL_law 293 = .ok (.iadd, 1) := by decide +kernel
theorem dL_law_294 : decode cL_law 294 = .ok (.iaload, 1) := by decide +kernel
theorem dL_law_295 : decode cL_law 295 = .ok (.aload_n 0, 1) := by decide +kernel
theorem dL_law_296 : decode cL_law 296 = .ok (.iload_n 3, 1) := by decide +kernel
theorem dL_law_297 : decode cL_law 297 = .ok (.iconst 3, 1) := by decide +kernel
theorem dL_law_298 : decode cL_law 298 = .ok (.iadd, 1) := by decide +kernel
theorem dL_law_299 : decode cL_law 299 = .ok (.iaload, 1) := by decide +kernel
theorem dL_law_300 : decode cL_law 300 = .ok (.aload_n 0, 1) := by decide +kernel
theorem dL_law_301 : decode cL_law 301 = .ok (.iload_n 3, 1) := by decide +kernel
theorem dL_law_302 : decode cL_law 302 = .ok (.iconst 4, 1) := by decide +kernel
theorem dL_law_303 : decode cL_law 303 = .ok (.iadd, 1) := by decide +kernel
theorem dL_law_304 : decode cL_law 304 = .ok (.iaload, 1) := by decide +kernel
theorem dL_law_305 : decode cL_law 305 = .ok (.aload_n 0, 1) := by decide +kernel
theorem dL_law_306 : decode cL_law 306 = .ok (.iload_n 3, 1) := by decide +kernel
theorem dL_law_307 : decode cL_law 307 = .ok (.iconst 5, 1) := by decide +kernel
theorem dL_law_308 : decode cL_law 308 = .ok (.iadd, 1) := by decide +kernel
theorem dL_law_309 : decode cL_law 309 = .ok (.iaload, 1) := by decide +kernel
theorem dL_law_310 : decode cL_law 310 = .ok (.invokevirtual 26, 3) := by decide +kernel
theorem dL_law_313 : decode cL_law 313 = .ok (.pop, 1) := by decide +kernel
theorem dL_law_314 : decode cL_law 314 = .ok (.goto 714, 3) := by decide +kernel
theorem dL_law_317 : decode cL_law 317 = .ok (.aload_n 1, 1) := by decide +kernel
theorem dL_law_318 : decode cL_law 318 = .ok (.aload_n 0, 1) := by decide +kernel
theorem dL_law_319 : decode cL_law 319 = .ok (.iload_n 3, 1) := by decide +kernel
theorem dL_law_320 : decode cL_law 320 = .ok (.iconst 1, 1) := by decide +kernel
theorem dL_law_321 : decode cL_law 321 = .ok (.iadd, 1) := by decide +kernel
theorem dL_law_322 : decode cL_law 322 = .ok (.iaload, 1) := by decide +kernel
theorem dL_law_323 : decode cL_law 323 = .ok (.invokevirtual 27, 3) := by decide +kernel
theorem dL_law_326 : decode cL_law 326 = .ok (.pop, 1) := by decide +kernel
theorem dL_law_327 : decode cL_law 327 = .ok (.aload_n 2, 1) := by decide +kernel
theorem dL_law_328 : decode cL_law 328 = .ok (.aload_n 0, 1) := by decide +kernel
theorem dL_law_329 : decode cL_law 329 = .ok (.iload_n 3, 1) := by decide +kernel
theorem dL_law_330 : decode cL_law 330 = .ok (.iconst 1, 1) := by decide +kernel
theorem dL_law_331 : decode cL_law 331 = .ok (.iadd, 1) := by decide +kernel
theorem dL_law_332 : decode cL_law 332 = .ok (.iaload, 1) := by decide +kernel
theorem dL_law_333 : decode cL_law 333 = .ok (.invokevirtual 31, 3) := by decide +kernel
theorem dL_law_336 : decode cL_law 336 = .ok (.pop, 1) := by decide +kernel
theorem dL_law_337 : decode cL_law 337 = .ok (.goto 691, 3) := by decide +kernel
theorem dL_law_340 : decode cL_law 340 = .ok (.aload_n 1, 1) := by decide +kernel
theorem dL_law_341 : decode cL_law 341 = .ok (.aload_n 0, 1) := by decide +kernel
theorem dL_law_342 : decode cL_law 342 = .ok (.iload_n 3, 1) := by decide +kernel
theorem dL_law_343 : decode cL_law 343 = .ok (.iconst 1, 1) := by decide +kernel
theorem dL_law_344 : decode cL_law 344 = .ok (.iadd, 1) := by decide +kernel
theorem dL_law_345 : decode cL_law 345 = .ok (.iaload, 1) := by decide +kernel
theorem dL_law_346 : decode cL_law 346 = .ok (.i2l, 1) := by decide +kernel
theorem dL_law_347 : decode cL_law 347 = .ok (.bipush 32, 2) := by decide +kernel
theorem dL_law_349 : decode cL_law 349 = .ok (.lshl, 1) := by decide +kernel
theorem dL_law_350 : decode cL_law 350 = .ok (.aload_n 0, 1) := by decide +kernel
theorem dL_law_351 : decode cL_law 351 = .ok (.iload_n 3, 1) := by decide +kernel
theorem dL_law_352 : decode cL_law 352 = .ok (.iconst 2, 1) := by decide +kernel
theorem dL_law_353 : decode cL_law 353 = .ok (.iadd, 1) := by decide +kernel
theorem dL_law_354 : decode cL_law 354 = .ok (.iaload, 1) := by decide +kernel
theorem dL_law_355 : decode cL_law 355 = .ok (.i2l, 1) := by decide +kernel
theorem dL_law_356 : decode cL_law 356 = .ok (.ldc2_w 32, 3) := by decide +kernel
theorem dL_law_359 : decode cL_law 359 = .ok (.land, 1) := by decide +kernel
theorem dL_law_360 : decode cL_law 360 = .ok (.lor, 1) := by decide +kernel
theorem dL_law_361 : decode cL_law 361 = .ok (.aload_n 0, 1) := by decide +kernel
theorem dL_law_362 : decode cL_law 362 = .ok (.iload_n 3, 1) := by decide +kernel
theorem dL_law_363 : decode cL_law 363 = .ok (.iconst 3, 1) := by decide +kernel
theorem dL_law_364 : decode cL_law 364 = .ok (.iadd, 1) := by decide +kernel
theorem dL_law_365 : decode cL_law 365 = .ok (.iaload, 1) := by decide +kernel
theorem dL_law_366 : decode cL_law 366 = .ok (.invokevirtual 34, 3) := by decide +kernel
theorem dL_law_369 : decode cL_law 369 = .ok (.pop, 1) := by decide +kernel
theorem dL_law_370 : decode cL_law 370 = .ok (.aload_n 2, 1) := by decide +kernel
theorem dL_law_371 : decode cL_law 371 = .ok (.aload_n 0, 1) := by decide +kernel
theorem dL_law_372 : decode cL_law 372 = .ok (.iload_n 3, 1) := by decide +kernel
theorem dL_law_373 : decode cL_law 373 = .ok (.iconst 1, 1) := by decide +kernel
theorem dL_law_374 : decode cL_law 374 = .ok (.iadd, 1) := by decide +kernel
theorem dL_law_375 : decode cL_law 375 = .ok (.iaload, 1) := by decide +kernel
theorem dL_law_376 : decode cL_law 376 = .ok (.i2l, 1) := by decide +kernel
theorem dL_law_377 : decode cL_law 377 = .ok (.bipush 32, 2) := by decide +kernel
theorem dL_law_379 : decode cL_law 379 = .ok (.lshl, 1) := by decide +kernel
theorem dL_law_380 : decode cL_law 380 = .ok (.aload_n 0, 1) := by decide +kernel
theorem dL_law_381 : decode cL_law 381 = .ok (.iload_n 3, 1) := by decide +kernel
theorem dL_law_382 : decode cL_law 382 = .ok (.iconst 2, 1) := by decide +kernel
theorem dL_law_383 : decode cL_law 383 = .ok (.iadd, 1) := by decide +kernel
theorem dL_law_384 : decode cL_law 384 = .ok (.iaload, 1) := by decide +kernel
theorem dL_law_385 : decode cL_law 385 = .ok (.i2l, 1) := by decide +kernel
theorem dL_law_386 : decode cL_law 386 = .ok (.ldc2_w 32, 3) := by decide +kernel
theorem dL_law_389 : decode cL_law 389 = .ok (.land, 1) := by decide +kernel
theorem dL_law_390 : decode cL_law 390 = .ok (.lor, 1) := by decide +kernel
theorem dL_law_391 : decode cL_law 391 = .ok (.aload_n 0, 1) := by decide +kernel
theorem dL_law_392 : decode cL_law 392 = .ok (.iload_n 3, 1) := by decide +kernel
theorem dL_law_393 : decode cL_law 393 = .ok (.iconst 3, 1) := by decide +kernel
theorem dL_law_394 : decode cL_law 394 = .ok (.iadd, 1) := by decide +kernel
theorem dL_law_395 : decode cL_law 395 = .ok (.iaload, 1) := by decide +kernel
theorem dL_law_396 : decode cL_law 396 = .ok (.invokevirtual 38, 3) := by decide +kernel
theorem dL_law_399 : decode cL_law 399 = .ok (.pop, 1) := by decide +kernel
theorem dL_law_400 : decode cL_law 400 = .ok (.goto 628, 3) := by decide +kernel
theorem dL_law_403 : decode cL_law 403 = .ok (.aload_n 1, 1) := by decide +kernel
theorem dL_law_404 : decode cL_law 404 = .ok (.invokevirtual 39, 3) := by decide +kernel
theorem dL_law_407 : decode cL_law 407 = .ok (.pop, 1) := by decide +kernel
theorem dL_law_408 : decode cL_law 408 = .ok (.aload_n 2, 1) := by decide +kernel
theorem dL_law_409 : decode cL_law 409 = .ok (.invokevirtual 43, 3) := by decide +kernel
theorem dL_law_412 : decode cL_law 412 = .ok (.pop, 1) := by decide +kernel
theorem dL_law_413 : decode cL_law 413 = .ok (.goto 615, 3) := by decide +kernel
theorem dL_law_416 : decode cL_law 416 = .ok (.aload_n 1, 1) := by decide +kernel
theorem dL_law_417 : decode cL_law 417 = .ok (.invokevirtual 44, 3) := by decide +kernel
theorem dL_law_420 : decode cL_law 420 = .ok (.pop, 1) := by decide +kernel
theorem dL_law_421 : decode cL_law 421 = .ok (.aload_n 2, 1) := by decide +kernel
theorem dL_law_422 : decode cL_law 422 = .ok (.invokevirtual 47, 3) := by decide +kernel
theorem dL_law_425 : decode cL_law 425 = .ok (.pop, 1) := by decide +kernel
theorem dL_law_426 : decode cL_law 426 = .ok (.goto 602, 3) := by decide +kernel
theorem dL_law_429 : decode cL_law 429 = .ok (.aload_n 1, 1) := by decide +kernel
theorem dL_law_430 : decode cL_law 430 = .ok (.aload_n 0, 1) := by decide +kernel
theorem dL_law_431 : decode cL_law 431 = .ok (.iload_n 3, 1) := by decide +kernel
theorem dL_law_432 : decode cL_law 432 = .ok (.iconst 1, 1) := by decide +kernel
theorem dL_law_433 : decode cL_law 433 = .ok (.iadd, 1) := by decide +kernel
theorem dL_law_434 : decode cL_law 434 = .ok (.iaload, 1) := by decide +kernel
theorem dL_law_435 : decode cL_law 435 = .ok (.aload_n 0, 1) := by decide +kernel
theorem dL_law_436 : decode cL_law 436 = .ok (.iload_n 3, 1) := by decide +kernel
theorem dL_law_437 : decode cL_law 437 = .ok (.iconst 2, 1) := by decide +kernel
theorem dL_law_438 : decode cL_law 438 = .ok (.iadd, 1) := by decide +kernel
theorem dL_law_439 : decode cL_law 439 = .ok (.iaload, 1) := by decide +kernel
theorem dL_law_440 : decode cL_law 440 = .ok (.invokevirtual 48, 3) := by decide +kernel
theorem dL_law_443 : decode cL_law 443 = .ok (.pop, 1) := by decide +kernel
theorem dL_law_444 : decode cL_law 444 = .ok (.aload_n 2, 1) := by decide +kernel
theorem dL_law_445 : decode cL_law 445 = .ok (.aload_n 0, 1) := by decide +kernel
theorem dL_law_446 : decode cL_law 446 = .ok (.iload_n 3, 1) := by decide +kernel
theorem dL_law_447 : decode cL_law 447 = .ok (.iconst 1, 1) := by decide +kernel
theorem dL_law_448 : decode cL_law 448 = .ok (.iadd, 1) := by decide +kernel
theorem dL_law_449 : decode cL_law 449 = .ok (.iaload, 1) := by decide +kernel
theorem dL_law_450 : decode cL_law 450 = .ok (.aload_n 0, 1) := by decide +kernel
theorem dL_law_451 : decode cL_law 451 = .ok (.iload_n 3, 1) := by decide +kernel
theorem dL_law_452 : decode cL_law 452 = .ok (.iconst 2, 1) := by decide +kernel
theorem dL_law_453 : decode cL_law 453 = .ok (.iadd, 1) := by decide +kernel
theorem dL_law_454 : decode cL_law 454 = .ok (.iaload, 1) := by decide +kernel
theorem dL_law_455 : decode cL_law 455 = .ok (.invokevirtual 52, 3) := by decide +kernel
theorem dL_law_458 : decode cL_law 458 = .ok (.pop, 1) := by decide +kernel
theorem dL_law_459 : decode cL_law 459 = .ok (.goto 569, 3) := by decide +kernel
theorem dL_law_462 : decode cL_law 462 = .ok (.aload_n 1, 1) := by decide +kernel
theorem dL_law_463 : decode cL_law 463 = .ok (.aload_n 0, 1) := by decide +kernel
theorem dL_law_464 : decode cL_law 464 = .ok (.iload_n 3, 1) := by decide +kernel
theorem dL_law_465 : decode cL_law 465 = .ok (.iconst 1, 1) := by decide +kernel
theorem dL_law_466 : decode cL_law 466 = .ok (.iadd, 1) := by decide +kernel
theorem dL_law_467 : decode cL_law 467 = .ok (.iaload, 1) := by decide +kernel
theorem dL_law_468 : decode cL_law 468 = .ok (.aload_n 0, 1) := by decide +kernel
theorem dL_law_469 : decode cL_law 469 = .ok (.iload_n 3, 1) := by decide +kernel
theorem dL_law_470 : decode cL_law 470 = .ok (.iconst 2, 1) := by decide +kernel
theorem dL_law_471 : decode cL_law 471 = .ok (.iadd, 1) := by decide +kernel
theorem dL_law_472 : decode cL_law 472 = .ok (.iaload, 1) := by decide +kernel
theorem dL_law_473 : decode cL_law 473 = .ok (.invokevirtual 53, 3) := by decide +kernel
theorem dL_law_476 : decode cL_law 476 = .ok (.pop, 1) := by decide +kernel
theorem dL_law_477 : decode cL_law 477 = .ok (.aload_n 2, 1) := by decide +kernel
theorem dL_law_478 : decode cL_law 478 = .ok (.aload_n 0, 1) := by decide +kernel
theorem dL_law_479 : decode cL_law 479 = .ok (.iload_n 3, 1) := by decide +kernel
theorem dL_law_480 : decode cL_law 480 = .ok (.iconst 1, 1) := by decide +kernel
theorem dL_law_481 : decode cL_law 481 = .ok (.iadd, 1) := by decide +kernel
theorem dL_law_482 : decode cL_law 482 = .ok (.iaload, 1) := by decide +kernel
theorem dL_law_483 : decode cL_law 483 = .ok (.aload_n 0, 1) := by decide +kernel
theorem dL_law_484 : decode cL_law 484 = .ok (.iload_n 3, 1) := by decide +kernel
theorem dL_law_485 : decode cL_law 485 = .ok (.iconst 2, 1) := by decide +kernel
theorem dL_law_486 : decode cL_law 486 = .ok (.iadd, 1) := by decide +kernel
theorem dL_law_487 : decode cL_law 487 = .ok (.iaload, 1) := by decide +kernel
theorem dL_law_488 : decode cL_law 488 = .ok (.invokevirtual 56, 3) := by decide +kernel
theorem dL_law_491 : decode cL_law 491 = .ok (.pop, 1) := by decide +kernel
theorem dL_law_492 : decode cL_law 492 = .ok (.goto 536, 3) := by decide +kernel
theorem dL_law_495 : decode cL_law 495 = .ok (.aload_n 1, 1) := by decide +kernel
theorem dL_law_496 : decode cL_law 496 = .ok (.aload_n 0, 1) := by decide +kernel
theorem dL_law_497 : decode cL_law 497 = .ok (.iload_n 3, 1) := by decide +kernel
theorem dL_law_498 : decode cL_law 498 = .ok (.iconst 1, 1) := by decide +kernel
theorem dL_law_499 : decode cL_law 499 = .ok (.iadd, 1) := by decide +kernel
theorem dL_law_500 : decode cL_law 500 = .ok (.iaload, 1) := by decide +kernel
theorem dL_law_501 : decode cL_law 501 = .ok (.invokevirtual 57, 3) := by decide +kernel
theorem dL_law_504 : decode cL_law 504 = .ok (.pop, 1) := by decide +kernel
theorem dL_law_505 : decode cL_law 505 = .ok (.aload_n 2, 1) := by decide +kernel
theorem dL_law_506 : decode cL_law 506 = .ok (.aload_n 0, 1) := by decide +kernel
theorem dL_law_507 : decode cL_law 507 = .ok (.iload_n 3, 1) := by decide +kernel
theorem dL_law_508 : decode cL_law 508 = .ok (.iconst 1, 1) := by decide +kernel
theorem dL_law_509 : decode cL_law 509 = .ok (.iadd, 1) := by decide +kernel
theorem dL_law_510 : decode cL_law 510 = .ok (.iaload, 1) := by decide +kernel
theorem dL_law_511 : decode cL_law 511 = .ok (.invokevirtual 60, 3) := by decide +kernel
theorem dL_law_514 : decode cL_law 514 = .ok (.pop, 1) := by decide +kernel
theorem dL_law_515 : decode cL_law 515 = .ok (.goto 513, 3) := by decide +kernel
theorem dL_law_518 : decode cL_law 518 = .ok (.aload_n 1, 1) := by decide +kernel
theorem dL_law_519 : decode cL_law 519 = .ok (.invokevirtual 61, 3) := by decide +kernel
theorem dL_law_522 : decode cL_law 522 = .ok (.pop, 1) := by decide +kernel
theorem dL_law_523 : decode cL_law 523 = .ok (.aload_n 2, 1) := by decide +kernel
theorem dL_law_524 : decode cL_law 524 = .ok (.invokevirtual 64, 3) := by decide +kernel
theorem dL_law_527 : decode cL_law 527 = .ok (.pop, 1) := by decide +kernel
theorem dL_law_528 : decode cL_law 528 = .ok (.goto 500, 3) := by decide +kernel
theorem dL_law_531 : decode cL_law 531 = .ok (.aload_n 1, 1) := by decide +kernel
theorem dL_law_532 : decode cL_law 532 = .ok (.invokevirtual 65, 3) := by decide +kernel
theorem dL_law_535 : decode cL_law 535 = .ok (.pop, 1) := by decide +kernel
theorem dL_law_536 : decode cL_law 536 = .ok (.aload_n 2, 1) := by decide +kernel
theorem dL_law_537 : decode cL_law 537 = .ok (.invokevirtual 68, 3) := by decide +kernel
theorem dL_law_540 : decode cL_law 540 = .ok (.pop, 1) := by decide +kernel
theorem dL_law_541 : decode cL_law 541 = .ok (.goto 487, 3) := by decide +kernel
theorem dL_law_544 : decode cL_law 544 = .ok (.aload_n 1, 1) := by decide +kernel
theorem dL_law_545 : decode cL_law 545 = .ok (.aload_n 0, 1) := by decide +kernel
theorem dL_law_546 : decode cL_law 546 = .ok (.iload_n 3, 1) := by decide +kernel
theorem dL_law_547 : decode cL_law 547 = .ok (.iconst 1, 1) := by decide +kernel
theorem dL_law_548 : decode cL_law 548 = .ok (.iadd, 1) := by decide +kernel
theorem dL_law_549 : decode cL_law 549 = .ok (.iaload, 1) := by decide +kernel
theorem dL_law_550 : decode cL_law 550 = .ok (.aload_n 0, 1) := by decide +kernel
theorem dL_law_551 : decode cL_law 551 = .ok (.iload_n 3, 1) := by decide +kernel
theorem dL_law_552 : decode cL_law 552 = .ok (.iconst 2, 1) := by decide +kernel
theorem dL_law_553 : decode cL_law 553 = .ok (.iadd, 1) := by decide +kernel
theorem dL_law_554 : decode cL_law 554 = .ok (.iaload, 1) := by decide +kernel
theorem dL_law_555 : decode cL_law 555 = .ok (.invokevirtual 69, 3) := by decide +kernel
theorem dL_law_558 : decode cL_law 558 = .ok (.pop, 1) := by decide +kernel
theorem dL_law_559 : decode cL_law 559 = .ok (.aload_n 2, 1) := by decide +kernel
theorem dL_law_560 : decode cL_law 560 = .ok (.aload_n 0, 1) := by decide +kernel
theorem dL_law_561 : decode cL_law 561 = .ok (.iload_n 3, 1) := by decide +kernel
theorem dL_law_562 : decode cL_law 562 = .ok (.iconst 1, 1) := by decide +kernel
theorem dL_law_563 : decode cL_law 563 = .ok (.iadd, 1) := by decide +kernel
theorem dL_law_564 : decode cL_law 564 = .ok (.iaload, 1) := by decide +kernel
theorem dL_law_565 : decode cL_law 565 = .ok (.aload_n 0, 1) := by decide +kernel
theorem dL_law_566 : decode cL_law 566 = .ok (.iload_n 3, 1) := by decide +kernel
theorem dL_law_567 : decode cL_law 567 = .ok (.iconst 2, 1) := by decide +kernel
theorem dL_law_568 : decode cL_law 568 = .ok (.iadd, 1) := by decide +kernel
theorem dL_law_569 : decode cL_law 569 = .ok (.iaload, 1) := by decide +kernel
theorem dL_law_570 : decode cL_law 570 = .ok (.invokevirtual 72, 3) := by decide +kernel
theorem dL_law_573 : decode cL_law 573 = .ok (.pop, 1) := by decide +kernel
theorem dL_law_574 : decode cL_law 574 = .ok (.goto 454, 3) := by decide +kernel
theorem dL_law_577 : decode cL_law 577 = .ok (.aload_n 1, 1) := by decide +kernel
theorem dL_law_578 : decode cL_law 578 = .ok (.aload_n 0, 1) := by decide +kernel
theorem dL_law_579 : decode cL_law 579 = .ok (.iload_n 3, 1) := by decide +kernel
theorem dL_law_580 : decode cL_law 580 = .ok (.iconst 1, 1) := by decide +kernel
theorem dL_law_581 : decode cL_law 581 = .ok (.iadd, 1) := by decide +kernel
theorem dL_law_582 : decode cL_law 582 = .ok (.iaload, 1) := by decide +kernel
theorem dL_law_583 : decode cL_law 583 = .ok (.invokevirtual 73, 3) := by decide +kernel
theorem dL_law_586 : decode cL_law 586 = .ok (.pop, 1) := by decide +kernel
theorem dL_law_587 : decode cL_law 587 = .ok (.aload_n 2, 1) := by decide +kernel
theorem dL_law_588 : decode cL_law 588 = .ok (.aload_n 0, 1) := by decide +kernel
theorem dL_law_589 : decode cL_law 589 = .ok (.iload_n 3, 1) := by decide +kernel
theorem dL_law_590 : decode cL_law 590 = .ok (.iconst 1, 1) := by decide +kernel
theorem dL_law_591 : decode cL_law 591 = .ok (.iadd, 1) := by decide +kernel
theorem dL_law_592 : decode cL_law 592 = .ok (.iaload, 1) := by decide +kernel
theorem dL_law_593 : decode cL_law 593 = .ok (.invokevirtual 76, 3) := by decide +kernel
theorem dL_law_596 : decode cL_law 596 = .ok (.pop, 1) := by decide +kernel
theorem dL_law_597 : decode cL_law 597 = .ok (.goto 431, 3) := by decide +kernel
theorem dL_law_600 : decode cL_law 600 = .ok (.aload_n 1, 1) := by decide +kernel
theorem dL_law_601 : decode cL_law 601 = .ok (.aload_n 0, 1) := by decide +kernel
theorem dL_law_602 : decode cL_law 602 = .ok (.iload_n 3, 1) := by decide +kernel
theorem dL_law_603 : decode cL_law 603 = .ok (.iconst 1, 1) := by decide +kernel
theorem dL_law_604 : decode cL_law 604 = .ok (.iadd, 1) := by decide +kernel
theorem dL_law_605 : decode cL_law 605 = .ok (.iaload, 1) := by decide +kernel
theorem dL_law_606 : decode cL_law 606 = .ok (.invokevirtual 77, 3) := by decide +kernel
theorem dL_law_609 : decode cL_law 609 = .ok (.pop, 1) := by decide +kernel
theorem dL_law_610 : decode cL_law 610 = .ok (.aload_n 2, 1) := by decide +kernel
theorem dL_law_611 : decode cL_law 611 = .ok (.aload_n 0, 1) := by decide +kernel
theorem dL_law_612 : decode cL_law 612 = .ok (.iload_n 3, 1) := by decide +kernel
theorem dL_law_613 : decode cL_law 613 = .ok (.iconst 1, 1) := by decide +kernel
theorem dL_law_614 : decode cL_law 614 = .ok (.iadd, 1) := by decide +kernel
theorem dL_law_615 : decode cL_law 615 = .ok (.iaload, 1) := by decide +kernel
theorem dL_law_616 : decode cL_law 616 = .ok (.invokevirtual 80, 3) := by decide +kernel
theorem dL_law_619 : decode cL_law 619 = .ok (.pop, 1) := by decide +kernel
theorem dL_law_620 : decode cL_law 620 = .ok (.goto 408, 3) := by decide +kernel
theorem dL_law_623 : decode cL_law 623 = .ok (.aload_n 1, 1) := by decide +kernel
theorem dL_law_624 : decode cL_law 624 = .ok (.invokevirtual 81, 3) := by decide +kernel
theorem dL_law_627 : decode cL_law 627 = .ok (.pop, 1) := by decide +kernel
theorem dL_law_628 : decode cL_law 628 = .ok (.aload_n 2, 1) := by decide +kernel
theorem dL_law_629 : decode cL_law 629 = .ok (.invokevirtual 84, 3) := by decide +kernel
theorem dL_law_632 : decode cL_law 632 = .ok (.pop, 1) := by decide +kernel
theorem dL_law_633 : decode cL_law 633 = .ok (.goto 395, 3) := by decide +kernel
theorem dL_law_636 : decode cL_law 636 = .ok (.aload_n 1, 1) := by decide +kernel
theorem dL_law_637 : decode cL_law 637 = .ok (.aload_n 0, 1) := by decide +kernel
theorem dL_law_638 : decode cL_law 638 = .ok (.iload_n 3, 1) := by decide +kernel
theorem dL_law_639 : decode cL_law 639 = .ok (.iconst 1, 1) := by decide +kernel
theorem dL_law_640 : decode cL_law 640 = .ok (.iadd, 1) := by decide +kernel
theorem dL_law_641 : decode cL_law 641 = .ok (.iaload, 1) := by decide +kernel
theorem dL_law_642 : decode cL_law 642 = .ok (.aload_n 0, 1) := by decide +kernel
theorem dL_law_643 : decode cL_law 643 = .ok (.iload_n 3, 1) := by decide +kernel
theorem dL_law_644 : decode cL_law 644 = .ok (.iconst 2, 1) := by decide +kernel
theorem dL_law_645 : decode cL_law 645 = .ok (.iadd, 1) := by decide +kernel
theorem dL_law_646 : decode cL_law 646 = .ok (.iaload, 1) := by decide +kernel
theorem dL_law_647 : decode cL_law 647 = .ok (.aload_n 0, 1) := by decide +kernel
theorem dL_law_648 : decode cL_law 648 = .ok (.iload_n 3, 1) := by decide +kernel
theorem dL_law_649 : decode cL_law 649 = .ok (.iconst 3, 1) := by decide +kernel
theorem dL_law_650 : decode cL_law 650 = .ok (.iadd, 1) := by decide +kernel
theorem dL_law_651 : decode cL_law 651 = .ok (.iaload, 1) := by decide +kernel
theorem dL_law_652 : decode cL_law 652 = .ok (.invokevirtual 85, 3) := by decide +kernel
theorem dL_law_655 : decode cL_law 655 = .ok (.pop, 1) := by decide +kernel
theorem dL_law_656 : decode cL_law 656 = .ok (.aload_n 2, 1) := by decide +kernel
theorem dL_law_657 : decode cL_law 657 = .ok (.aload_n 0, 1) := by decide +kernel
theorem dL_law_658 : decode cL_law 658 = .ok (.iload_n 3, 1) := by decide +kernel
theorem dL_law_659 : decode cL_law 659 = .ok (.iconst 1, 1) := by decide +kernel
theorem dL_law_660 : decode cL_law 660 = .ok (.iadd, 1) := by decide +kernel
theorem dL_law_661 : decode cL_law 661 = .ok (.iaload, 1) := by decide +kernel
theorem dL_law_662 : decode cL_law 662 = .ok (.aload_n 0, 1) := by decide +kernel
theorem dL_law_663 : decode cL_law 663 = .ok (.iload_n 3, 1) := by decide +kernel
theorem dL_law_664 : decode cL_law 664 = .ok (.iconst 2, 1) := by decide +kernel
theorem dL_law_665 : decode cL_law 665 = .ok (.iadd, 1) := by decide +kernel
theorem dL_law_666 : decode cL_law 666 = .ok (.iaload, 1) := by decide +kernel
theorem dL_law_667 : decode cL_law 667 = .ok (.aload_n 0, 1) := by decide +kernel
theorem dL_law_668 : decode cL_law 668 = .ok (.iload_n 3, 1) := by decide +kernel
theorem dL_law_669 : decode cL_law 669 = .ok (.iconst 3, 1) := by decide +kernel
theorem dL_law_670 : decode cL_law 670 = .ok (.iadd, 1) := by decide +kernel
theorem dL_law_671 : decode cL_law 671 = .ok (.iaload, 1) := by decide +kernel
theorem dL_law_672 : decode cL_law 672 = .ok (.invokevirtual 88, 3) := by decide +kernel
theorem dL_law_675 : decode cL_law 675 = .ok (.pop, 1) := by decide +kernel
theorem dL_law_676 : decode cL_law 676 = .ok (.goto 352, 3) := by decide +kernel
theorem dL_law_679 : decode cL_law 679 = .ok (.aload_n 1, 1) := by decide +kernel
theorem dL_law_680 : decode cL_law 680 = .ok (.aload_n 0, 1) := by decide +kernel
theorem dL_law_681 : decode cL_law 681 = .ok (.iload_n 3, 1) := by decide +kernel
theorem dL_law_682 : decode cL_law 682 = .ok (.iconst 1, 1) := by decide +kernel
theorem dL_law_683 : decode cL_law 683 = .ok (.iadd, 1) := by decide +kernel
theorem dL_law_684 : decode cL_law 684 = .ok (.iaload, 1) := by decide +kernel
theorem dL_law_685 : decode cL_law 685 = .ok (.invokevirtual 89, 3) := by decide +kernel
theorem dL_law_688 : decode cL_law 688 = .ok (.pop, 1) := by decide +kernel
theorem dL_law_689 : decode cL_law 689 = .ok (.aload_n 2, 1) := by decide +kernel
theorem dL_law_690 : decode cL_law 690 = .ok (.aload_n 0, 1) := by decide +kernel
theorem dL_law_691 : decode cL_law 691 = .ok (.iload_n 3, 1) := by decide +kernel
theorem dL_law_692 : decode cL_law 692 = .ok (.iconst 1, 1) := by decide +kernel
theorem dL_law_693 : decode cL_law 693 = .ok (.iadd, 1) := by decide +kernel
theorem dL_law_694 : decode cL_law 694 = .ok (.iaload, 1) := by decide +kernel
theorem dL_law_695 : decode cL_law 695 = .ok (.invokevirtual 92, 3) := by decide +kernel
theorem dL_law_698 : decode cL_law 698 = .ok (.pop, 1) := by decide +kernel
theorem dL_law_699 : decode cL_law 699 = .ok (.goto 329, 3) := by decide +kernel
theorem dL_law_702 : decode cL_law 702 = .ok (.aload_n 1, 1) := by decide +kernel
theorem dL_law_703 : decode cL_law 703 = .ok (.aload_n 0, 1) := by decide +kernel
theorem dL_law_704 : decode cL_law 704 = .ok (.iload_n 3, 1) := by decide +kernel
theorem dL_law_705 : decode cL_law 705 = .ok (.iconst 1, 1) := by decide +kernel
theorem dL_law_706 : decode cL_law 706 = .ok (.iadd, 1) := by decide +kernel
theorem dL_law_707 : decode cL_law 707 = .ok (.iaload, 1) := by decide +kernel
theorem dL_law_708 : decode cL_law 708 = .ok (.aload_n 0, 1) := by decide +kernel
theorem dL_law_709 : decode cL_law 709 = .ok (.iload_n 3, 1) := by decide +kernel
theorem dL_law_710 : decode cL_law 710 = .ok (.iconst 2, 1) := by decide +kernel
theorem dL_law_711 : decode cL_law 711 = .ok (.iadd, 1) := by decide +kernel
theorem dL_law_712 : decode cL_law 712 = .ok (.iaload, 1) := by decide +kernel
theorem dL_law_713 : decode cL_law 713 = .ok (.aload_n 0, 1) := by decide +kernel
theorem dL_law_714 : decode cL_law 714 = .ok (.iload_n 3, 1) := by decide +kernel
theorem dL_law_715 : decode cL_law 715 = .ok (.iconst 3, 1) := by decide +kernel
theorem dL_law_716 : decode cL_law 716 = .ok (.iadd, 1) := by decide +kernel
theorem dL_law_717 : decode cL_law 717 = .ok (.iaload, 1) := by decide +kernel
theorem dL_law_718 : decode cL_law 718 = .ok (.aload_n 0, 1) := by decide +kernel
theorem dL_law_719 : decode cL_law 719 = .ok (.iload_n 3, 1) := by decide +kernel
theorem dL_law_720 : decode cL_law 720 = .ok (.iconst 4, 1) := by decide +kernel
theorem dL_law_721 : decode cL_law 721 = .ok (.iadd, 1) := by decide +kernel
theorem dL_law_722 : decode cL_law 722 = .ok (.iaload, 1) := by decide +kernel
theorem dL_law_723 : decode cL_law 723 = .ok (.invokevirtual 93, 3) := by decide +kernel
theorem dL_law_726 : decode cL_law 726 = .ok (.pop, 1) := by decide +kernel
theorem dL_law_727 : decode cL_law 727 = .ok (.aload_n 2, 1) := by decide +kernel
theorem dL_law_728 : decode cL_law 728 = .ok (.aload_n 0, 1) := by decide +kernel
theorem dL_law_729 : decode cL_law 729 = .ok (.iload_n 3, 1) := by decide +kernel
theorem dL_law_730 : decode cL_law 730 = .ok (.iconst 1, 1) := by decide +kernel
theorem dL_law_731 : decode cL_law 731 = .ok (.iadd, 1) := by decide +kernel
theorem dL_law_732 : decode cL_law 732 = .ok (.iaload, 1) := by decide +kernel
theorem dL_law_733 : decode cL_law 733 = .ok (.aload_n 0, 1) := by decide +kernel
theorem dL_law_734 : decode cL_law 734 = .ok (.iload_n 3, 1) := by decide +kernel
theorem dL_law_735 : decode cL_law 735 = .ok (.iconst 2, 1) := by decide +kernel
theorem dL_law_736 : decode cL_law 736 = .ok (.iadd, 1) := by decide +kernel
theorem dL_law_737 : decode cL_law 737 = .ok (.iaload, 1) := by decide +kernel
theorem dL_law_738 : decode cL_law 738 = .ok (.aload_n 0, 1) := by decide +kernel
theorem dL_law_739 : decode cL_law 739 = .ok (.iload_n 3, 1) := by decide +kernel
theorem dL_law_740 : decode cL_law 740 = .ok (.iconst 3, 1) := by decide +kernel
theorem dL_law_741 : decode cL_law 741 = .ok (.iadd, 1) := by decide +kernel
theorem dL_law_742 : decode cL_law 742 = .ok (.iaload, 1) := by decide +kernel
theorem dL_law_743 : decode cL_law 743 = .ok (.aload_n 0, 1) := by decide +kernel
theorem dL_law_744 : decode cL_law 744 = .ok (.iload_n 3, 1) := by decide +kernel
theorem dL_law_745 : decode cL_law 745 = .ok (.iconst 4, 1) := by decide +kernel
theorem dL_law_746 : decode cL_law 746 = .ok (.iadd, 1) := by decide +kernel
theorem dL_law_747 : decode cL_law 747 = .ok (.iaload, 1) := by decide +kernel
theorem dL_law_748 : decode cL_law 748 = .ok (.invokevirtual 97, 3) := by decide +kernel
theorem dL_law_751 : decode cL_law 751 = .ok (.pop, 1) := by decide +kernel
theorem dL_law_752 : decode cL_law 752 = .ok (.goto 276, 3) := by decide +kernel
theorem dL_law_755 : decode cL_law 755 = .ok (.aload_n 1, 1) := by decide +kernel
theorem dL_law_756 : decode cL_law 756 = .ok (.aload_n 0, 1) := by decide +kernel
theorem dL_law_757 : decode cL_law 757 = .ok (.iload_n 3, 1) := by decide +kernel
theorem dL_law_758 : decode cL_law 758 = .ok (.iconst 1, 1) := by decide +kernel
theorem dL_law_759 : decode cL_law 759 = .ok (.iadd, 1) := by decide +kernel
theorem dL_law_760 : decode cL_law 760 = .ok (.iaload, 1) := by decide +kernel
theorem dL_law_761 : decode cL_law 761 = .ok (.invokevirtual 98, 3) := by decide +kernel
theorem dL_law_764 : decode cL_law 764 = .ok (.pop, 1) := by decide +kernel
theorem dL_law_765 : decode cL_law 765 = .ok (.aload_n 2, 1) := by decide +kernel
theorem dL_law_766 : decode cL_law 766 = .ok (.aload_n 0, 1) := by decide +kernel
theorem dL_law_767 : decode cL_law 767 = .ok (.iload_n 3, 1) := by decide +kernel
theorem dL_law_768 : decode cL_law 768 = .ok (.iconst 1, 1) := by decide +kernel
theorem dL_law_769 : decode cL_law 769 = .ok (.iadd, 1) := by decide +kernel
theorem dL_law_770 : decode cL_law 770 = .ok (.iaload, 1) := by decide +kernel
theorem dL_law_771 : decode cL_law 771 = .ok (.invokevirtual 101, 3) := by decide +kernel
theorem dL_law_774 : decode cL_law 774 = .ok (.pop, 1) := by decide +kernel
theorem dL_law_775 : decode cL_law 775 = .ok (.goto 253, 3) := by decide +kernel
theorem dL_law_778 : decode cL_law 778 = .ok (.aload_n 1, 1) := by decide +kernel
theorem dL_law_779 : decode cL_law 779 = .ok (.invokevirtual 102, 3) := by decide +kernel
theorem dL_law_782 : decode cL_law 782 = .ok (.pop, 1) := by decide +kernel
theorem dL_law_783 : decode cL_law 783 = .ok (.aload_n 2, 1) := by decide +kernel
theorem dL_law_784 : decode cL_law 784 = .ok (.invokevirtual 105, 3) := by decide +kernel
theorem dL_law_787 : decode cL_law 787 = .ok (.pop, 1) := by decide +kernel
theorem dL_law_788 : decode cL_law 788 = .ok (.goto 240, 3) := by decide +kernel
theorem dL_law_791 : decode cL_law 791 = .ok (.aload_n 1, 1) := by decide +kernel
theorem dL_law_792 : decode cL_law 792 = .ok (.aload_n 0, 1) := by decide +kernel
theorem dL_law_793 : decode cL_law 793 = .ok (.iload_n 3, 1) := by decide +kernel
theorem dL_law_794 : decode cL_law 794 = .ok (.iconst 1, 1) := by decide +kernel
theorem dL_law_795 : decode cL_law 795 = .ok (.iadd, 1) := by decide +kernel
theorem dL_law_796 : decode cL_law 796 = .ok (.iaload, 1) := by decide +kernel
theorem dL_law_797 : decode cL_law 797 = .ok (.aload_n 0, 1) := by decide +kernel
theorem dL_law_798 : decode cL_law 798 = .ok (.iload_n 3, 1) := by decide +kernel
theorem dL_law_799 : decode cL_law 799 = .ok (.iconst 2, 1) := by decide +kernel
theorem dL_law_800 : decode cL_law 800 = .ok (.iadd, 1) := by decide +kernel
theorem dL_law_801 : decode cL_law 801 = .ok (.iaload, 1) := by decide +kernel
theorem dL_law_802 : decode cL_law 802 = .ok (.aload_n 0, 1) := by decide +kernel
theorem dL_law_803 : decode cL_law 803 = .ok (.iload_n 3, 1) := by decide +kernel
theorem dL_law_804 : decode cL_law 804 = .ok (.iconst 3, 1) := by decide +kernel
theorem dL_law_805 : decode cL_law 805 = .ok (.iadd, 1) := by decide +kernel
theorem dL_law_806 : decode cL_law 806 = .ok (.iaload, 1) := by decide +kernel
theorem dL_law_807 : decode cL_law 807 = .ok (.invokevirtual 106, 3) := by decide +kernel
theorem dL_law_810 : decode cL_law 810 = .ok (.pop, 1) := by decide +kernel
theorem dL_law_811 : decode cL_law 811 = .ok (.aload_n 2, 1) := by decide +kernel
theorem dL_law_812 : decode cL_law 812 = .ok (.aload_n 0, 1) := by decide +kernel
theorem dL_law_813 : decode cL_law 813 = .ok (.iload_n 3, 1) := by decide +kernel
theorem dL_law_814 : decode cL_law 814 = .ok (.iconst 1, 1) := by decide +kernel
theorem dL_law_815 : decode cL_law 815 = .ok (.iadd, 1) := by decide +kernel
theorem dL_law_816 : decode cL_law 816 = .ok (.iaload, 1) := by decide +kernel
theorem dL_law_817 : decode cL_law 817 = .ok (.aload_n 0, 1) := by decide +kernel
theorem dL_law_818 : decode cL_law 818 = .ok (.iload_n 3, 1) := by decide +kernel
theorem dL_law_819 : decode cL_law 819 = .ok (.iconst 2, 1) := by decide +kernel
theorem dL_law_820 : decode cL_law 820 = .ok (.iadd, 1) := by decide +kernel
theorem dL_law_821 : decode cL_law 821 = .ok (.iaload, 1) := by decide +kernel
theorem dL_law_822 : decode cL_law 822 = .ok (.aload_n 0, 1) := by decide +kernel
theorem dL_law_823 : decode cL_law 823 = .ok (.iload_n 3, 1) := by decide +kernel
theorem dL_law_824 : decode cL_law 824 = .ok (.iconst 3, 1) := by decide +kernel
theorem dL_law_825 : decode cL_law 825 = .ok (.iadd, 1) := by decide +kernel
theorem dL_law_826 : decode cL_law 826 = .ok (.iaload, 1) := by decide +kernel
theorem dL_law_827 : decode cL_law 827 = .ok (.invokevirtual 109, 3) := by decide +kernel
theorem dL_law_830 : decode cL_law 830 = .ok (.pop, 1) := by decide +kernel
theorem dL_law_831 : decode cL_law 831 = .ok (.goto 197, 3) := by decide +kernel
theorem dL_law_834 : decode cL_law 834 = .ok (.aload_n 1, 1) := by decide +kernel
theorem dL_law_835 : decode cL_law 835 = .ok (.aload_n 0, 1) := by decide +kernel
theorem dL_law_836 : decode cL_law 836 = .ok (.iload_n 3, 1) := by decide +kernel
theorem dL_law_837 : decode cL_law 837 = .ok (.iconst 1, 1) := by decide +kernel
theorem dL_law_838 : decode cL_law 838 = .ok (.iadd, 1) := by decide +kernel
theorem dL_law_839 : decode cL_law 839 = .ok (.iaload, 1) := by decide +kernel
theorem dL_law_840 : decode cL_law 840 = .ok (.invokevirtual 110, 3) := by decide +kernel
theorem dL_law_843 : decode cL_law 843 = .ok (.pop, 1) := by decide +kernel
theorem dL_law_844 : decode cL_law 844 = .ok (.aload_n 2, 1) := by decide +kernel
theorem dL_law_845 : decode cL_law 845 = .ok (.aload_n 0, 1) := by decide +kernel
theorem dL_law_846 : decode cL_law 846 = .ok (.iload_n 3, 1) := by decide +kernel
theorem dL_law_847 : decode cL_law 847 = .ok (.iconst 1, 1) := by decide +kernel
theorem dL_law_848 : decode cL_law 848 = .ok (.iadd, 1) := by decide +kernel
theorem dL_law_849 : decode cL_law 849 = .ok (.iaload, 1) := by decide +kernel
theorem dL_law_850 : decode cL_law 850 = .ok (.invokevirtual 113, 3) := by decide +kernel
theorem dL_law_853 : decode cL_law 853 = .ok (.pop, 1) := by decide +kernel
theorem dL_law_854 : decode cL_law 854 = .ok (.goto 174, 3) := by decide +kernel
theorem dL_law_857 : decode cL_law 857 = .ok (.aload_n 1, 1) := by decide +kernel
theorem dL_law_858 : decode cL_law 858 = .ok (.aload_n 0, 1) := by decide +kernel
theorem dL_law_859 : decode cL_law 859 = .ok (.iload_n 3, 1) := by decide +kernel
theorem dL_law_860 : decode cL_law 860 = .ok (.iconst 1, 1) := by decide +kernel
theorem dL_law_861 : decode cL_law 861 = .ok (.iadd, 1) := by decide +kernel
theorem dL_law_862 : decode cL_law 862 = .ok (.iaload, 1) := by decide +kernel
theorem dL_law_863 : decode cL_law 863 = .ok (.invokevirtual 114, 3) := by decide +kernel
theorem dL_law_866 : decode cL_law 866 = .ok (.pop, 1) := by decide +kernel
theorem dL_law_867 : decode cL_law 867 = .ok (.aload_n 2, 1) := by decide +kernel
theorem dL_law_868 : decode cL_law 868 = .ok (.aload_n 0, 1) := by decide +kernel
theorem dL_law_869 : decode cL_law 869 = .ok (.iload_n 3, 1) := by decide +kernel
theorem dL_law_870 : decode cL_law 870 = .ok (.iconst 1, 1) := by decide +kernel
theorem dL_law_871 : decode cL_law 871 = .ok (.iadd, 1) := by decide +kernel
theorem dL_law_872 : decode cL_law 872 = .ok (.iaload, 1) := by decide +kernel
theorem dL_law_873 : decode cL_law 873 = .ok (.invokevirtual 117, 3) := by decide +kernel
theorem dL_law_876 : decode cL_law 876 = .ok (.pop, 1) := by decide +kernel
theorem dL_law_877 : decode cL_law 877 = .ok (.goto 151, 3) := by decide +kernel
theorem dL_law_880 : decode cL_law 880 = .ok (.aload_n 1, 1) := by decide +kernel
theorem dL_law_881 : decode cL_law 881 = .ok (.aload_n 0, 1) := by decide +kernel
theorem dL_law_882 : decode cL_law 882 = .ok (.iload_n 3, 1) := by decide +kernel
theorem dL_law_883 : decode cL_law 883 = .ok (.iconst 1, 1) := by decide +kernel
theorem dL_law_884 : decode cL_law 884 = .ok (.iadd, 1) := by decide +kernel
theorem dL_law_885 : decode cL_law 885 = .ok (.iaload, 1) := by decide +kernel
theorem dL_law_886 : decode cL_law 886 = .ok (.invokevirtual 118, 3) := by decide +kernel
theorem dL_law_889 : decode cL_law 889 = .ok (.pop, 1) := by decide +kernel
theorem dL_law_890 : decode cL_law 890 = .ok (.aload_n 2, 1) := by decide +kernel
theorem dL_law_891 : decode cL_law 891 = .ok (.aload_n 0, 1) := by decide +kernel
theorem dL_law_892 : decode cL_law 892 = .ok (.iload_n 3, 1) := by decide +kernel
theorem dL_law_893 : decode cL_law 893 = .ok (.iconst 1, 1) := by decide +kernel
theorem dL_law_894 : decode cL_law 894 = .ok (.iadd, 1) := by decide +kernel
theorem dL_law_895 : decode cL_law 895 = .ok (.iaload, 1) := by decide +kernel
theorem dL_law_896 : decode cL_law 896 = .ok (.invokevirtual 121, 3) := by decide +kernel
theorem dL_law_899 : decode cL_law 899 = .ok (.pop, 1) := by decide +kernel
theorem dL_law_900 : decode cL_law 900 = .ok (.goto 128, 3) := by decide +kernel
theorem dL_law_903 : decode cL_law 903 = .ok (.aload_n 1, 1) := by decide +kernel
theorem dL_law_904 : decode cL_law 904 = .ok (.aload_n 0, 1) := by decide +kernel
theorem dL_law_905 : decode cL_law 905 = .ok (.iload_n 3, 1) := by decide +kernel
theorem dL_law_906 : decode cL_law 906 = .ok (.iconst 1, 1) := by decide +kernel
theorem dL_law_907 : decode cL_law 907 = .ok (.iadd, 1) := by decide +kernel
theorem dL_law_908 : decode cL_law 908 = .ok (.iaload, 1) := by decide +kernel
theorem dL_law_909 : decode cL_law 909 = .ok (.aload_n 0, 1) := by decide +kernel
theorem dL_law_910 : decode cL_law 910 = .ok (.iload_n 3, 1) := by decide +kernel
theorem dL_law_911 : decode cL_law 911 = .ok (.iconst 2, 1) := by decide +kernel
theorem dL_law_912 : decode cL_law 912 = .ok (.iadd, 1) := by decide +kernel
theorem dL_law_913 : decode cL_law 913 = .ok (.iaload, 1) := by decide +kernel
theorem dL_law_914 : decode cL_law 914 = .ok (.invokevirtual 122, 3) := by decide +kernel
theorem dL_law_917 : decode cL_law 917 = .ok (.pop, 1) := by decide +kernel
theorem dL_law_918 : decode cL_law 918 = .ok (.aload_n 2, 1) := by decide +kernel
theorem dL_law_919 : decode cL_law 919 = .ok (.aload_n 0, 1) := by decide +kernel
theorem dL_law_920 : decode cL_law 920 = .ok (.iload_n 3, 1) := by decide +kernel
theorem dL_law_921 : decode cL_law 921 = .ok (.iconst 1, 1) := by decide +kernel
theorem dL_law_922 : decode cL_law 922 = .ok (.iadd, 1) := by decide +kernel
theorem dL_law_923 : decode cL_law 923 = .ok (.iaload, 1) := by decide +kernel
theorem dL_law_924 : decode cL_law 924 = .ok (.aload_n 0, 1) := by decide +kernel
theorem dL_law_925 : decode cL_law 925 = .ok (.iload_n 3, 1) := by decide +kernel
theorem dL_law_926 : decode cL_law 926 = .ok (.iconst 2, 1) := by decide +kernel
theorem dL_law_927 : decode cL_law 927 = .ok (.iadd, 1) := by decide +kernel
theorem dL_law_928 : decode cL_law 928 = .ok (.iaload, 1) := by decide +kernel
theorem dL_law_929 : decode cL_law 929 = .ok (.invokevirtual 125, 3) := by decide +kernel
theorem dL_law_932 : decode cL_law 932 = .ok (.pop, 1) := by decide +kernel
theorem dL_law_933 : decode cL_law 933 = .ok (.goto 95, 3) := by decide +kernel
theorem dL_law_936 : decode cL_law 936 = .ok (.aload_n 1, 1) := by decide +kernel
theorem dL_law_937 : decode cL_law 937 = .ok (.aload_n 0, 1) := by decide +kernel
theorem dL_law_938 : decode cL_law 938 = .ok (.iload_n 3, 1) := by decide +kernel
theorem dL_law_939 : decode cL_law 939 = .ok (.iconst 1, 1) := by decide +kernel
theorem dL_law_940 : decode cL_law 940 = .ok (.iadd, 1) := by decide +kernel
theorem dL_law_941 : decode cL_law 941 = .ok (.iaload, 1) := by decide +kernel
theorem dL_law_942 : decode cL_law 942 = .ok (.aload_n 0, 1) := by decide +kernel
theorem dL_law_943 : decode cL_law 943 = .ok (.iload_n 3, 1) := by decide +kernel
theorem dL_law_944 : decode cL_law 944 = .ok (.iconst 2, 1) := by decide +kernel
theorem dL_law_945 : decode cL_law 945 = .ok (.iadd, 1) := by decide +kernel
theorem dL_law_946 : decode cL_law 946 = .ok (.iaload, 1) := by decide +kernel
theorem dL_law_947 : decode cL_law 947 = .ok (.invokevirtual 126, 3) := by decide +kernel
theorem dL_law_950 : decode cL_law 950 = .ok (.pop, 1) := by decide +kernel
theorem dL_law_951 : decode cL_law 951 = .ok (.aload_n 2, 1) := by decide +kernel
theorem dL_law_952 : decode cL_law 952 = .ok (.aload_n 0, 1) := by decide +kernel
theorem dL_law_953 : decode cL_law 953 = .ok (.iload_n 3, 1) := by decide +kernel
theorem dL_law_954 : decode cL_law 954 = .ok (.iconst 1, 1) := by decide +kernel
theorem dL_law_955 : decode cL_law 955 = .ok (.iadd, 1) := by decide +kernel
theorem dL_law_956 : decode cL_law 956 = .ok (.iaload, 1) := by decide +kernel
theorem dL_law_957 : decode cL_law 957 = .ok (.aload_n 0, 1) := by decide +kernel
theorem dL_law_958 : decode cL_law 958 = .ok (.iload_n 3, 1) := by decide +kernel
theorem dL_law_959 : decode cL_law 959 = .ok (.iconst 2, 1) := by decide +kernel
theorem dL_law_960 : decode cL_law 960 = .ok (.iadd, 1) := by decide +kernel
theorem dL_law_961 : decode cL_law 961 = .ok (.iaload, 1) := by decide +kernel
theorem dL_law_962 : decode cL_law 962 = .ok (.invokevirtual 129, 3) := by decide +kernel
theorem dL_law_965 : decode cL_law 965 = .ok (.pop, 1) := by decide +kernel
theorem dL_law_966 : decode cL_law 966 = .ok (.goto 62, 3) := by decide +kernel
theorem dL_law_969 : decode cL_law 969 = .ok (.aload_n 1, 1) := by decide +kernel
theorem dL_law_970 : decode cL_law 970 = .ok (.aload_n 0, 1) := by decide +kernel
theorem dL_law_971 : decode cL_law 971 = .ok (.iload_n 3, 1) := by decide +kernel
theorem dL_law_972 : decode cL_law 972 = .ok (.iconst 1, 1) := by decide +kernel
theorem dL_law_973 : decode cL_law 973 = .ok (.iadd, 1) := by decide +kernel
theorem dL_law_974 : decode cL_law 974 = .ok (.iaload, 1) := by decide +kernel
theorem dL_law_975 : decode cL_law 975 = .ok (.invokevirtual 130, 3) := by decide +kernel
theorem dL_law_978 : decode cL_law 978 = .ok (.pop, 1) := by decide +kernel
theorem dL_law_979 : decode cL_law 979 = .ok (.aload_n 2, 1) := by decide +kernel
theorem dL_law_980 : decode cL_law 980 = .ok (.aload_n 0, 1) := by decide +kernel
theorem dL_law_981 : decode cL_law 981 = .ok (.iload_n 3, 1) := by decide +kernel
theorem dL_law_982 : decode cL_law 982 = .ok (.iconst 1, 1) := by decide +kernel
theorem dL_law_983 : decode cL_law 983 = .ok (.iadd, 1) := by decide +kernel
theorem dL_law_984 : decode cL_law 984 = .ok (.iaload, 1) := by decide +kernel
theorem dL_law_985 : decode cL_law 985 = .ok (.invokevirtual 133, 3) := by decide +kernel
theorem dL_law_988 : decode cL_law 988 = .ok (.pop, 1) := by decide +kernel
theorem dL_law_989 : decode cL_law 989 = .ok (.goto 39, 3) := by decide +kernel
theorem dL_law_992 : decode cL_law 992 = .ok (.aload_n 1, 1) := by decide +kernel
theorem dL_law_993 : decode cL_law 993 = .ok (.aload_n 0, 1) := by decide +kernel
theorem dL_law_994 : decode cL_law 994 = .ok (.iload_n 3, 1) := by decide +kernel
theorem dL_law_995 : decode cL_law 995 = .ok (.iconst 1, 1) := by decide +kernel
theorem dL_law_996 : decode cL_law 996 = .ok (.iadd, 1) := by decide +kernel
theorem dL_law_997 : decode cL_law 997 = .ok (.iaload, 1) := by decide +kernel
theorem dL_law_998 : decode cL_law 998 = .ok (.invokevirtual 134, 3) := by decide +kernel
theorem dL_law_1001 : decode cL_law 1001 = .ok (.pop, 1) := by decide +kernel
theorem dL_law_1002 : decode cL_law 1002 = .ok (.aload_n 2, 1) := by decide +kernel
theorem dL_law_1003 : decode cL_law 1003 = .ok (.aload_n 0, 1) := by decide +kernel
theorem dL_law_1004 : decode cL_law 1004 = .ok (.iload_n 3, 1) := by decide +kernel
theorem dL_law_1005 : decode cL_law 1005 = .ok (.iconst 1, 1) := by decide +kernel
theorem dL_law_1006 : decode cL_law 1006 = .ok (.iadd, 1) := by decide +kernel
theorem dL_law_1007 : decode cL_law 1007 = .ok (.iaload, 1) := by decide +kernel
theorem dL_law_1008 : decode cL_law 1008 = .ok (.invokevirtual 137, 3) := by decide +kernel
theorem dL_law_1011 : decode cL_law 1011 = .ok (.pop, 1) := by decide +kernel
theorem dL_law_1012 : decode cL_law 1012 = .ok (.goto 16, 3) := by decide +kernel
theorem dL_law_1015 : decode cL_law 1015 = .ok (.aload_n 1, 1) := by decide +kernel
theorem dL_law_1016 : decode cL_law 1016 = .ok (.invokevirtual 138, 3) := by decide +kernel
theorem dL_law_1019 : decode cL_law 1019 = .ok (.pop, 1) := by decide +kernel
theorem dL_law_1020 : decode cL_law 1020 = .ok (.aload_n 2, 1) := by decide +kernel
theorem dL_law_1021 : decode cL_law 1021 = .ok (.invokevirtual 141, 3) := by decide +kernel
theorem dL_law_1024 : decode cL_law 1024 = .ok (.pop, 1) := by decide +kernel
theorem dL_law_1025 : decode cL_law 1025 = .ok (.goto 3, 3) := by decide +kernel
theorem dL_law_1028 : decode cL_law 1028 = .ok (.iinc 3 6, 3) := by decide +kernel
theorem dL_law_1031 : decode cL_law 1031 = .ok (.goto (-1013), 3) := by decide +kernel
theorem dL_law_1034 : decode cL_law 1034 = .ok (.iconst 1, 1) := by decide +kernel
theorem dL_law_1035 : decode cL_law 1035 = .ok (.ireturn, 1) := by decide +kernel
end
section
/-! ===== the world as one state: numbers by (sort t, which j, place k), the persons' rows, the letters, the persons ===== -/
abbrev Sg : Type := (Nat → Nat → Nat → Int32) × (Nat → Nat → Option Nat) × Int64 × List Nat × (Nat → Nat) × (Nat → Nat → Int32)
/-- addresses; classes and slots; the arrays' classes; the first address that is ours; the texts' cells -/
abbrev Gt : Type := (Nat → Nat → Nat) × va_G × (Nat → ClassId) × Nat × (Nat → Nat) × (Nat → Nat)
def gV (σ : Sg) (t j k : Nat) : Int32 := σ.1 t j k
def sV (σ : Sg) (t j k : Nat) (v : Int32) : Sg := (fun t' j' k' => if t' = t ∧ k' = k ∧ j' = j then v else σ.1 t' j' k', σ.2)
def ceF (G : Gt) (x : (Nat → Nat → Option Nat) × Int64 × List Nat × (Nat → Nat) × (Nat → Nat → Int32)) (t j : Nat) (r : Nat → Int32) : va_E := match t with
  | 0 => .inr (10, [.ref (G.1 7 0), .ref (G.1 12 0), .ref (G.1 1 0), .ref (G.1 1 1), .ref (G.1 8 0), .int (r 5), .int (r 6), .ref (G.1 9 0), .ref (G.1 14 0), .ref (G.1 16 0), .ref (G.1 10 0), .ref (G.1 11 0), .int (r 12)])
  | 1 => .inr (7, [.int (r 0), .int (r 1), .int (r 2), .int (r 3), .ref (G.1 6 j), .ref (G.1 2 j), .ref (G.1 3 j), .ref (G.1 4 j), .ref (G.1 5 j), .int (r 9), .int (r 10), .int (r 11)])
  | 2 => .inl (G.2.2.1 0, 7, .inl r)
  | 3 => .inl (G.2.2.1 0, 7, .inl r)
  | 4 => .inl (G.2.2.1 0, 4, .inl r)
  | 5 => .inl (G.2.2.1 0, 4, .inl r)
  | 6 => .inl (G.2.2.1 3, 7, .inr (.inr (.inr (.inr (x.1 j)))))
  | 7 => .inl (G.2.2.1 4, 8, .inr (.inr (.inr (.inr (fun i => some (G.1 20 i))))))
  | 8 => .inl (G.2.2.1 5, 24, .inr (.inr (.inr (.inr (fun i => some (G.1 1 (i + 2)))))))
  | 9 => .inl (G.2.2.1 5, 2, .inr (.inr (.inr (.inr (fun i => some (G.1 1 (i + 26)))))))
  | 10 => .inl (G.2.2.1 2, 128, .inl r)
  | 11 => .inl (G.2.2.1 0, 4, .inl r)
  | 12 => .inr (5, [.ref (G.1 13 0), .int (r 1), .int (r 2), .int (r 3), .int (r 4), .int (r 5), .int (r 6), .int (r 7)])
  | 13 => .inl (G.2.2.1 1, 400, .inl r)
  | 14 => .inr (8, [.ref (G.1 15 0), .int (r 1)])
  | 15 => .inl (G.2.2.1 0, 16, .inl r)
  | 16 => .inr (0, [.ref (G.1 17 0), .ref (G.1 18 0), .int (r 2), .ref (G.1 19 0), .int (r 4)])
  | 17 => .inl (G.2.2.1 0, 5, .inl r)
  | 18 => .inl (G.2.2.1 0, 5, .inl r)
  | 19 => .inl (G.2.2.1 0, 5, .inl r)
  | 20 => .inr (6, [.ref (G.1 21 j), .int (r 1), .int (r 2)])
  | 21 => .inl (G.2.2.1 0, 40, .inl r)
  | 22 => .inr (11, [.ref (G.1 23 0), .ref (G.1 24 0), .ref (G.1 25 0), .ref (G.1 26 0), .ref (G.1 27 0), .ref (G.1 28 0), .int (r 6), .int (r 7), .int (r 8), .int (r 9), .ref (G.1 29 0), .int (r 11), .int (r 12), .int (r 13), .long x.2.1, .int (r 15), .int (r 16), .int (r 17), .ref (G.1 30 0), .ref (G.1 31 0), .int (r 20)])
  | 23 => .inl (G.2.2.1 0, 1450, .inl r)
  | 24 => .inl (G.2.2.1 2, 2, .inl r)
  | 25 => .inl (G.2.2.1 0, 320, .inl r)
  | 26 => .inl (G.2.2.1 0, 8, .inl r)
  | 27 => .inl (G.2.2.1 0, 8, .inl r)
  | 28 => .inl (G.2.2.1 0, 400, .inl r)
  | 29 => .inl (G.2.2.1 0, 40, .inl r)
  | 30 => .inl (G.2.2.1 2, 128, .inl r)
  | _ => .inl (G.2.2.1 0, 16, .inl r)
def ce (G : Gt) (σ : Sg) (t j : Nat) : va_E := ceF G σ.2 t j (σ.1 t j)
/-- a person's cell -/
def pe (x : List Nat × (Nat → Nat) × (Nat → Nat → Int32)) (a : Nat) : va_E := .inr (x.2.1 a, [.int (x.2.2 a 0), .int (x.2.2 a 1), .int (x.2.2 a 2)])
def nj (t : Nat) : Nat := if 1 ≤ t ∧ t ≤ 6 then 28 else if t = 20 ∨ t = 21 then 8 else 1
def idl : List (Nat × Nat) := (List.range 32).flatMap (fun t => (List.range (nj t)).map (fun j => (t, j)))
theorem idl_mem {t j : Nat} (h : t < 32) (hj : j < nj t) : (t, j) ∈ idl := List.mem_flatMap.mpr ⟨t, List.mem_range.mpr h, List.mem_map.mpr ⟨j, List.mem_range.mpr hj, rfl⟩⟩
def wl (G : Gt) (σ : Sg) : va_W := idl.map (fun q => (G.1 q.1 q.2, ce G σ q.1 q.2)) ++ σ.2.2.2.1.map (fun a => (a, pe σ.2.2.2 a))
theorem wl_at (G : Gt) (σ : Sg) {t j : Nat} (h : t < 32) (hj : j < nj t) : ∃ q0 : Nat, (wl G σ)[q0]? = some (G.1 t j, ce G σ t j) ∧ idl[q0]? = some (t, j) := by
  obtain ⟨q0, h0⟩ := List.getElem?_of_mem (idl_mem h hj)
  have hl := (List.getElem?_eq_some_iff.mp h0).1
  refine ⟨q0, ?_, h0⟩
  unfold wl
  rw [List.getElem?_append_left (by rw [List.length_map]; exact hl), List.getElem?_map, h0]
  rfl
theorem wl_set {A : Nat → Prop} {G : Gt} {σ σ' : Sg} {q0 t j : Nat} {e : va_E} (hD : va_D A (wl G σ)) (h : (wl G σ)[q0]? = some (G.1 t j, ce G σ t j)) (hq : idl[q0]? = some (t, j)) (hs : σ'.2.2.2 = σ.2.2.2) (he : e = ce G σ' t j) (ho : ∀ t' j', (t' ≠ t ∨ j' ≠ j) → ce G σ' t' j' = ce G σ t' j') : (wl G σ).set q0 (G.1 t j, e) = wl G σ' := by
  subst he
  have hl := (List.getElem?_eq_some_iff.mp hq).1
  have hlw := (List.getElem?_eq_some_iff.mp h).1
  apply List.ext_getElem?
  intro k
  by_cases hk : k = q0
  · subst hk
    rw [List.getElem?_set_self hlw]
    unfold wl
    rw [List.getElem?_append_left (by rw [List.length_map]; exact hl), List.getElem?_map, hq]
    rfl
  · rw [List.getElem?_set_ne (Ne.symm hk)]
    by_cases hkl : k < idl.length
    · obtain ⟨q, hqk⟩ : ∃ q, idl[k]? = some q := ⟨_, List.getElem?_eq_some_iff.mpr ⟨hkl, rfl⟩⟩
      have e1 : ∀ τ : Sg, (wl G τ)[k]? = some (G.1 q.1 q.2, ce G τ q.1 q.2) := fun τ => by
        unfold wl
        rw [List.getElem?_append_left (by rw [List.length_map]; exact hkl), List.getElem?_map, hqk]
        rfl
      rw [e1 σ, e1 σ']
      by_cases hqe : q.1 = t ∧ q.2 = j
      · exact absurd (hD.1 k q0 _ _ (e1 σ) h (by rw [hqe.1, hqe.2])) hk
      · rw [ho q.1 q.2 (if g : q.1 = t then Or.inr (fun z => hqe ⟨g, z⟩) else Or.inl g)]
    · unfold wl
      rw [List.getElem?_append_right (by rw [List.length_map]; omega), List.getElem?_append_right (by rw [List.length_map]; omega), List.length_map, List.length_map, hs]
theorem sV_row (σ : Sg) (t j k : Nat) (v : Int32) : (sV σ t j k v).1 t j = upd (σ.1 t j) k v := by
  funext q
  by_cases h : q = k
  · subst h
    simp [sV, upd]
  · simp [sV, upd, h]
theorem sV_ne (σ : Sg) {t j t' j' : Nat} (k : Nat) (v : Int32) (h : t' ≠ t ∨ j' ≠ j) : (sV σ t j k v).1 t' j' = σ.1 t' j' := by
  funext q
  rcases h with h | h <;> simp [sV, h]
theorem ce_other {G : Gt} {σ : Sg} {t j k : Nat} {v : Int32} : ∀ t' j', (t' ≠ t ∨ j' ≠ j) → ce G (sV σ t j k v) t' j' = ce G σ t' j' := fun t' j' h => by
  unfold ce
  rw [sV_ne σ k v h]
  rfl
theorem ce_self {G : Gt} {σ : Sg} {t j k : Nat} {v : Int32} : ce G (sV σ t j k v) t j = ceF G σ.2 t j (upd (σ.1 t j) k v) := by
  unfold ce
  rw [sV_row]
  rfl
theorem gV_self (σ : Sg) (t j k : Nat) (v : Int32) : gV (sV σ t j k v) t j k = v := by simp [gV, sV]
theorem gV_ne {σ : Sg} {t j k t' j' k' : Nat} {v : Int32} (h : t' ≠ t ∨ j' ≠ j ∨ k' ≠ k) : gV (sV σ t j k v) t' j' k' = gV σ t' j' k' := by
  rcases h with h | h | h <;> simp [gV, sV, h]
/-- from which address on all is ours -/
def aG (G : Gt) : Nat → Prop := fun q => G.2.2.2.1 ≤ q
abbrev tyl (G : Gt) : List (ClassId × FieldType) := [(G.2.2.1 0, .int), (G.2.2.1 1, .byte), (G.2.2.1 2, .boolean), (G.2.2.1 3, .object "LeanTower$Person"), (G.2.2.1 4, .object "LeanTower$Row"), (G.2.2.1 5, .object "LeanTower$Tower")]
def tx_len : List Nat := [3, 6, 7, 5, 3, 4, 6, 5]
def tx_byt : List (List Int32) := [[108, 97, 119], [112, 101, 114, 115, 111, 110], [112, 105, 108, 103, 114, 105, 109], [119, 105, 100, 111, 119], [98, 111, 121], [109, 111, 110, 107], [98, 105, 115, 104, 111, 112], [115, 116, 111, 110, 101]]
def tx_idx : List Nat := [55, 34, 95, 97, 99, 101, 103, 43]
def tx_txt : List String := ["law", "person", "pilgrim", "widow", "boy", "monk", "bishop", "stone"]
/-- pairs of our kinds of people that aren't castable -/
def nc_l : List (String × String) := [(RX1, RX5), (RX1, RX10), (RX1, RX2), (RX2, RX10), (RX2, RX3), (RX2, RX1), (RX3, RX5), (RX3, RX10), (RX3, RX2), (RX3, RX1), (RX5, RX10), (RX5, RX2), (RX5, RX3), (RX5, RX1), (RX10, RX2), (RX10, RX3), (RX10, RX1)]
def KX (G : Gt) (U : State) (H : Heap) : Prop := va_K G.2.1 vwCl (tyl G) U ∧ vk_S 8 tx_len tx_byt G.2.2.2.2.1 G.2.2.2.2.2 (aG G) U H ∧ (∀ i : Nat, i < 8 → vk_R RX6 (tx_idx.getD i 0) (tx_txt.getD i "") (G.2.2.2.2.1 i) U) ∧ va_Z "java/lang/String" "COMPACT_STRINGS" "Z" (.int 1) (aG G) U H ∧ ∀ q ∈ nc_l, va_Nc q.1 q.2 U
theorem KX.at {G : Gt} {s U : State} {H : Heap} {locs : List Loc} (h : KX G s s.heap) (hS : va_S (aG G) s.heap H locs) (hW : s.WarmedH U.vm) (hU : U.heap = H) : KX G U U.heap := by
  obtain ⟨h1, h2, h3, h4, h5⟩ := h
  rw [hU]
  exact ⟨va_K.moved hW.alike h1, vk_S.moved hW.alike (h2.kept hS.2.1), fun i hi => (h3 i hi).warm hW, va_Z.moved hW.alike (h4.kept hS.2.1), fun q hq => va_Nc.moved hW.alike (h5 q hq)⟩
theorem KX.blind {G : Gt} {U : State} (h : KX G U U.heap) (g : JFrame) (mk : MethodId) (a : Array Value) : KX G (U.calling g mk a) (U.calling g mk a).heap := by
  obtain ⟨h1, h2, h3, h4, h5⟩ := h
  exact ⟨va_K.moved (u := U) (U := U.calling g mk a) (Vm.Alike.refl U.vm) h1, vk_S.moved (u := U) (U := U.calling g mk a) (Vm.Alike.refl U.vm) h2, fun i hi => (h3 i hi).same rfl, va_Z.moved (u := U) (U := U.calling g mk a) (Vm.Alike.refl U.vm) h4, fun q hq => va_Nc.moved (u := U) (U := U.calling g mk a) (Vm.Alike.refl U.vm) (h5 q hq)⟩
/-- a method's start -/
def WU (G : Gt) (σ : Sg) (U : State) : Prop := KX G U U.heap ∧ va_P G.2.1 vwCl (wl G σ) U.heap ∧ va_D (aG G) (wl G σ) ∧ G.2.2.2.1 ≤ U.heap.size
/-- within a method that began at s -/
def Wd (G : Gt) (s : State) (σ : Sg) (H : Heap) (locs : List Loc) : Prop := KX G s s.heap ∧ va_P G.2.1 vwCl (wl G σ) H ∧ va_D (aG G) (wl G σ) ∧ va_S (aG G) s.heap H locs ∧ G.2.2.2.1 ≤ s.heap.size
theorem WU.blind {G : Gt} {σ : Sg} {U : State} (h : WU G σ U) (g : JFrame) (mk : MethodId) (a : Array Value) : WU G σ (U.calling g mk a) := ⟨h.1.blind g mk a, h.2.1, h.2.2.1, h.2.2.2⟩
theorem Wd.at {G : Gt} {s U : State} {σ : Sg} {H : Heap} {locs : List Loc} (h : Wd G s σ H locs) (hW : s.WarmedH U.vm) (hU : U.heap = H) : WU G σ U := ⟨h.1.at h.2.2.2.1 hW hU, by rw [hU]; exact h.2.1, h.2.2.1, by rw [hU]; exact Nat.le_trans h.2.2.2.2 h.2.2.2.1.1⟩
/-- the locals, all places -/
def lo_as : Nat → List (Option Value) → List (Nat × Value)
  | _, [] => []
  | i, none :: L => lo_as (i + 1) L
  | i, some v :: L => (i, v) :: lo_as (i + 1) L
theorem lo_mem : ∀ (L : List (Option Value)) (i : Nat) (q : Nat × Value), q ∈ lo_as i L ↔ ∃ k, L[k]? = some (some q.2) ∧ q.1 = i + k
  | [], i, q => by simp [lo_as]
  | none :: L, i, q => by
    rw [lo_as, lo_mem L (i + 1) q]
    constructor
    · rintro ⟨k, h1, h2⟩
      exact ⟨k + 1, by simpa using h1, by omega⟩
    · rintro ⟨k, h1, h2⟩
      cases k with
      | zero => simp at h1
      | succ k => exact ⟨k, by simpa using h1, by omega⟩
  | some v :: L, i, q => by
    rw [lo_as, List.mem_cons, lo_mem L (i + 1) q]
    constructor
    · rintro (h | ⟨k, h1, h2⟩)
      · exact ⟨0, by simp [h], by simp [h]⟩
      · exact ⟨k + 1, by simpa using h1, by omega⟩
    · rintro ⟨k, h1, h2⟩
      cases k with
      | zero =>
        refine Or.inl ?_
        simp at h1
        exact Prod.ext (by simpa using h2) h1.symm
      | succ k => exact Or.inr ⟨k, by simpa using h1, by omega⟩
def lo_has (ls : Array Slot) (nL : Nat) (L : List (Option Value)) : Prop := lv_has ls nL (lo_as 0 L)
theorem lo_at {ls : Array Slot} {nL i : Nat} {L : List (Option Value)} {v : Value} (h : lo_has ls nL L) (hk : L[i]? = some (some v)) : ls[i]? = some (.val v) := h.2.2 (i, v) ((lo_mem L 0 (i, v)).mpr ⟨i, hk, by simp⟩)
/-- no long lies astride place i -/
def lo_nl (L : List (Option Value)) : Nat → Bool
  | 0 => true
  | i + 1 => match L[i]? with
    | some (some v) => v.category == 1
    | _ => true
theorem lo_set {ls : Array Slot} {nL i : Nat} {L : List (Option Value)} {v : Value} (hno : lo_nl L i = true) (h : lv_has ls nL ((i, v) :: (lo_as 0 L).filter (fun q => !(q.1 == i) && !(q.1 + 1 == i && q.2.category == 2)))) : lo_has ls nL (L.set i (some v)) := by
  refine ⟨h.1, h.2.1, fun q hq => ?_⟩
  obtain ⟨k, h1, h2⟩ := (lo_mem _ 0 q).mp hq
  have hk : q.1 = k := by omega
  by_cases hki : k = i
  · subst hki
    have hlt : k < (L.set k (some v)).length := (List.getElem?_eq_some_iff.mp h1).1
    rw [List.getElem?_set_self (by rw [List.length_set] at hlt; exact hlt)] at h1
    have : q = (k, v) := Prod.ext hk (by simpa using h1.symm)
    exact h.2.2 q (by rw [this]; exact List.mem_cons_self)
  · rw [List.getElem?_set_ne (Ne.symm hki)] at h1
    refine h.2.2 q (List.mem_cons_of_mem _ (List.mem_filter.mpr ⟨(lo_mem L 0 q).mpr ⟨k, h1, by omega⟩, ?_⟩))
    have a1 : (q.1 == i) = false := by simp [hk, hki]
    rw [a1]
    by_cases hb : q.1 + 1 = i
    · have hcat : q.2.category = 1 := by
        rw [hk] at hb
        subst hb
        simp only [lo_nl, h1] at hno
        simpa using hno
      simp [hcat]
    · simp [hb]
theorem lo_args_has : ∀ (vs : List Value) (i : Nat) (q : Nat × Value), q ∈ lv_args i vs → q ∈ lv_args i vs := fun _ _ _ h => h
/-! ===== the walk: MW at a pc, with locals L, stack st, state σ ===== -/
abbrev Cx (p : Program) (s : State) (m : MethodId) (args : Array Value) (c : Code) (cc : ByteArray) (nL : Nat) (own : String) : Prop := CallFix p m c cc nL s args WA own
def MW (p : Program) (l : Launch) (e : Env) (R : Room) (s : State) (m : MethodId) (args : Array Value) (below : List Frame) (meth : Method) (c : Code) (Q : State → Prop) (nL : Nat) (G : Gt) (cells slots pc : Nat) (L : List (Option Value)) (st : List Value) (σ : Sg) : Prop :=
  ∀ (H : Heap) (locs : List Loc) (ls : Array Slot), Wd G s σ H locs → lo_has ls nL L → W p l e R s m args below meth c H locs cells slots Q (F0 m pc ls st)
section MWR
variable {p : Program} {l : Launch} {e : Env} {R : Room} {s : State} {m : MethodId} {args : Array Value} {below : List Frame} {meth : Method} {c : Code} {cells slots : Nat} {Q : State → Prop} {cc : ByteArray} {nL : Nat} {own : String} {G : Gt} {σ : Sg} {pc : Nat} {L : List (Option Value)} {st : List Value}
theorem m_iconst (C : Cx p s m args c cc nL own) {n : Int} {v : Int32} (d : decode cc pc = .ok (.iconst n, 1)) (hv : Int32.ofInt n = v) (k : MW p l e R s m args below meth c Q nL G cells slots (pc + 1) L (.int v :: st) σ) : MW p l e R s m args below meth c Q nL G cells slots pc L st σ := fun H locs ls hw hl => lv_iconst C.1 C.2.1 d hv (k H locs ls hw hl)
theorem m_bipush (C : Cx p s m args c cc nL own) {n : Int} {v : Int32} (d : decode cc pc = .ok (.bipush n, 2)) (hv : (Int8.ofInt n).toInt32 = v) (k : MW p l e R s m args below meth c Q nL G cells slots (pc + 2) L (.int v :: st) σ) : MW p l e R s m args below meth c Q nL G cells slots pc L st σ := fun H locs ls hw hl => lv_bipush C.1 C.2.1 d hv (k H locs ls hw hl)
theorem m_sipush (C : Cx p s m args c cc nL own) {n : Int} {v : Int32} (d : decode cc pc = .ok (.sipush n, 3)) (hv : (Int16.ofInt n).toInt32 = v) (k : MW p l e R s m args below meth c Q nL G cells slots (pc + 3) L (.int v :: st) σ) : MW p l e R s m args below meth c Q nL G cells slots pc L st σ := fun H locs ls hw hl => lv_sipush C.1 C.2.1 d hv (k H locs ls hw hl)
theorem m_lconst (C : Cx p s m args c cc nL own) {n : Fin 2} {v : Int64} (d : decode cc pc = .ok (.lconst n, 1)) (hv : Int64.ofNat (n : Nat) = v) (k : MW p l e R s m args below meth c Q nL G cells slots (pc + 1) L (.long v :: st) σ) : MW p l e R s m args below meth c Q nL G cells slots pc L st σ := fun H locs ls hw hl => lv_lconst C.1 C.2.1 d hv (k H locs ls hw hl)
theorem m_ldc (C : Cx p s m args c cc nL own) {index : Nat} {v : Int32} (d : decode cc pc = .ok (.ldc index, 2)) (hq : Cond.constant own index v ∈ WA) (k : MW p l e R s m args below meth c Q nL G cells slots (pc + 2) L (.int v :: st) σ) : MW p l e R s m args below meth c Q nL G cells slots pc L st σ := fun H locs ls hw hl => lv_ldc C.1 C.2.1 C.2.2.2.1 (C.2.2.2.2 _ hq) d (k H locs ls hw hl)
theorem m_ldc2 (C : Cx p s m args c cc nL own) {index : Nat} {v : Int64} (d : decode cc pc = .ok (.ldc2_w index, 3)) (hq : Cond.constantLong own index v ∈ WA) (k : MW p l e R s m args below meth c Q nL G cells slots (pc + 3) L (.long v :: st) σ) : MW p l e R s m args below meth c Q nL G cells slots pc L st σ := fun H locs ls hw hl => lv_ldc2 C.1 C.2.1 C.2.2.2.1 (C.2.2.2.2 _ hq) d (k H locs ls hw hl)
theorem m_iload_n (C : Cx p s m args c cc nL own) {k0 : Fin 4} {i : Nat} {x : Int32} (d : decode cc pc = .ok (.iload_n k0, 1)) (hi : (k0 : Nat) = i) (hx : L[i]? = some (some (.int x))) (k : MW p l e R s m args below meth c Q nL G cells slots (pc + 1) L (.int x :: st) σ) : MW p l e R s m args below meth c Q nL G cells slots pc L st σ := fun H locs ls hw hl => lv_iload_n C.1 C.2.1 d hi (lo_at hl hx) (k H locs ls hw hl)
theorem m_iload (C : Cx p s m args c cc nL own) {i : Nat} {x : Int32} (d : decode cc pc = .ok (.iload i, 2)) (hx : L[i]? = some (some (.int x))) (k : MW p l e R s m args below meth c Q nL G cells slots (pc + 2) L (.int x :: st) σ) : MW p l e R s m args below meth c Q nL G cells slots pc L st σ := fun H locs ls hw hl => lv_iload C.1 C.2.1 d (lo_at hl hx) (k H locs ls hw hl)
theorem m_lload_n (C : Cx p s m args c cc nL own) {k0 : Fin 4} {i : Nat} {x : Int64} (d : decode cc pc = .ok (.lload_n k0, 1)) (hi : (k0 : Nat) = i) (hx : L[i]? = some (some (.long x))) (k : MW p l e R s m args below meth c Q nL G cells slots (pc + 1) L (.long x :: st) σ) : MW p l e R s m args below meth c Q nL G cells slots pc L st σ := fun H locs ls hw hl => lv_lload_n C.1 C.2.1 d hi (lo_at hl hx) (k H locs ls hw hl)
theorem m_lload (C : Cx p s m args c cc nL own) {i : Nat} {x : Int64} (d : decode cc pc = .ok (.lload i, 2)) (hx : L[i]? = some (some (.long x))) (k : MW p l e R s m args below meth c Q nL G cells slots (pc + 2) L (.long x :: st) σ) : MW p l e R s m args below meth c Q nL G cells slots pc L st σ := fun H locs ls hw hl => lv_lload C.1 C.2.1 d (lo_at hl hx) (k H locs ls hw hl)
theorem m_aload_n (C : Cx p s m args c cc nL own) {k0 : Fin 4} {i : Nat} {x : Nat} (d : decode cc pc = .ok (.aload_n k0, 1)) (hi : (k0 : Nat) = i) (hx : L[i]? = some (some (.ref x))) (k : MW p l e R s m args below meth c Q nL G cells slots (pc + 1) L (.ref x :: st) σ) : MW p l e R s m args below meth c Q nL G cells slots pc L st σ := fun H locs ls hw hl => lv_aload_n C.1 C.2.1 d hi (lo_at hl hx) (k H locs ls hw hl)
theorem m_aload (C : Cx p s m args c cc nL own) {i : Nat} {x : Nat} (d : decode cc pc = .ok (.aload i, 2)) (hx : L[i]? = some (some (.ref x))) (k : MW p l e R s m args below meth c Q nL G cells slots (pc + 2) L (.ref x :: st) σ) : MW p l e R s m args below meth c Q nL G cells slots pc L st σ := fun H locs ls hw hl => lv_aload C.1 C.2.1 d (lo_at hl hx) (k H locs ls hw hl)
theorem m_aload_nN (C : Cx p s m args c cc nL own) {k0 : Fin 4} {i : Nat} (d : decode cc pc = .ok (.aload_n k0, 1)) (hi : (k0 : Nat) = i) (hx : L[i]? = some (some .null)) (k : MW p l e R s m args below meth c Q nL G cells slots (pc + 1) L (.null :: st) σ) : MW p l e R s m args below meth c Q nL G cells slots pc L st σ := fun H locs ls hw hl => lv_aload_nN C.1 C.2.1 d hi (lo_at hl hx) (k H locs ls hw hl)
theorem m_aloadN (C : Cx p s m args c cc nL own) {i : Nat} (d : decode cc pc = .ok (.aload i, 2)) (hx : L[i]? = some (some .null)) (k : MW p l e R s m args below meth c Q nL G cells slots (pc + 2) L (.null :: st) σ) : MW p l e R s m args below meth c Q nL G cells slots pc L st σ := fun H locs ls hw hl => lv_aloadN C.1 C.2.1 d (lo_at hl hx) (k H locs ls hw hl)
theorem m_istore_n (C : Cx p s m args c cc nL own) {k0 : Fin 4} {i : Nat} {x : Int32} {L1 : List (Option Value)} (d : decode cc pc = .ok (.istore_n k0, 1)) (hi : (k0 : Nat) = i) (hn : i < nL) (hno : lo_nl L i = true) (hL : L.set i (some (.int x)) = L1) (k : MW p l e R s m args below meth c Q nL G cells slots (pc + 1) L1 st σ) : MW p l e R s m args below meth c Q nL G cells slots pc L (.int x :: st) σ := fun H locs ls hw hl => lv_istore_n C.1 C.2.1 d hi hl hn rfl (fun ls1 h1 => k H locs ls1 hw (hL ▸ lo_set hno h1))
theorem m_istore (C : Cx p s m args c cc nL own) {i : Nat} {x : Int32} {L1 : List (Option Value)} (d : decode cc pc = .ok (.istore i, 2)) (hn : i < nL) (hno : lo_nl L i = true) (hL : L.set i (some (.int x)) = L1) (k : MW p l e R s m args below meth c Q nL G cells slots (pc + 2) L1 st σ) : MW p l e R s m args below meth c Q nL G cells slots pc L (.int x :: st) σ := fun H locs ls hw hl => lv_istore C.1 C.2.1 d hl hn rfl (fun ls1 h1 => k H locs ls1 hw (hL ▸ lo_set hno h1))
theorem m_astore_n (C : Cx p s m args c cc nL own) {k0 : Fin 4} {i : Nat} {x : Nat} {L1 : List (Option Value)} (d : decode cc pc = .ok (.astore_n k0, 1)) (hi : (k0 : Nat) = i) (hn : i < nL) (hno : lo_nl L i = true) (hL : L.set i (some (.ref x)) = L1) (k : MW p l e R s m args below meth c Q nL G cells slots (pc + 1) L1 st σ) : MW p l e R s m args below meth c Q nL G cells slots pc L (.ref x :: st) σ := fun H locs ls hw hl => lv_astore_n C.1 C.2.1 d hi hl hn rfl (fun ls1 h1 => k H locs ls1 hw (hL ▸ lo_set hno h1))
theorem m_astore (C : Cx p s m args c cc nL own) {i : Nat} {x : Nat} {L1 : List (Option Value)} (d : decode cc pc = .ok (.astore i, 2)) (hn : i < nL) (hno : lo_nl L i = true) (hL : L.set i (some (.ref x)) = L1) (k : MW p l e R s m args below meth c Q nL G cells slots (pc + 2) L1 st σ) : MW p l e R s m args below meth c Q nL G cells slots pc L (.ref x :: st) σ := fun H locs ls hw hl => lv_astore C.1 C.2.1 d hl hn rfl (fun ls1 h1 => k H locs ls1 hw (hL ▸ lo_set hno h1))
theorem m_astore_nN (C : Cx p s m args c cc nL own) {k0 : Fin 4} {i : Nat} {L1 : List (Option Value)} (d : decode cc pc = .ok (.astore_n k0, 1)) (hi : (k0 : Nat) = i) (hn : i < nL) (hno : lo_nl L i = true) (hL : L.set i (some .null) = L1) (k : MW p l e R s m args below meth c Q nL G cells slots (pc + 1) L1 st σ) : MW p l e R s m args below meth c Q nL G cells slots pc L (.null :: st) σ := fun H locs ls hw hl => lv_astore_nN C.1 C.2.1 d hi hl hn rfl (fun ls1 h1 => k H locs ls1 hw (hL ▸ lo_set hno h1))
theorem m_astoreN (C : Cx p s m args c cc nL own) {i : Nat} {L1 : List (Option Value)} (d : decode cc pc = .ok (.astore i, 2)) (hn : i < nL) (hno : lo_nl L i = true) (hL : L.set i (some .null) = L1) (k : MW p l e R s m args below meth c Q nL G cells slots (pc + 2) L1 st σ) : MW p l e R s m args below meth c Q nL G cells slots pc L (.null :: st) σ := fun H locs ls hw hl => lv_astoreN C.1 C.2.1 d hl hn rfl (fun ls1 h1 => k H locs ls1 hw (hL ▸ lo_set hno h1))
theorem m_iinc (C : Cx p s m args c cc nL own) {i : Nat} {n : Int} {x v : Int32} {L1 : List (Option Value)} (d : decode cc pc = .ok (.iinc i n, 3)) (hx : L[i]? = some (some (.int x))) (hv : x + Int32.ofInt n = v) (hn : i < nL) (hno : lo_nl L i = true) (hL : L.set i (some (.int v)) = L1) (k : MW p l e R s m args below meth c Q nL G cells slots (pc + 3) L1 st σ) : MW p l e R s m args below meth c Q nL G cells slots pc L st σ := fun H locs ls hw hl => by
  obtain ⟨j, hj⟩ := List.getElem?_of_mem ((lo_mem L 0 (i, .int x)).mpr ⟨i, hx, by simp⟩)
  exact lv_iinc (k := j) C.1 C.2.1 d hl hj hv hn rfl (fun ls1 h1 => k H locs ls1 hw (hL ▸ lo_set hno h1))
theorem m_iadd (C : Cx p s m args c cc nL own) {x y : Int32} (d : decode cc pc = .ok (.iadd, 1)) (k : MW p l e R s m args below meth c Q nL G cells slots (pc + 1) L (.int (x + y) :: st) σ) : MW p l e R s m args below meth c Q nL G cells slots pc L (.int y :: .int x :: st) σ := fun H locs ls hw hl => lv_iadd C.1 C.2.1 d (k H locs ls hw hl)
theorem m_isub (C : Cx p s m args c cc nL own) {x y : Int32} (d : decode cc pc = .ok (.isub, 1)) (k : MW p l e R s m args below meth c Q nL G cells slots (pc + 1) L (.int (x - y) :: st) σ) : MW p l e R s m args below meth c Q nL G cells slots pc L (.int y :: .int x :: st) σ := fun H locs ls hw hl => lv_isub C.1 C.2.1 d (k H locs ls hw hl)
theorem m_imul (C : Cx p s m args c cc nL own) {x y : Int32} (d : decode cc pc = .ok (.imul, 1)) (k : MW p l e R s m args below meth c Q nL G cells slots (pc + 1) L (.int (x * y) :: st) σ) : MW p l e R s m args below meth c Q nL G cells slots pc L (.int y :: .int x :: st) σ := fun H locs ls hw hl => lv_imul C.1 C.2.1 d (k H locs ls hw hl)
theorem m_iand (C : Cx p s m args c cc nL own) {x y : Int32} (d : decode cc pc = .ok (.iand, 1)) (k : MW p l e R s m args below meth c Q nL G cells slots (pc + 1) L (.int (x &&& y) :: st) σ) : MW p l e R s m args below meth c Q nL G cells slots pc L (.int y :: .int x :: st) σ := fun H locs ls hw hl => lv_iand C.1 C.2.1 d (k H locs ls hw hl)
theorem m_ior (C : Cx p s m args c cc nL own) {x y : Int32} (d : decode cc pc = .ok (.ior, 1)) (k : MW p l e R s m args below meth c Q nL G cells slots (pc + 1) L (.int (x ||| y) :: st) σ) : MW p l e R s m args below meth c Q nL G cells slots pc L (.int y :: .int x :: st) σ := fun H locs ls hw hl => lv_ior C.1 C.2.1 d (k H locs ls hw hl)
theorem m_ixor (C : Cx p s m args c cc nL own) {x y : Int32} (d : decode cc pc = .ok (.ixor, 1)) (k : MW p l e R s m args below meth c Q nL G cells slots (pc + 1) L (.int (x ^^^ y) :: st) σ) : MW p l e R s m args below meth c Q nL G cells slots pc L (.int y :: .int x :: st) σ := fun H locs ls hw hl => lv_ixor C.1 C.2.1 d (k H locs ls hw hl)
theorem m_ishl (C : Cx p s m args c cc nL own) {x y : Int32} (d : decode cc pc = .ok (.ishl, 1)) (k : MW p l e R s m args below meth c Q nL G cells slots (pc + 1) L (.int (x <<< (y &&& 31)) :: st) σ) : MW p l e R s m args below meth c Q nL G cells slots pc L (.int y :: .int x :: st) σ := fun H locs ls hw hl => lv_ishl C.1 C.2.1 d (k H locs ls hw hl)
theorem m_ishr (C : Cx p s m args c cc nL own) {x y : Int32} (d : decode cc pc = .ok (.ishr, 1)) (k : MW p l e R s m args below meth c Q nL G cells slots (pc + 1) L (.int (x >>> (y &&& 31)) :: st) σ) : MW p l e R s m args below meth c Q nL G cells slots pc L (.int y :: .int x :: st) σ := fun H locs ls hw hl => lv_ishr C.1 C.2.1 d (k H locs ls hw hl)
theorem m_ineg (C : Cx p s m args c cc nL own) {x : Int32} (d : decode cc pc = .ok (.ineg, 1)) (k : MW p l e R s m args below meth c Q nL G cells slots (pc + 1) L (.int (-x) :: st) σ) : MW p l e R s m args below meth c Q nL G cells slots pc L (.int x :: st) σ := fun H locs ls hw hl => lv_ineg C.1 C.2.1 d (k H locs ls hw hl)
theorem m_idiv (C : Cx p s m args c cc nL own) {x y : Int32} (d : decode cc pc = .ok (.idiv, 1)) (hne : ¬ y = 0) (k : MW p l e R s m args below meth c Q nL G cells slots (pc + 1) L (.int (x / y) :: st) σ) : MW p l e R s m args below meth c Q nL G cells slots pc L (.int y :: .int x :: st) σ := fun H locs ls hw hl => lv_idiv C.1 C.2.1 d hne (k H locs ls hw hl)
theorem m_irem (C : Cx p s m args c cc nL own) {x y : Int32} (d : decode cc pc = .ok (.irem, 1)) (hne : ¬ y = 0) (k : MW p l e R s m args below meth c Q nL G cells slots (pc + 1) L (.int (x - x / y * y) :: st) σ) : MW p l e R s m args below meth c Q nL G cells slots pc L (.int y :: .int x :: st) σ := fun H locs ls hw hl => lv_irem C.1 C.2.1 d hne (k H locs ls hw hl)
theorem m_iushr (C : Cx p s m args c cc nL own) {x y : Int32} (d : decode cc pc = .ok (.iushr, 1)) (k : MW p l e R s m args below meth c Q nL G cells slots (pc + 1) L (.int ((x.toUInt32 >>> (y.toUInt32 &&& Int32.toUInt32 31)).toInt32) :: st) σ) : MW p l e R s m args below meth c Q nL G cells slots pc L (.int y :: .int x :: st) σ := fun H locs ls hw hl => lv_iushr C.1 C.2.1 d rfl (k H locs ls hw hl)
theorem m_ladd (C : Cx p s m args c cc nL own) {x y : Int64} (d : decode cc pc = .ok (.ladd, 1)) (k : MW p l e R s m args below meth c Q nL G cells slots (pc + 1) L (.long (x + y) :: st) σ) : MW p l e R s m args below meth c Q nL G cells slots pc L (.long y :: .long x :: st) σ := fun H locs ls hw hl => lv_ladd C.1 C.2.1 d (k H locs ls hw hl)
theorem m_lsub (C : Cx p s m args c cc nL own) {x y : Int64} (d : decode cc pc = .ok (.lsub, 1)) (k : MW p l e R s m args below meth c Q nL G cells slots (pc + 1) L (.long (x - y) :: st) σ) : MW p l e R s m args below meth c Q nL G cells slots pc L (.long y :: .long x :: st) σ := fun H locs ls hw hl => lv_lsub C.1 C.2.1 d (k H locs ls hw hl)
theorem m_lmul (C : Cx p s m args c cc nL own) {x y : Int64} (d : decode cc pc = .ok (.lmul, 1)) (k : MW p l e R s m args below meth c Q nL G cells slots (pc + 1) L (.long (x * y) :: st) σ) : MW p l e R s m args below meth c Q nL G cells slots pc L (.long y :: .long x :: st) σ := fun H locs ls hw hl => lv_lmul C.1 C.2.1 d (k H locs ls hw hl)
theorem m_land (C : Cx p s m args c cc nL own) {x y : Int64} (d : decode cc pc = .ok (.land, 1)) (k : MW p l e R s m args below meth c Q nL G cells slots (pc + 1) L (.long (x &&& y) :: st) σ) : MW p l e R s m args below meth c Q nL G cells slots pc L (.long y :: .long x :: st) σ := fun H locs ls hw hl => lv_land C.1 C.2.1 d (k H locs ls hw hl)
theorem m_lor (C : Cx p s m args c cc nL own) {x y : Int64} (d : decode cc pc = .ok (.lor, 1)) (k : MW p l e R s m args below meth c Q nL G cells slots (pc + 1) L (.long (x ||| y) :: st) σ) : MW p l e R s m args below meth c Q nL G cells slots pc L (.long y :: .long x :: st) σ := fun H locs ls hw hl => lv_lor C.1 C.2.1 d (k H locs ls hw hl)
theorem m_lshr (C : Cx p s m args c cc nL own) {x : Int64} {y : Int32} (d : decode cc pc = .ok (.lshr, 1)) (k : MW p l e R s m args below meth c Q nL G cells slots (pc + 1) L (.long (x >>> (y.toInt64 &&& 63)) :: st) σ) : MW p l e R s m args below meth c Q nL G cells slots pc L (.int y :: .long x :: st) σ := fun H locs ls hw hl => lv_lshr C.1 C.2.1 d rfl (k H locs ls hw hl)
theorem m_i2l (C : Cx p s m args c cc nL own) {x : Int32} (d : decode cc pc = .ok (.i2l, 1)) (k : MW p l e R s m args below meth c Q nL G cells slots (pc + 1) L (.long x.toInt64 :: st) σ) : MW p l e R s m args below meth c Q nL G cells slots pc L (.int x :: st) σ := fun H locs ls hw hl => lv_i2l C.1 C.2.1 d rfl (k H locs ls hw hl)
theorem m_l2i (C : Cx p s m args c cc nL own) {x : Int64} (d : decode cc pc = .ok (.l2i, 1)) (k : MW p l e R s m args below meth c Q nL G cells slots (pc + 1) L (.int x.toInt32 :: st) σ) : MW p l e R s m args below meth c Q nL G cells slots pc L (.long x :: st) σ := fun H locs ls hw hl => lv_l2i C.1 C.2.1 d rfl (k H locs ls hw hl)
theorem m_i2b (C : Cx p s m args c cc nL own) {x : Int32} (d : decode cc pc = .ok (.i2b, 1)) (k : MW p l e R s m args below meth c Q nL G cells slots (pc + 1) L (.int x.toInt8.toInt32 :: st) σ) : MW p l e R s m args below meth c Q nL G cells slots pc L (.int x :: st) σ := fun H locs ls hw hl => lv_i2b C.1 C.2.1 d rfl (k H locs ls hw hl)
theorem m_i2s (C : Cx p s m args c cc nL own) {x : Int32} (d : decode cc pc = .ok (.i2s, 1)) (k : MW p l e R s m args below meth c Q nL G cells slots (pc + 1) L (.int x.toInt16.toInt32 :: st) σ) : MW p l e R s m args below meth c Q nL G cells slots pc L (.int x :: st) σ := fun H locs ls hw hl => lv_i2s C.1 C.2.1 d rfl (k H locs ls hw hl)
theorem m_i2c (C : Cx p s m args c cc nL own) {x : Int32} (d : decode cc pc = .ok (.i2c, 1)) (k : MW p l e R s m args below meth c Q nL G cells slots (pc + 1) L (.int (x.toUInt32 % 65536).toInt32 :: st) σ) : MW p l e R s m args below meth c Q nL G cells slots pc L (.int x :: st) σ := fun H locs ls hw hl => lv_i2c C.1 C.2.1 d rfl (k H locs ls hw hl)
theorem m_lcmp (C : Cx p s m args c cc nL own) {x y : Int64} (d : decode cc pc = .ok (.lcmp, 1)) (k : MW p l e R s m args below meth c Q nL G cells slots (pc + 1) L (.int (lg_cmp x y) :: st) σ) : MW p l e R s m args below meth c Q nL G cells slots pc L (.long y :: .long x :: st) σ := fun H locs ls hw hl => W.lcmp C.1 C.2.1 d (k H locs ls hw hl)
theorem m_dup (C : Cx p s m args c cc nL own) {v : Value} (d : decode cc pc = .ok (.dup, 1)) (hv : v.category = 1) (k : MW p l e R s m args below meth c Q nL G cells slots (pc + 1) L (v :: v :: st) σ) : MW p l e R s m args below meth c Q nL G cells slots pc L (v :: st) σ := fun H locs ls hw hl => lv_dup C.1 C.2.1 d hv (k H locs ls hw hl)
theorem m_pop (C : Cx p s m args c cc nL own) {v : Value} (d : decode cc pc = .ok (.pop, 1)) (hv : v.category = 1) (k : MW p l e R s m args below meth c Q nL G cells slots (pc + 1) L st σ) : MW p l e R s m args below meth c Q nL G cells slots pc L (v :: st) σ := fun H locs ls hw hl => lv_pop C.1 C.2.1 d hv (k H locs ls hw hl)
theorem m_dup2 (C : Cx p s m args c cc nL own) {va vb : Value} (d : decode cc pc = .ok (.dup2, 1)) (hva : va.category = 1) (hvb : vb.category = 1) (k : MW p l e R s m args below meth c Q nL G cells slots (pc + 1) L (va :: vb :: va :: vb :: st) σ) : MW p l e R s m args below meth c Q nL G cells slots pc L (va :: vb :: st) σ := fun H locs ls hw hl => lv_dup2_11 C.1 C.2.1 d hva hvb (k H locs ls hw hl)
theorem m_null (C : Cx p s m args c cc nL own)  (d : decode cc pc = .ok (.aconst_null, 1)) (k : MW p l e R s m args below meth c Q nL G cells slots (pc + 1) L (.null :: st) σ) : MW p l e R s m args below meth c Q nL G cells slots pc L st σ := fun H locs ls hw hl => lv_null C.1 C.2.1 d (k H locs ls hw hl)
theorem m_goto (C : Cx p s m args c cc nL own) {off : Int} {tgt : Nat} (d : decode cc pc = .ok (.goto off, 3)) (ht : (pc : Int) + off = (tgt : Int)) (k : MW p l e R s m args below meth c Q nL G cells slots tgt L st σ) : MW p l e R s m args below meth c Q nL G cells slots pc L st σ := fun H locs ls hw hl => lv_goto C.1 C.2.1 d ht (k H locs ls hw hl)
theorem m_ifnonnull (C : Cx p s m args c cc nL own) {x : Nat} {off : Int} {tgt : Nat} (d : decode cc pc = .ok (.ifnonnull off, 3)) (ht : (pc : Int) + off = (tgt : Int)) (k : MW p l e R s m args below meth c Q nL G cells slots tgt L st σ) : MW p l e R s m args below meth c Q nL G cells slots pc L (.ref x :: st) σ := fun H locs ls hw hl => lv_ifnonnull C.1 C.2.1 d ht (k H locs ls hw hl)
theorem m_ifnull (C : Cx p s m args c cc nL own) {x : Nat} {off : Int} (d : decode cc pc = .ok (.ifnull off, 3)) (k : MW p l e R s m args below meth c Q nL G cells slots (pc + 3) L st σ) : MW p l e R s m args below meth c Q nL G cells slots pc L (.ref x :: st) σ := fun H locs ls hw hl => lv_ifnull C.1 C.2.1 d (k H locs ls hw hl)
theorem m_ifnullN (C : Cx p s m args c cc nL own) {off : Int} {tgt : Nat} (d : decode cc pc = .ok (.ifnull off, 3)) (ht : (pc : Int) + off = (tgt : Int)) (k : MW p l e R s m args below meth c Q nL G cells slots tgt L st σ) : MW p l e R s m args below meth c Q nL G cells slots pc L (.null :: st) σ := fun H locs ls hw hl => lv_ifnullN C.1 C.2.1 d ht (k H locs ls hw hl)
theorem m_ifnonnullN (C : Cx p s m args c cc nL own) {off : Int} (d : decode cc pc = .ok (.ifnonnull off, 3)) (k : MW p l e R s m args below meth c Q nL G cells slots (pc + 3) L st σ) : MW p l e R s m args below meth c Q nL G cells slots pc L (.null :: st) σ := fun H locs ls hw hl => lv_ifnonnullN C.1 C.2.1 d (k H locs ls hw hl)
theorem m_if_eq (C : Cx p s m args c cc nL own) {x : Int32} {off : Int} {tgt : Nat} (d : decode cc pc = .ok (.ifCond .eq off, 3)) (ht : (pc : Int) + off = (tgt : Int)) (kt : x = 0 → MW p l e R s m args below meth c Q nL G cells slots tgt L st σ) (kf : ¬ x = 0 → MW p l e R s m args below meth c Q nL G cells slots (pc + 3) L st σ) : MW p l e R s m args below meth c Q nL G cells slots pc L (.int x :: st) σ := fun H locs ls hw hl => lv_if_eq C.1 C.2.1 d ht (fun q => kt q H locs ls hw hl) (fun q => kf q H locs ls hw hl)
theorem m_icmp_eq (C : Cx p s m args c cc nL own) {x y : Int32} {off : Int} {tgt : Nat} (d : decode cc pc = .ok (.if_icmp .eq off, 3)) (ht : (pc : Int) + off = (tgt : Int)) (kt : x = y → MW p l e R s m args below meth c Q nL G cells slots tgt L st σ) (kf : ¬ x = y → MW p l e R s m args below meth c Q nL G cells slots (pc + 3) L st σ) : MW p l e R s m args below meth c Q nL G cells slots pc L (.int y :: .int x :: st) σ := fun H locs ls hw hl => lv_icmp_eq C.1 C.2.1 d ht (fun q => kt q H locs ls hw hl) (fun q => kf q H locs ls hw hl)
theorem m_if_ne (C : Cx p s m args c cc nL own) {x : Int32} {off : Int} {tgt : Nat} (d : decode cc pc = .ok (.ifCond .ne off, 3)) (ht : (pc : Int) + off = (tgt : Int)) (kt : ¬ x = 0 → MW p l e R s m args below meth c Q nL G cells slots tgt L st σ) (kf : x = 0 → MW p l e R s m args below meth c Q nL G cells slots (pc + 3) L st σ) : MW p l e R s m args below meth c Q nL G cells slots pc L (.int x :: st) σ := fun H locs ls hw hl => lv_if_ne C.1 C.2.1 d ht (fun q => kt q H locs ls hw hl) (fun q => kf q H locs ls hw hl)
theorem m_icmp_ne (C : Cx p s m args c cc nL own) {x y : Int32} {off : Int} {tgt : Nat} (d : decode cc pc = .ok (.if_icmp .ne off, 3)) (ht : (pc : Int) + off = (tgt : Int)) (kt : ¬ x = y → MW p l e R s m args below meth c Q nL G cells slots tgt L st σ) (kf : x = y → MW p l e R s m args below meth c Q nL G cells slots (pc + 3) L st σ) : MW p l e R s m args below meth c Q nL G cells slots pc L (.int y :: .int x :: st) σ := fun H locs ls hw hl => lv_icmp_ne C.1 C.2.1 d ht (fun q => kt q H locs ls hw hl) (fun q => kf q H locs ls hw hl)
theorem m_if_lt (C : Cx p s m args c cc nL own) {x : Int32} {off : Int} {tgt : Nat} (d : decode cc pc = .ok (.ifCond .lt off, 3)) (ht : (pc : Int) + off = (tgt : Int)) (kt : x < 0 → MW p l e R s m args below meth c Q nL G cells slots tgt L st σ) (kf : ¬ x < 0 → MW p l e R s m args below meth c Q nL G cells slots (pc + 3) L st σ) : MW p l e R s m args below meth c Q nL G cells slots pc L (.int x :: st) σ := fun H locs ls hw hl => lv_if_lt C.1 C.2.1 d ht (fun q => kt q H locs ls hw hl) (fun q => kf q H locs ls hw hl)
theorem m_icmp_lt (C : Cx p s m args c cc nL own) {x y : Int32} {off : Int} {tgt : Nat} (d : decode cc pc = .ok (.if_icmp .lt off, 3)) (ht : (pc : Int) + off = (tgt : Int)) (kt : x < y → MW p l e R s m args below meth c Q nL G cells slots tgt L st σ) (kf : ¬ x < y → MW p l e R s m args below meth c Q nL G cells slots (pc + 3) L st σ) : MW p l e R s m args below meth c Q nL G cells slots pc L (.int y :: .int x :: st) σ := fun H locs ls hw hl => lv_icmp_lt C.1 C.2.1 d ht (fun q => kt q H locs ls hw hl) (fun q => kf q H locs ls hw hl)
theorem m_if_ge (C : Cx p s m args c cc nL own) {x : Int32} {off : Int} {tgt : Nat} (d : decode cc pc = .ok (.ifCond .ge off, 3)) (ht : (pc : Int) + off = (tgt : Int)) (kt : 0 ≤ x → MW p l e R s m args below meth c Q nL G cells slots tgt L st σ) (kf : ¬ 0 ≤ x → MW p l e R s m args below meth c Q nL G cells slots (pc + 3) L st σ) : MW p l e R s m args below meth c Q nL G cells slots pc L (.int x :: st) σ := fun H locs ls hw hl => lv_if_ge C.1 C.2.1 d ht (fun q => kt q H locs ls hw hl) (fun q => kf q H locs ls hw hl)
theorem m_icmp_ge (C : Cx p s m args c cc nL own) {x y : Int32} {off : Int} {tgt : Nat} (d : decode cc pc = .ok (.if_icmp .ge off, 3)) (ht : (pc : Int) + off = (tgt : Int)) (kt : y ≤ x → MW p l e R s m args below meth c Q nL G cells slots tgt L st σ) (kf : ¬ y ≤ x → MW p l e R s m args below meth c Q nL G cells slots (pc + 3) L st σ) : MW p l e R s m args below meth c Q nL G cells slots pc L (.int y :: .int x :: st) σ := fun H locs ls hw hl => lv_icmp_ge C.1 C.2.1 d ht (fun q => kt q H locs ls hw hl) (fun q => kf q H locs ls hw hl)
theorem m_if_gt (C : Cx p s m args c cc nL own) {x : Int32} {off : Int} {tgt : Nat} (d : decode cc pc = .ok (.ifCond .gt off, 3)) (ht : (pc : Int) + off = (tgt : Int)) (kt : 0 < x → MW p l e R s m args below meth c Q nL G cells slots tgt L st σ) (kf : ¬ 0 < x → MW p l e R s m args below meth c Q nL G cells slots (pc + 3) L st σ) : MW p l e R s m args below meth c Q nL G cells slots pc L (.int x :: st) σ := fun H locs ls hw hl => lv_if_gt C.1 C.2.1 d ht (fun q => kt q H locs ls hw hl) (fun q => kf q H locs ls hw hl)
theorem m_icmp_gt (C : Cx p s m args c cc nL own) {x y : Int32} {off : Int} {tgt : Nat} (d : decode cc pc = .ok (.if_icmp .gt off, 3)) (ht : (pc : Int) + off = (tgt : Int)) (kt : y < x → MW p l e R s m args below meth c Q nL G cells slots tgt L st σ) (kf : ¬ y < x → MW p l e R s m args below meth c Q nL G cells slots (pc + 3) L st σ) : MW p l e R s m args below meth c Q nL G cells slots pc L (.int y :: .int x :: st) σ := fun H locs ls hw hl => lv_icmp_gt C.1 C.2.1 d ht (fun q => kt q H locs ls hw hl) (fun q => kf q H locs ls hw hl)
theorem m_if_le (C : Cx p s m args c cc nL own) {x : Int32} {off : Int} {tgt : Nat} (d : decode cc pc = .ok (.ifCond .le off, 3)) (ht : (pc : Int) + off = (tgt : Int)) (kt : x ≤ 0 → MW p l e R s m args below meth c Q nL G cells slots tgt L st σ) (kf : ¬ x ≤ 0 → MW p l e R s m args below meth c Q nL G cells slots (pc + 3) L st σ) : MW p l e R s m args below meth c Q nL G cells slots pc L (.int x :: st) σ := fun H locs ls hw hl => lv_if_le C.1 C.2.1 d ht (fun q => kt q H locs ls hw hl) (fun q => kf q H locs ls hw hl)
theorem m_icmp_le (C : Cx p s m args c cc nL own) {x y : Int32} {off : Int} {tgt : Nat} (d : decode cc pc = .ok (.if_icmp .le off, 3)) (ht : (pc : Int) + off = (tgt : Int)) (kt : x ≤ y → MW p l e R s m args below meth c Q nL G cells slots tgt L st σ) (kf : ¬ x ≤ y → MW p l e R s m args below meth c Q nL G cells slots (pc + 3) L st σ) : MW p l e R s m args below meth c Q nL G cells slots pc L (.int y :: .int x :: st) σ := fun H locs ls hw hl => lv_icmp_le C.1 C.2.1 d ht (fun q => kt q H locs ls hw hl) (fun q => kf q H locs ls hw hl)
theorem m_tableOut (C : Cx p s m args c cc nL own) {dflt lo hi : Int} {offs : Array Int} {len : Nat} {x : Int32} {tgt : Nat} (d : decode cc pc = .ok (.tableswitch dflt lo hi offs, len)) (h : x.toInt < lo ∨ hi < x.toInt) (ht : (pc : Int) + dflt = (tgt : Int)) (k : MW p l e R s m args below meth c Q nL G cells slots tgt L st σ) : MW p l e R s m args below meth c Q nL G cells slots pc L (.int x :: st) σ := fun H locs ls hw hl => lv_tableOut C.1 C.2.1 d h ht (k H locs ls hw hl)
theorem m_tableIn (C : Cx p s m args c cc nL own) {dflt lo hi : Int} {offs : Array Int} {len : Nat} {x : Int32} {off : Int} {tgt : Nat} (d : decode cc pc = .ok (.tableswitch dflt lo hi offs, len)) (h1 : ¬ x.toInt < lo) (h2 : ¬ hi < x.toInt) (ho : offs[(x.toInt - lo).toNat]? = some off) (ht : (pc : Int) + off = (tgt : Int)) (k : MW p l e R s m args below meth c Q nL G cells slots tgt L st σ) : MW p l e R s m args below meth c Q nL G cells slots pc L (.int x :: st) σ := fun H locs ls hw hl => lv_tableIn C.1 C.2.1 d h1 h2 ho ht (k H locs ls hw hl)
theorem m_lookup (C : Cx p s m args c cc nL own) {dflt : Int} {ps : Array (Int × Int)} {len : Nat} {x : Int32} {off : Int} {tgt : Nat} (d : decode cc pc = .ok (.lookupswitch dflt ps, len)) (hp : (ps.toList.zip (ps.toList.drop 1)).all (fun (a, next) => a.1 < next.1) = true) (ho : Op.lookupswitch.offset ps.toList dflt x.toInt = off) (ht : (pc : Int) + off = (tgt : Int)) (k : MW p l e R s m args below meth c Q nL G cells slots tgt L st σ) : MW p l e R s m args below meth c Q nL G cells slots pc L (.int x :: st) σ := fun H locs ls hw hl => lv_lookup C.1 C.2.1 d hp ho ht (k H locs ls hw hl)
/-- a computed number gets a name -/
theorem m_topi {x : Int32} (k : ∀ y : Int32, y = x → MW p l e R s m args below meth c Q nL G cells slots pc L (.int y :: st) σ) : MW p l e R s m args below meth c Q nL G cells slots pc L (.int x :: st) σ := k x rfl
theorem m_topl {x : Int64} (k : ∀ y : Int64, y = x → MW p l e R s m args below meth c Q nL G cells slots pc L (.long y :: st) σ) : MW p l e R s m args below meth c Q nL G cells slots pc L (.long x :: st) σ := k x rfl
theorem m_stk {v v2 : Value} (h : v = v2) (k : MW p l e R s m args below meth c Q nL G cells slots pc L (v2 :: st) σ) : MW p l e R s m args below meth c Q nL G cells slots pc L (v :: st) σ := h ▸ k
theorem m_get (C : Cx p s m args c cc nL own) {t j : Nat} (ht : t < 32) (hj : j < nj t) {ci : Nat} {fs : List Value} (hce : ce G σ t j = .inr (ci, fs)) {C1 : String} {T : u_T} {N : Nat} (hc : vwCl[ci]? = some (C1, T, N)) (hin : ∀ w ∈ u_ws C1 T N, w ∈ WA) (k : Nat) (hk : k < N) {v : Value} (hv : fs[k]? = some v) {index : Nat} (hq : Cond.fieldLink own index (T k).1 (T k).2.1 (T k).2.2.1 ∈ WA) (d : decode cc pc = .ok (.getfield index, 3))
    (kk : MW p l e R s m args below meth c Q nL G cells slots (pc + 3) L (v :: st) σ) : MW p l e R s m args below meth c Q nL G cells slots pc L (.ref (G.1 t j) :: st) σ := fun H locs ls hw hl => by
  obtain ⟨q0, h0, -⟩ := wl_at G σ ht hj
  rw [hce] at h0
  exact va_get (ref := (T k).1) C.1 C.2.1 C.2.2.2.2 hin C.2.2.2.1 hw.1.1 hw.2.1 q0 h0 hc k hk (C.2.2.2.2 _ hq) (fun _ h => h) hv d (kk H locs ls hw hl)
theorem m_put (C : Cx p s m args c cc nL own) {t j : Nat} (ht : t < 32) (hj : j < nj t) {ci : Nat} {fs : List Value} (hce : ce G σ t j = .inr (ci, fs)) {C1 : String} {T : u_T} {N : Nat} (hc : vwCl[ci]? = some (C1, T, N)) (hin : ∀ w ∈ u_ws C1 T N, w ∈ WA) (ty0 : Nat → FieldType) (hty : ∀ k, k < N → parseFieldDescriptor (T k).2.2.1 = some (ty0 k)) (hnm : ∀ a, a < N → ∀ b, b < N → a ≠ b → (T a).2.1 ≠ (T b).2.1) (k : Nat) (hk : k < N) (hkl : k < fs.length) (hfin : (T k).2.2.2 = false) (hd : parseFieldDescriptor (T k).2.2.1 = some .int) {index : Nat} (hq : Cond.fieldLink own index (T k).1 (T k).2.1 (T k).2.2.1 ∈ WA) {v : Int32} (hset : Sum.inr (ci, fs.set k (.int v)) = ceF G σ.2 t j (upd (σ.1 t j) k v)) (d : decode cc pc = .ok (.putfield index, 3))
    (kk : MW p l e R s m args below meth c Q nL G cells slots (pc + 3) L st (sV σ t j k v)) : MW p l e R s m args below meth c Q nL G cells slots pc L (.int v :: .ref (G.1 t j) :: st) σ := fun H locs ls hw hl => by
  obtain ⟨q0, h0, hi0⟩ := wl_at G σ ht hj
  have h1 := h0
  rw [hce] at h1
  refine va_put (ref := (T k).1) (ty := .int) C.1 C.2.1 C.2.2.2.2 hin ty0 hty hnm C.2.2.2.1 hw.1.1 hw.2.1 hw.2.2.1 hw.2.2.2.1 q0 h1 hc k hk (C.2.2.2.2 _ hq) (fun _ h => h) hfin hd rfl rfl hkl d (fun H1 locs1 hP hD hS => ?_)
  have e := wl_set (σ' := sV σ t j k v) (e := Sum.inr (ci, fs.set k (.int v))) hw.2.2.1 h0 hi0 rfl (hset.trans ce_self.symm) ce_other
  rw [e] at hP hD
  exact kk H1 locs1 ls ⟨hw.1, hP, hD, hS, hw.2.2.2.2⟩ hl
theorem ivIn {x : Int32} {n : Nat} (h : 0 ≤ x.toInt ∧ x.toInt < n) : vp_in x n := vp_in_iff.mpr h
theorem m_iald (C : Cx p s m args c cc nL own) {t j n : Nat} (ht : t < 32) (hj : j < nj t) (hce : ce G σ t j = .inl (G.2.2.1 0, n, .inl (σ.1 t j))) {i : Int32} (hin : 0 ≤ i.toInt ∧ i.toInt < n) (d : decode cc pc = .ok (.iaload, 1))
    (kk : MW p l e R s m args below meth c Q nL G cells slots (pc + 1) L (.int (gV σ t j i.toInt.toNat) :: st) σ) : MW p l e R s m args below meth c Q nL G cells slots pc L (.int i :: .ref (G.1 t j) :: st) σ := fun H locs ls hw hl => by
  obtain ⟨q0, h0, -⟩ := wl_at G σ ht hj
  rw [hce] at h0
  exact va_iald C.1 C.2.1 hw.1.1 hw.2.1 q0 0 h0 rfl (ivIn hin) d (kk H locs ls hw hl)
theorem m_iast (C : Cx p s m args c cc nL own) {t j n : Nat} (ht : t < 32) (hj : j < nj t) (hce : ∀ τ : Sg, ce G τ t j = .inl (G.2.2.1 0, n, .inl (τ.1 t j))) {i v : Int32} (hin : 0 ≤ i.toInt ∧ i.toInt < n) (d : decode cc pc = .ok (.iastore, 1))
    (kk : MW p l e R s m args below meth c Q nL G cells slots (pc + 1) L st (sV σ t j i.toInt.toNat v)) : MW p l e R s m args below meth c Q nL G cells slots pc L (.int v :: .int i :: .ref (G.1 t j) :: st) σ := fun H locs ls hw hl => by
  obtain ⟨q0, h0, hi0⟩ := wl_at G σ ht hj
  have h1 := h0
  rw [hce] at h1
  refine va_iast C.1 C.2.1 hw.1.1 hw.2.1 hw.2.2.1 hw.2.2.2.1 q0 0 h1 rfl (ivIn hin) d (fun H1 locs1 hP hD hS => ?_)
  have e := wl_set (σ' := sV σ t j i.toInt.toNat v) (e := Sum.inl (G.2.2.1 0, n, .inl (upd (σ.1 t j) i.toInt.toNat v))) hw.2.2.1 h0 hi0 rfl (by rw [hce, sV_row]) ce_other
  exact kk H1 locs1 ls ⟨hw.1, by rw [← e]; exact hP, by rw [← e]; exact hD, hS, hw.2.2.2.2⟩ hl
theorem m_bald (C : Cx p s m args c cc nL own) {t j n : Nat} (ht : t < 32) (hj : j < nj t) (hce : ce G σ t j = .inl (G.2.2.1 1, n, .inl (σ.1 t j))) {i : Int32} (hin : 0 ≤ i.toInt ∧ i.toInt < n) (d : decode cc pc = .ok (.baload, 1))
    (kk : MW p l e R s m args below meth c Q nL G cells slots (pc + 1) L (.int (gV σ t j i.toInt.toNat) :: st) σ) : MW p l e R s m args below meth c Q nL G cells slots pc L (.int i :: .ref (G.1 t j) :: st) σ := fun H locs ls hw hl => by
  obtain ⟨q0, h0, -⟩ := wl_at G σ ht hj
  rw [hce] at h0
  exact va_bald C.1 C.2.1 hw.1.1 hw.2.1 q0 1 h0 rfl (ivIn hin) d (kk H locs ls hw hl)
theorem m_bast (C : Cx p s m args c cc nL own) {t j n : Nat} (ht : t < 32) (hj : j < nj t) (hce : ∀ τ : Sg, ce G τ t j = .inl (G.2.2.1 1, n, .inl (τ.1 t j))) {i v : Int32} (hin : 0 ≤ i.toInt ∧ i.toInt < n) (d : decode cc pc = .ok (.bastore, 1))
    (kk : MW p l e R s m args below meth c Q nL G cells slots (pc + 1) L st (sV σ t j i.toInt.toNat (vp_nar .byte v))) : MW p l e R s m args below meth c Q nL G cells slots pc L (.int v :: .int i :: .ref (G.1 t j) :: st) σ := fun H locs ls hw hl => by
  obtain ⟨q0, h0, hi0⟩ := wl_at G σ ht hj
  have h1 := h0
  rw [hce] at h1
  refine va_bast C.1 C.2.1 hw.1.1 hw.2.1 hw.2.2.1 hw.2.2.2.1 q0 1 h1 rfl (ivIn hin) d (fun H1 locs1 hP hD hS => ?_)
  have e := wl_set (σ' := sV σ t j i.toInt.toNat (vp_nar .byte v)) (e := Sum.inl (G.2.2.1 1, n, .inl (upd (σ.1 t j) i.toInt.toNat (vp_nar .byte v)))) hw.2.2.1 h0 hi0 rfl (by rw [hce, sV_row]) ce_other
  exact kk H1 locs1 ls ⟨hw.1, by rw [← e]; exact hP, by rw [← e]; exact hD, hS, hw.2.2.2.2⟩ hl
theorem m_zald (C : Cx p s m args c cc nL own) {t j n : Nat} (ht : t < 32) (hj : j < nj t) (hce : ce G σ t j = .inl (G.2.2.1 2, n, .inl (σ.1 t j))) {i : Int32} (hin : 0 ≤ i.toInt ∧ i.toInt < n) (d : decode cc pc = .ok (.baload, 1))
    (kk : MW p l e R s m args below meth c Q nL G cells slots (pc + 1) L (.int (gV σ t j i.toInt.toNat) :: st) σ) : MW p l e R s m args below meth c Q nL G cells slots pc L (.int i :: .ref (G.1 t j) :: st) σ := fun H locs ls hw hl => by
  obtain ⟨q0, h0, -⟩ := wl_at G σ ht hj
  rw [hce] at h0
  exact va_zald C.1 C.2.1 hw.1.1 hw.2.1 q0 2 h0 rfl (ivIn hin) d (kk H locs ls hw hl)
theorem m_zast (C : Cx p s m args c cc nL own) {t j n : Nat} (ht : t < 32) (hj : j < nj t) (hce : ∀ τ : Sg, ce G τ t j = .inl (G.2.2.1 2, n, .inl (τ.1 t j))) {i v : Int32} (hin : 0 ≤ i.toInt ∧ i.toInt < n) (d : decode cc pc = .ok (.bastore, 1))
    (kk : MW p l e R s m args below meth c Q nL G cells slots (pc + 1) L st (sV σ t j i.toInt.toNat (vp_nar .boolean v))) : MW p l e R s m args below meth c Q nL G cells slots pc L (.int v :: .int i :: .ref (G.1 t j) :: st) σ := fun H locs ls hw hl => by
  obtain ⟨q0, h0, hi0⟩ := wl_at G σ ht hj
  have h1 := h0
  rw [hce] at h1
  refine va_zast C.1 C.2.1 hw.1.1 hw.2.1 hw.2.2.1 hw.2.2.2.1 q0 2 h1 rfl (ivIn hin) d (fun H1 locs1 hP hD hS => ?_)
  have e := wl_set (σ' := sV σ t j i.toInt.toNat (vp_nar .boolean v)) (e := Sum.inl (G.2.2.1 2, n, .inl (upd (σ.1 t j) i.toInt.toNat (vp_nar .boolean v)))) hw.2.2.1 h0 hi0 rfl (by rw [hce, sV_row]) ce_other
  exact kk H1 locs1 ls ⟨hw.1, by rw [← e]; exact hP, by rw [← e]; exact hD, hS, hw.2.2.2.2⟩ hl
/-- the contract of a method: from state σ, with these arguments; what it answers and the state behind it -/
def QP (G : Gt) (Post : Option Value → Sg → Prop) : Array Value → State → Outcome → State → Prop := fun _ st oc t => (∃ (r : Option Value) (τ : Sg), oc = .returned r ∧ Post r τ ∧ va_P G.2.1 vwCl (wl G τ) t.heap ∧ va_D (aG G) (wl G τ)) ∧ va_F (aG G) st t
def Mc (l : Launch) (G : Gt) (y : MethodName) (bytes : ByteArray) (maxL : Nat) (ret : Option FieldType) (fr lo mc ms : Nat) (av : List Value) (σ : Sg) (Post : Option Value → Sg → Prop) : Prop :=
  Met l y (Cond.code y bytes maxL ret :: WA) { frames := fr, cells := mc, slots := ms, locals := lo } (va_Pc av (WU G σ)) (QP G Post) mc ms (aG G)
theorem Mc.of {y : MethodName} {maxL fr lo mc ms : Nat} {ret : Option FieldType} {av : List Value} {Post : Option Value → Sg → Prop} {L0 : List (Option Value)} (hy : plainName y.cls = true) (hlen : (lg_sl av).length ≤ maxL) (hL : lo_as 0 L0 = lv_args 0 av)
    (body : ∀ (p : Program) (e : Env) (s : State) (m : MethodId) (args : Array Value) (below : List Frame) (meth : Method) (c : Code), Cx p s m args c cc maxL y.cls → meth.sig.returnType = ret → meth.locks = false → MW p l e { frames := fr, cells := mc, slots := ms, locals := lo } s m args below meth c (MQ below (QP G Post) args s mc ms (aG G)) maxL G 0 0 0 L0 [] σ) : Mc l G y cc maxL ret fr lo mc ms av σ Post := by
  refine Met.ofW (cc := cc) (maxL := maxL) (ret := ret) hy rfl ?_
  intro p e s m args below meth c s₁ B hml hv
  obtain ⟨rfl, hU⟩ := hv
  have hts := atoms_spec (ws := Cond.code y cc maxL ret :: WA) B.pre
  have hown : s.vm.findClass y.cls = some m.cls := findClass_of_methodNamed B.named
  have hb := body p e s m av.toArray below meth c ⟨B.exec, B.bytes, hml, hown, fun w hw => hts w (List.mem_cons_of_mem _ hw)⟩ B.returns B.notSynchronized
  have hl := lv_entry av hlen
  rw [lg_entry_eq]
  exact hb s.heap [] _ ⟨hU.1, hU.2.1, hU.2.2.1, va_S.rf, hU.2.2.2⟩ (by rw [lo_has, hL]; exact hl)
theorem m_iret (C : Cx p s m args c cc nL own) {Post : Option Value → Sg → Prop} {mc ms : Nat} {v : Int32} (hr : meth.sig.returnType = some .int) (hlk : meth.locks = false) (hc : cells ≤ mc) (hs : slots ≤ ms) (d : decode cc pc = .ok (.ireturn, 1)) (hp : Post (some (.int v)) σ) : MW p l e R s m args below meth c (MQ below (QP G Post) args s mc ms (aG G)) nL G cells slots pc L [.int v] σ := fun H locs ls hw hl => by
  refine W.widen hc hs ?_
  exact W.iret C.1 C.2.1 hr (fun t ht hW => ⟨⟨_, σ, rfl, hp, by rw [ht]; exact hw.2.1, hw.2.2.1⟩, hw.2.2.2.1.F ht⟩) hw.2.2.2.1.2.2 d hlk
theorem m_vret (C : Cx p s m args c cc nL own) {Post : Option Value → Sg → Prop} {mc ms : Nat} (hr : meth.sig.returnType = none) (hlk : meth.locks = false) (hc : cells ≤ mc) (hs : slots ≤ ms) (d : decode cc pc = .ok (.return_, 1)) (hp : Post none σ) : MW p l e R s m args below meth c (MQ below (QP G Post) args s mc ms (aG G)) nL G cells slots pc L [] σ := fun H locs ls hw hl => by
  refine W.widen hc hs ?_
  exact W.vret C.1 C.2.1 hr (fun t ht hW => ⟨⟨_, σ, rfl, hp, by rw [ht]; exact hw.2.1, hw.2.2.1⟩, hw.2.2.2.1.F ht⟩) hw.2.2.2.1.2.2 d hlk
theorem m_zret (C : Cx p s m args c cc nL own) {Post : Option Value → Sg → Prop} {mc ms : Nat} {v : Int32} {ty : FieldType} (hr : meth.sig.returnType = some ty) (hn : narrow ty (.int v) = .int v) (hlk : meth.locks = false) (hc : cells ≤ mc) (hs : slots ≤ ms) (d : decode cc pc = .ok (.ireturn, 1)) (hp : Post (some (.int v)) σ) : MW p l e R s m args below meth c (MQ below (QP G Post) args s mc ms (aG G)) nL G cells slots pc L [.int v] σ := fun H locs ls hw hl => by
  refine W.widen hc hs ?_
  exact W.zret C.1 C.2.1 hr hn (fun t ht hW => ⟨⟨_, σ, rfl, hp, by rw [ht]; exact hw.2.1, hw.2.2.1⟩, hw.2.2.2.1.F ht⟩) hw.2.2.2.1.2.2 d hlk
theorem m_aret (C : Cx p s m args c cc nL own) {Post : Option Value → Sg → Prop} {mc ms : Nat} {v : Value} {nm : String} (hr : meth.sig.returnType = some (.object nm)) (hv : v = .null ∨ ∃ a, v = .ref a) (hlk : meth.locks = false) (hc : cells ≤ mc) (hs : slots ≤ ms) (d : decode cc pc = .ok (.areturn, 1)) (hp : Post (some v) σ) : MW p l e R s m args below meth c (MQ below (QP G Post) args s mc ms (aG G)) nL G cells slots pc L [v] σ := fun H locs ls hw hl => by
  refine W.widen hc hs ?_
  exact W.aret C.1 C.2.1 hr (Or.inl ⟨nm, rfl⟩) hv (fun t ht hW => ⟨⟨_, σ, rfl, hp, by rw [ht]; exact hw.2.1, hw.2.2.1⟩, hw.2.2.2.1.F ht⟩) hw.2.2.2.1.2.2 d hlk
theorem wa_goodIn (y : MethodName) (bytes : ByteArray) (maxL : Nat) (ret : Option FieldType) (h : Cond.code y bytes maxL ret ∈ WA) : GoodIn WA (Cond.code y bytes maxL ret :: WA) := fun w hw => (List.mem_cons.mp hw).elim (fun e => ⟨e ▸ h, good_of_word (List.mem_filter.mp (e ▸ h : w ∈ WA)).2⟩) (fun h2 => ⟨h2, good_of_word (List.mem_filter.mp h2).2⟩)
theorem m_run (C : Cx p s m args c cc nL own) {Post : Option Value → Sg → Prop} {mc ms : Nat} {a : Array Value} {st0 rest : List Value} (hrun : ∀ (H : Heap) (locs : List Loc) (ls : Array Slot), Wd G s σ H locs → lo_has ls nL L → va_Run p l e R s m args below meth c H locs cells slots mc ms (F0 m pc ls st0) rest (QP G Post a) (aG G))
    (kk : ∀ (r : Option Value) (τ : Sg), Post r τ → MW p l e R s m args below meth c Q nL G (cells + mc) (slots + ms) (pc + 3) L (r.toList ++ rest) τ) : MW p l e R s m args below meth c Q nL G cells slots pc L st0 σ := fun H locs ls hw hl => by
  intro T hT X
  obtain ⟨v, st₀, t, T', L1, h0, X', hL, e1, e2, ⟨⟨r, τ, hv, hp, hP, hD⟩, hz, hk⟩, stp⟩ := hrun H locs ls hw hl T hT X
  cases hv
  rw [h0] at hz hk
  have hS := hw.2.2.2.1
  obtain ⟨t2, a1, b1⟩ := kk v τ hp T'.heap (locs ++ L1) ls ⟨hw.1, by rw [e1]; exact hP, hD, ⟨Nat.le_trans hS.1 (by rw [e1]; exact hz), fun q h1 h2 => by rw [e1, hk q (Nat.lt_of_lt_of_le h1 hS.1) h2]; exact hS.2.1 q h1 h2, fun q hq => by
      rcases List.mem_append.mp hq with h | h
      · exact hS.2.2 q h
      · exact hL q h⟩, hw.2.2.2.2⟩ hl T' rfl X'
  exact ⟨t2, stp t2 a1, b1⟩
theorem m_callV (C : Cx p s m args c cc nL own) {y : MethodName} {bytes : ByteArray} {maxL fr lo mc ms n index : Nat} {ret : Option FieldType} {As : List Value} {t j ci : Nat} {fs : List Value} {r0 : vw_C} {Post : Option Value → Sg → Prop} (hM : Mc l G y bytes maxL ret fr lo mc ms (.ref (G.1 t j) :: As) σ Post)
    (ht : t < 32) (hj : j < nj t) (hce : ce G σ t j = .inr (ci, fs)) (hc : vwCl[ci]? = some r0) (hy : y.cls = r0.1) (qc : Cond.code y bytes maxL ret ∈ WA) (ql : Cond.methodLink own index y ∈ WA) (qi : Cond.instanceMethod y ∈ WA) (qs : Cond.selects y.cls y y ∈ WA) (qn : Cond.initialized y.cls ∈ WA)
    (hd : y.cls ≠ "java/lang/invoke/MethodHandle" ∧ y.cls ≠ "java/lang/invoke/VarHandle" ∧ (parseMethodDescriptor y.desc).map (fun d => d.parameters.length) = some n) (hn : As.length = n) (hR : fr + 1 ≤ R.frames ∧ 8 + (maxL + 11) + lo ≤ R.locals) (hf : cells + mc ≤ R.cells ∧ slots + ms ≤ R.slots) {st0 : List Value} (hst : st0 = As.reverse ++ .ref (G.1 t j) :: st) (hW : (st.map fun v => v.category).sum ≤ 8) (d : decode cc pc = .ok (.invokevirtual index, 3))
    (kk : ∀ (r : Option Value) (τ : Sg), Post r τ → MW p l e R s m args below meth c Q nL G (cells + mc) (slots + ms) (pc + 3) L (r.toList ++ st) τ) : MW p l e R s m args below meth c Q nL G cells slots pc L st0 σ := by
  refine m_run C (mc := mc) (ms := ms) (rest := st) (a := (Value.ref (G.1 t j) :: As).toArray) (fun H locs ls hw hl => ?_) kk
  obtain ⟨q0, h0, -⟩ := wl_at G σ ht hj
  rw [hce] at h0
  have cb : CallB R s args own index y bytes maxL ret (Cond.code y bytes maxL ret :: WA) { frames := fr, cells := mc, slots := ms, locals := lo } mc ms n := callB_of n C.2.2.2.2 (wa_goodIn y bytes maxL ret qc) rfl rfl rfl (C.2.2.2.2 _ qn) (C.2.2.2.2 _ ql) hd hR
  exact va_runV (As := As) (rest := st) (C := y.cls) C hM ⟨cb, C.2.2.2.2 _ qi, C.2.2.2.2 _ qs⟩ ⟨fun a U g mk q => ⟨q.1, q.2.blind g mk a⟩, by rw [hy]; exact va_recv hw.1.1 hw.2.1 hc h0, fun U hU hW => ⟨rfl, hw.at hW hU⟩⟩ rfl hn hl.1 hst (lv_room hW) d hf
theorem m_callS (C : Cx p s m args c cc nL own) {y : MethodName} {bytes : ByteArray} {maxL fr lo mc ms n index : Nat} {ret : Option FieldType} {As : List Value} {Post : Option Value → Sg → Prop} (hM : Mc l G y bytes maxL ret fr lo mc ms As σ Post)
    (qc : Cond.code y bytes maxL ret ∈ WA) (ql : Cond.methodLink own index y ∈ WA) (qi : Cond.static y ∈ WA) (qn : Cond.initialized y.cls ∈ WA)
    (hd : y.cls ≠ "java/lang/invoke/MethodHandle" ∧ y.cls ≠ "java/lang/invoke/VarHandle" ∧ (parseMethodDescriptor y.desc).map (fun d => d.parameters.length) = some n) (hn : As.length = n) (hR : fr + 1 ≤ R.frames ∧ 8 + (maxL + 11) + lo ≤ R.locals) (hf : cells + mc ≤ R.cells ∧ slots + ms ≤ R.slots) {st0 : List Value} (hst : st0 = As.reverse ++ st) (hW : (st.map fun v => v.category).sum ≤ 8) (d : decode cc pc = .ok (.invokestatic index, 3))
    (kk : ∀ (r : Option Value) (τ : Sg), Post r τ → MW p l e R s m args below meth c Q nL G (cells + mc) (slots + ms) (pc + 3) L (r.toList ++ st) τ) : MW p l e R s m args below meth c Q nL G cells slots pc L st0 σ := by
  refine m_run C (mc := mc) (ms := ms) (rest := st) (a := As.toArray) (fun H locs ls hw hl => ?_) kk
  have cb : CallB R s args own index y bytes maxL ret (Cond.code y bytes maxL ret :: WA) { frames := fr, cells := mc, slots := ms, locals := lo } mc ms n := callB_of n C.2.2.2.2 (wa_goodIn y bytes maxL ret qc) rfl rfl rfl (C.2.2.2.2 _ qn) (C.2.2.2.2 _ ql) hd hR
  exact va_runS (As := As) (rest := st) C hM ⟨cb, C.2.2.2.2 _ qi⟩ ⟨fun a U g mk q => ⟨q.1, q.2.blind g mk a⟩, fun U hU hW => ⟨rfl, hw.at hW hU⟩⟩ rfl hn hl.1 hst (lv_room hW) d hf
end MWR
end
