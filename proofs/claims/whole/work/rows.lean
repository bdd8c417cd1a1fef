section
-- ===== PART A: goes FIRST, ahead of the names: the tables' words, and 'selects' of the private methods out of them =====
/-- a private method of a class that the tables say can be made, by its rows of tables_1 -/
def lw_okq (q : MethodName × Nat) : Prop := (q.1.cls ≠ "java/lang/invoke/MethodHandle" ∧ q.1.cls ≠ "java/lang/invoke/VarHandle") ∧ Cond.instantiable q.1.cls q.2 ∈ tables_1 ∧ Cond.privateMethod q.1 ∈ tables_1 ∧ Cond.instanceMethod q.1 ∈ tables_1
theorem lw_p0 : lw_okq (⟨"SeedBattle$Copy", "alliesAt", "(I[LSeedBattle$Copy;)I"⟩, 7) := ⟨⟨by decide +kernel, by decide +kernel⟩, List.mem_of_getElem? (i := 126) (by decide +kernel), List.mem_of_getElem? (i := 261) (by decide +kernel), List.mem_of_getElem? (i := 262) (by decide +kernel)⟩
theorem lw_p1 : lw_okq (⟨"SeedBattle$Copy", "isAlly", "(I)Z"⟩, 7) := ⟨⟨by decide +kernel, by decide +kernel⟩, List.mem_of_getElem? (i := 126) (by decide +kernel), List.mem_of_getElem? (i := 265) (by decide +kernel), List.mem_of_getElem? (i := 266) (by decide +kernel)⟩
theorem lw_p2 : lw_okq (⟨"SeedBattle", "unitsAreWhereReplayed", "()Z"⟩, 10) := ⟨⟨by decide +kernel, by decide +kernel⟩, List.mem_of_getElem? (i := 28) (by decide +kernel), List.mem_of_getElem? (i := 282) (by decide +kernel), List.mem_of_getElem? (i := 283) (by decide +kernel)⟩
theorem lw_p3 : lw_okq (⟨"SeedBattle$Field", "readWants", "(LSeedBattle$Orders;II)Z"⟩, 4) := ⟨⟨by decide +kernel, by decide +kernel⟩, List.mem_of_getElem? (i := 36) (by decide +kernel), List.mem_of_getElem? (i := 298) (by decide +kernel), List.mem_of_getElem? (i := 299) (by decide +kernel)⟩
theorem lw_p4 : lw_okq (⟨"SeedBattle$Field", "isMover", "(I)Z"⟩, 4) := ⟨⟨by decide +kernel, by decide +kernel⟩, List.mem_of_getElem? (i := 36) (by decide +kernel), List.mem_of_getElem? (i := 325) (by decide +kernel), List.mem_of_getElem? (i := 326) (by decide +kernel)⟩
theorem lw_p5 : lw_okq (⟨"SeedBattle$Field", "meetPairs", "()I"⟩, 4) := ⟨⟨by decide +kernel, by decide +kernel⟩, List.mem_of_getElem? (i := 36) (by decide +kernel), List.mem_of_getElem? (i := 329) (by decide +kernel), List.mem_of_getElem? (i := 330) (by decide +kernel)⟩
theorem lw_p6 : lw_okq (⟨"SeedBattle$Field", "facing", "(I)I"⟩, 4) := ⟨⟨by decide +kernel, by decide +kernel⟩, List.mem_of_getElem? (i := 36) (by decide +kernel), List.mem_of_getElem? (i := 333) (by decide +kernel), List.mem_of_getElem? (i := 334) (by decide +kernel)⟩
theorem lw_p7 : lw_okq (⟨"SeedBattle$Field", "meet", "(II)I"⟩, 4) := ⟨⟨by decide +kernel, by decide +kernel⟩, List.mem_of_getElem? (i := 36) (by decide +kernel), List.mem_of_getElem? (i := 345) (by decide +kernel), List.mem_of_getElem? (i := 346) (by decide +kernel)⟩
theorem lw_p8 : lw_okq (⟨"SeedBattle$Field", "lose", "(I)V"⟩, 4) := ⟨⟨by decide +kernel, by decide +kernel⟩, List.mem_of_getElem? (i := 36) (by decide +kernel), List.mem_of_getElem? (i := 355) (by decide +kernel), List.mem_of_getElem? (i := 356) (by decide +kernel)⟩
theorem lw_p9 : lw_okq (⟨"SeedBattle$Field", "settleCells", "()I"⟩, 4) := ⟨⟨by decide +kernel, by decide +kernel⟩, List.mem_of_getElem? (i := 36) (by decide +kernel), List.mem_of_getElem? (i := 363) (by decide +kernel), List.mem_of_getElem? (i := 364) (by decide +kernel)⟩
theorem lw_p10 : lw_okq (⟨"SeedBattle$Field", "lowestContested", "()I"⟩, 4) := ⟨⟨by decide +kernel, by decide +kernel⟩, List.mem_of_getElem? (i := 36) (by decide +kernel), List.mem_of_getElem? (i := 367) (by decide +kernel), List.mem_of_getElem? (i := 368) (by decide +kernel)⟩
theorem lw_p11 : lw_okq (⟨"SeedBattle$Field", "isContested", "(I)Z"⟩, 4) := ⟨⟨by decide +kernel, by decide +kernel⟩, List.mem_of_getElem? (i := 36) (by decide +kernel), List.mem_of_getElem? (i := 371) (by decide +kernel), List.mem_of_getElem? (i := 372) (by decide +kernel)⟩
theorem lw_p12 : lw_okq (⟨"SeedBattle$Field", "lookAt", "(I)I"⟩, 4) := ⟨⟨by decide +kernel, by decide +kernel⟩, List.mem_of_getElem? (i := 36) (by decide +kernel), List.mem_of_getElem? (i := 375) (by decide +kernel), List.mem_of_getElem? (i := 376) (by decide +kernel)⟩
theorem lw_p13 : lw_okq (⟨"SeedBattle$Field", "strongestFor", "(I)I"⟩, 4) := ⟨⟨by decide +kernel, by decide +kernel⟩, List.mem_of_getElem? (i := 36) (by decide +kernel), List.mem_of_getElem? (i := 379) (by decide +kernel), List.mem_of_getElem? (i := 380) (by decide +kernel)⟩
theorem lw_p14 : lw_okq (⟨"SeedBattle$Field", "firstMover", "(II)I"⟩, 4) := ⟨⟨by decide +kernel, by decide +kernel⟩, List.mem_of_getElem? (i := 36) (by decide +kernel), List.mem_of_getElem? (i := 384) (by decide +kernel), List.mem_of_getElem? (i := 385) (by decide +kernel)⟩
theorem lw_p15 : lw_okq (⟨"SeedBattle$Field", "turnBack", "(II)V"⟩, 4) := ⟨⟨by decide +kernel, by decide +kernel⟩, List.mem_of_getElem? (i := 36) (by decide +kernel), List.mem_of_getElem? (i := 388) (by decide +kernel), List.mem_of_getElem? (i := 389) (by decide +kernel)⟩
def lw_privs_1 : List (MethodName × Nat) := [(⟨"SeedBattle$Copy", "alliesAt", "(I[LSeedBattle$Copy;)I"⟩, 7), (⟨"SeedBattle$Copy", "isAlly", "(I)Z"⟩, 7), (⟨"SeedBattle", "unitsAreWhereReplayed", "()Z"⟩, 10), (⟨"SeedBattle$Field", "readWants", "(LSeedBattle$Orders;II)Z"⟩, 4), (⟨"SeedBattle$Field", "isMover", "(I)Z"⟩, 4), (⟨"SeedBattle$Field", "meetPairs", "()I"⟩, 4), (⟨"SeedBattle$Field", "facing", "(I)I"⟩, 4), (⟨"SeedBattle$Field", "meet", "(II)I"⟩, 4), (⟨"SeedBattle$Field", "lose", "(I)V"⟩, 4), (⟨"SeedBattle$Field", "settleCells", "()I"⟩, 4), (⟨"SeedBattle$Field", "lowestContested", "()I"⟩, 4), (⟨"SeedBattle$Field", "isContested", "(I)Z"⟩, 4), (⟨"SeedBattle$Field", "lookAt", "(I)I"⟩, 4), (⟨"SeedBattle$Field", "strongestFor", "(I)I"⟩, 4), (⟨"SeedBattle$Field", "firstMover", "(II)I"⟩, 4), (⟨"SeedBattle$Field", "turnBack", "(II)V"⟩, 4)]
theorem lw_r1 : ∀ q ∈ lw_privs_1, lw_okq q := List.forall_mem_cons.mpr ⟨lw_p0, List.forall_mem_cons.mpr ⟨lw_p1, List.forall_mem_cons.mpr ⟨lw_p2, List.forall_mem_cons.mpr ⟨lw_p3, List.forall_mem_cons.mpr ⟨lw_p4, List.forall_mem_cons.mpr ⟨lw_p5, List.forall_mem_cons.mpr ⟨lw_p6, List.forall_mem_cons.mpr ⟨lw_p7, List.forall_mem_cons.mpr ⟨lw_p8, List.forall_mem_cons.mpr ⟨lw_p9, List.forall_mem_cons.mpr ⟨lw_p10, List.forall_mem_cons.mpr ⟨lw_p11, List.forall_mem_cons.mpr ⟨lw_p12, List.forall_mem_cons.mpr ⟨lw_p13, List.forall_mem_cons.mpr ⟨lw_p14, List.forall_mem_cons.mpr ⟨lw_p15, fun _ h => absurd h List.not_mem_nil⟩⟩⟩⟩⟩⟩⟩⟩⟩⟩⟩⟩⟩⟩⟩⟩
theorem lw_p16 : lw_okq (⟨"SeedBattle$Field", "moveAll", "()V"⟩, 4) := ⟨⟨by decide +kernel, by decide +kernel⟩, List.mem_of_getElem? (i := 36) (by decide +kernel), List.mem_of_getElem? (i := 392) (by decide +kernel), List.mem_of_getElem? (i := 393) (by decide +kernel)⟩
theorem lw_p17 : lw_okq (⟨"SeedBattle", "savesAreAsTaken", "()Z"⟩, 10) := ⟨⟨by decide +kernel, by decide +kernel⟩, List.mem_of_getElem? (i := 28) (by decide +kernel), List.mem_of_getElem? (i := 396) (by decide +kernel), List.mem_of_getElem? (i := 397) (by decide +kernel)⟩
theorem lw_p18 : lw_okq (⟨"SeedBattle$Copy", "wasTaken", "(I)Z"⟩, 7) := ⟨⟨by decide +kernel, by decide +kernel⟩, List.mem_of_getElem? (i := 126) (by decide +kernel), List.mem_of_getElem? (i := 412) (by decide +kernel), List.mem_of_getElem? (i := 413) (by decide +kernel)⟩
theorem lw_p19 : lw_okq (⟨"SeedBattle", "noIndexHasOwnUnits", "()Z"⟩, 10) := ⟨⟨by decide +kernel, by decide +kernel⟩, List.mem_of_getElem? (i := 28) (by decide +kernel), List.mem_of_getElem? (i := 416) (by decide +kernel), List.mem_of_getElem? (i := 417) (by decide +kernel)⟩
theorem lw_p20 : lw_okq (⟨"java/lang/Throwable", "fillInStackTrace", "(I)Ljava/lang/Throwable;"⟩, 6) := ⟨⟨by decide +kernel, by decide +kernel⟩, List.mem_of_getElem? (i := 475) (by decide +kernel), List.mem_of_getElem? (i := 473) (by decide +kernel), List.mem_of_getElem? (i := 474) (by decide +kernel)⟩
theorem lw_p21 : lw_okq (⟨"SeedBattle", "requireUnit", "(I)V"⟩, 10) := ⟨⟨by decide +kernel, by decide +kernel⟩, List.mem_of_getElem? (i := 28) (by decide +kernel), List.mem_of_getElem? (i := 673) (by decide +kernel), List.mem_of_getElem? (i := 674) (by decide +kernel)⟩
theorem lw_p22 : lw_okq (⟨"SeedBattle", "watch", "(I)V"⟩, 10) := ⟨⟨by decide +kernel, by decide +kernel⟩, List.mem_of_getElem? (i := 28) (by decide +kernel), List.mem_of_getElem? (i := 716) (by decide +kernel), List.mem_of_getElem? (i := 717) (by decide +kernel)⟩
theorem lw_p23 : lw_okq (⟨"SeedBattle$Index", "dropFirst", "()V"⟩, 2) := ⟨⟨by decide +kernel, by decide +kernel⟩, List.mem_of_getElem? (i := 112) (by decide +kernel), List.mem_of_getElem? (i := 765) (by decide +kernel), List.mem_of_getElem? (i := 766) (by decide +kernel)⟩
theorem lw_p24 : lw_okq (⟨"SeedBattle", "hearAll", "(I)V"⟩, 10) := ⟨⟨by decide +kernel, by decide +kernel⟩, List.mem_of_getElem? (i := 28) (by decide +kernel), List.mem_of_getElem? (i := 769) (by decide +kernel), List.mem_of_getElem? (i := 770) (by decide +kernel)⟩
theorem lw_p25 : lw_okq (⟨"SeedBattle", "hasTreaty", "(II)Z"⟩, 10) := ⟨⟨by decide +kernel, by decide +kernel⟩, List.mem_of_getElem? (i := 28) (by decide +kernel), List.mem_of_getElem? (i := 773) (by decide +kernel), List.mem_of_getElem? (i := 774) (by decide +kernel)⟩
theorem lw_p26 : lw_okq (⟨"SeedBattle", "hear", "(II)V"⟩, 10) := ⟨⟨by decide +kernel, by decide +kernel⟩, List.mem_of_getElem? (i := 28) (by decide +kernel), List.mem_of_getElem? (i := 777) (by decide +kernel), List.mem_of_getElem? (i := 778) (by decide +kernel)⟩
theorem lw_p27 : lw_okq (⟨"SeedBattle", "requireSave", "()V"⟩, 10) := ⟨⟨by decide +kernel, by decide +kernel⟩, List.mem_of_getElem? (i := 28) (by decide +kernel), List.mem_of_getElem? (i := 894) (by decide +kernel), List.mem_of_getElem? (i := 895) (by decide +kernel)⟩
theorem lw_p28 : lw_okq (⟨"SeedBattle$Copy", "blockEnd", "(I)I"⟩, 7) := ⟨⟨by decide +kernel, by decide +kernel⟩, List.mem_of_getElem? (i := 126) (by decide +kernel), List.mem_of_getElem? (i := 913) (by decide +kernel), List.mem_of_getElem? (i := 914) (by decide +kernel)⟩
theorem lw_p29 : lw_okq (⟨"SeedBattleModel", "no", "(ZI)Z"⟩, 20) := ⟨⟨by decide +kernel, by decide +kernel⟩, List.mem_of_getElem? (i := 1011) (by decide +kernel), List.mem_of_getElem? (i := 1087) (by decide +kernel), List.mem_of_getElem? (i := 1088) (by decide +kernel)⟩
theorem lw_p30 : lw_okq (⟨"SeedBattleModel", "groundOf", "(I)C"⟩, 20) := ⟨⟨by decide +kernel, by decide +kernel⟩, List.mem_of_getElem? (i := 1011) (by decide +kernel), List.mem_of_getElem? (i := 1098) (by decide +kernel), List.mem_of_getElem? (i := 1099) (by decide +kernel)⟩
theorem lw_p31 : lw_okq (⟨"SeedBattleModel", "on", "(I)I"⟩, 20) := ⟨⟨by decide +kernel, by decide +kernel⟩, List.mem_of_getElem? (i := 1011) (by decide +kernel), List.mem_of_getElem? (i := 1107) (by decide +kernel), List.mem_of_getElem? (i := 1108) (by decide +kernel)⟩
def lw_privs_2 : List (MethodName × Nat) := [(⟨"SeedBattle$Field", "moveAll", "()V"⟩, 4), (⟨"SeedBattle", "savesAreAsTaken", "()Z"⟩, 10), (⟨"SeedBattle$Copy", "wasTaken", "(I)Z"⟩, 7), (⟨"SeedBattle", "noIndexHasOwnUnits", "()Z"⟩, 10), (⟨"java/lang/Throwable", "fillInStackTrace", "(I)Ljava/lang/Throwable;"⟩, 6), (⟨"SeedBattle", "requireUnit", "(I)V"⟩, 10), (⟨"SeedBattle", "watch", "(I)V"⟩, 10), (⟨"SeedBattle$Index", "dropFirst", "()V"⟩, 2), (⟨"SeedBattle", "hearAll", "(I)V"⟩, 10), (⟨"SeedBattle", "hasTreaty", "(II)Z"⟩, 10), (⟨"SeedBattle", "hear", "(II)V"⟩, 10), (⟨"SeedBattle", "requireSave", "()V"⟩, 10), (⟨"SeedBattle$Copy", "blockEnd", "(I)I"⟩, 7), (⟨"SeedBattleModel", "no", "(ZI)Z"⟩, 20), (⟨"SeedBattleModel", "groundOf", "(I)C"⟩, 20), (⟨"SeedBattleModel", "on", "(I)I"⟩, 20)]
theorem lw_r2 : ∀ q ∈ lw_privs_2, lw_okq q := List.forall_mem_cons.mpr ⟨lw_p16, List.forall_mem_cons.mpr ⟨lw_p17, List.forall_mem_cons.mpr ⟨lw_p18, List.forall_mem_cons.mpr ⟨lw_p19, List.forall_mem_cons.mpr ⟨lw_p20, List.forall_mem_cons.mpr ⟨lw_p21, List.forall_mem_cons.mpr ⟨lw_p22, List.forall_mem_cons.mpr ⟨lw_p23, List.forall_mem_cons.mpr ⟨lw_p24, List.forall_mem_cons.mpr ⟨lw_p25, List.forall_mem_cons.mpr ⟨lw_p26, List.forall_mem_cons.mpr ⟨lw_p27, List.forall_mem_cons.mpr ⟨lw_p28, List.forall_mem_cons.mpr ⟨lw_p29, List.forall_mem_cons.mpr ⟨lw_p30, List.forall_mem_cons.mpr ⟨lw_p31, fun _ h => absurd h List.not_mem_nil⟩⟩⟩⟩⟩⟩⟩⟩⟩⟩⟩⟩⟩⟩⟩⟩
theorem lw_p32 : lw_okq (⟨"SeedBattleModel", "noUnit", "(I)Z"⟩, 20) := ⟨⟨by decide +kernel, by decide +kernel⟩, List.mem_of_getElem? (i := 1011) (by decide +kernel), List.mem_of_getElem? (i := 1115) (by decide +kernel), List.mem_of_getElem? (i := 1116) (by decide +kernel)⟩
theorem lw_p33 : lw_okq (⟨"SeedBattleModel", "steps", "(I)I"⟩, 20) := ⟨⟨by decide +kernel, by decide +kernel⟩, List.mem_of_getElem? (i := 1011) (by decide +kernel), List.mem_of_getElem? (i := 1119) (by decide +kernel), List.mem_of_getElem? (i := 1120) (by decide +kernel)⟩
theorem lw_p34 : lw_okq (⟨"SeedBattleModel", "living", "()I"⟩, 20) := ⟨⟨by decide +kernel, by decide +kernel⟩, List.mem_of_getElem? (i := 1011) (by decide +kernel), List.mem_of_getElem? (i := 1127) (by decide +kernel), List.mem_of_getElem? (i := 1128) (by decide +kernel)⟩
theorem lw_p35 : lw_okq (⟨"SeedBattleModel", "step", "(I)V"⟩, 20) := ⟨⟨by decide +kernel, by decide +kernel⟩, List.mem_of_getElem? (i := 1011) (by decide +kernel), List.mem_of_getElem? (i := 1131) (by decide +kernel), List.mem_of_getElem? (i := 1132) (by decide +kernel)⟩
theorem lw_p36 : lw_okq (⟨"SeedBattleModel", "meets", "(II)V"⟩, 20) := ⟨⟨by decide +kernel, by decide +kernel⟩, List.mem_of_getElem? (i := 1011) (by decide +kernel), List.mem_of_getElem? (i := 1138) (by decide +kernel), List.mem_of_getElem? (i := 1139) (by decide +kernel)⟩
theorem lw_p37 : lw_okq (⟨"SeedBattleModel", "power", "(I)I"⟩, 20) := ⟨⟨by decide +kernel, by decide +kernel⟩, List.mem_of_getElem? (i := 1011) (by decide +kernel), List.mem_of_getElem? (i := 1142) (by decide +kernel), List.mem_of_getElem? (i := 1143) (by decide +kernel)⟩
theorem lw_p38 : lw_okq (⟨"SeedBattleModel", "lose", "(I)V"⟩, 20) := ⟨⟨by decide +kernel, by decide +kernel⟩, List.mem_of_getElem? (i := 1011) (by decide +kernel), List.mem_of_getElem? (i := 1146) (by decide +kernel), List.mem_of_getElem? (i := 1147) (by decide +kernel)⟩
theorem lw_p39 : lw_okq (⟨"SeedBattleModel", "contested", "()I"⟩, 20) := ⟨⟨by decide +kernel, by decide +kernel⟩, List.mem_of_getElem? (i := 1011) (by decide +kernel), List.mem_of_getElem? (i := 1150) (by decide +kernel), List.mem_of_getElem? (i := 1151) (by decide +kernel)⟩
theorem lw_p40 : lw_okq (⟨"SeedBattleModel", "solves", "(I)V"⟩, 20) := ⟨⟨by decide +kernel, by decide +kernel⟩, List.mem_of_getElem? (i := 1011) (by decide +kernel), List.mem_of_getElem? (i := 1154) (by decide +kernel), List.mem_of_getElem? (i := 1155) (by decide +kernel)⟩
theorem lw_p41 : lw_okq (⟨"SeedBattleModel", "strongest", "(I)I"⟩, 20) := ⟨⟨by decide +kernel, by decide +kernel⟩, List.mem_of_getElem? (i := 1011) (by decide +kernel), List.mem_of_getElem? (i := 1158) (by decide +kernel), List.mem_of_getElem? (i := 1159) (by decide +kernel)⟩
theorem lw_p42 : lw_okq (⟨"SeedBattleModel", "powerAt", "(II)I"⟩, 20) := ⟨⟨by decide +kernel, by decide +kernel⟩, List.mem_of_getElem? (i := 1011) (by decide +kernel), List.mem_of_getElem? (i := 1162) (by decide +kernel), List.mem_of_getElem? (i := 1163) (by decide +kernel)⟩
theorem lw_p43 : lw_okq (⟨"SeedBattleModel", "sights", "()V"⟩, 20) := ⟨⟨by decide +kernel, by decide +kernel⟩, List.mem_of_getElem? (i := 1011) (by decide +kernel), List.mem_of_getElem? (i := 1166) (by decide +kernel), List.mem_of_getElem? (i := 1167) (by decide +kernel)⟩
theorem lw_p44 : lw_okq (⟨"SeedBattleModel", "isSighted", "(II)Z"⟩, 20) := ⟨⟨by decide +kernel, by decide +kernel⟩, List.mem_of_getElem? (i := 1011) (by decide +kernel), List.mem_of_getElem? (i := 1170) (by decide +kernel), List.mem_of_getElem? (i := 1171) (by decide +kernel)⟩
theorem lw_p45 : lw_okq (⟨"SeedBattleModel", "watches", "(II)Z"⟩, 20) := ⟨⟨by decide +kernel, by decide +kernel⟩, List.mem_of_getElem? (i := 1011) (by decide +kernel), List.mem_of_getElem? (i := 1174) (by decide +kernel), List.mem_of_getElem? (i := 1175) (by decide +kernel)⟩
theorem lw_p46 : lw_okq (⟨"SeedBattleModel", "looksAt", "(II)Z"⟩, 20) := ⟨⟨by decide +kernel, by decide +kernel⟩, List.mem_of_getElem? (i := 1011) (by decide +kernel), List.mem_of_getElem? (i := 1178) (by decide +kernel), List.mem_of_getElem? (i := 1179) (by decide +kernel)⟩
theorem lw_p47 : lw_okq (⟨"SeedBattleModel", "numberOf", "(I)I"⟩, 20) := ⟨⟨by decide +kernel, by decide +kernel⟩, List.mem_of_getElem? (i := 1011) (by decide +kernel), List.mem_of_getElem? (i := 1187) (by decide +kernel), List.mem_of_getElem? (i := 1188) (by decide +kernel)⟩
def lw_privs_3 : List (MethodName × Nat) := [(⟨"SeedBattleModel", "noUnit", "(I)Z"⟩, 20), (⟨"SeedBattleModel", "steps", "(I)I"⟩, 20), (⟨"SeedBattleModel", "living", "()I"⟩, 20), (⟨"SeedBattleModel", "step", "(I)V"⟩, 20), (⟨"SeedBattleModel", "meets", "(II)V"⟩, 20), (⟨"SeedBattleModel", "power", "(I)I"⟩, 20), (⟨"SeedBattleModel", "lose", "(I)V"⟩, 20), (⟨"SeedBattleModel", "contested", "()I"⟩, 20), (⟨"SeedBattleModel", "solves", "(I)V"⟩, 20), (⟨"SeedBattleModel", "strongest", "(I)I"⟩, 20), (⟨"SeedBattleModel", "powerAt", "(II)I"⟩, 20), (⟨"SeedBattleModel", "sights", "()V"⟩, 20), (⟨"SeedBattleModel", "isSighted", "(II)Z"⟩, 20), (⟨"SeedBattleModel", "watches", "(II)Z"⟩, 20), (⟨"SeedBattleModel", "looksAt", "(II)Z"⟩, 20), (⟨"SeedBattleModel", "numberOf", "(I)I"⟩, 20)]
theorem lw_r3 : ∀ q ∈ lw_privs_3, lw_okq q := List.forall_mem_cons.mpr ⟨lw_p32, List.forall_mem_cons.mpr ⟨lw_p33, List.forall_mem_cons.mpr ⟨lw_p34, List.forall_mem_cons.mpr ⟨lw_p35, List.forall_mem_cons.mpr ⟨lw_p36, List.forall_mem_cons.mpr ⟨lw_p37, List.forall_mem_cons.mpr ⟨lw_p38, List.forall_mem_cons.mpr ⟨lw_p39, List.forall_mem_cons.mpr ⟨lw_p40, List.forall_mem_cons.mpr ⟨lw_p41, List.forall_mem_cons.mpr ⟨lw_p42, List.forall_mem_cons.mpr ⟨lw_p43, List.forall_mem_cons.mpr ⟨lw_p44, List.forall_mem_cons.mpr ⟨lw_p45, List.forall_mem_cons.mpr ⟨lw_p46, List.forall_mem_cons.mpr ⟨lw_p47, fun _ h => absurd h List.not_mem_nil⟩⟩⟩⟩⟩⟩⟩⟩⟩⟩⟩⟩⟩⟩⟩⟩
theorem lw_p48 : lw_okq (⟨"SeedBattleModel", "adds", "(II)V"⟩, 20) := ⟨⟨by decide +kernel, by decide +kernel⟩, List.mem_of_getElem? (i := 1011) (by decide +kernel), List.mem_of_getElem? (i := 1192) (by decide +kernel), List.mem_of_getElem? (i := 1193) (by decide +kernel)⟩
theorem lw_p49 : lw_okq (⟨"SeedBattleModel", "noPlayer", "(I)Z"⟩, 20) := ⟨⟨by decide +kernel, by decide +kernel⟩, List.mem_of_getElem? (i := 1011) (by decide +kernel), List.mem_of_getElem? (i := 1225) (by decide +kernel), List.mem_of_getElem? (i := 1226) (by decide +kernel)⟩
theorem lw_p50 : lw_okq (⟨"SeedBattleModel", "noSave", "(I)Z"⟩, 20) := ⟨⟨by decide +kernel, by decide +kernel⟩, List.mem_of_getElem? (i := 1011) (by decide +kernel), List.mem_of_getElem? (i := 1260) (by decide +kernel), List.mem_of_getElem? (i := 1261) (by decide +kernel)⟩
theorem lw_p51 : lw_okq (⟨"SeedBattleModel", "blocksOf", "(I)I"⟩, 20) := ⟨⟨by decide +kernel, by decide +kernel⟩, List.mem_of_getElem? (i := 1011) (by decide +kernel), List.mem_of_getElem? (i := 1264) (by decide +kernel), List.mem_of_getElem? (i := 1265) (by decide +kernel)⟩
theorem lw_p52 : lw_okq (⟨"SeedBattleModel", "canRebuild", "(II)Z"⟩, 20) := ⟨⟨by decide +kernel, by decide +kernel⟩, List.mem_of_getElem? (i := 1011) (by decide +kernel), List.mem_of_getElem? (i := 1280) (by decide +kernel), List.mem_of_getElem? (i := 1281) (by decide +kernel)⟩
def lw_privs_4 : List (MethodName × Nat) := [(⟨"SeedBattleModel", "adds", "(II)V"⟩, 20), (⟨"SeedBattleModel", "noPlayer", "(I)Z"⟩, 20), (⟨"SeedBattleModel", "noSave", "(I)Z"⟩, 20), (⟨"SeedBattleModel", "blocksOf", "(I)I"⟩, 20), (⟨"SeedBattleModel", "canRebuild", "(II)Z"⟩, 20)]
theorem lw_r4 : ∀ q ∈ lw_privs_4, lw_okq q := List.forall_mem_cons.mpr ⟨lw_p48, List.forall_mem_cons.mpr ⟨lw_p49, List.forall_mem_cons.mpr ⟨lw_p50, List.forall_mem_cons.mpr ⟨lw_p51, List.forall_mem_cons.mpr ⟨lw_p52, fun _ h => absurd h List.not_mem_nil⟩⟩⟩⟩⟩
def lw_privs : List (MethodName × Nat) := lw_privs_1 ++ (lw_privs_2 ++ (lw_privs_3 ++ (lw_privs_4)))
def lw_tbl : List Cond := k2_sels lw_privs ++ tables_1
theorem lw_privs_ok : ∀ q ∈ lw_privs, lw_okq q := by
  show ∀ q ∈ lw_privs_1 ++ (lw_privs_2 ++ (lw_privs_3 ++ (lw_privs_4))), lw_okq q
  exact List.forall_mem_append.mpr ⟨lw_r1, List.forall_mem_append.mpr ⟨lw_r2, List.forall_mem_append.mpr ⟨lw_r3, lw_r4⟩⟩⟩
/-- the streams that the claim lets the run draw from -/
abbrev lw_cs : List Choice := [Jvm.Choice.named "NaN.bits"]
theorem lw_bits : nanBits ∈ lw_cs := by first | decide | exact List.mem_cons_self | simp [lw_cs, nanBits]
-- ===== end of PART A; then your names; then what follows =====
end
section
/-! ===== BEGIN words of one list among another's, by their places ===== -/
theorem goodIn_r {big : List Cond} (ws : List Cond) (ps : List Nat) (hp : ws = ps.filterMap (fun i => big[i]?)) (h : ws.all goodWord = true) : GoodIn big ws := by
  intro w hw
  have h1 := List.all_eq_true.mp h w hw
  rw [hp] at hw
  obtain ⟨i, -, hi⟩ := List.mem_filterMap.mp hw
  have hm : w ∈ big := by first | exact List.mem_of_getElem? hi | exact List.getElem?_mem hi
  exact ⟨hm, good_of_word h1⟩
theorem goodIn_app {big a b : List Cond} (ha : GoodIn big a) (hb : GoodIn big b) : GoodIn big (a ++ b) := fun w h => (List.mem_append.mp h).elim (ha w) (hb w)
theorem goodIn_ca {big a b : List Cond} {c : Cond} (ha : GoodIn big (c :: a)) (hb : GoodIn big b) : GoodIn big (c :: (a ++ b)) := fun w h => (List.mem_cons.mp h).elim (fun e => ha w (List.mem_cons.mpr (Or.inl e))) (fun h => (List.mem_append.mp h).elim (fun h => ha w (List.mem_cons.mpr (Or.inr h))) (hb w))
theorem goodIn_sub {big ws : List Cond} (hm : ∀ w ∈ ws, w ∈ big) (h : ws.all goodWord = true) : GoodIn big ws := fun w hw => ⟨hm w hw, good_of_word (List.all_eq_true.mp h w hw)⟩
/-! ===== END ===== -/

/-! ===== BEGIN exceptions that leave a method, and their catching by the caller (launches without stack traces) ===== -/
section VXA
/-! The laws vx_back, vx_callV, vx_callS, vx_callSW, vx_throw0, vx_throwS follow proofs of the library, with one case more: JvmDerived/Free/Laws.lean (Back.of_free), Shelf42/LK1.lean (callV, callS), Shelf/KitTraced.lean (throwNew0V, throwNewS). -/
/-- where a method has thrown q: the class by its name, the cell, what was written, the world -/
def vx_T (XC : String → State → State → Prop) (st : State) (q : Addr) (t : State) (mc ms : Nat) (free : Addr → Prop) : Prop :=
  ∃ (E : String) (ce : Cell) (L : List Loc), XC E st t ∧ t.heap[q]? = some ce ∧ ce.vm = .none ∧ st.vm.findClass E = some ce.cls ∧ st.WarmedH t.vm ∧ st.sameButNew ({ t with vm := st.vm } : State) L mc ms ∧ ∀ z ∈ L, free z.base
def vx_Q (Qc : Array Value → State → Outcome → State → Prop) (XC : String → State → State → Prop) (mc ms : Nat) (free : Addr → Prop) : Array Value → State → Outcome → State → Prop := fun a st o t =>
  (Qc a st o t ∧ ∃ L, FrameEnd st o t L mc ms ∧ ∀ q ∈ L, free q.base) ∨ ∃ q, o = .threw q ∧ vx_T XC st q t mc ms free
/-- a callee that returns or throws -/
def vx_Met (l : Launch) (y : MethodName) (ws : List Cond) (rm : Room) (Pc : Array Value → State → Prop) (Qc : Array Value → State → Outcome → State → Prop) (XC : String → State → State → Prop) (mc ms : Nat) (free : Addr → Prop) : Prop :=
  MetFree l y (headSpec ws rm) Pc (fun _ _ _ _ _ => True) (vx_Q Qc XC mc ms free)
def vx_Post (XC : String → State → State → Prop) (mc ms : Nat) (free : Addr → Prop) : Pt → Array Value → Addr → Pt → Prop := fun A a q B =>
  ∃ (g : JFrame) (mk : MethodId) (t : State) (L : List Loc) (E : String) (ce : Cell), B.U.heap = t.heap ∧ B.U.vm = t.vm ∧ XC E (A.U.calling g mk a) t ∧ t.heap[q]? = some ce ∧ ce.vm = .none ∧ A.U.vm.findClass E = some ce.cls ∧ B.locs = A.locs ++ L ∧ (∀ z ∈ L, free z.base) ∧ B.cells = A.cells + mc ∧ B.slots = A.slots + ms
def vx_Back (l : Launch) (R : Room) (p : Program) (e : Env) (below : List Frame) (s : State) (sargs : Array Value) (y : MethodName) (len W9 : Nat)
    (Pre : Pt → Array Value → Prop) (Post : Pt → Array Value → Option Value → Pt → Prop) (PostX : Pt → Array Value → Addr → Pt → Prop) : Prop :=
  ∀ (m : MethodId) (meth : Method) (c : Code) (A : Pt) (g : JFrame) (ig : Instr) (mk : MethodId) (a : Array Value),
    Stand p l e R s m sargs below meth c A.U A.locs A.cells A.slots → g.method = m → g.locals.size = c.maxLocals → decode c.code g.pc = .ok (ig, len) →
    2 * g.monitorRoom + (g.stack.map fun v => v.category).sum ≤ W9 → A.U.methodNamed? y = some mk → Pre A a →
    (∃ (v : Option Value) (B : Pt), Stand p l e R s m sargs below meth c B.U B.locs B.cells B.slots ∧ Post A a v B ∧
      Steps p.tables e below (doInvoke e (A.U.setTop g) [] mk a).1 (B.U.setTop { g with pc := g.pc + len, stack := v.toList ++ g.stack })) ∨
    (∃ (q : Addr) (B : Pt), Stand p l e R s m sargs below meth c B.U B.locs B.cells B.slots ∧ PostX A a q B ∧
      Steps p.tables e below (doInvoke e (A.U.setTop g) [] mk a).1 ((B.U.setTop g).pushFrame (.throwing q)))
section Payer
variable {l : Launch} {R : Room} {p : Program} {e : Env} {below : List Frame} {s : State} {sargs : Array Value} {y : MethodName} {len W9 : Nat}
theorem vx_back {ws : List Cond} {rm : Room} {Pc : Array Value → State → Prop} {Qc : Array Value → State → Outcome → State → Prop} {XC : String → State → State → Prop} {mc ms : Nat} {free : Addr → Prop} {bytes : ByteArray} {maxL : Nat} {ret : Option FieldType}
    (hM : vx_Met l y ws rm Pc Qc XC mc ms free) (hblind : FrameBlind Pc) (hrc : rm.cells = mc) (hrs : rm.slots = ms)
    (hframes : rm.frames + 1 ≤ R.frames) (hlocals : W9 + (maxL + 11) + rm.locals ≤ R.locals)
    (hws : ∀ w ∈ ws, ∀ a' U, s.WarmedH U.vm → w.before a' U = true) (hcode : Cond.code y bytes maxL ret ∈ ws) (hinit : ∀ a' U, s.WarmedH U.vm → (Cond.initialized y.cls).before a' U = true) :
    vx_Back l R p e below s sargs y len W9 (PreOf R mc ms Pc) (PostOf Qc mc ms free) (vx_Post XC mc ms free) := by
  intro m meth c A g ig mk a X hg hsize hdg hW hn hp
  have h1 : (headSpec ws rm).pre.before a A.U = true := atoms_intro fun w hw => hws w hw _ _ X.warmed
  have h2 : (Cond.code y bytes maxL ret).before a A.U = true := hws _ hcode _ _ X.warmed
  have h3 : (Cond.initialized y.cls).before a A.U = true := hinit _ _ X.warmed
  have h4 : A.cells + (headSpec ws rm).room.cells ≤ R.cells := by rw [show (headSpec ws rm).room.cells = mc from hrc]; exact hp.1
  have h5 : A.slots + (headSpec ws rm).room.slots ≤ R.slots := by rw [show (headSpec ws rm).room.slots = ms from hrs]; exact hp.2.1
  have hPc : Pc a (A.U.calling g mk a) := hblind _ _ _ _ hp.2.2
  obtain ⟨U, Ls, c0, s0⟩ := A
  dsimp only [Pt.U, Pt.locs, Pt.cells, Pt.slots] at h1 h2 h3 h4 h5 X hn hPc ⊢
  obtain ⟨methY, cY, hmY, hcY, -, hlY, -, -, -, -⟩ := Cond.code_spec hn h2
  obtain ⟨kY, hkY, -⟩ := className_of_methodNamed hn
  have hinitY : kY.init = .initialized := Cond.initialized_spec (findClass_of_methodNamed hn) hkY h3
  have h : At U g.method c below := by rw [hg]; exact X.here
  have hlocals9 : W9 + (maxL + 11) + (headSpec ws rm).room.locals ≤ R.locals := hlocals
  have happ : (headSpec ws rm).appliesLoose y e.platform (U.calling g mk a) = true :=
    Spec.appliesLoose_calling (g := g) h hdg hn hkY hinitY
      (X.room_calling (g := g) (R' := (headSpec ws rm).room) hsize hmY hcY hframes (by rw [hlY]; omega) h4 h5) h1
  obtain ⟨mid, hmid⟩ := h.above
  have hfr : (U.setTop g).frames = (.java g :: mid) ++ below := by rw [State.frames_setTop' g h.top, hmid]; rfl
  obtain ⟨o, s₂, hsteps, -, hend, hq⟩ := Steps.callFree hM p X.admits X.cas X.clock (acts := []) hfr happ hPc trivial
  have hq' : vx_Q Qc XC mc ms free a (U.calling g mk a) o s₂ := hq
  rw [State.frames_setTop' g h.top] at hend
  obtain ⟨g₀, hg0⟩ := Option.isSome_iff_exists.mp h.top
  obtain ⟨r, hr⟩ := State.topJava?_eq_some.mp hg0
  have hr' : (({ U with heap := s₂.heap, slotsUsed := s₂.slotsUsed } : State).setVm s₂.vm).frames = .java g₀ :: r := hr
  rcases hq' with ⟨hqc, L, hfe, hL⟩ | ⟨q, rfl, E, ce, L, hx, hce, hcv, hcl, hW₂, hsm, hL⟩
  · obtain ⟨⟨v, rfl⟩, hW₂, e2, q2, q3, q4, q5, q6⟩ := id hfe
    have e3 : s₂ = ({ (U.calling g mk a).setFrames s₂.frames with heap := s₂.heap, slotsUsed := s₂.slotsUsed } : State).setVm s₂.vm := by
      have : s₂ = ({ s₂ with vm := (U.calling g mk a).vm } : State).setVm s₂.vm := rfl
      rw [e2] at this
      exact this
    obtain ⟨c₂, i₂, len₂, hc₂, hd₂, hf₂⟩ := hend
    have hW' : U.WarmedH s₂.vm := hW₂
    have hcc : c₂ = c := by
      have h1 : s₂.code? g.method = U.code? g.method := by
        rw [State.code?_eq, State.code?_eq, hW'.alike.method?]
      exact Option.some.inj (hc₂.symm.trans (h1.trans h.code))
    subst hcc
    have hlen : len₂ = len := by rw [hdg] at hd₂; cases hd₂; rfl
    subst hlen
    have hs₂ : s₂ = (({ U with heap := s₂.heap, slotsUsed := s₂.slotsUsed } : State).setVm s₂.vm).setTop { g with pc := g.pc + len₂, stack := v.toList ++ g.stack } := by
      refine e3.trans ?_
      rw [hf₂, State.calling_eq h.top, State.setFrames_setFrames, State.setTop_of_frames _ hr', hr]
      rfl
    have hsame : U.sameButNew ({ U with heap := s₂.heap, slotsUsed := s₂.slotsUsed } : State) L mc ms := by
      refine ⟨?_, q2, q3, q4, q5, q6⟩
      obtain ⟨t, ht, -⟩ := State.frames_cons hr
      show ({ U with heap := s₂.heap, slotsUsed := s₂.slotsUsed } : State) = { U.setFrames U.frames with heap := s₂.heap, slotsUsed := s₂.slotsUsed }
      rw [State.setFrames_self ht]
    subst hg
    refine Or.inl ⟨v, ⟨(({ U with heap := s₂.heap, slotsUsed := s₂.slotsUsed } : State).setVm s₂.vm), Ls ++ L, c0 + mc, s0 + ms⟩,
      ⟨X.admits, X.cas, X.clock, X.frames, X.room, X.hears, X.method, X.code, (X.here.setHeapUsed s₂.heap s₂.slotsUsed).setVm hW'.alike, X.tail, State.WarmedH.trans X.warmed hW', X.limits, X.bytes, X.same.trans (hsame.setVm s.vm)⟩,
      ⟨g, mk, s₂, L, rfl, rfl, hqc, rfl, hL, rfl, rfl⟩, ?_⟩
    show Steps p.tables e below _ ((({ U with heap := s₂.heap, slotsUsed := s₂.slotsUsed } : State).setVm s₂.vm).setTop { g with pc := g.pc + len₂, stack := v.toList ++ g.stack })
    rw [← hs₂]
    exact hsteps
  · obtain ⟨e2, q2, q3, q4, q5, q6⟩ := id hsm
    have e3 : s₂ = ({ (U.calling g mk a).setFrames s₂.frames with heap := s₂.heap, slotsUsed := s₂.slotsUsed } : State).setVm s₂.vm := by
      have : s₂ = ({ s₂ with vm := (U.calling g mk a).vm } : State).setVm s₂.vm := rfl
      rw [e2] at this
      exact this
    have hf₂ : s₂.frames = .throwing q :: .java g :: U.frames.tail := hend
    have hW' : U.WarmedH s₂.vm := hW₂
    have hs₂ : s₂ = ((({ U with heap := s₂.heap, slotsUsed := s₂.slotsUsed } : State).setVm s₂.vm).setTop g).pushFrame (.throwing q) := by
      refine e3.trans ?_
      rw [hf₂, State.calling_eq h.top, State.setFrames_setFrames, State.pushFrame, State.frames_setTop _ hr', State.setTop_of_frames _ hr', State.setFrames_setFrames, hr]
      rfl
    have hsame : U.sameButNew ({ U with heap := s₂.heap, slotsUsed := s₂.slotsUsed } : State) L mc ms := by
      refine ⟨?_, q2, q3, q4, q5, q6⟩
      obtain ⟨t, ht, -⟩ := State.frames_cons hr
      show ({ U with heap := s₂.heap, slotsUsed := s₂.slotsUsed } : State) = { U.setFrames U.frames with heap := s₂.heap, slotsUsed := s₂.slotsUsed }
      rw [State.setFrames_self ht]
    subst hg
    refine Or.inr ⟨q, ⟨(({ U with heap := s₂.heap, slotsUsed := s₂.slotsUsed } : State).setVm s₂.vm), Ls ++ L, c0 + mc, s0 + ms⟩,
      ⟨X.admits, X.cas, X.clock, X.frames, X.room, X.hears, X.method, X.code, (X.here.setHeapUsed s₂.heap s₂.slotsUsed).setVm hW'.alike, X.tail, State.WarmedH.trans X.warmed hW', X.limits, X.bytes, X.same.trans (hsame.setVm s.vm)⟩,
      ⟨g, mk, s₂, L, E, ce, rfl, rfl, hx, hce, hcv, hcl, rfl, hL, rfl, rfl⟩, ?_⟩
    show Steps p.tables e below _ (((({ U with heap := s₂.heap, slotsUsed := s₂.slotsUsed } : State).setVm s₂.vm).setTop g).pushFrame (.throwing q))
    rw [← hs₂]
    exact hsteps
end Payer
section Calls
variable {p : Program} {l : Launch} {e : Env} {R : Room} {s : State} {m : MethodId} {args : Array Value} {below : List Frame} {meth : Method} {c : Code} {T : State} {locs : List Loc} {cells slots : Nat}
theorem vx_callV (X : Stand p l e R s m args below meth c T locs cells slots) (hexec : p.tables.exec = Jvm.exec) {own C : String} {index : Nat} {y : MethodName} {bytes : ByteArray} {maxL : Nat} {ret : Option FieldType}
    (hown : s.vm.findClass own = some m.cls) (hlink : (Cond.methodLink own index y).before args s = true) (hinst : (Cond.instanceMethod y).before args s = true) (hsel : (Cond.selects C y y).before args s = true)
    (hcode : (Cond.code y bytes maxL ret).before args s = true) (hy : y.cls ≠ "java/lang/invoke/MethodHandle" ∧ y.cls ≠ "java/lang/invoke/VarHandle")
    {W9 : Nat} {Pre : Pt → Array Value → Prop} {Post : Pt → Array Value → Option Value → Pt → Prop} {PostX : Pt → Array Value → Addr → Pt → Prop} (hK : vx_Back l R p e below s args y 3 W9 Pre Post PostX)
    {b : Addr} {cellB : Cell} (hcell : T.heap[b]? = some cellB) (hobj : cellB.vm.isStatics = false) (hcls : s.vm.findClass C = some cellB.cls)
    {g : JFrame} (hg : g.method = m) (hsize : g.locals.size = c.maxLocals) {argsL rest : List Value} (hlen : ∀ sig, parseMethodDescriptor y.desc = some sig → argsL.length = sig.parameters.length)
    (hstack : g.stack = argsL.reverse ++ .ref b :: rest) (hW : 2 * g.monitorRoom + (rest.map fun v => v.category).sum ≤ W9) (hdg : decode c.code g.pc = .ok (.invokevirtual index, 3))
    (hpre : ∀ vm₁, s.WarmedH vm₁ → Pre ⟨T.setVm vm₁, locs, cells, slots⟩ (Value.ref b :: argsL).toArray) :
    (∃ (v : Option Value) (vm₁ : Vm) (B : Pt), s.WarmedH vm₁ ∧ Stand p l e R s m args below meth c B.U B.locs B.cells B.slots ∧ Post ⟨T.setVm vm₁, locs, cells, slots⟩ (Value.ref b :: argsL).toArray v B ∧
      ∀ target, Steps p.tables e below (B.U.setTop { g with pc := g.pc + 3, stack := v.toList ++ rest }) target → Steps p.tables e below (T.setTop g) target) ∨
    (∃ (q : Addr) (vm₁ : Vm) (B : Pt), s.WarmedH vm₁ ∧ Stand p l e R s m args below meth c B.U B.locs B.cells B.slots ∧ PostX ⟨T.setVm vm₁, locs, cells, slots⟩ (Value.ref b :: argsL).toArray q B ∧
      Steps p.tables e below (T.setTop g) ((B.U.setTop { g with stack := rest }).pushFrame (.throwing q))) := by
  obtain ⟨mk, methM, hnamed, hmethM, hstM, habM⟩ := Cond.instanceMethod_spec hinst
  obtain ⟨methM', cM, hmethM', -, -, -, -, -, -, hsigM⟩ := Cond.code_spec hnamed hcode
  cases hmethM.symm.trans hmethM'
  obtain ⟨c2, r2, m2, q1, q2, q3, q4, kP, hkP, hkPi⟩ := Cond.selects_spec hsel
  cases hcls.symm.trans q1
  cases (State.methodFound?_of_named hnamed hy).symm.trans q2
  cases hnamed.symm.trans q3
  have hselP : selectMethod e.platform s.vm cellB.cls mk = .method mk := by rw [Launch.admits_selectMethod X.admits]; exact q4
  obtain ⟨vm₁, X₁, hstep₁⟩ := X.invokevirtual hexec hown hlink hnamed hmethM hstM hkP hkPi hy (a := b) (cell := cellB) hcell
    (fun z h => by rw [h] at hobj; cases hobj) hselP hmethM habM hkP hkPi (g := g) hg (argsL := argsL) (rest := rest) (hlen _ hsigM) hstack hdg
  rcases hK m meth c ⟨T.setVm vm₁, locs, cells, slots⟩ { g with stack := rest } (.invokevirtual index) mk (Value.ref b :: argsL).toArray X₁ hg hsize hdg hW (X₁.named hnamed) (hpre vm₁ X₁.warmed) with ⟨v, B, X', hpost, hsteps⟩ | ⟨q, B, X', hpost, hsteps⟩
  · exact Or.inl ⟨v, vm₁, B, X₁.warmed, X', hpost, fun target h => hstep₁ _ fun acts => by rw [doInvoke_state]; exact hsteps.trans h⟩
  · exact Or.inr ⟨q, vm₁, B, X₁.warmed, X', hpost, hstep₁ _ fun acts => by rw [doInvoke_state]; exact hsteps⟩
theorem vx_callS (X : Stand p l e R s m args below meth c T locs cells slots) (hexec : p.tables.exec = Jvm.exec) {own : String} {index : Nat} {y : MethodName} {bytes : ByteArray} {maxL : Nat} {ret : Option FieldType}
    (hown : s.vm.findClass own = some m.cls) (hlink : (Cond.methodLink own index y).before args s = true) (hstat : (Cond.static y).before args s = true) (hinit : (Cond.initialized y.cls).before args s = true)
    (hcode : (Cond.code y bytes maxL ret).before args s = true) (hy : y.cls ≠ "java/lang/invoke/MethodHandle" ∧ y.cls ≠ "java/lang/invoke/VarHandle")
    {W9 : Nat} {Pre : Pt → Array Value → Prop} {Post : Pt → Array Value → Option Value → Pt → Prop} {PostX : Pt → Array Value → Addr → Pt → Prop} (hK : vx_Back l R p e below s args y 3 W9 Pre Post PostX)
    {g : JFrame} (hg : g.method = m) (hsize : g.locals.size = c.maxLocals) {argsL rest : List Value} (hlen : ∀ sig, parseMethodDescriptor y.desc = some sig → argsL.length = sig.parameters.length)
    (hstack : g.stack = argsL.reverse ++ rest) (hW : 2 * g.monitorRoom + (rest.map fun v => v.category).sum ≤ W9) (hdg : decode c.code g.pc = .ok (.invokestatic index, 3))
    (hpre : ∀ vm₁, s.WarmedH vm₁ → Pre ⟨T.setVm vm₁, locs, cells, slots⟩ argsL.toArray) :
    (∃ (v : Option Value) (vm₁ : Vm) (B : Pt), s.WarmedH vm₁ ∧ Stand p l e R s m args below meth c B.U B.locs B.cells B.slots ∧ Post ⟨T.setVm vm₁, locs, cells, slots⟩ argsL.toArray v B ∧
      ∀ target, Steps p.tables e below (B.U.setTop { g with pc := g.pc + 3, stack := v.toList ++ rest }) target → Steps p.tables e below (T.setTop g) target) ∨
    (∃ (q : Addr) (vm₁ : Vm) (B : Pt), s.WarmedH vm₁ ∧ Stand p l e R s m args below meth c B.U B.locs B.cells B.slots ∧ PostX ⟨T.setVm vm₁, locs, cells, slots⟩ argsL.toArray q B ∧
      Steps p.tables e below (T.setTop g) ((B.U.setTop { g with stack := rest }).pushFrame (.throwing q))) := by
  obtain ⟨mk, hnamed⟩ := Cond.code_named hcode
  obtain ⟨methM, cM, hmethM, -, -, -, -, -, -, hsigM⟩ := Cond.code_spec hnamed hcode
  have hstatic : methM.isStatic = true := Cond.static_spec hnamed hmethM hstat
  obtain ⟨kP, hkP, -⟩ := className_of_methodNamed hnamed
  have hinitP : kP.init = .initialized := Cond.initialized_spec (findClass_of_methodNamed hnamed) hkP hinit
  obtain ⟨vm₁, X₁, hstep₁⟩ := X.invokestatic hexec hown hlink hnamed hmethM hstatic hkP hinitP hy (g := g) hg (argsL := argsL) (rest := rest) (hlen _ hsigM) hstack hdg
  rcases hK m meth c ⟨T.setVm vm₁, locs, cells, slots⟩ { g with stack := rest } (.invokestatic index) mk argsL.toArray X₁ hg hsize hdg hW (X₁.named hnamed) (hpre vm₁ X₁.warmed) with ⟨v, B, X', hpost, hsteps⟩ | ⟨q, B, X', hpost, hsteps⟩
  · exact Or.inl ⟨v, vm₁, B, X₁.warmed, X', hpost, fun target h => hstep₁ _ fun acts => by rw [doInvoke_state]; exact hsteps.trans h⟩
  · exact Or.inr ⟨q, vm₁, B, X₁.warmed, X', hpost, hstep₁ _ fun acts => by rw [doInvoke_state]; exact hsteps⟩
end Calls
theorem vx_cls {s : State} {T : State} {vm₁ : Vm} {E : String} {k : ClassId} (hW : s.WarmedH vm₁) (h : (T.setVm vm₁).vm.findClass E = some k) : s.vm.findClass E = some k := by
  have h1 : vm₁.findClass E = some k := h
  rw [hW.alike.findClass] at h1
  exact h1
/-- the method's frame g, with q thrown over it -/
def vx_W (p : Program) (l : Launch) (e : Env) (R : Room) (s : State) (m : MethodId) (args : Array Value) (below : List Frame) (meth : Method) (c : Code) (H : Heap) (locs : List Loc) (cells slots : Nat) (Q : State → Prop) (g : JFrame) (q : Addr) : Prop :=
  ∀ T : State, T.heap = H → Stand p l e R s m args below meth c T locs cells slots → ∃ t, Steps p.tables e below ((T.setTop g).pushFrame (.throwing q)) t ∧ Q t
def vx_Run (p : Program) (l : Launch) (e : Env) (R : Room) (s : State) (m : MethodId) (args : Array Value) (below : List Frame) (meth : Method) (c : Code) (H : Heap) (locs : List Loc) (cells slots mc ms : Nat) (g : JFrame) (rest : List Value) (Qa : State → Outcome → State → Prop) (XC : String → State → State → Prop) (free : Addr → Prop) : Prop :=
  ∀ T : State, T.heap = H → Stand p l e R s m args below meth c T locs cells slots →
    (∃ (v : Option Value) (st₀ t T' : State) (L : List Loc), st₀.heap = H ∧ Stand p l e R s m args below meth c T' (locs ++ L) (cells + mc) (slots + ms) ∧ (∀ q ∈ L, free q.base) ∧ T'.heap = t.heap ∧ T'.vm = t.vm ∧ Qa st₀ (.returned v) t ∧
      Goes p e below T g T' { g with pc := g.pc + 3, stack := v.toList ++ rest }) ∨
    (∃ (q : Addr) (st₀ t T' : State) (L : List Loc) (E : String) (ce : Cell), st₀.heap = H ∧ Stand p l e R s m args below meth c T' (locs ++ L) (cells + mc) (slots + ms) ∧ (∀ z ∈ L, free z.base) ∧ T'.heap = t.heap ∧ T'.vm = t.vm ∧ XC E st₀ t ∧ t.heap[q]? = some ce ∧ ce.vm = .none ∧ s.vm.findClass E = some ce.cls ∧
      Steps p.tables e below (T.setTop g) ((T'.setTop { g with stack := rest }).pushFrame (.throwing q)))
def vx_X {S : Type} (px : S → Prop) (B : String → S → State → Prop) (A : Nat → Prop) : String → State → State → Prop := fun E st t => ∃ u : S, px u ∧ B E u t ∧ va_F A st t
section Runs
variable {p : Program} {l : Launch} {e : Env} {R : Room} {s : State} {m : MethodId} {args : Array Value} {below : List Frame} {meth : Method} {c : Code} {H : Heap} {locs : List Loc} {cells slots : Nat}
variable {y : MethodName} {bytes cc : ByteArray} {maxL nL mc ms n index : Nat} {ret : Option FieldType} {ws : List Cond} {rm : Room} {Pc : Array Value → State → Prop} {Qc : Array Value → State → Outcome → State → Prop} {XC : String → State → State → Prop} {free : Addr → Prop} {Ts : List Cond} {own C : String} {b : Addr} {As rest : List Value} {g : JFrame}
theorem vx_callBack (cb : CallB R s args own index y bytes maxL ret ws rm mc ms n) (hM : vx_Met l y ws rm Pc Qc XC mc ms free) (hbl : FrameBlind Pc) : vx_Back l R p e below s args y 3 8 (PreOf R mc ms Pc) (PostOf Qc mc ms free) (vx_Post XC mc ms free) := by
  obtain ⟨hrc, hrs, hfr, hlo, hws, hcw, -, hini, -⟩ := cb
  exact vx_back (bytes := bytes) (maxL := maxL) (ret := ret) hM hbl hrc hrs hfr hlo hws hcw (fun a' U hW => word_at hW (Or.inl (by first | rfl | simp [Cond.onTables, Cond.keeps, Cond.steady])) hini)
theorem vx_runV (S : CallFix p m c cc nL s args Ts own) (hM : vx_Met l y ws rm Pc Qc XC mc ms free) (cw : CallW R s args own C index y bytes maxL ret ws rm mc ms n) (hp : PreV s H C b Pc As)
    (hg : g.method = m) (hn : As.length = n) (hsize : g.locals.size = nL) (hstack : g.stack = As.reverse ++ .ref b :: rest) (hW : 2 * g.monitorRoom + (rest.map fun v => v.category).sum ≤ 8) (hdg : decode cc g.pc = .ok (.invokevirtual index, 3)) (hf : cells + mc ≤ R.cells ∧ slots + ms ≤ R.slots) :
    vx_Run p l e R s m args below meth c H locs cells slots mc ms g rest (Qc (Value.ref b :: As).toArray) XC free := by
  have hK : vx_Back l R p e below s args y 3 8 (PreOf R mc ms Pc) (PostOf Qc mc ms free) (vx_Post XC mc ms free) := vx_callBack cw.1 hM hp.1
  obtain ⟨⟨-, -, -, -, -, -, hcode, -, hy, hlen, hl⟩, hin, hse⟩ := cw
  obtain ⟨hx, hb, hml, ho, -⟩ := S
  obtain ⟨-, ⟨cellB, hcB, hoB, hclB⟩, hPc⟩ := hp
  intro T hT X
  rcases vx_callV X hx (C := C) (bytes := bytes) (maxL := maxL) (ret := ret) ho hl hin hse hcode hy hK (by rw [hT]; exact hcB) hoB hclB hg (hsize.trans hml.symm) (argsL := As) (rest := rest) (fun sig h => hn.trans (hlen sig h)) hstack hW (by rw [hb]; exact hdg)
    (fun vm₁ hW₁ => ⟨hf.1, hf.2, hPc (T.setVm vm₁) hT hW₁⟩) with ⟨v, vm₁, ⟨U', l2, c2, s2⟩, hW₁, X', ⟨g', mk, t, L, e1, e2, hq, h1, hL, h2, h3⟩, st⟩ | ⟨q, vm₁, ⟨U', l2, c2, s2⟩, hW₁, X', ⟨g', mk, t, L, E, ce, e1, e2, hq, hce, hcv, hcl, h1, hL, h2, h3⟩, st⟩
  · dsimp only [Pt.U, Pt.locs, Pt.cells, Pt.slots] at X' e1 e2 h1 h2 h3 st
    subst h1; subst h2; subst h3
    exact Or.inl ⟨v, (T.setVm vm₁).calling g' mk (Value.ref b :: As).toArray, t, U', L, hT, X', hL, e1, e2, hq, st⟩
  · dsimp only [Pt.U, Pt.locs, Pt.cells, Pt.slots] at X' e1 e2 h1 h2 h3 st hcl
    subst h1; subst h2; subst h3
    exact Or.inr ⟨q, (T.setVm vm₁).calling g' mk (Value.ref b :: As).toArray, t, U', L, E, ce, hT, X', hL, e1, e2, hq, hce, hcv, vx_cls hW₁ hcl, st⟩
theorem vx_runS (S : CallFix p m c cc nL s args Ts own) (hM : vx_Met l y ws rm Pc Qc XC mc ms free) (cw : CallB R s args own index y bytes maxL ret ws rm mc ms n ∧ (Cond.static y).before args s = true) (hp : PreS s H Pc As)
    (hg : g.method = m) (hn : As.length = n) (hsize : g.locals.size = nL) (hstack : g.stack = As.reverse ++ rest) (hW : 2 * g.monitorRoom + (rest.map fun v => v.category).sum ≤ 8) (hdg : decode cc g.pc = .ok (.invokestatic index, 3)) (hf : cells + mc ≤ R.cells ∧ slots + ms ≤ R.slots) :
    vx_Run p l e R s m args below meth c H locs cells slots mc ms g rest (Qc As.toArray) XC free := by
  have hK : vx_Back l R p e below s args y 3 8 (PreOf R mc ms Pc) (PostOf Qc mc ms free) (vx_Post XC mc ms free) := vx_callBack cw.1 hM hp.1
  obtain ⟨⟨-, -, -, -, -, -, hcode, hini, hy, hlen, hl⟩, hstt⟩ := cw
  obtain ⟨hx, hb, hml, ho, -⟩ := S
  intro T hT X
  rcases vx_callS X hx (bytes := bytes) (maxL := maxL) (ret := ret) ho hl hstt hini hcode hy hK hg (hsize.trans hml.symm) (argsL := As) (rest := rest) (fun sig h => hn.trans (hlen sig h)) hstack hW (by rw [hb]; exact hdg)
    (fun vm₁ hW₁ => ⟨hf.1, hf.2, hp.2 (T.setVm vm₁) hT hW₁⟩) with ⟨v, vm₁, ⟨U', l2, c2, s2⟩, hW₁, X', ⟨g', mk, t, L, e1, e2, hq, h1, hL, h2, h3⟩, st⟩ | ⟨q, vm₁, ⟨U', l2, c2, s2⟩, hW₁, X', ⟨g', mk, t, L, E, ce, e1, e2, hq, hce, hcv, hcl, h1, hL, h2, h3⟩, st⟩
  · dsimp only [Pt.U, Pt.locs, Pt.cells, Pt.slots] at X' e1 e2 h1 h2 h3 st
    subst h1; subst h2; subst h3
    exact Or.inl ⟨v, (T.setVm vm₁).calling g' mk As.toArray, t, U', L, hT, X', hL, e1, e2, hq, st⟩
  · dsimp only [Pt.U, Pt.locs, Pt.cells, Pt.slots] at X' e1 e2 h1 h2 h3 st hcl
    subst h1; subst h2; subst h3
    exact Or.inr ⟨q, (T.setVm vm₁).calling g' mk As.toArray, t, U', L, E, ce, hT, X', hL, e1, e2, hq, hce, hcv, vx_cls hW₁ hcl, st⟩
end Runs
section Rows
variable {p : Program} {l : Launch} {e : Env} {R : Room} {s : State} {m : MethodId} {args : Array Value} {below : List Frame} {meth : Method} {c : Code} {H : Heap} {locs : List Loc} {cells slots : Nat} {Q : State → Prop}
variable {mc ms : Nat} {free : Addr → Prop} {A0 A1 : Nat → Prop} {H0 : Heap} {a : Array Value} {pc : Nat} {ls : Array Slot} {st0 rest : List Value}
theorem vx_keep {st₀ t T' : State} {L : List Loc} (h0 : st₀.heap = H) (e1 : T'.heap = t.heap) (hS : va_S A0 H0 H locs) (hA : ∀ q, q < H.size → A1 q → A0 q) (hf : ∀ q, free q → A0 q) (hL : ∀ q ∈ L, free q.base) (hF : va_F A1 st₀ t) :
    H.size ≤ T'.heap.size ∧ (∀ q : Nat, q < H.size → ¬ A1 q → T'.heap[q]? = H[q]?) ∧ va_S A0 H0 T'.heap (locs ++ L) := by
  obtain ⟨hz, hk⟩ := hF
  rw [h0] at hz hk
  exact ⟨by rw [e1]; exact hz, fun q h1 h2 => by rw [e1]; exact hk q h1 h2,
    ⟨Nat.le_trans hS.1 (by rw [e1]; exact hz), fun q h1 h2 => by rw [e1, hk q (Nat.lt_of_lt_of_le h1 hS.1) (fun z => h2 (hA q (Nat.lt_of_lt_of_le h1 hS.1) z))]; exact hS.2.1 q h1 h2, fun q hq => by
      rcases List.mem_append.mp hq with h | h
      · exact hS.2.2 q h
      · exact hf _ (hL q h)⟩⟩
theorem vx_calli {S SX : Type} {post : Int32 → S → Prop} {px : SX → Prop} {B : S → State → Prop} {BX : String → SX → State → Prop} {AX : Nat → Prop} (hr : vx_Run p l e R s m args below meth c H locs cells slots mc ms (F0 m pc ls st0) rest (va_Qi post B A1 a) (vx_X px BX AX) free) (hS : va_S A0 H0 H locs) (hA : ∀ q, q < H.size → A1 q → A0 q) (hf : ∀ q, free q → A0 q) (hAX : ∀ q, q < H.size → AX q → A0 q)
    (kx : ∀ (E : String) (ce : Cell) (q9 : Addr) (u : SX) (t : State) (H1 : Heap) (locs1 : List Loc), t.heap = H1 → s.vm.Alike t.vm → px u → BX E u t → H.size ≤ H1.size → (∀ q : Nat, q < H.size → ¬ AX q → H1[q]? = H[q]?) → va_S A0 H0 H1 locs1 → H1[q9]? = some ce → ce.vm = .none → s.vm.findClass E = some ce.cls → vx_W p l e R s m args below meth c H1 locs1 (cells + mc) (slots + ms) Q (F0 m pc ls rest) q9)
    (kk : ∀ (r : Int32) (u : S) (t : State) (H1 : Heap) (locs1 : List Loc), t.heap = H1 → s.vm.Alike t.vm → post r u → B u t → H.size ≤ H1.size → (∀ q : Nat, q < H.size → ¬ A1 q → H1[q]? = H[q]?) → va_S A0 H0 H1 locs1 → W p l e R s m args below meth c H1 locs1 (cells + mc) (slots + ms) Q (F0 m (pc + 3) ls (.int r :: rest))) : W p l e R s m args below meth c H locs cells slots Q (F0 m pc ls st0) := by
  intro T hT X
  rcases hr T hT X with ⟨v, st₀, t, T', L, h0, X', hL, e1, e2, ⟨⟨r, u, hv, hp, hb⟩, hF⟩, st⟩ | ⟨q, st₀, t, T', L, E, ce, h0, X', hL, e1, e2, ⟨u, hp, hb, hF⟩, hce, hcv, hcl, st⟩
  · cases hv
    obtain ⟨k1, k2, k3⟩ := vx_keep h0 e1 hS hA hf hL hF
    obtain ⟨t2, a1, b1⟩ := kk r u t T'.heap (locs ++ L) e1.symm (by rw [← e2]; exact X'.warmed.alike) hp hb k1 k2 k3 T' rfl X'
    exact ⟨t2, st t2 a1, b1⟩
  · obtain ⟨k1, k2, k3⟩ := vx_keep h0 e1 hS hAX hf hL hF
    obtain ⟨t2, a1, b1⟩ := kx E ce q u t T'.heap (locs ++ L) e1.symm (by rw [← e2]; exact X'.warmed.alike) hp hb k1 k2 k3 (by rw [e1]; exact hce) hcv hcl T' rfl X'
    exact ⟨t2, st.trans a1, b1⟩
theorem vx_calll {S SX : Type} {post : Int64 → S → Prop} {px : SX → Prop} {B : S → State → Prop} {BX : String → SX → State → Prop} {AX : Nat → Prop} (hr : vx_Run p l e R s m args below meth c H locs cells slots mc ms (F0 m pc ls st0) rest (va_Ql post B A1 a) (vx_X px BX AX) free) (hS : va_S A0 H0 H locs) (hA : ∀ q, q < H.size → A1 q → A0 q) (hf : ∀ q, free q → A0 q) (hAX : ∀ q, q < H.size → AX q → A0 q)
    (kx : ∀ (E : String) (ce : Cell) (q9 : Addr) (u : SX) (t : State) (H1 : Heap) (locs1 : List Loc), t.heap = H1 → s.vm.Alike t.vm → px u → BX E u t → H.size ≤ H1.size → (∀ q : Nat, q < H.size → ¬ AX q → H1[q]? = H[q]?) → va_S A0 H0 H1 locs1 → H1[q9]? = some ce → ce.vm = .none → s.vm.findClass E = some ce.cls → vx_W p l e R s m args below meth c H1 locs1 (cells + mc) (slots + ms) Q (F0 m pc ls rest) q9)
    (kk : ∀ (r : Int64) (u : S) (t : State) (H1 : Heap) (locs1 : List Loc), t.heap = H1 → s.vm.Alike t.vm → post r u → B u t → H.size ≤ H1.size → (∀ q : Nat, q < H.size → ¬ A1 q → H1[q]? = H[q]?) → va_S A0 H0 H1 locs1 → W p l e R s m args below meth c H1 locs1 (cells + mc) (slots + ms) Q (F0 m (pc + 3) ls (.long r :: rest))) : W p l e R s m args below meth c H locs cells slots Q (F0 m pc ls st0) := by
  intro T hT X
  rcases hr T hT X with ⟨v, st₀, t, T', L, h0, X', hL, e1, e2, ⟨⟨r, u, hv, hp, hb⟩, hF⟩, st⟩ | ⟨q, st₀, t, T', L, E, ce, h0, X', hL, e1, e2, ⟨u, hp, hb, hF⟩, hce, hcv, hcl, st⟩
  · cases hv
    obtain ⟨k1, k2, k3⟩ := vx_keep h0 e1 hS hA hf hL hF
    obtain ⟨t2, a1, b1⟩ := kk r u t T'.heap (locs ++ L) e1.symm (by rw [← e2]; exact X'.warmed.alike) hp hb k1 k2 k3 T' rfl X'
    exact ⟨t2, st t2 a1, b1⟩
  · obtain ⟨k1, k2, k3⟩ := vx_keep h0 e1 hS hAX hf hL hF
    obtain ⟨t2, a1, b1⟩ := kx E ce q u t T'.heap (locs ++ L) e1.symm (by rw [← e2]; exact X'.warmed.alike) hp hb k1 k2 k3 (by rw [e1]; exact hce) hcv hcl T' rfl X'
    exact ⟨t2, st.trans a1, b1⟩
theorem vx_callf {S SX : Type} {post : UInt32 → S → Prop} {px : SX → Prop} {B : S → State → Prop} {BX : String → SX → State → Prop} {AX : Nat → Prop} (hr : vx_Run p l e R s m args below meth c H locs cells slots mc ms (F0 m pc ls st0) rest (va_Qf post B A1 a) (vx_X px BX AX) free) (hS : va_S A0 H0 H locs) (hA : ∀ q, q < H.size → A1 q → A0 q) (hf : ∀ q, free q → A0 q) (hAX : ∀ q, q < H.size → AX q → A0 q)
    (kx : ∀ (E : String) (ce : Cell) (q9 : Addr) (u : SX) (t : State) (H1 : Heap) (locs1 : List Loc), t.heap = H1 → s.vm.Alike t.vm → px u → BX E u t → H.size ≤ H1.size → (∀ q : Nat, q < H.size → ¬ AX q → H1[q]? = H[q]?) → va_S A0 H0 H1 locs1 → H1[q9]? = some ce → ce.vm = .none → s.vm.findClass E = some ce.cls → vx_W p l e R s m args below meth c H1 locs1 (cells + mc) (slots + ms) Q (F0 m pc ls rest) q9)
    (kk : ∀ (r : UInt32) (u : S) (t : State) (H1 : Heap) (locs1 : List Loc), t.heap = H1 → s.vm.Alike t.vm → post r u → B u t → H.size ≤ H1.size → (∀ q : Nat, q < H.size → ¬ A1 q → H1[q]? = H[q]?) → va_S A0 H0 H1 locs1 → W p l e R s m args below meth c H1 locs1 (cells + mc) (slots + ms) Q (F0 m (pc + 3) ls (.float r :: rest))) : W p l e R s m args below meth c H locs cells slots Q (F0 m pc ls st0) := by
  intro T hT X
  rcases hr T hT X with ⟨v, st₀, t, T', L, h0, X', hL, e1, e2, ⟨⟨r, u, hv, hp, hb⟩, hF⟩, st⟩ | ⟨q, st₀, t, T', L, E, ce, h0, X', hL, e1, e2, ⟨u, hp, hb, hF⟩, hce, hcv, hcl, st⟩
  · cases hv
    obtain ⟨k1, k2, k3⟩ := vx_keep h0 e1 hS hA hf hL hF
    obtain ⟨t2, a1, b1⟩ := kk r u t T'.heap (locs ++ L) e1.symm (by rw [← e2]; exact X'.warmed.alike) hp hb k1 k2 k3 T' rfl X'
    exact ⟨t2, st t2 a1, b1⟩
  · obtain ⟨k1, k2, k3⟩ := vx_keep h0 e1 hS hAX hf hL hF
    obtain ⟨t2, a1, b1⟩ := kx E ce q u t T'.heap (locs ++ L) e1.symm (by rw [← e2]; exact X'.warmed.alike) hp hb k1 k2 k3 (by rw [e1]; exact hce) hcv hcl T' rfl X'
    exact ⟨t2, st.trans a1, b1⟩
theorem vx_calld {S SX : Type} {post : UInt64 → S → Prop} {px : SX → Prop} {B : S → State → Prop} {BX : String → SX → State → Prop} {AX : Nat → Prop} (hr : vx_Run p l e R s m args below meth c H locs cells slots mc ms (F0 m pc ls st0) rest (va_Qd post B A1 a) (vx_X px BX AX) free) (hS : va_S A0 H0 H locs) (hA : ∀ q, q < H.size → A1 q → A0 q) (hf : ∀ q, free q → A0 q) (hAX : ∀ q, q < H.size → AX q → A0 q)
    (kx : ∀ (E : String) (ce : Cell) (q9 : Addr) (u : SX) (t : State) (H1 : Heap) (locs1 : List Loc), t.heap = H1 → s.vm.Alike t.vm → px u → BX E u t → H.size ≤ H1.size → (∀ q : Nat, q < H.size → ¬ AX q → H1[q]? = H[q]?) → va_S A0 H0 H1 locs1 → H1[q9]? = some ce → ce.vm = .none → s.vm.findClass E = some ce.cls → vx_W p l e R s m args below meth c H1 locs1 (cells + mc) (slots + ms) Q (F0 m pc ls rest) q9)
    (kk : ∀ (r : UInt64) (u : S) (t : State) (H1 : Heap) (locs1 : List Loc), t.heap = H1 → s.vm.Alike t.vm → post r u → B u t → H.size ≤ H1.size → (∀ q : Nat, q < H.size → ¬ A1 q → H1[q]? = H[q]?) → va_S A0 H0 H1 locs1 → W p l e R s m args below meth c H1 locs1 (cells + mc) (slots + ms) Q (F0 m (pc + 3) ls (.double r :: rest))) : W p l e R s m args below meth c H locs cells slots Q (F0 m pc ls st0) := by
  intro T hT X
  rcases hr T hT X with ⟨v, st₀, t, T', L, h0, X', hL, e1, e2, ⟨⟨r, u, hv, hp, hb⟩, hF⟩, st⟩ | ⟨q, st₀, t, T', L, E, ce, h0, X', hL, e1, e2, ⟨u, hp, hb, hF⟩, hce, hcv, hcl, st⟩
  · cases hv
    obtain ⟨k1, k2, k3⟩ := vx_keep h0 e1 hS hA hf hL hF
    obtain ⟨t2, a1, b1⟩ := kk r u t T'.heap (locs ++ L) e1.symm (by rw [← e2]; exact X'.warmed.alike) hp hb k1 k2 k3 T' rfl X'
    exact ⟨t2, st t2 a1, b1⟩
  · obtain ⟨k1, k2, k3⟩ := vx_keep h0 e1 hS hAX hf hL hF
    obtain ⟨t2, a1, b1⟩ := kx E ce q u t T'.heap (locs ++ L) e1.symm (by rw [← e2]; exact X'.warmed.alike) hp hb k1 k2 k3 (by rw [e1]; exact hce) hcv hcl T' rfl X'
    exact ⟨t2, st.trans a1, b1⟩
theorem vx_callv {S SX : Type} {post : S → Prop} {px : SX → Prop} {B : S → State → Prop} {BX : String → SX → State → Prop} {AX : Nat → Prop} (hr : vx_Run p l e R s m args below meth c H locs cells slots mc ms (F0 m pc ls st0) rest (va_Qv post B A1 a) (vx_X px BX AX) free) (hS : va_S A0 H0 H locs) (hA : ∀ q, q < H.size → A1 q → A0 q) (hf : ∀ q, free q → A0 q) (hAX : ∀ q, q < H.size → AX q → A0 q)
    (kx : ∀ (E : String) (ce : Cell) (q9 : Addr) (u : SX) (t : State) (H1 : Heap) (locs1 : List Loc), t.heap = H1 → s.vm.Alike t.vm → px u → BX E u t → H.size ≤ H1.size → (∀ q : Nat, q < H.size → ¬ AX q → H1[q]? = H[q]?) → va_S A0 H0 H1 locs1 → H1[q9]? = some ce → ce.vm = .none → s.vm.findClass E = some ce.cls → vx_W p l e R s m args below meth c H1 locs1 (cells + mc) (slots + ms) Q (F0 m pc ls rest) q9)
    (kk : ∀ (u : S) (t : State) (H1 : Heap) (locs1 : List Loc), t.heap = H1 → s.vm.Alike t.vm → post u → B u t → H.size ≤ H1.size → (∀ q : Nat, q < H.size → ¬ A1 q → H1[q]? = H[q]?) → va_S A0 H0 H1 locs1 → W p l e R s m args below meth c H1 locs1 (cells + mc) (slots + ms) Q (F0 m (pc + 3) ls (rest))) : W p l e R s m args below meth c H locs cells slots Q (F0 m pc ls st0) := by
  intro T hT X
  rcases hr T hT X with ⟨v, st₀, t, T', L, h0, X', hL, e1, e2, ⟨⟨u, hv, hp, hb⟩, hF⟩, st⟩ | ⟨q, st₀, t, T', L, E, ce, h0, X', hL, e1, e2, ⟨u, hp, hb, hF⟩, hce, hcv, hcl, st⟩
  · cases hv
    obtain ⟨k1, k2, k3⟩ := vx_keep h0 e1 hS hA hf hL hF
    obtain ⟨t2, a1, b1⟩ := kk u t T'.heap (locs ++ L) e1.symm (by rw [← e2]; exact X'.warmed.alike) hp hb k1 k2 k3 T' rfl X'
    exact ⟨t2, st t2 a1, b1⟩
  · obtain ⟨k1, k2, k3⟩ := vx_keep h0 e1 hS hAX hf hL hF
    obtain ⟨t2, a1, b1⟩ := kx E ce q u t T'.heap (locs ++ L) e1.symm (by rw [← e2]; exact X'.warmed.alike) hp hb k1 k2 k3 (by rw [e1]; exact hce) hcv hcl T' rfl X'
    exact ⟨t2, st.trans a1, b1⟩
/-- caught by the row x of this method's table; the rows ahead don't take it -/
theorem vx_catch {own name : String} {E : String} {ce : Cell} {q : Addr} (hown : s.vm.findClass own = some m.cls) (pre : List ExceptionTableEntry) (x : ExceptionTableEntry) (suf : List ExceptionTableEntry) (hsplit : c.exceptionTable.toList = pre ++ x :: suf)
    (hpass : ∀ z ∈ pre, covers z pc = false ∨ (z.catchType ≠ 0 ∧ ∃ nm : String, (Cond.classLink own z.catchType nm).before args s = true ∧ va_Nc E nm s)) (hx : covers x pc = true) (h0 : x.catchType ≠ 0)
    (hlink : (Cond.classLink own x.catchType name).before args s = true) (hcast : (Cond.castable E name).before args s = true) (hcell : H[q]? = some ce) (hv : ce.vm = .none) (hcl : s.vm.findClass E = some ce.cls)
    (kk : W p l e R s m args below meth c H locs cells slots Q (F0 m x.handlerPc ls [.ref q])) : vx_W p l e R s m args below meth c H locs cells slots Q (F0 m pc ls rest) q := by
  intro T hT X
  have hpl : e.platform.magicAccessors = ({} : Platform).magicAccessors := by rw [X.admits.platform]
  obtain ⟨c3, c4, hc3, hc4, hasg⟩ := Cond.castable_spec hcast
  cases Option.some.inj (hc3.symm.trans hcl)
  obtain ⟨c5, hc5, hcl5⟩ := Cond.classLink_spec hown hlink e.platform hpl
  cases Option.some.inj (hc4.symm.trans hc5)
  obtain ⟨vm', X', st⟩ := X.thenCaughtThrough q (g := F0 m pc ls rest) rfl (Steps.refl _) (by rw [hT]; exact hcell) (by rw [hv]; rfl) (by obtain ⟨k9, h9, -⟩ := Vm.findClass_spec hcl; exact ⟨k9, h9⟩) pre x suf hsplit
    (fun z hz => by
      rcases hpass z hz with h | ⟨hz0, nm, hl1, hn1⟩
      · exact Or.inl h
      · obtain ⟨c6, hc6, hcl6⟩ := Cond.classLink_spec hown hl1 e.platform hpl
        obtain ⟨a8, b8, h1, h2, h3⟩ := hn1
        cases Option.some.inj (h1.symm.trans hcl)
        cases Option.some.inj (h2.symm.trans hc6)
        exact Or.inr ⟨hz0, _, hcl6, h3⟩) hx (Or.inr ⟨h0, c4, hcl5, hasg⟩)
  obtain ⟨t, a1, b1⟩ := kk (T.setVm vm') hT X'
  exact ⟨t, st.trans a1, b1⟩
end Rows
section Ends
variable {p : Program} {l : Launch} {e : Env} {R : Room} {s : State} {m : MethodId} {args : Array Value} {below : List Frame} {meth : Method} {c : Code} {H : Heap} {locs : List Loc} {cells slots : Nat} {Q : State → Prop}
variable {mc ms : Nat} {free : Addr → Prop} {A0 A1 : Nat → Prop} {H0 : Heap} {a : Array Value} {ls : Array Slot} {st0 rest : List Value}
variable {Qc : Array Value → State → Outcome → State → Prop} {XC : String → State → State → Prop}
/-- what a body that may throw owes at its end -/
def vx_MQ (below : List Frame) (Qc : Array Value → State → Outcome → State → Prop) (XC : String → State → State → Prop) (a : Array Value) (s : State) (mc ms : Nat) (free : Addr → Prop) : State → Prop := fun t =>
  ∃ o, t.status = .running ∧ Ended t below o ∧ vx_Q Qc XC mc ms free a s o t
theorem vx_ret {g : JFrame} {mc ms : Nat} (k : W p l e R s m args below meth c H locs cells slots (MQ below Qc args s mc ms free) g) : W p l e R s m args below meth c H locs cells slots (vx_MQ below Qc XC args s mc ms free) g := by
  intro T hT X
  obtain ⟨t, a1, o, b1, b2, b3, b4⟩ := k T hT X
  exact ⟨t, a1, o, b1, b2, Or.inl ⟨b3, b4⟩⟩
/-- not caught here: it goes on to the caller -/
theorem vx_widen {g : JFrame} {q : Addr} {k n : Nat} (h1 : cells ≤ k) (h2 : slots ≤ n) (kk : vx_W p l e R s m args below meth c H locs k n Q g q) : vx_W p l e R s m args below meth c H locs cells slots Q g q := fun T hT X => kk T hT (stand_widen X h1 h2)
theorem vx_out {pc : Nat} {E : String} {ce : Cell} {q : Addr} {mc ms : Nat} (hout : ∀ x ∈ c.exceptionTable.toList, covers x pc = false) (hlocks : meth.locks = false) (hcell : H[q]? = some ce) (hv : ce.vm = .none) (hcl : s.vm.findClass E = some ce.cls)
    (hx : ∀ t : State, t.heap = H → s.vm.Alike t.vm → XC E s t) (hf : ∀ z ∈ locs, free z.base) (hc : cells ≤ mc) (hs : slots ≤ ms) :
    vx_W p l e R s m args below meth c H locs cells slots (vx_MQ below Qc XC args s mc ms free) (F0 m pc ls rest) q := by
  intro T hT X
  obtain ⟨st1, hrun, hend, hW, hsm⟩ := X.leaveThrown q (g := F0 m pc ls rest) rfl rfl rfl hout hlocks
  have hcell9 : (T.setFrames (.throwing q :: below)).heap[q]? = some ce := by
    show T.heap[q]? = some ce
    rw [hT]; exact hcell
  exact ⟨_, st1, .threw q, hrun, hend, Or.inr ⟨q, rfl, E, ce, locs, hx _ hT hW.alike, hcell9, hv, hcl, hW, hsm.mono hc hs, hf⟩⟩
theorem vx_frame {U : State} {k n : Nat} (h : s.sameButNew ({ U with vm := s.vm } : State) locs k n) : s.heap.size ≤ U.heap.size ∧ ∀ q : Nat, q < s.heap.size → (∀ z ∈ locs, z.base ≠ q) → U.heap[q]? = s.heap[q]? := by
  obtain ⟨-, h2, -, -, -, h6⟩ := h
  refine ⟨h2, fun q hq hz => ?_⟩
  obtain ⟨c9, e1, e2, e3, e4⟩ := h6 q _ (Array.getElem?_eq_getElem hq)
  have hs : c9.slots = (s.heap[q]).slots := Array.ext_getElem? fun i => e4 i fun hm => hz _ hm rfl
  have h9 : c9 = s.heap[q] := by
    rw [hs] at e2
    exact e2
  have e5 : U.heap[q]? = some c9 := e1
  rw [e5, h9, Array.getElem?_eq_getElem hq]
/-- the words of a throw but the four that speak of the heap -/
def vx_no (w : Cond) : Bool := decide (w ≠ .isRef (.static Bundle.tN "UNASSIGNED_STACK" Bundle.steD)) && decide (w ≠ .isRef (.static Bundle.tN "SUPPRESSED_SENTINEL" Bundle.listD)) && decide (w ≠ .laysStatic Bundle.tN "UNASSIGNED_STACK" Bundle.steD) && decide (w ≠ .laysStatic Bundle.tN "SUPPRESSED_SENTINEL" Bundle.listD)
def vx_at0 (own : String) (ic : Nat) (X : String) (names : List String) : List Cond := (Bundle.ownAtoms0 own ic X names).filter vx_no
def vx_atS (own : String) (ic : Nat) (X : String) (names : List String) : List Cond := (Bundle.ownAtoms own ic X names).filter vx_no
/-- a word that the tables alone decide, or a good one -/
def vx_ot (w : Cond) : Bool := w.onTables || goodWord w
theorem vx_ot_at {args a' : Array Value} {s U : State} {w : Cond} (hW : s.WarmedH U.vm) (hvm : s.vm = U.vm) (hg : vx_ot w = true) (h : w.before args s = true) : w.before a' U = true := by
  simp only [vx_ot, Bool.or_eq_true] at hg
  rcases hg with hg | hg
  · exact va_tabs hg hvm h
  · exact word_at hW (good_of_word hg) h
/-- a list's words: the good ones out of the method's own list, the others by premises of their own -/
theorem vx_hat {args : Array Value} {s : State} {L B : List Cond} (h1 : ∀ w ∈ L.filter goodWord, w.before args s = true) (h2 : ∀ w ∈ L.filter (fun w => !goodWord w), w ∈ B) (h3 : ∀ w ∈ B, w.before args s = true) : ∀ w ∈ L, w.before args s = true := by
  intro w hw
  by_cases g : goodWord w = true
  · exact h1 w (List.mem_filter.mpr ⟨hw, g⟩)
  · refine h3 w (h2 w (List.mem_filter.mpr ⟨hw, ?_⟩))
    show (!goodWord w) = true
    cases hgw : goodWord w
    · rfl
    · exact absurd hgw g
theorem vx_c {args : Array Value} {s : State} {w : Cond} {B : List Cond} (h : w.before args s = true) (t : ∀ w ∈ B, w.before args s = true) : ∀ w' ∈ w :: B, w'.before args s = true := fun w' h' => (List.mem_cons.mp h').elim (fun e => by rw [e]; exact h) (t w')
theorem vx_n {args : Array Value} {s : State} : ∀ w ∈ ([] : List Cond), w.before args s = true := fun _ h => nomatch h
theorem vx_own {args : Array Value} {s : State} {L : List Cond} (h1 : ∀ w ∈ L.filter vx_no, w.before args s = true)
    (hU : (Cond.isRef (.static Bundle.tN "UNASSIGNED_STACK" Bundle.steD)).before args s = true) (hN : (Cond.isRef (.static Bundle.tN "SUPPRESSED_SENTINEL" Bundle.listD)).before args s = true)
    (lU : (Cond.laysStatic Bundle.tN "UNASSIGNED_STACK" Bundle.steD).before args s = true) (lN : (Cond.laysStatic Bundle.tN "SUPPRESSED_SENTINEL" Bundle.listD).before args s = true) : ∀ w ∈ L, w.before args s = true := by
  intro w hw
  by_cases e1 : w = .isRef (.static Bundle.tN "UNASSIGNED_STACK" Bundle.steD)
  · rw [e1]; exact hU
  · by_cases e2 : w = .isRef (.static Bundle.tN "SUPPRESSED_SENTINEL" Bundle.listD)
    · rw [e2]; exact hN
    · by_cases e3 : w = .laysStatic Bundle.tN "UNASSIGNED_STACK" Bundle.steD
      · rw [e3]; exact lU
      · by_cases e4 : w = .laysStatic Bundle.tN "SUPPRESSED_SENTINEL" Bundle.listD
        · rw [e4]; exact lN
        · exact h1 w (List.mem_filter.mpr ⟨hw, by unfold vx_no; rw [decide_eq_true e1, decide_eq_true e2, decide_eq_true e3, decide_eq_true e4]; rfl⟩)
/-- where a static field lies, its class's statics cell in H -/
def vx_L (C n d : String) (A : Nat → Prop) (U : State) (H : Heap) : Prop := ∃ (c : ClassId) (k : Class) (i : Nat) (f : Field) (a : Nat) (cell : Cell), U.vm.findClass C = some c ∧ U.fieldFound? C n d = some (c, k, i, f) ∧ f.isStatic = true ∧ k.statics = some a ∧ H[a]? = some cell ∧ cell.vm.isStatics = true ∧ cell.cls = c ∧ f.slot < cell.slots.size ∧ k.staticTypes[f.slot]? = some f.type ∧ ¬ A a
theorem vx_L.moved {C n d : String} {A : Nat → Prop} {u U : State} {H : Heap} (hvm : u.vm.Alike U.vm) (h : vx_L C n d A u H) : vx_L C n d A U H := by
  obtain ⟨c, k, i, f, a, cell, h1, h2, h3, h4, h5, h6, h7, h8, h9, h10⟩ := h
  obtain ⟨k', hi', he⟩ := State.fieldFound?_setVm hvm h2
  exact ⟨c, k', i, f, a, cell, by rw [hvm.findClass]; exact h1, hi', h3, by rw [he]; exact h4, h5, h6, h7, h8, by rw [he]; exact h9, h10⟩
theorem vx_L.kept {C n d : String} {A : Nat → Prop} {U : State} {H H1 : Heap} (h : vx_L C n d A U H) (hq : ∀ a : Nat, a < H.size → ¬ A a → H1[a]? = H[a]?) : vx_L C n d A U H1 := by
  obtain ⟨c, k, i, f, a, cell, h1, h2, h3, h4, h5, h6, h7, h8, h9, h10⟩ := h
  exact ⟨c, k, i, f, a, cell, h1, h2, h3, h4, by rw [hq a (Array.getElem?_eq_some_iff.mp h5).1 h10]; exact h5, h6, h7, h8, h9, h10⟩
theorem vx_L.narrow {C n d : String} {A B : Nat → Prop} {U : State} {H : Heap} (h : vx_L C n d A U H) (hAB : ∀ q, B q → A q) : vx_L C n d B U H := by
  obtain ⟨c, k, i, f, a, cell, h1, h2, h3, h4, h5, h6, h7, h8, h9, h10⟩ := h
  exact ⟨c, k, i, f, a, cell, h1, h2, h3, h4, h5, h6, h7, h8, h9, fun z => h10 (hAB _ z)⟩
theorem vx_L.word {C n d : String} {A : Nat → Prop} {s : State} {args : Array Value} (h : vx_L C n d A s s.heap) : (Cond.laysStatic C n d).before args s = true := by
  obtain ⟨c, k, i, f, a, cell, h1, h2, h3, h4, h5, h6, h7, h8, h9, -⟩ := h
  show (Cond.laysStatic C n d).holds args s none s [] = true
  exact Cond.laysStatic_of h1 h2 h3 h4 h5 h6 h7 h8 h9
/-- .. and what it holds: null or some reference -/
def vx_Zq (C n d : String) (A : Nat → Prop) (U : State) (H : Heap) : Prop := va_Zq C n d A U H ∧ vx_L C n d A U H
theorem vx_Zq.moved {C n d : String} {A : Nat → Prop} {u U : State} {H : Heap} (hvm : u.vm.Alike U.vm) (h : vx_Zq C n d A u H) : vx_Zq C n d A U H := ⟨va_Zq.moved hvm h.1, vx_L.moved hvm h.2⟩
theorem vx_Zq.kept {C n d : String} {A : Nat → Prop} {U : State} {H H1 : Heap} (h : vx_Zq C n d A U H) (hq : ∀ a : Nat, a < H.size → ¬ A a → H1[a]? = H[a]?) : vx_Zq C n d A U H1 := ⟨va_Zq.kept h.1 hq, vx_L.kept h.2 hq⟩
theorem vx_Zq.narrow {C n d : String} {A B : Nat → Prop} {U : State} {H : Heap} (h : vx_Zq C n d A U H) (hAB : ∀ q, B q → A q) : vx_Zq C n d B U H := ⟨va_Zq.narrow h.1 hAB, vx_L.narrow h.2 hAB⟩
theorem vx_Zqof {args : Array Value} {s : State} {C n d : String} {A : Nat → Prop} (hl : (Cond.laysStatic C n d).before args s = true) (hini : (Cond.initialized C).before args s = true) (h : (Cond.isRef (.static C n d)).before args s = true) (hA : ∀ a : Nat, a < s.heap.size → ¬ A a) : vx_Zq C n d A s s.heap := by
  refine ⟨va_Zqof hl hini h hA, ?_⟩
  obtain ⟨c, k, i, f, a, cell, h1, h2, h3, h4, h5, h6, h7, h8, h9⟩ := Cond.laysStatic_spec hl
  exact ⟨c, k, i, f, a, cell, h1, h2, h3, h4, h5, h6, h7, h8, h9, hA a (Array.getElem?_eq_some_iff.mp h5).1⟩
theorem vx_isRef {C n d : String} {v : Value} {A : Nat → Prop} {s : State} {args : Array Value} (h : va_Z C n d v A s s.heap) (hv : v.isRef = true) : (Cond.isRef (.static C n d)).before args s = true := by
  obtain ⟨cf, kf, fi, f, a, cell, h1, h2, h3, h4, h5, h6, h7, -⟩ := h
  have he : (Term.static C n d).eval args s none [] s = some v := by
    simp [Term.eval, State.fieldNamed?, h1, h2, h4, h5, h6, h7]
  simp only [Cond.before, Cond.holds, Cond.value, he]
  cases v <;> simp_all [Value.isRef]
theorem vx_isRefq {C n d : String} {A : Nat → Prop} {s : State} {args : Array Value} (h : va_Zq C n d A s s.heap) : (Cond.isRef (.static C n d)).before args s = true := by
  rcases h with h | ⟨t, h⟩
  · exact vx_isRef h rfl
  · exact vx_isRef h rfl
/-- the same frame, seen from here: as if the method were called anew in this heap -/
theorem vx_rebase {T : State} (X : Stand p l e R s m args below meth c T locs cells slots) {R' : Room} (hf : R'.frames ≤ R.frames) (hl : R'.locals ≤ R.locals) (hc : cells + R'.cells ≤ R.cells) (hs : slots + R'.slots ≤ R.slots) :
    Stand p l e R' ((T.setVm s.vm).setFrames (.invoking m args :: below)) m args below meth c T [] 0 0 := by
  have htop : (T.setVm s.vm).topJava?.isSome := X.here.top
  have hF : ((T.setVm s.vm).setFrames (.invoking m args :: below)).frames = .invoking m args :: below := State.frames_setFrames _ (State.cur_lt_of_top htop)
  obtain ⟨g₀, hg0⟩ := Option.isSome_iff_exists.mp htop
  obtain ⟨r, hr⟩ := State.topJava?_eq_some.mp hg0
  have hl9 : e.platform.stackLimits (T.setVm s.vm).me = e.platform.stackLimits s.me := X.limits
  have hb9 : (T.setVm s.vm).me.stackBytes = s.me.stackBytes := X.bytes
  refine ⟨X.admits, X.cas, X.clock, hF, ?_, X.hears, X.method, X.code, X.here, X.tail, X.warmed, ?_, ?_, ?_⟩
  · have h := X.room
    have hU : ((T.setVm s.vm).setFrames (.invoking m args :: below)).localsInUse = s.localsInUse := by
      rw [State.localsInUse_invoking hF (meth := meth) (c := c) X.method X.code, State.localsInUse_invoking X.frames X.method X.code]
    simp only [State.hasRoom, Bool.and_eq_true, decide_eq_true_eq] at h ⊢
    obtain ⟨⟨⟨⟨h1, h2, h3, h4, h5, h6⟩, h7⟩, h8⟩, h9⟩ := h
    rw [X.frames, List.length_cons] at h2 h3
    have q1 := X.heapSize
    have q2 := X.used
    simp only [hF, hU, List.length_cons, State.stackLimits_setFrames, State.stackBytes_setFrames, hl9, hb9]
    refine ⟨⟨⟨⟨by omega, by omega, by omega, by omega, by omega, h6⟩, ?_⟩, ?_⟩, X.book⟩
    · show T.heap.size + R'.cells ≤ e.platform.maxCells
      omega
    · show T.slotsUsed + R'.slots ≤ e.platform.maxSlots
      omega
  · rw [State.stackLimits_setFrames]; rfl
  · rw [State.stackBytes_setFrames]; rfl
  · refine ⟨?_, Nat.le_refl _, Nat.le_refl _, ?_, ?_, fun a c9 h9 => ⟨c9, h9, rfl, rfl, fun _ _ => rfl⟩⟩
    · obtain ⟨t, ht, -⟩ := State.frames_cons hr
      show T.setVm s.vm = { ((T.setVm s.vm).setFrames (.invoking m args :: below)).setFrames (T.setVm s.vm).frames with heap := T.heap, slotsUsed := T.slotsUsed }
      rw [State.setFrames_setFrames, State.setFrames_self ht]
      rfl
    · show T.slotsUsed = T.slotsUsed + ((T.heap.toList.drop T.heap.size).map (·.slots.size)).sum
      rw [List.drop_eq_nil_of_le (Nat.le_of_eq Array.length_toList)]
      rfl
    · show ((T.heap.toList.drop T.heap.size).map (·.slots.size)).sum ≤ 0
      rw [List.drop_eq_nil_of_le (Nat.le_of_eq Array.length_toList)]
      exact Nat.le_refl _
/-- 'throw new E()': new; dup; invokespecial; athrow -/
theorem vx_throw0 {cc : ByteArray} {pc : Nat} (hexec : p.tables.exec = Jvm.exec) (hb : c.code = cc) (hl : l.stackTraces = false) {own cls : String} {names : List String} {ik ic mc ms : Nat} {A : Nat → Prop}
    (hown : s.vm.findClass own = some m.cls) (hcls : Bundle.fit cls = true) (hnames : ∀ n ∈ names, Bundle.fit n = true)
    (hk : (Cond.classLink own ik cls).before args s = true) (hini : (Cond.initialized cls).before args s = true) (hat : ∀ w ∈ vx_at0 own ic cls names, w.before args s = true)
    (hgood : ∀ w ∈ Cond.classLink own ik cls :: Cond.initialized cls :: vx_at0 own ic cls names, vx_ot w = true)
    (hU : vx_Zq Bundle.tN "UNASSIGNED_STACK" Bundle.steD A s s.heap) (hN : vx_Zq Bundle.tN "SUPPRESSED_SENTINEL" Bundle.listD A s s.heap) (hS : va_S A s.heap H locs) (hsize : ls.size = c.maxLocals)
    (d0 : decode cc pc = .ok (.new ik, 3)) (d3 : decode cc (pc + 3) = .ok (.dup, 1)) (d4 : decode cc (pc + 4) = .ok (.invokespecial ic, 3)) (d7 : decode cc (pc + 7) = .ok (.athrow, 1))
    (hout : ∀ x ∈ c.exceptionTable.toList, covers x (pc + 7) = false)
    (hRframes : names.length + 3 < R.frames) (hRlocals : (rest.map fun v => v.category).sum + (13 * (names.length + 1) + 42) ≤ R.locals) (hRcells : cells + 1 ≤ R.cells) (hRslots : slots + 6 ≤ R.slots) (hlocks : meth.locks = false)
    (hx : ∀ t : State, s.vm.Alike t.vm → H.size ≤ t.heap.size → (∀ q : Nat, q < H.size → t.heap[q]? = H[q]?) → XC cls s t)
    (hf : ∀ z ∈ locs, free z.base) (hc : cells + 1 ≤ mc) (hs : slots + 6 ≤ ms) :
    W p l e R s m args below meth c H locs cells slots (vx_MQ below Qc XC args s mc ms free) (F0 m pc ls rest) := by
  intro T hT X
  have htr : e.platform.stackTraces = false := (show e.platform.stackTraces = l.stackTraces by rw [X.admits.platform]).trans hl
  have Y := vx_rebase X (R' := { frames := R.frames, locals := R.locals, cells := 1, slots := 6 }) (Nat.le_refl _) (Nat.le_refl _) hRcells hRslots
  obtain ⟨s', hA⟩ : ∃ z, z = (T.setVm s.vm).setFrames (.invoking m args :: below) := ⟨_, rfl⟩
  rw [← hA] at Y
  have hvm : s'.vm = s.vm := by rw [hA]; rfl
  have hhp : s'.heap = H := by rw [hA]; exact hT
  have hW0 : s.WarmedH s'.vm := by rw [hvm]; exact State.WarmedH.refl s
  have hat' : ∀ w ∈ vx_at0 own ic cls names, w.before args s' = true := fun w hw => vx_ot_at hW0 hvm.symm (hgood w (List.mem_cons_of_mem _ (List.mem_cons_of_mem _ hw))) (hat w hw)
  have hk' : (Cond.classLink own ik cls).before args s' = true := vx_ot_at hW0 hvm.symm (hgood _ List.mem_cons_self) hk
  have hini' : (Cond.initialized cls).before args s' = true := vx_ot_at hW0 hvm.symm (hgood _ (List.mem_cons_of_mem _ List.mem_cons_self)) hini
  have hU' : vx_Zq Bundle.tN "UNASSIGNED_STACK" Bundle.steD A s' s'.heap := by rw [hhp]; exact vx_Zq.moved hW0.alike (hU.kept hS.2.1)
  have hN' : vx_Zq Bundle.tN "SUPPRESSED_SENTINEL" Bundle.listD A s' s'.heap := by rw [hhp]; exact vx_Zq.moved hW0.alike (hN.kept hS.2.1)
  have h : ∀ w ∈ Bundle.ownAtoms0 own ic cls names, w.before args s' = true := vx_own hat' (vx_isRefq hU'.1) (vx_isRefq hN'.1) hU'.2.word hN'.2.word
  have hown' : s'.vm.findClass own = some m.cls := by rw [hvm]; exact hown
  have hins : (Cond.instantiable cls 6).before args s' = true := h _ (by simp [Bundle.ownAtoms0])
  obtain ⟨vm₁, cX, kX, hfX, hkX, -, -, X₁, st1⟩ := Y.newCold hexec (own := own) (C := cls) (index := ik) (n := 6) hown' hk' hins hini'
    (g := F0 m pc ls rest) rfl (by rw [hb]; exact d0) (Nat.le_refl _) (Nat.le_refl _)
  generalize hT1 : (T.setVm vm₁).pushCell { cls := cX, slots := kX.instanceTypes.map defaultValue, vm := .none } = T1 at X₁ st1
  have hcat : (Value.ref T.heap.size).category = 1 := rfl
  have hcellA : T1.heap[T.heap.size]? = some (freshCell cX kX) := by rw [← hT1]; exact State.heap_pushCell_size _ _
  have d3' : decode c.code (pc + 3) = .ok (.dup, 1) := by rw [hb]; exact d3
  obtain ⟨U, hsteps, hrun, hend, hW, hsame, ce, hce, hO⟩ := X₁.ctorThrow0 hexec htr (own := own) (cls := cls) (names := names) (ic := ic) hown' hcls hnames h (fun x hx => nomatch hx) hfX hkX hcellA (by rw [hhp, hT]; exact Nat.le_refl _)
    (g := { method := m, pc := pc + 4, locals := ls, stack := .ref T.heap.size :: .ref T.heap.size :: rest, locked := none }) rfl hsize rfl rfl (rest := rest) rfl
    (by rw [hb]; exact d4) (by rw [hb]; exact d7) hout hRframes (by simp only [List.map_cons, List.sum_cons, hcat]; omega) hlocks
  obtain ⟨f1, f2⟩ := vx_frame hsame
  rw [hhp] at f1 f2
  have hWs : s.WarmedH U.vm := State.WarmedH.trans hW0 hW
  have hcl : s.vm.findClass cls = some ce.cls := by
    have h9 := hO.cls
    rw [hvm] at h9
    exact h9
  have hall : s.sameButNew ({ U with vm := s.vm } : State) locs mc ms := by
    subst hA
    obtain ⟨e1, e2⟩ := hsame
    rw [State.setFrames_setFrames] at e1
    have h2 : (T.setVm s.vm).sameButNew ({ U with vm := s.vm } : State) [] (0 + 1) (0 + 6) := ⟨e1, e2⟩
    have h3 := X.same.trans h2
    rw [List.append_nil] at h3
    exact h3.mono hc hs
  refine ⟨U, ?_, .threw T.heap.size, hrun, hend, Or.inr ⟨T.heap.size, rfl, cls, ce, locs, hx U hWs.alike f1 (fun q hq => f2 q hq (fun z hz => nomatch hz)), hce, hO.vm, hcl, hWs, hall, hf⟩⟩
  refine st1 _ ?_
  show Steps p.tables e below (T1.setTop { method := m, pc := pc + 3, locals := ls, stack := .ref T.heap.size :: rest, locked := none }) _
  jvm_step X₁.here [X₁.here.top, hexec, d3', Value.category]
  exact hsteps
/-- 'throw new E("text")': new; dup; ldc; invokespecial; athrow -/
theorem vx_throwS {cc : ByteArray} {pc : Nat} (hexec : p.tables.exec = Jvm.exec) (hb : c.code = cc) (hl : l.stackTraces = false) {own cls text : String} {names : List String} {ik is ic mc ms sa : Nat} {A : Nat → Prop}
    (hown : s.vm.findClass own = some m.cls) (hcls : Bundle.fit cls = true) (hnames : ∀ n ∈ names, Bundle.fit n = true)
    (hk : (Cond.classLink own ik cls).before args s = true) (hini : (Cond.initialized cls).before args s = true) (hstr : vk_R own is text sa s) (hat : ∀ w ∈ vx_atS own ic cls names, w.before args s = true)
    (hgood : ∀ w ∈ Cond.classLink own ik cls :: Cond.initialized cls :: vx_atS own ic cls names, vx_ot w = true)
    (hU : vx_Zq Bundle.tN "UNASSIGNED_STACK" Bundle.steD A s s.heap) (hN : vx_Zq Bundle.tN "SUPPRESSED_SENTINEL" Bundle.listD A s s.heap) (hS : va_S A s.heap H locs) (hsize : ls.size = c.maxLocals)
    (d0 : decode cc pc = .ok (.new ik, 3)) (d3 : decode cc (pc + 3) = .ok (.dup, 1)) (d4 : decode cc (pc + 4) = .ok (.ldc is, 2)) (d6 : decode cc (pc + 6) = .ok (.invokespecial ic, 3)) (d9 : decode cc (pc + 9) = .ok (.athrow, 1))
    (hout : ∀ x ∈ c.exceptionTable.toList, covers x (pc + 9) = false)
    (hRframes : names.length + 3 < R.frames) (hRlocals : (rest.map fun v => v.category).sum + (13 * (names.length + 1) + 43) ≤ R.locals) (hRcells : cells + 1 ≤ R.cells) (hRslots : slots + 6 ≤ R.slots) (hlocks : meth.locks = false)
    (hx : ∀ t : State, s.vm.Alike t.vm → H.size ≤ t.heap.size → (∀ q : Nat, q < H.size → t.heap[q]? = H[q]?) → XC cls s t)
    (hf : ∀ z ∈ locs, free z.base) (hc : cells + 1 ≤ mc) (hs : slots + 6 ≤ ms) :
    W p l e R s m args below meth c H locs cells slots (vx_MQ below Qc XC args s mc ms free) (F0 m pc ls rest) := by
  intro T hT X
  have htr : e.platform.stackTraces = false := (show e.platform.stackTraces = l.stackTraces by rw [X.admits.platform]).trans hl
  have Y := vx_rebase X (R' := { frames := R.frames, locals := R.locals, cells := 1, slots := 6 }) (Nat.le_refl _) (Nat.le_refl _) hRcells hRslots
  obtain ⟨s', hA⟩ : ∃ z, z = (T.setVm s.vm).setFrames (.invoking m args :: below) := ⟨_, rfl⟩
  rw [← hA] at Y
  have hvm : s'.vm = s.vm := by rw [hA]; rfl
  have hhp : s'.heap = H := by rw [hA]; exact hT
  have hW0 : s.WarmedH s'.vm := by rw [hvm]; exact State.WarmedH.refl s
  have hat' : ∀ w ∈ vx_atS own ic cls names, w.before args s' = true := fun w hw => vx_ot_at hW0 hvm.symm (hgood w (List.mem_cons_of_mem _ (List.mem_cons_of_mem _ hw))) (hat w hw)
  have hk' : (Cond.classLink own ik cls).before args s' = true := vx_ot_at hW0 hvm.symm (hgood _ List.mem_cons_self) hk
  have hini' : (Cond.initialized cls).before args s' = true := vx_ot_at hW0 hvm.symm (hgood _ (List.mem_cons_of_mem _ List.mem_cons_self)) hini
  have hU' : vx_Zq Bundle.tN "UNASSIGNED_STACK" Bundle.steD A s' s'.heap := by rw [hhp]; exact vx_Zq.moved hW0.alike (hU.kept hS.2.1)
  have hN' : vx_Zq Bundle.tN "SUPPRESSED_SENTINEL" Bundle.listD A s' s'.heap := by rw [hhp]; exact vx_Zq.moved hW0.alike (hN.kept hS.2.1)
  have h : ∀ w ∈ Bundle.ownAtoms own ic cls names, w.before args s' = true := vx_own hat' (vx_isRefq hU'.1) (vx_isRefq hN'.1) hU'.2.word hN'.2.word
  have hown' : s'.vm.findClass own = some m.cls := by rw [hvm]; exact hown
  have hins : (Cond.instantiable cls 6).before args s' = true := h _ (by simp [Bundle.ownAtoms])
  obtain ⟨vm₁, cX, kX, hfX, hkX, -, -, X₁, st1⟩ := Y.newCold hexec (own := own) (C := cls) (index := ik) (n := 6) hown' hk' hins hini'
    (g := F0 m pc ls rest) rfl (by rw [hb]; exact d0) (Nat.le_refl _) (Nat.le_refl _)
  generalize hT1 : (T.setVm vm₁).pushCell { cls := cX, slots := kX.instanceTypes.map defaultValue, vm := .none } = T1 at X₁ st1
  have hcat : (Value.ref T.heap.size).category = 1 := rfl
  have hcellA : T1.heap[T.heap.size]? = some (freshCell cX kX) := by rw [← hT1]; exact State.heap_pushCell_size _ _
  have d3' : decode c.code (pc + 3) = .ok (.dup, 1) := by rw [hb]; exact d3
  have d4' : decode c.code (pc + 4) = .ok (.ldc is, 2) := by rw [hb]; exact d4
  have hstr' : vk_R own is text sa s' := vk_R.warm hW0 hstr
  obtain ⟨U, hsteps, hrun, hend, hW, hsame, ce, hce, hO⟩ := X₁.ctorThrowS hexec htr (own := own) (cls := cls) (names := names) (ic := ic) hown' hcls hnames h (fun x hx => nomatch hx) hfX hkX hcellA (by rw [hhp, hT]; exact Nat.le_refl _) (msg := .ref sa) rfl
    (g := { method := m, pc := pc + 6, locals := ls, stack := .ref sa :: .ref T.heap.size :: .ref T.heap.size :: rest, locked := none }) rfl hsize rfl rfl (rest := rest) rfl
    (by rw [hb]; exact d6) (by rw [hb]; exact d9) hout hRframes (by simp only [List.map_cons, List.sum_cons, hcat]; omega) hlocks
  obtain ⟨f1, f2⟩ := vx_frame hsame
  rw [hhp] at f1 f2
  have hWs : s.WarmedH U.vm := State.WarmedH.trans hW0 hW
  have hcl : s.vm.findClass cls = some ce.cls := by
    have h9 := hO.cls
    rw [hvm] at h9
    exact h9
  have hall : s.sameButNew ({ U with vm := s.vm } : State) locs mc ms := by
    subst hA
    obtain ⟨e1, e2⟩ := hsame
    rw [State.setFrames_setFrames] at e1
    have h2 : (T.setVm s.vm).sameButNew ({ U with vm := s.vm } : State) [] (0 + 1) (0 + 6) := ⟨e1, e2⟩
    have h3 := X.same.trans h2
    rw [List.append_nil] at h3
    exact h3.mono hc hs
  refine ⟨U, ?_, .threw T.heap.size, hrun, hend, Or.inr ⟨T.heap.size, rfl, cls, ce, locs, hx U hWs.alike f1 (fun q hq => f2 q hq (fun z hz => nomatch hz)), hce, hO.vm, hcl, hWs, hall, hf⟩⟩
  refine st1 _ ?_
  show Steps p.tables e below (T1.setTop { method := m, pc := pc + 3, locals := ls, stack := .ref T.heap.size :: rest, locked := none }) _
  jvm_step X₁.here [X₁.here.top, hexec, d3', Value.category]
  exact X₁.ldcString hexec (own := own) (text := text) (index := is) (a := sa) hown' hstr'.1 hstr'.2
    (g := { method := m, pc := pc + 4, locals := ls, stack := .ref T.heap.size :: .ref T.heap.size :: rest, locked := none }) rfl d4' _ hsteps
/-- 'throw new E("text")', the text by a wide index -/
theorem vx_throwSW {cc : ByteArray} {pc : Nat} (hexec : p.tables.exec = Jvm.exec) (hb : c.code = cc) (hl : l.stackTraces = false) {own cls text : String} {names : List String} {ik is ic mc ms sa : Nat} {A : Nat → Prop}
    (hown : s.vm.findClass own = some m.cls) (hcls : Bundle.fit cls = true) (hnames : ∀ n ∈ names, Bundle.fit n = true)
    (hk : (Cond.classLink own ik cls).before args s = true) (hini : (Cond.initialized cls).before args s = true) (hstr : vk_R own is text sa s) (hat : ∀ w ∈ vx_atS own ic cls names, w.before args s = true)
    (hgood : ∀ w ∈ Cond.classLink own ik cls :: Cond.initialized cls :: vx_atS own ic cls names, vx_ot w = true)
    (hU : vx_Zq Bundle.tN "UNASSIGNED_STACK" Bundle.steD A s s.heap) (hN : vx_Zq Bundle.tN "SUPPRESSED_SENTINEL" Bundle.listD A s s.heap) (hS : va_S A s.heap H locs) (hsize : ls.size = c.maxLocals)
    (d0 : decode cc pc = .ok (.new ik, 3)) (d3 : decode cc (pc + 3) = .ok (.dup, 1)) (d4 : decode cc (pc + 4) = .ok (.ldc_w is, 3)) (d7 : decode cc (pc + 7) = .ok (.invokespecial ic, 3)) (d10 : decode cc (pc + 10) = .ok (.athrow, 1))
    (hout : ∀ x ∈ c.exceptionTable.toList, covers x (pc + 10) = false)
    (hRframes : names.length + 3 < R.frames) (hRlocals : (rest.map fun v => v.category).sum + (13 * (names.length + 1) + 43) ≤ R.locals) (hRcells : cells + 1 ≤ R.cells) (hRslots : slots + 6 ≤ R.slots) (hlocks : meth.locks = false)
    (hx : ∀ t : State, s.vm.Alike t.vm → H.size ≤ t.heap.size → (∀ q : Nat, q < H.size → t.heap[q]? = H[q]?) → XC cls s t)
    (hf : ∀ z ∈ locs, free z.base) (hc : cells + 1 ≤ mc) (hs : slots + 6 ≤ ms) :
    W p l e R s m args below meth c H locs cells slots (vx_MQ below Qc XC args s mc ms free) (F0 m pc ls rest) := by
  intro T hT X
  have htr : e.platform.stackTraces = false := (show e.platform.stackTraces = l.stackTraces by rw [X.admits.platform]).trans hl
  have Y := vx_rebase X (R' := { frames := R.frames, locals := R.locals, cells := 1, slots := 6 }) (Nat.le_refl _) (Nat.le_refl _) hRcells hRslots
  obtain ⟨s', hA⟩ : ∃ z, z = (T.setVm s.vm).setFrames (.invoking m args :: below) := ⟨_, rfl⟩
  rw [← hA] at Y
  have hvm : s'.vm = s.vm := by rw [hA]; rfl
  have hhp : s'.heap = H := by rw [hA]; exact hT
  have hW0 : s.WarmedH s'.vm := by rw [hvm]; exact State.WarmedH.refl s
  have hat' : ∀ w ∈ vx_atS own ic cls names, w.before args s' = true := fun w hw => vx_ot_at hW0 hvm.symm (hgood w (List.mem_cons_of_mem _ (List.mem_cons_of_mem _ hw))) (hat w hw)
  have hk' : (Cond.classLink own ik cls).before args s' = true := vx_ot_at hW0 hvm.symm (hgood _ List.mem_cons_self) hk
  have hini' : (Cond.initialized cls).before args s' = true := vx_ot_at hW0 hvm.symm (hgood _ (List.mem_cons_of_mem _ List.mem_cons_self)) hini
  have hU' : vx_Zq Bundle.tN "UNASSIGNED_STACK" Bundle.steD A s' s'.heap := by rw [hhp]; exact vx_Zq.moved hW0.alike (hU.kept hS.2.1)
  have hN' : vx_Zq Bundle.tN "SUPPRESSED_SENTINEL" Bundle.listD A s' s'.heap := by rw [hhp]; exact vx_Zq.moved hW0.alike (hN.kept hS.2.1)
  have h : ∀ w ∈ Bundle.ownAtoms own ic cls names, w.before args s' = true := vx_own hat' (vx_isRefq hU'.1) (vx_isRefq hN'.1) hU'.2.word hN'.2.word
  have hown' : s'.vm.findClass own = some m.cls := by rw [hvm]; exact hown
  have hins : (Cond.instantiable cls 6).before args s' = true := h _ (by simp [Bundle.ownAtoms])
  obtain ⟨vm₁, cX, kX, hfX, hkX, -, -, X₁, st1⟩ := Y.newCold hexec (own := own) (C := cls) (index := ik) (n := 6) hown' hk' hins hini'
    (g := F0 m pc ls rest) rfl (by rw [hb]; exact d0) (Nat.le_refl _) (Nat.le_refl _)
  generalize hT1 : (T.setVm vm₁).pushCell { cls := cX, slots := kX.instanceTypes.map defaultValue, vm := .none } = T1 at X₁ st1
  have hcat : (Value.ref T.heap.size).category = 1 := rfl
  have hcellA : T1.heap[T.heap.size]? = some (freshCell cX kX) := by rw [← hT1]; exact State.heap_pushCell_size _ _
  have d3' : decode c.code (pc + 3) = .ok (.dup, 1) := by rw [hb]; exact d3
  have d4' : decode c.code (pc + 4) = .ok (.ldc_w is, 3) := by rw [hb]; exact d4
  have hstr' : vk_R own is text sa s' := vk_R.warm hW0 hstr
  obtain ⟨U, hsteps, hrun, hend, hW, hsame, ce, hce, hO⟩ := X₁.ctorThrowS hexec htr (own := own) (cls := cls) (names := names) (ic := ic) hown' hcls hnames h (fun x hx => nomatch hx) hfX hkX hcellA (by rw [hhp, hT]; exact Nat.le_refl _) (msg := .ref sa) rfl
    (g := { method := m, pc := pc + 7, locals := ls, stack := .ref sa :: .ref T.heap.size :: .ref T.heap.size :: rest, locked := none }) rfl hsize rfl rfl (rest := rest) rfl
    (by rw [hb]; exact d7) (by rw [hb]; exact d10) hout hRframes (by simp only [List.map_cons, List.sum_cons, hcat]; omega) hlocks
  obtain ⟨f1, f2⟩ := vx_frame hsame
  rw [hhp] at f1 f2
  have hWs : s.WarmedH U.vm := State.WarmedH.trans hW0 hW
  have hcl : s.vm.findClass cls = some ce.cls := by
    have h9 := hO.cls
    rw [hvm] at h9
    exact h9
  have hall : s.sameButNew ({ U with vm := s.vm } : State) locs mc ms := by
    subst hA
    obtain ⟨e1, e2⟩ := hsame
    rw [State.setFrames_setFrames] at e1
    have h2 : (T.setVm s.vm).sameButNew ({ U with vm := s.vm } : State) [] (0 + 1) (0 + 6) := ⟨e1, e2⟩
    have h3 := X.same.trans h2
    rw [List.append_nil] at h3
    exact h3.mono hc hs
  refine ⟨U, ?_, .threw T.heap.size, hrun, hend, Or.inr ⟨T.heap.size, rfl, cls, ce, locs, hx U hWs.alike f1 (fun q hq => f2 q hq (fun z hz => nomatch hz)), hce, hO.vm, hcl, hWs, hall, hf⟩⟩
  refine st1 _ ?_
  show Steps p.tables e below (T1.setTop { method := m, pc := pc + 3, locals := ls, stack := .ref T.heap.size :: rest, locked := none }) _
  jvm_step X₁.here [X₁.here.top, hexec, d3', Value.category]
  exact X₁.ldcStringW hexec (own := own) (text := text) (index := is) (a := sa) hown' hstr'.1 hstr'.2
    (g := { method := m, pc := pc + 4, locals := ls, stack := .ref T.heap.size :: .ref T.heap.size :: rest, locked := none }) rfl d4' _ hsteps
end Ends
section Bodies
variable {l : Launch}
theorem vx_ofW {y : MethodName} {ws ws' : List Cond} {rm : Room} {Pc : Array Value → State → Prop} {Qc : Array Value → State → Outcome → State → Prop} {XC : String → State → State → Prop} {mc ms : Nat} {free : Addr → Prop} {cc : ByteArray} {maxL : Nat} {ret : Option FieldType}
    (hy : plainName y.cls = true) (hw : ws = Cond.code y cc maxL ret :: ws')
    (body : ∀ p e s m args below meth c s₁, BodyLoose p l y (headSpec ws rm) cc maxL ret e s m args below meth c s₁ → c.maxLocals = maxL → (∀ x ∈ c.exceptionTable.toList, False) → Pc args s →
      W p l e (headSpec ws rm).room s m args below meth c s.heap [] 0 0 (vx_MQ below Qc XC args s mc ms free) (entryFrame m args maxL)) : vx_Met l y ws rm Pc Qc XC mc ms free := by
  refine MetFree.of_bodyS (code := cc) (maxLocals := maxL) (ret := ret) hy ?_ ?_
  · intro args s m h hn
    obtain ⟨meth, c, h1, h2, h3, h4, h5, h6, -, -⟩ := Cond.code_spec hn (atoms_spec (ws := ws) h _ (by rw [hw]; exact List.mem_cons_self))
    exact ⟨meth, c, h1, h2, h3, h4, h5, h6⟩
  · intro p e s m args below meth c s₁ B hml hP _
    have hh0 : s₁.heap = s.heap := by rw [B.state]; rfl
    have ht : ∀ x ∈ c.exceptionTable.toList, False := by
      obtain ⟨meth9, c9, h1, h2, -, -, -, -, h7, -⟩ := Cond.code_spec B.named (atoms_spec (ws := ws) B.pre _ (by rw [hw]; exact List.mem_cons_self))
      cases Option.some.inj (h1.symm.trans B.method)
      cases Option.some.inj (h2.symm.trans (Stand.of_body B).code)
      intro x hx
      rw [Array.isEmpty_iff.mp h7] at hx
      cases hx
    obtain ⟨t, a1, o, b1, b2, b3⟩ := body p e s m args below meth c s₁ B hml ht hP s₁ hh0 (Stand.of_body B)
    exact ⟨t, o, a1, b1, b2, b3⟩
/-- the table of a body with handlers -/
theorem vx_table {p : Program} {x y : MethodName} {S : Spec} {cc bytes : ByteArray} {maxL maxL' : Nat} {ret ret' : Option FieldType} {e : Env} {s s₁ : State} {m : MethodId} {args : Array Value} {below : List Frame} {meth : Method} {c : Code} {hh : List (Nat × Nat × Nat × Nat)}
    (B : BodyLoose p l y S cc maxL ret e s m args below meth c s₁) (h : (Cond.codeWith y bytes maxL' ret' hh).before args s = true) : c.exceptionTable.toList = tableOf hh := by
  obtain ⟨m9, meth9, c9, hn9, h1, h2, -, -, h6, -⟩ := Cond.codeWith_spec h
  cases Option.some.inj (hn9.symm.trans B.named)
  cases Option.some.inj (h1.symm.trans B.method)
  cases Option.some.inj (h2.symm.trans (Stand.of_body B).code)
  rw [← h6, table_eq]
end Bodies
end VXA
/-! ===== END ===== -/
/-! ===== BEGIN a static call of a method with an exception table ===== -/
section VXS
variable {p : Program} {l : Launch} {e : Env} {R : Room} {s : State} {m : MethodId} {args : Array Value} {below : List Frame} {meth : Method} {c : Code} {T : State} {H : Heap} {locs : List Loc} {cells slots : Nat}
abbrev vx_CSW (R : Room) (s : State) (args : Array Value) (own : String) (index : Nat) (y : MethodName) (bytes : ByteArray) (maxL : Nat) (ret : Option FieldType) (hh : List (Nat × Nat × Nat × Nat)) (ws : List Cond) (rm : Room) (mc ms n : Nat) : Prop :=
  (rm.cells = mc ∧ rm.slots = ms ∧ rm.frames + 1 ≤ R.frames ∧ 8 + (maxL + 11) + rm.locals ≤ R.locals ∧ (∀ w ∈ ws, ∀ (a' : Array Value) (U : State), s.WarmedH U.vm → w.before a' U = true) ∧ Cond.codeWith y bytes maxL ret hh ∈ ws) ∧
  (Cond.codeWith y bytes maxL ret hh).before args s = true ∧ (Cond.initialized y.cls).before args s = true ∧ (y.cls ≠ "java/lang/invoke/MethodHandle" ∧ y.cls ≠ "java/lang/invoke/VarHandle") ∧
  (∀ sig, parseMethodDescriptor y.desc = some sig → n = sig.parameters.length) ∧ (Cond.methodLink own index y).before args s = true ∧ (Cond.static y).before args s = true
theorem vx_cwSW {own : String} {index maxL mc ms : Nat} {y : MethodName} {bytes : ByteArray} {ret : Option FieldType} {hh : List (Nat × Nat × Nat × Nat)} {Ts ws ws' : List Cond} {rm : Room} (n : Nat) (ht : ∀ w ∈ Ts, w.before args s = true) (hT : GoodIn Ts (va_wsS own index y ws)) (hw : ws = Cond.codeWith y bytes maxL ret hh :: ws') (hrc : rm.cells = mc) (hrs : rm.slots = ms)
    (hd : y.cls ≠ "java/lang/invoke/MethodHandle" ∧ y.cls ≠ "java/lang/invoke/VarHandle" ∧ (parseMethodDescriptor y.desc).map (fun d => d.parameters.length) = some n) (hR : rm.frames + 1 ≤ R.frames ∧ 8 + (maxL + 11) + rm.locals ≤ R.locals) :
    vx_CSW R s args own index y bytes maxL ret hh ws rm mc ms n := by
  have ok : ∀ w ∈ va_wsS own index y ws, w.before args s = true := fun w h => ht w (hT w h).1
  have hG : GoodIn Ts ws := fun w h => hT w (by unfold va_wsS; exact List.mem_append_right _ h)
  have hc : Cond.codeWith y bytes maxL ret hh ∈ ws := by rw [hw]; exact List.mem_cons_self
  refine ⟨⟨hrc, hrs, hR.1, hR.2, pay_in ht hG, hc⟩, ht _ (hG _ hc).1, ok _ (by simp [va_wsS]), ⟨hd.1, hd.2.1⟩, fun sig h => ?_, ok _ (by simp [va_wsS]), ok _ (by simp [va_wsS])⟩
  have h2 := hd.2.2
  rw [h] at h2
  exact (Option.some.inj h2).symm
theorem vx_callSW (X : Stand p l e R s m args below meth c T locs cells slots) (hexec : p.tables.exec = Jvm.exec) {own : String} {index : Nat} {y : MethodName} {bytes : ByteArray} {maxL : Nat} {ret : Option FieldType} {hh : List (Nat × Nat × Nat × Nat)}
    (hown : s.vm.findClass own = some m.cls) (hlink : (Cond.methodLink own index y).before args s = true) (hstat : (Cond.static y).before args s = true) (hinit : (Cond.initialized y.cls).before args s = true)
    (hcode : (Cond.codeWith y bytes maxL ret hh).before args s = true) (hy : y.cls ≠ "java/lang/invoke/MethodHandle" ∧ y.cls ≠ "java/lang/invoke/VarHandle")
    {W9 : Nat} {Pre : Pt → Array Value → Prop} {Post : Pt → Array Value → Option Value → Pt → Prop} (hK : Back l R p e below s args y 3 W9 Pre Post)
    {g : JFrame} (hg : g.method = m) (hsize : g.locals.size = c.maxLocals) {argsL rest : List Value} (hlen : ∀ sig, parseMethodDescriptor y.desc = some sig → argsL.length = sig.parameters.length)
    (hstack : g.stack = argsL.reverse ++ rest) (hW : 2 * g.monitorRoom + (rest.map fun v => v.category).sum ≤ W9) (hdg : decode c.code g.pc = .ok (.invokestatic index, 3))
    (hpre : ∀ vm₁, s.WarmedH vm₁ → Pre ⟨T.setVm vm₁, locs, cells, slots⟩ argsL.toArray) :
    ∃ (v : Option Value) (vm₁ : Vm) (B : Pt), s.WarmedH vm₁ ∧ Stand p l e R s m args below meth c B.U B.locs B.cells B.slots ∧ Post ⟨T.setVm vm₁, locs, cells, slots⟩ argsL.toArray v B ∧
      ∀ target, Steps p.tables e below (B.U.setTop { g with pc := g.pc + 3, stack := v.toList ++ rest }) target → Steps p.tables e below (T.setTop g) target := by
  obtain ⟨mk, methM, cM, hnamed, hmethM, -, -, -, -, -, -, hsigM⟩ := Cond.codeWith_spec hcode
  have hstatic : methM.isStatic = true := Cond.static_spec hnamed hmethM hstat
  obtain ⟨kP, hkP, -⟩ := className_of_methodNamed hnamed
  have hinitP : kP.init = .initialized := Cond.initialized_spec (findClass_of_methodNamed hnamed) hkP hinit
  obtain ⟨vm₁, X₁, hstep₁⟩ := X.invokestatic hexec hown hlink hnamed hmethM hstatic hkP hinitP hy (g := g) hg (argsL := argsL) (rest := rest) (hlen _ hsigM) hstack hdg
  obtain ⟨v, B, X', hpost, hsteps⟩ := hK m meth c ⟨T.setVm vm₁, locs, cells, slots⟩ { g with stack := rest } (.invokestatic index) mk argsL.toArray X₁ hg hsize hdg hW (X₁.named hnamed) (hpre vm₁ X₁.warmed)
  exact ⟨v, vm₁, B, X₁.warmed, X', hpost, fun target h => hstep₁ _ fun acts => by rw [doInvoke_state]; exact hsteps.trans h⟩
theorem vx_runSW {y : MethodName} {bytes cc : ByteArray} {maxL nL mc ms n index : Nat} {ret : Option FieldType} {hh : List (Nat × Nat × Nat × Nat)} {ws : List Cond} {rm : Room} {Pc : Array Value → State → Prop} {Qc : Array Value → State → Outcome → State → Prop} {free : Addr → Prop} {Ts : List Cond} {own : String} {As rest : List Value} {g : JFrame}
    (S : CallFix p m c cc nL s args Ts own) (hM : Met l y ws rm Pc Qc mc ms free) (cw : vx_CSW R s args own index y bytes maxL ret hh ws rm mc ms n) (hp : PreS s H Pc As)
    (hg : g.method = m) (hn : As.length = n) (hsize : g.locals.size = nL) (hstack : g.stack = As.reverse ++ rest) (hW : 2 * g.monitorRoom + (rest.map fun v => v.category).sum ≤ 8) (hdg : decode cc g.pc = .ok (.invokestatic index, 3)) (hf : cells + mc ≤ R.cells ∧ slots + ms ≤ R.slots) :
    va_Run p l e R s m args below meth c H locs cells slots mc ms g rest (Qc As.toArray) (free) := by
  obtain ⟨⟨hrc, hrs, hfr, hlo, hws, hcw⟩, hcode, hini, hy, hlen, hl, hstt⟩ := cw
  have hK : Back l R p e below s args y 3 8 (PreOf R mc ms Pc) (PostOf Qc mc ms free) := va_backW (hh := hh) (bytes := bytes) (maxL := maxL) (ret := ret) hM hp.1 hrc hrs hfr hlo hws hcw (fun a' U hW => word_at hW (Or.inl (by first | rfl | simp [Cond.onTables, Cond.keeps, Cond.steady])) hini)
  obtain ⟨hx, hb, hml, ho, -⟩ := S
  intro T hT X
  obtain ⟨v, vm₁, ⟨U', l2, c2, s2⟩, hW₁, X', ⟨g', mk, t, L, e1, e2, hq, h1, hL, h2, h3⟩, st⟩ := vx_callSW X hx (hh := hh) (bytes := bytes) (maxL := maxL) (ret := ret) ho hl hstt hini hcode hy hK hg (hsize.trans hml.symm) (argsL := As) (rest := rest) (fun sig h => hn.trans (hlen sig h)) hstack hW (by rw [hb]; exact hdg)
    (fun vm₁ hW₁ => ⟨hf.1, hf.2, hp.2 (T.setVm vm₁) hT hW₁⟩)
  dsimp only [Pt.U, Pt.locs, Pt.cells, Pt.slots] at X' e1 e2 h1 h2 h3 st
  subst h1; subst h2; subst h3
  exact ⟨v, (T.setVm vm₁).calling g' mk As.toArray, t, U', L, hT, X', hL, e1, e2, hq, st⟩
/-- not caught here, past rows that name other classes: it goes on to the caller -/
theorem vx_outP {p : Program} {l : Launch} {e : Env} {R : Room} {s : State} {m : MethodId} {args : Array Value} {below : List Frame} {meth : Method} {c : Code} {H : Heap} {locs : List Loc} {cells slots : Nat} {free : Addr → Prop} {ls : Array Slot} {rest : List Value} {Qc : Array Value → State → Outcome → State → Prop} {XC : String → State → State → Prop}
    {pc : Nat} {own E : String} {ce : Cell} {q : Addr} {mc ms : Nat} (hown : s.vm.findClass own = some m.cls) (hlocks : meth.locks = false)
    (hpass : ∀ z ∈ c.exceptionTable.toList, covers z pc = false ∨ (z.catchType ≠ 0 ∧ ∃ nm : String, (Cond.classLink own z.catchType nm).before args s = true ∧ va_Nc E nm s)) (hcell : H[q]? = some ce) (hv : ce.vm = .none) (hcl : s.vm.findClass E = some ce.cls)
    (hx : ∀ t : State, t.heap = H → s.vm.Alike t.vm → XC E s t) (hf : ∀ z ∈ locs, free z.base) (hc : cells ≤ mc) (hs : slots ≤ ms) :
    vx_W p l e R s m args below meth c H locs cells slots (vx_MQ below Qc XC args s mc ms free) (F0 m pc ls rest) q := by
  intro T hT X
  have hpl : e.platform.magicAccessors = ({} : Platform).magicAccessors := by rw [X.admits.platform]
  obtain ⟨vm', hW', X', st⟩ := X.outThrough hlocks q (g := F0 m pc ls rest) rfl rfl rfl (cell := ce) (by rw [hT]; exact hcell) (by rw [hv]; rfl)
    (by obtain ⟨k9, h9, -⟩ := Vm.findClass_spec hcl; exact ⟨k9, h9⟩) (fun z hz => by
      rcases hpass z hz with h | ⟨hz0, nm, hl1, hn1⟩
      · exact Or.inl h
      · obtain ⟨c6, hc6, hcl6⟩ := Cond.classLink_spec hown hl1 e.platform hpl
        obtain ⟨a8, b8, h1, h2, h3⟩ := hn1
        cases Option.some.inj (h1.symm.trans hcl)
        cases Option.some.inj (h2.symm.trans hc6)
        exact Or.inr ⟨hz0, _, hcl6, h3⟩)
  obtain ⟨g₀, hfr⟩ := X'.frames_eq
  have hcell9 : ((T.setVm vm').setFrames (.throwing q :: below)).heap[q]? = some ce := by
    show T.heap[q]? = some ce
    rw [hT]; exact hcell
  have hend : Ended ((T.setVm vm').setFrames (.throwing q :: below)) below (.threw q) := State.frames_setFrames _ (State.cur_lt_of_frames hfr)
  refine ⟨(T.setVm vm').setFrames (.throwing q :: below), ?_, .threw q, X'.here.running, hend, Or.inr ⟨q, rfl, E, ce, locs, hx _ hT (X'.ends _).1.alike, hcell9, hv, hcl, (X'.ends _).1, (X'.ends _).2.mono hc hs, hf⟩⟩
  rw [X.pushThrowing_eq]
  exact st
/-- a thing of a world lies in the heap -/
theorem vx_lt {D : va_G} {cl : List vw_C} {ws : va_W} {H1 : Heap} (h : va_P D cl ws H1) {k : Nat} {q : Nat × va_E} (hk : ws[k]? = some q) : q.1 < H1.size := (h k q hk).lt
end VXS
/-! ===== END ===== -/
/-! ===== BEGIN methods with a table of their own: called by a name, returning or throwing ===== -/
section VXH
/-! vx_backW, vx_callVX, vx_callSX, vx_callVW, vx_runVW, vx_runVX, vx_runSX, vx_ofWH follow the same proofs as their sisters above (Free/Laws.lean, Shelf42/LK1.lean); vx_outP calls Shelf42/NT130.lean (outThrough). -/
section
variable {l : Launch} {R : Room} {p : Program} {e : Env} {below : List Frame} {s : State} {sargs : Array Value} {y : MethodName} {len W9 : Nat}
theorem vx_backW {ws : List Cond} {rm : Room} {Pc : Array Value → State → Prop} {Qc : Array Value → State → Outcome → State → Prop} {XC : String → State → State → Prop} {mc ms : Nat} {free : Addr → Prop} {bytes : ByteArray} {maxL : Nat} {ret : Option FieldType} {hh : List (Nat × Nat × Nat × Nat)}
    (hM : vx_Met l y ws rm Pc Qc XC mc ms free) (hblind : FrameBlind Pc) (hrc : rm.cells = mc) (hrs : rm.slots = ms)
    (hframes : rm.frames + 1 ≤ R.frames) (hlocals : W9 + (maxL + 11) + rm.locals ≤ R.locals)
    (hws : ∀ w ∈ ws, ∀ a' U, s.WarmedH U.vm → w.before a' U = true) (hcode : Cond.codeWith y bytes maxL ret hh ∈ ws) (hinit : ∀ a' U, s.WarmedH U.vm → (Cond.initialized y.cls).before a' U = true) :
    vx_Back l R p e below s sargs y len W9 (PreOf R mc ms Pc) (PostOf Qc mc ms free) (vx_Post XC mc ms free) := by
  intro m meth c A g ig mk a X hg hsize hdg hW hn hp
  have h1 : (headSpec ws rm).pre.before a A.U = true := atoms_intro fun w hw => hws w hw _ _ X.warmed
  have h2 : (Cond.codeWith y bytes maxL ret hh).before a A.U = true := hws _ hcode _ _ X.warmed
  have h3 : (Cond.initialized y.cls).before a A.U = true := hinit _ _ X.warmed
  have h4 : A.cells + (headSpec ws rm).room.cells ≤ R.cells := by rw [show (headSpec ws rm).room.cells = mc from hrc]; exact hp.1
  have h5 : A.slots + (headSpec ws rm).room.slots ≤ R.slots := by rw [show (headSpec ws rm).room.slots = ms from hrs]; exact hp.2.1
  have hPc : Pc a (A.U.calling g mk a) := hblind _ _ _ _ hp.2.2
  obtain ⟨U, Ls, c0, s0⟩ := A
  dsimp only [Pt.U, Pt.locs, Pt.cells, Pt.slots] at h1 h2 h3 h4 h5 X hn hPc ⊢
  obtain ⟨m9, methY, cY, hn9, hmY, hcY, -, hlY, -⟩ := Cond.codeWith_spec h2
  cases Option.some.inj (hn9.symm.trans hn)
  obtain ⟨kY, hkY, -⟩ := className_of_methodNamed hn
  have hinitY : kY.init = .initialized := Cond.initialized_spec (findClass_of_methodNamed hn) hkY h3
  have h : At U g.method c below := by rw [hg]; exact X.here
  have hlocals9 : W9 + (maxL + 11) + (headSpec ws rm).room.locals ≤ R.locals := hlocals
  have happ : (headSpec ws rm).appliesLoose y e.platform (U.calling g mk a) = true :=
    Spec.appliesLoose_calling (g := g) h hdg hn hkY hinitY
      (X.room_calling (g := g) (R' := (headSpec ws rm).room) hsize hmY hcY hframes (by rw [hlY]; omega) h4 h5) h1
  obtain ⟨mid, hmid⟩ := h.above
  have hfr : (U.setTop g).frames = (.java g :: mid) ++ below := by rw [State.frames_setTop' g h.top, hmid]; rfl
  obtain ⟨o, s₂, hsteps, -, hend, hq⟩ := Steps.callFree hM p X.admits X.cas X.clock (acts := []) hfr happ hPc trivial
  have hq' : vx_Q Qc XC mc ms free a (U.calling g mk a) o s₂ := hq
  rw [State.frames_setTop' g h.top] at hend
  obtain ⟨g₀, hg0⟩ := Option.isSome_iff_exists.mp h.top
  obtain ⟨r, hr⟩ := State.topJava?_eq_some.mp hg0
  have hr' : (({ U with heap := s₂.heap, slotsUsed := s₂.slotsUsed } : State).setVm s₂.vm).frames = .java g₀ :: r := hr
  rcases hq' with ⟨hqc, L, hfe, hL⟩ | ⟨q, rfl, E, ce, L, hx, hce, hcv, hcl, hW₂, hsm, hL⟩
  · obtain ⟨⟨v, rfl⟩, hW₂, e2, q2, q3, q4, q5, q6⟩ := id hfe
    have e3 : s₂ = ({ (U.calling g mk a).setFrames s₂.frames with heap := s₂.heap, slotsUsed := s₂.slotsUsed } : State).setVm s₂.vm := by
      have : s₂ = ({ s₂ with vm := (U.calling g mk a).vm } : State).setVm s₂.vm := rfl
      rw [e2] at this
      exact this
    obtain ⟨c₂, i₂, len₂, hc₂, hd₂, hf₂⟩ := hend
    have hW' : U.WarmedH s₂.vm := hW₂
    have hcc : c₂ = c := by
      have h1 : s₂.code? g.method = U.code? g.method := by
        rw [State.code?_eq, State.code?_eq, hW'.alike.method?]
      exact Option.some.inj (hc₂.symm.trans (h1.trans h.code))
    subst hcc
    have hlen : len₂ = len := by rw [hdg] at hd₂; cases hd₂; rfl
    subst hlen
    have hs₂ : s₂ = (({ U with heap := s₂.heap, slotsUsed := s₂.slotsUsed } : State).setVm s₂.vm).setTop { g with pc := g.pc + len₂, stack := v.toList ++ g.stack } := by
      refine e3.trans ?_
      rw [hf₂, State.calling_eq h.top, State.setFrames_setFrames, State.setTop_of_frames _ hr', hr]
      rfl
    have hsame : U.sameButNew ({ U with heap := s₂.heap, slotsUsed := s₂.slotsUsed } : State) L mc ms := by
      refine ⟨?_, q2, q3, q4, q5, q6⟩
      obtain ⟨t, ht, -⟩ := State.frames_cons hr
      show ({ U with heap := s₂.heap, slotsUsed := s₂.slotsUsed } : State) = { U.setFrames U.frames with heap := s₂.heap, slotsUsed := s₂.slotsUsed }
      rw [State.setFrames_self ht]
    subst hg
    refine Or.inl ⟨v, ⟨(({ U with heap := s₂.heap, slotsUsed := s₂.slotsUsed } : State).setVm s₂.vm), Ls ++ L, c0 + mc, s0 + ms⟩,
      ⟨X.admits, X.cas, X.clock, X.frames, X.room, X.hears, X.method, X.code, (X.here.setHeapUsed s₂.heap s₂.slotsUsed).setVm hW'.alike, X.tail, State.WarmedH.trans X.warmed hW', X.limits, X.bytes, X.same.trans (hsame.setVm s.vm)⟩,
      ⟨g, mk, s₂, L, rfl, rfl, hqc, rfl, hL, rfl, rfl⟩, ?_⟩
    show Steps p.tables e below _ ((({ U with heap := s₂.heap, slotsUsed := s₂.slotsUsed } : State).setVm s₂.vm).setTop { g with pc := g.pc + len₂, stack := v.toList ++ g.stack })
    rw [← hs₂]
    exact hsteps
  · obtain ⟨e2, q2, q3, q4, q5, q6⟩ := id hsm
    have e3 : s₂ = ({ (U.calling g mk a).setFrames s₂.frames with heap := s₂.heap, slotsUsed := s₂.slotsUsed } : State).setVm s₂.vm := by
      have : s₂ = ({ s₂ with vm := (U.calling g mk a).vm } : State).setVm s₂.vm := rfl
      rw [e2] at this
      exact this
    have hf₂ : s₂.frames = .throwing q :: .java g :: U.frames.tail := hend
    have hW' : U.WarmedH s₂.vm := hW₂
    have hs₂ : s₂ = ((({ U with heap := s₂.heap, slotsUsed := s₂.slotsUsed } : State).setVm s₂.vm).setTop g).pushFrame (.throwing q) := by
      refine e3.trans ?_
      rw [hf₂, State.calling_eq h.top, State.setFrames_setFrames, State.pushFrame, State.frames_setTop _ hr', State.setTop_of_frames _ hr', State.setFrames_setFrames, hr]
      rfl
    have hsame : U.sameButNew ({ U with heap := s₂.heap, slotsUsed := s₂.slotsUsed } : State) L mc ms := by
      refine ⟨?_, q2, q3, q4, q5, q6⟩
      obtain ⟨t, ht, -⟩ := State.frames_cons hr
      show ({ U with heap := s₂.heap, slotsUsed := s₂.slotsUsed } : State) = { U.setFrames U.frames with heap := s₂.heap, slotsUsed := s₂.slotsUsed }
      rw [State.setFrames_self ht]
    subst hg
    refine Or.inr ⟨q, ⟨(({ U with heap := s₂.heap, slotsUsed := s₂.slotsUsed } : State).setVm s₂.vm), Ls ++ L, c0 + mc, s0 + ms⟩,
      ⟨X.admits, X.cas, X.clock, X.frames, X.room, X.hears, X.method, X.code, (X.here.setHeapUsed s₂.heap s₂.slotsUsed).setVm hW'.alike, X.tail, State.WarmedH.trans X.warmed hW', X.limits, X.bytes, X.same.trans (hsame.setVm s.vm)⟩,
      ⟨g, mk, s₂, L, E, ce, rfl, rfl, hx, hce, hcv, hcl, rfl, hL, rfl, rfl⟩, ?_⟩
    show Steps p.tables e below _ (((({ U with heap := s₂.heap, slotsUsed := s₂.slotsUsed } : State).setVm s₂.vm).setTop g).pushFrame (.throwing q))
    rw [← hs₂]
    exact hsteps
end
variable {p : Program} {l : Launch} {e : Env} {R : Room} {s : State} {m : MethodId} {args : Array Value} {below : List Frame} {meth : Method} {c : Code} {T : State} {H : Heap} {locs : List Loc} {cells slots : Nat}
theorem vx_callVX (X : Stand p l e R s m args below meth c T locs cells slots) (hexec : p.tables.exec = Jvm.exec) {own C : String} {index : Nat} {y : MethodName} {bytes : ByteArray} {maxL : Nat} {ret : Option FieldType} {hh : List (Nat × Nat × Nat × Nat)}
    (hown : s.vm.findClass own = some m.cls) (hlink : (Cond.methodLink own index y).before args s = true) (hinst : (Cond.instanceMethod y).before args s = true) (hsel : (Cond.selects C y y).before args s = true)
    (hcode : (Cond.codeWith y bytes maxL ret hh).before args s = true) (hy : y.cls ≠ "java/lang/invoke/MethodHandle" ∧ y.cls ≠ "java/lang/invoke/VarHandle")
    {W9 : Nat} {Pre : Pt → Array Value → Prop} {Post : Pt → Array Value → Option Value → Pt → Prop} {PostX : Pt → Array Value → Addr → Pt → Prop} (hK : vx_Back l R p e below s args y 3 W9 Pre Post PostX)
    {b : Addr} {cellB : Cell} (hcell : T.heap[b]? = some cellB) (hobj : cellB.vm.isStatics = false) (hcls : s.vm.findClass C = some cellB.cls)
    {g : JFrame} (hg : g.method = m) (hsize : g.locals.size = c.maxLocals) {argsL rest : List Value} (hlen : ∀ sig, parseMethodDescriptor y.desc = some sig → argsL.length = sig.parameters.length)
    (hstack : g.stack = argsL.reverse ++ .ref b :: rest) (hW : 2 * g.monitorRoom + (rest.map fun v => v.category).sum ≤ W9) (hdg : decode c.code g.pc = .ok (.invokevirtual index, 3))
    (hpre : ∀ vm₁, s.WarmedH vm₁ → Pre ⟨T.setVm vm₁, locs, cells, slots⟩ (Value.ref b :: argsL).toArray) :
    (∃ (v : Option Value) (vm₁ : Vm) (B : Pt), s.WarmedH vm₁ ∧ Stand p l e R s m args below meth c B.U B.locs B.cells B.slots ∧ Post ⟨T.setVm vm₁, locs, cells, slots⟩ (Value.ref b :: argsL).toArray v B ∧
      ∀ target, Steps p.tables e below (B.U.setTop { g with pc := g.pc + 3, stack := v.toList ++ rest }) target → Steps p.tables e below (T.setTop g) target) ∨
    (∃ (q : Addr) (vm₁ : Vm) (B : Pt), s.WarmedH vm₁ ∧ Stand p l e R s m args below meth c B.U B.locs B.cells B.slots ∧ PostX ⟨T.setVm vm₁, locs, cells, slots⟩ (Value.ref b :: argsL).toArray q B ∧
      Steps p.tables e below (T.setTop g) ((B.U.setTop { g with stack := rest }).pushFrame (.throwing q))) := by
  obtain ⟨mk, methM, hnamed, hmethM, hstM, habM⟩ := Cond.instanceMethod_spec hinst
  obtain ⟨m8, methM', cM, hn8, hmethM', -, -, -, -, -, -, hsigM⟩ := Cond.codeWith_spec hcode
  cases Option.some.inj (hn8.symm.trans hnamed)
  cases hmethM.symm.trans hmethM'
  obtain ⟨c2, r2, m2, q1, q2, q3, q4, kP, hkP, hkPi⟩ := Cond.selects_spec hsel
  cases hcls.symm.trans q1
  cases (State.methodFound?_of_named hnamed hy).symm.trans q2
  cases hnamed.symm.trans q3
  have hselP : selectMethod e.platform s.vm cellB.cls mk = .method mk := by rw [Launch.admits_selectMethod X.admits]; exact q4
  obtain ⟨vm₁, X₁, hstep₁⟩ := X.invokevirtual hexec hown hlink hnamed hmethM hstM hkP hkPi hy (a := b) (cell := cellB) hcell
    (fun z h => by rw [h] at hobj; cases hobj) hselP hmethM habM hkP hkPi (g := g) hg (argsL := argsL) (rest := rest) (hlen _ hsigM) hstack hdg
  rcases hK m meth c ⟨T.setVm vm₁, locs, cells, slots⟩ { g with stack := rest } (.invokevirtual index) mk (Value.ref b :: argsL).toArray X₁ hg hsize hdg hW (X₁.named hnamed) (hpre vm₁ X₁.warmed) with ⟨v, B, X', hpost, hsteps⟩ | ⟨q, B, X', hpost, hsteps⟩
  · exact Or.inl ⟨v, vm₁, B, X₁.warmed, X', hpost, fun target h => hstep₁ _ fun acts => by rw [doInvoke_state]; exact hsteps.trans h⟩
  · exact Or.inr ⟨q, vm₁, B, X₁.warmed, X', hpost, hstep₁ _ fun acts => by rw [doInvoke_state]; exact hsteps⟩
theorem vx_callSX (X : Stand p l e R s m args below meth c T locs cells slots) (hexec : p.tables.exec = Jvm.exec) {own : String} {index : Nat} {y : MethodName} {bytes : ByteArray} {maxL : Nat} {ret : Option FieldType} {hh : List (Nat × Nat × Nat × Nat)}
    (hown : s.vm.findClass own = some m.cls) (hlink : (Cond.methodLink own index y).before args s = true) (hstat : (Cond.static y).before args s = true) (hinit : (Cond.initialized y.cls).before args s = true)
    (hcode : (Cond.codeWith y bytes maxL ret hh).before args s = true) (hy : y.cls ≠ "java/lang/invoke/MethodHandle" ∧ y.cls ≠ "java/lang/invoke/VarHandle")
    {W9 : Nat} {Pre : Pt → Array Value → Prop} {Post : Pt → Array Value → Option Value → Pt → Prop} {PostX : Pt → Array Value → Addr → Pt → Prop} (hK : vx_Back l R p e below s args y 3 W9 Pre Post PostX)
    {g : JFrame} (hg : g.method = m) (hsize : g.locals.size = c.maxLocals) {argsL rest : List Value} (hlen : ∀ sig, parseMethodDescriptor y.desc = some sig → argsL.length = sig.parameters.length)
    (hstack : g.stack = argsL.reverse ++ rest) (hW : 2 * g.monitorRoom + (rest.map fun v => v.category).sum ≤ W9) (hdg : decode c.code g.pc = .ok (.invokestatic index, 3))
    (hpre : ∀ vm₁, s.WarmedH vm₁ → Pre ⟨T.setVm vm₁, locs, cells, slots⟩ argsL.toArray) :
    (∃ (v : Option Value) (vm₁ : Vm) (B : Pt), s.WarmedH vm₁ ∧ Stand p l e R s m args below meth c B.U B.locs B.cells B.slots ∧ Post ⟨T.setVm vm₁, locs, cells, slots⟩ argsL.toArray v B ∧
      ∀ target, Steps p.tables e below (B.U.setTop { g with pc := g.pc + 3, stack := v.toList ++ rest }) target → Steps p.tables e below (T.setTop g) target) ∨
    (∃ (q : Addr) (vm₁ : Vm) (B : Pt), s.WarmedH vm₁ ∧ Stand p l e R s m args below meth c B.U B.locs B.cells B.slots ∧ PostX ⟨T.setVm vm₁, locs, cells, slots⟩ argsL.toArray q B ∧
      Steps p.tables e below (T.setTop g) ((B.U.setTop { g with stack := rest }).pushFrame (.throwing q))) := by
  obtain ⟨mk, methM, cM, hnamed, hmethM, -, -, -, -, -, -, hsigM⟩ := Cond.codeWith_spec hcode
  have hstatic : methM.isStatic = true := Cond.static_spec hnamed hmethM hstat
  obtain ⟨kP, hkP, -⟩ := className_of_methodNamed hnamed
  have hinitP : kP.init = .initialized := Cond.initialized_spec (findClass_of_methodNamed hnamed) hkP hinit
  obtain ⟨vm₁, X₁, hstep₁⟩ := X.invokestatic hexec hown hlink hnamed hmethM hstatic hkP hinitP hy (g := g) hg (argsL := argsL) (rest := rest) (hlen _ hsigM) hstack hdg
  rcases hK m meth c ⟨T.setVm vm₁, locs, cells, slots⟩ { g with stack := rest } (.invokestatic index) mk argsL.toArray X₁ hg hsize hdg hW (X₁.named hnamed) (hpre vm₁ X₁.warmed) with ⟨v, B, X', hpost, hsteps⟩ | ⟨q, B, X', hpost, hsteps⟩
  · exact Or.inl ⟨v, vm₁, B, X₁.warmed, X', hpost, fun target h => hstep₁ _ fun acts => by rw [doInvoke_state]; exact hsteps.trans h⟩
  · exact Or.inr ⟨q, vm₁, B, X₁.warmed, X', hpost, hstep₁ _ fun acts => by rw [doInvoke_state]; exact hsteps⟩
theorem vx_callVW (X : Stand p l e R s m args below meth c T locs cells slots) (hexec : p.tables.exec = Jvm.exec) {own C : String} {index : Nat} {y : MethodName} {bytes : ByteArray} {maxL : Nat} {ret : Option FieldType} {hh : List (Nat × Nat × Nat × Nat)}
    (hown : s.vm.findClass own = some m.cls) (hlink : (Cond.methodLink own index y).before args s = true) (hinst : (Cond.instanceMethod y).before args s = true) (hsel : (Cond.selects C y y).before args s = true)
    (hcode : (Cond.codeWith y bytes maxL ret hh).before args s = true) (hy : y.cls ≠ "java/lang/invoke/MethodHandle" ∧ y.cls ≠ "java/lang/invoke/VarHandle")
    {W9 : Nat} {Pre : Pt → Array Value → Prop} {Post : Pt → Array Value → Option Value → Pt → Prop} (hK : Back l R p e below s args y 3 W9 Pre Post)
    {b : Addr} {cellB : Cell} (hcell : T.heap[b]? = some cellB) (hobj : cellB.vm.isStatics = false) (hcls : s.vm.findClass C = some cellB.cls)
    {g : JFrame} (hg : g.method = m) (hsize : g.locals.size = c.maxLocals) {argsL rest : List Value} (hlen : ∀ sig, parseMethodDescriptor y.desc = some sig → argsL.length = sig.parameters.length)
    (hstack : g.stack = argsL.reverse ++ .ref b :: rest) (hW : 2 * g.monitorRoom + (rest.map fun v => v.category).sum ≤ W9) (hdg : decode c.code g.pc = .ok (.invokevirtual index, 3))
    (hpre : ∀ vm₁, s.WarmedH vm₁ → Pre ⟨T.setVm vm₁, locs, cells, slots⟩ (Value.ref b :: argsL).toArray) :
    ∃ (v : Option Value) (vm₁ : Vm) (B : Pt), s.WarmedH vm₁ ∧ Stand p l e R s m args below meth c B.U B.locs B.cells B.slots ∧ Post ⟨T.setVm vm₁, locs, cells, slots⟩ (Value.ref b :: argsL).toArray v B ∧
      ∀ target, Steps p.tables e below (B.U.setTop { g with pc := g.pc + 3, stack := v.toList ++ rest }) target → Steps p.tables e below (T.setTop g) target := by
  obtain ⟨mk, methM, hnamed, hmethM, hstM, habM⟩ := Cond.instanceMethod_spec hinst
  obtain ⟨m8, methM', cM, hn8, hmethM', -, -, -, -, -, -, hsigM⟩ := Cond.codeWith_spec hcode
  cases Option.some.inj (hn8.symm.trans hnamed)
  cases hmethM.symm.trans hmethM'
  obtain ⟨c2, r2, m2, q1, q2, q3, q4, kP, hkP, hkPi⟩ := Cond.selects_spec hsel
  cases hcls.symm.trans q1
  cases (State.methodFound?_of_named hnamed hy).symm.trans q2
  cases hnamed.symm.trans q3
  have hselP : selectMethod e.platform s.vm cellB.cls mk = .method mk := by rw [Launch.admits_selectMethod X.admits]; exact q4
  obtain ⟨vm₁, X₁, hstep₁⟩ := X.invokevirtual hexec hown hlink hnamed hmethM hstM hkP hkPi hy (a := b) (cell := cellB) hcell
    (fun z h => by rw [h] at hobj; cases hobj) hselP hmethM habM hkP hkPi (g := g) hg (argsL := argsL) (rest := rest) (hlen _ hsigM) hstack hdg
  obtain ⟨v, B, X', hpost, hsteps⟩ := hK m meth c ⟨T.setVm vm₁, locs, cells, slots⟩ { g with stack := rest } (.invokevirtual index) mk (Value.ref b :: argsL).toArray X₁ hg hsize hdg hW (X₁.named hnamed) (hpre vm₁ X₁.warmed)
  exact ⟨v, vm₁, B, X₁.warmed, X', hpost, fun target h => hstep₁ _ fun acts => by rw [doInvoke_state]; exact hsteps.trans h⟩
abbrev vx_CVW (R : Room) (s : State) (args : Array Value) (own C : String) (index : Nat) (y : MethodName) (bytes : ByteArray) (maxL : Nat) (ret : Option FieldType) (hh : List (Nat × Nat × Nat × Nat)) (ws : List Cond) (rm : Room) (mc ms n : Nat) : Prop :=
  (rm.cells = mc ∧ rm.slots = ms ∧ rm.frames + 1 ≤ R.frames ∧ 8 + (maxL + 11) + rm.locals ≤ R.locals ∧ (∀ w ∈ ws, ∀ (a' : Array Value) (U : State), s.WarmedH U.vm → w.before a' U = true) ∧ Cond.codeWith y bytes maxL ret hh ∈ ws) ∧
  (Cond.codeWith y bytes maxL ret hh).before args s = true ∧ (Cond.initialized y.cls).before args s = true ∧ (y.cls ≠ "java/lang/invoke/MethodHandle" ∧ y.cls ≠ "java/lang/invoke/VarHandle") ∧
  (∀ sig, parseMethodDescriptor y.desc = some sig → n = sig.parameters.length) ∧ (Cond.methodLink own index y).before args s = true ∧ (Cond.instanceMethod y).before args s = true ∧ (Cond.selects C y y).before args s = true
theorem vx_cwVW {own C : String} {index maxL mc ms : Nat} {y : MethodName} {bytes : ByteArray} {ret : Option FieldType} {hh : List (Nat × Nat × Nat × Nat)} {Ts ws ws' : List Cond} {rm : Room} (n : Nat) (ht : ∀ w ∈ Ts, w.before args s = true) (hT : GoodIn Ts (wsV own index C y ws)) (hw : ws = Cond.codeWith y bytes maxL ret hh :: ws') (hrc : rm.cells = mc) (hrs : rm.slots = ms)
    (hd : y.cls = C ∧ y.cls ≠ "java/lang/invoke/MethodHandle" ∧ y.cls ≠ "java/lang/invoke/VarHandle" ∧ (parseMethodDescriptor y.desc).map (fun d => d.parameters.length) = some n) (hR : rm.frames + 1 ≤ R.frames ∧ 8 + (maxL + 11) + rm.locals ≤ R.locals) :
    vx_CVW R s args own C index y bytes maxL ret hh ws rm mc ms n := by
  obtain ⟨hC, hd⟩ := hd
  subst hC
  have ok : ∀ w ∈ wsV own index y.cls y ws, w.before args s = true := fun w h => ht w (hT w h).1
  have hG : GoodIn Ts ws := fun w h => hT w (by unfold wsV; exact List.mem_append_right _ h)
  have hc : Cond.codeWith y bytes maxL ret hh ∈ ws := by rw [hw]; exact List.mem_cons_self
  refine ⟨⟨hrc, hrs, hR.1, hR.2, pay_in ht hG, hc⟩, ht _ (hG _ hc).1, ok _ (by simp [wsV]), ⟨hd.1, hd.2.1⟩, fun sig h => ?_, ok _ (by simp [wsV]), ok _ (by simp [wsV]), ok _ (by simp [wsV])⟩
  have h2 := hd.2.2
  rw [h] at h2
  exact (Option.some.inj h2).symm
theorem vx_runVW {y : MethodName} {bytes cc : ByteArray} {maxL nL mc ms n index : Nat} {ret : Option FieldType} {hh : List (Nat × Nat × Nat × Nat)} {ws : List Cond} {rm : Room} {Pc : Array Value → State → Prop} {Qc : Array Value → State → Outcome → State → Prop} {free : Addr → Prop} {Ts : List Cond} {own C : String} {b : Addr} {As rest : List Value} {g : JFrame}
    (S : CallFix p m c cc nL s args Ts own) (hM : Met l y ws rm Pc Qc mc ms free) (cw : vx_CVW R s args own C index y bytes maxL ret hh ws rm mc ms n) (hp : PreV s H C b Pc As)
    (hg : g.method = m) (hn : As.length = n) (hsize : g.locals.size = nL) (hstack : g.stack = As.reverse ++ .ref b :: rest) (hW : 2 * g.monitorRoom + (rest.map fun v => v.category).sum ≤ 8) (hdg : decode cc g.pc = .ok (.invokevirtual index, 3)) (hf : cells + mc ≤ R.cells ∧ slots + ms ≤ R.slots) :
    va_Run p l e R s m args below meth c H locs cells slots mc ms g rest (Qc (Value.ref b :: As).toArray) free := by
  obtain ⟨⟨hrc, hrs, hfr, hlo, hws, hcw⟩, hcode, hini, hy, hlen, hl, hin, hse⟩ := cw
  have hK : Back l R p e below s args y 3 8 (PreOf R mc ms Pc) (PostOf Qc mc ms free) := va_backW (hh := hh) (bytes := bytes) (maxL := maxL) (ret := ret) hM hp.1 hrc hrs hfr hlo hws hcw (fun a' U hW => word_at hW (Or.inl (by first | rfl | simp [Cond.onTables, Cond.keeps, Cond.steady])) hini)
  obtain ⟨hx, hb, hml, ho, -⟩ := S
  obtain ⟨-, ⟨cellB, hcB, hoB, hclB⟩, hPc⟩ := hp
  intro T hT X
  obtain ⟨v, vm₁, ⟨U', l2, c2, s2⟩, hW₁, X', ⟨g', mk, t, L, e1, e2, hq, h1, hL, h2, h3⟩, st⟩ := vx_callVW X hx (C := C) (hh := hh) (bytes := bytes) (maxL := maxL) (ret := ret) ho hl hin hse hcode hy hK (by rw [hT]; exact hcB) hoB hclB hg (hsize.trans hml.symm) (argsL := As) (rest := rest) (fun sig h => hn.trans (hlen sig h)) hstack hW (by rw [hb]; exact hdg)
    (fun vm₁ hW₁ => ⟨hf.1, hf.2, hPc (T.setVm vm₁) hT hW₁⟩)
  dsimp only [Pt.U, Pt.locs, Pt.cells, Pt.slots] at X' e1 e2 h1 h2 h3 st
  subst h1; subst h2; subst h3
  exact ⟨v, (T.setVm vm₁).calling g' mk (Value.ref b :: As).toArray, t, U', L, hT, X', hL, e1, e2, hq, st⟩
section
variable {y : MethodName} {bytes cc : ByteArray} {maxL nL mc ms n index : Nat} {ret : Option FieldType} {ws : List Cond} {rm : Room} {Pc : Array Value → State → Prop} {Qc : Array Value → State → Outcome → State → Prop} {XC : String → State → State → Prop} {free : Addr → Prop} {Ts : List Cond} {own C : String} {b : Addr} {As rest : List Value} {g : JFrame}
theorem vx_runVX {hh : List (Nat × Nat × Nat × Nat)} (S : CallFix p m c cc nL s args Ts own) (hM : vx_Met l y ws rm Pc Qc XC mc ms free) (cw : vx_CVW R s args own C index y bytes maxL ret hh ws rm mc ms n) (hp : PreV s H C b Pc As)
    (hg : g.method = m) (hn : As.length = n) (hsize : g.locals.size = nL) (hstack : g.stack = As.reverse ++ .ref b :: rest) (hW : 2 * g.monitorRoom + (rest.map fun v => v.category).sum ≤ 8) (hdg : decode cc g.pc = .ok (.invokevirtual index, 3)) (hf : cells + mc ≤ R.cells ∧ slots + ms ≤ R.slots) :
    vx_Run p l e R s m args below meth c H locs cells slots mc ms g rest (Qc (Value.ref b :: As).toArray) XC free := by
  obtain ⟨⟨hrc, hrs, hfr, hlo, hws, hcw⟩, hcode, hini, hy, hlen, hl, hin, hse⟩ := cw
  have hK : vx_Back l R p e below s args y 3 8 (PreOf R mc ms Pc) (PostOf Qc mc ms free) (vx_Post XC mc ms free) := vx_backW (hh := hh) (bytes := bytes) (maxL := maxL) (ret := ret) hM hp.1 hrc hrs hfr hlo hws hcw (fun a' U hW => word_at hW (Or.inl (by first | rfl | simp [Cond.onTables, Cond.keeps, Cond.steady])) hini)
  obtain ⟨hx, hb, hml, ho, -⟩ := S
  obtain ⟨-, ⟨cellB, hcB, hoB, hclB⟩, hPc⟩ := hp
  intro T hT X
  rcases vx_callVX X hx (C := C) (hh := hh) (bytes := bytes) (maxL := maxL) (ret := ret) ho hl hin hse hcode hy hK (by rw [hT]; exact hcB) hoB hclB hg (hsize.trans hml.symm) (argsL := As) (rest := rest) (fun sig h => hn.trans (hlen sig h)) hstack hW (by rw [hb]; exact hdg)
    (fun vm₁ hW₁ => ⟨hf.1, hf.2, hPc (T.setVm vm₁) hT hW₁⟩) with ⟨v, vm₁, ⟨U', l2, c2, s2⟩, hW₁, X', ⟨g', mk, t, L, e1, e2, hq, h1, hL, h2, h3⟩, st⟩ | ⟨q, vm₁, ⟨U', l2, c2, s2⟩, hW₁, X', ⟨g', mk, t, L, E, ce, e1, e2, hq, hce, hcv, hcl, h1, hL, h2, h3⟩, st⟩
  · dsimp only [Pt.U, Pt.locs, Pt.cells, Pt.slots] at X' e1 e2 h1 h2 h3 st
    subst h1; subst h2; subst h3
    exact Or.inl ⟨v, (T.setVm vm₁).calling g' mk (Value.ref b :: As).toArray, t, U', L, hT, X', hL, e1, e2, hq, st⟩
  · dsimp only [Pt.U, Pt.locs, Pt.cells, Pt.slots] at X' e1 e2 h1 h2 h3 st hcl
    subst h1; subst h2; subst h3
    exact Or.inr ⟨q, (T.setVm vm₁).calling g' mk (Value.ref b :: As).toArray, t, U', L, E, ce, hT, X', hL, e1, e2, hq, hce, hcv, vx_cls hW₁ hcl, st⟩
theorem vx_runSX {hh : List (Nat × Nat × Nat × Nat)} (S : CallFix p m c cc nL s args Ts own) (hM : vx_Met l y ws rm Pc Qc XC mc ms free) (cw : vx_CSW R s args own index y bytes maxL ret hh ws rm mc ms n) (hp : PreS s H Pc As)
    (hg : g.method = m) (hn : As.length = n) (hsize : g.locals.size = nL) (hstack : g.stack = As.reverse ++ rest) (hW : 2 * g.monitorRoom + (rest.map fun v => v.category).sum ≤ 8) (hdg : decode cc g.pc = .ok (.invokestatic index, 3)) (hf : cells + mc ≤ R.cells ∧ slots + ms ≤ R.slots) :
    vx_Run p l e R s m args below meth c H locs cells slots mc ms g rest (Qc As.toArray) XC free := by
  obtain ⟨⟨hrc, hrs, hfr, hlo, hws, hcw⟩, hcode, hini, hy, hlen, hl, hstt⟩ := cw
  have hK : vx_Back l R p e below s args y 3 8 (PreOf R mc ms Pc) (PostOf Qc mc ms free) (vx_Post XC mc ms free) := vx_backW (hh := hh) (bytes := bytes) (maxL := maxL) (ret := ret) hM hp.1 hrc hrs hfr hlo hws hcw (fun a' U hW => word_at hW (Or.inl (by first | rfl | simp [Cond.onTables, Cond.keeps, Cond.steady])) hini)
  obtain ⟨hx, hb, hml, ho, -⟩ := S
  intro T hT X
  rcases vx_callSX X hx (hh := hh) (bytes := bytes) (maxL := maxL) (ret := ret) ho hl hstt hini hcode hy hK hg (hsize.trans hml.symm) (argsL := As) (rest := rest) (fun sig h => hn.trans (hlen sig h)) hstack hW (by rw [hb]; exact hdg)
    (fun vm₁ hW₁ => ⟨hf.1, hf.2, hp.2 (T.setVm vm₁) hT hW₁⟩) with ⟨v, vm₁, ⟨U', l2, c2, s2⟩, hW₁, X', ⟨g', mk, t, L, e1, e2, hq, h1, hL, h2, h3⟩, st⟩ | ⟨q, vm₁, ⟨U', l2, c2, s2⟩, hW₁, X', ⟨g', mk, t, L, E, ce, e1, e2, hq, hce, hcv, hcl, h1, hL, h2, h3⟩, st⟩
  · dsimp only [Pt.U, Pt.locs, Pt.cells, Pt.slots] at X' e1 e2 h1 h2 h3 st
    subst h1; subst h2; subst h3
    exact Or.inl ⟨v, (T.setVm vm₁).calling g' mk As.toArray, t, U', L, hT, X', hL, e1, e2, hq, st⟩
  · dsimp only [Pt.U, Pt.locs, Pt.cells, Pt.slots] at X' e1 e2 h1 h2 h3 st hcl
    subst h1; subst h2; subst h3
    exact Or.inr ⟨q, (T.setVm vm₁).calling g' mk As.toArray, t, U', L, E, ce, hT, X', hL, e1, e2, hq, hce, hcv, vx_cls hW₁ hcl, st⟩
end
end VXH
theorem vx_ofWH {l : Launch} {y : MethodName} {ws ws' : List Cond} {rm : Room} {Pc : Array Value → State → Prop} {Qc : Array Value → State → Outcome → State → Prop} {XC : String → State → State → Prop} {mc ms : Nat} {free : Addr → Prop} {cc : ByteArray} {maxL : Nat} {ret : Option FieldType} {hh : List (Nat × Nat × Nat × Nat)}
    (hy : plainName y.cls = true) (hw : ws = Cond.codeWith y cc maxL ret hh :: ws')
    (body : ∀ p e s m args below meth c s₁, BodyLoose p l y (headSpec ws rm) cc maxL ret e s m args below meth c s₁ → c.maxLocals = maxL → Pc args s →
      W p l e (headSpec ws rm).room s m args below meth c s.heap [] 0 0 (vx_MQ below Qc XC args s mc ms free) (entryFrame m args maxL)) : vx_Met l y ws rm Pc Qc XC mc ms free := by
  refine MetFree.of_bodyS (code := cc) (maxLocals := maxL) (ret := ret) hy ?_ ?_
  · intro args s m h hn
    obtain ⟨m9, meth, c, hn9, h1, h2, h3, h4, -, h5, h6, -⟩ := Cond.codeWith_spec (atoms_spec (ws := ws) h _ (by rw [hw]; exact List.mem_cons_self))
    cases hn.symm.trans hn9
    exact ⟨meth, c, h1, h2, h3, h4, h5, h6⟩
  · intro p e s m args below meth c s₁ B hml hP _
    have hh0 : s₁.heap = s.heap := by rw [B.state]; rfl
    obtain ⟨t, a1, o, b1, b2, b3⟩ := body p e s m args below meth c s₁ B hml hP s₁ hh0 (Stand.of_body B)
    exact ⟨t, o, a1, b1, b2, b3⟩
/-! ===== END ===== -/

/-! ===== BEGIN what the machine throws by itself, no traces kept ===== -/
section VXM
set_option maxHeartbeats 1000000 in
/-- the machine throws cls with the message text, no traces kept: from its note over the frame g to 'throwing' over the same frame (follows the proofs of Stand.vmThrowsMessage, Shelf/KitTracedVmS.lean, and Stand.throwsMessageColdBareV, StandMessageColdV.lean, without the step out of the frame) -/
theorem vx_vmAt {p : Program} {l : Launch} {e : Env} {R : Room} {s : State} {m₀ : MethodId} {args : Array Value} {below : List Frame} {meth : Method} {c : Code} {W : State} {locs : List Loc} {cells slots : Nat}
    (X : Stand p l e R s m₀ args below meth c W locs cells slots) (hexec : p.tables.exec = Jvm.exec) (htr : e.platform.stackTraces = false) {cls : String} {names : List String} {text : String}
    (hcls : Bundle.fit cls = true) (hnames : ∀ n ∈ names, Bundle.fit n = true) (hsoe : (cls == "java/lang/StackOverflowError") = false) (hoom : (cls == "java/lang/OutOfMemoryError") = false)
    (h : ∀ a ∈ Bundle.messageArmAtoms cls names, a.before args s = true)
    (hlocs : ∀ x ∈ locs, ∀ cell, s.heap[x.base]? = some cell → cell.vm.isStatics = false)
    (htext : (text == notModelled) = false) (hlimit : ¬ (stringBytes (stringToUtf16 text)).size > e.platform.arrayLengthLimit) (hheap : ¬ (stringBytes (stringToUtf16 text)).size * componentBytes .byte > e.platform.maxHeapBytes)
    {g : JFrame} (hg : g.method = m₀) (hsize : g.locals.size = c.maxLocals)
    (hRframes : names.length + 4 < R.frames) (hRlocals : 2 * g.monitorRoom + (g.stack.map fun v => v.category).sum + 10240 ≤ R.locals) (hshort : 13 * names.length + 55 ≤ 10240)
    (hRcells : cells + 3 ≤ R.cells) (hRslots : slots + ((stringBytes (stringToUtf16 text)).size + 4 + 6) ≤ R.slots) (hlocks : meth.locks = false) :
    ∃ (S : State) (q : Addr) (ce : Cell), (∀ target, Steps p.tables e below ((S.setTop g).pushFrame (.throwing q)) target → Steps p.tables e below ((W.setTop g).pushFrame (.throwNew cls (some text) none)) target) ∧
      Stand p l e R s m₀ args below meth c S locs (cells + 3) (slots + ((stringBytes (stringToUtf16 text)).size + 4 + 6)) ∧ S.heap[q]? = some ce ∧ s.vm.findClass cls = some ce.cls ∧ ce.vm = .none := by
  have howns : e.platform.frameOwnsMonitors = true := by rw [X.admits.platform]
  have hfin : e.platform.finalization = false := by rw [X.admits.platform]
  have hpl : e.platform.magicAccessors = ({} : Platform).magicAccessors := by rw [X.admits.platform]
  have a : ∀ x, x ∈ Bundle.messageArmAtoms cls names → x.holds args s none s [] = true := fun x hx => h x hx
  obtain ⟨T, Z0, L, -, Y⟩ := ThrowableC.of_atoms (args := args) howns hfin hpl (fun x hx => h x (by simp [Bundle.messageArmAtoms, hx]))
  obtain ⟨Z, M, LZ, LM, hnZ⟩ := Init0T.ofS_atoms (args := args) hpl L Y (fun x hx => h x (by simp [Bundle.messageArmAtoms, hx]))
  obtain ⟨P1, Ps, hlen, L1, hL, hP1m, hlink1, hlink⟩ := Bundle.chainS (args := args) hpl hnZ names cls hcls hnames (fun x hx => h x (by simp [Bundle.messageArmAtoms, hx]))
  obtain ⟨Zs, LZs, hn4, hfitv, hfitc⟩ := StringT.of_atoms (args := args) (fun x hx => h x (by simp [Bundle.messageArmAtoms, hx]))
  have hfound : s.vm.findClass cls = some P1.m.cls := findClass_of_methodNamed hP1m
  obtain ⟨c1, kX, hc1, hk, hord, -, -, hn6⟩ := Cond.instantiable_spec (a (.instantiable cls 6) (by simp [Bundle.messageArmAtoms]))
  cases Option.some.inj (hc1.symm.trans hfound)
  have hinit := Cond.initialized_spec hfound hk (a (.initialized cls) (by simp [Bundle.messageArmAtoms]))
  have hctor : kX.findMethod "<init>" "(Ljava/lang/String;)V" = some P1.m.idx := findMethod_of_methodNamed hP1m hk
  have hsel0 : selectMethod e.platform s.vm P1.m.cls T.fill0 = .method T.fill0 := by
    obtain ⟨c2, r2, m2, q1, q2, q3, q4, -⟩ := Cond.selects_spec (a (.selects cls Bundle.tFill0 Bundle.tFill0) (by simp [Bundle.messageArmAtoms]))
    cases Option.some.inj (q1.symm.trans hfound)
    cases Option.some.inj (q2.symm.trans (State.methodFound?_of_named Y.fill0 (by decide)))
    cases Option.some.inj (q3.symm.trans Y.fill0)
    rw [Launch.admits_selectMethod X.admits]; exact q4
  have hselF : selectMethod e.platform s.vm P1.m.cls T.fill = .method T.fill := by
    obtain ⟨c2, r2, m2, q1, q2, q3, q4, -⟩ := Cond.selects_spec (a (.selects cls Bundle.tFill Bundle.tFill) (by simp [Bundle.messageArmAtoms]))
    cases Option.some.inj (q1.symm.trans hfound)
    cases Option.some.inj (q2.symm.trans (State.methodFound?_of_named Y.fill (by decide)))
    cases Option.some.inj (q3.symm.trans Y.fill)
    rw [Launch.admits_selectMethod X.admits]; exact q4
  obtain ⟨cellS0, hcS0, hiss⟩ := Y.statics
  obtain ⟨u0, hu0⟩ := Cond.staticRefV Y.unassigned L.unassignedStatic L.statics hcS0 hiss (a (.isRef (.static Bundle.tN "UNASSIGNED_STACK" Bundle.steD)) (by simp [Bundle.messageArmAtoms]))
  obtain ⟨sen, hsen⟩ := Cond.staticRefV Y.sentinel L.sentinelStatic L.statics hcS0 hiss (a (.isRef (.static Bundle.tN "SUPPRESSED_SENTINEL" Bundle.listD)) (by simp [Bundle.messageArmAtoms]))
  obtain ⟨ci198, i198, fB, hk198, hg198, ha198, hsB, -, hnB, htB, hffB⟩ := Cond.ownField (t := .object "java/lang/Object") Y.found L.cls (by decide +kernel) (a (.fieldLink Bundle.tN 198 Bundle.tN "backtrace" "Ljava/lang/Object;") (by simp [Bundle.messageArmAtoms])) (a (.lays Bundle.tN Bundle.tN "backtrace" "Ljava/lang/Object;") (by simp [Bundle.messageArmAtoms])) e.platform hpl
  obtain ⟨cellS, hcS', heS, -, hkeep⟩ := X.same.2.2.2.2.2 T.aS cellS0 hcS0
  have hcellS : W.heap[T.aS]? = some cellS := hcS'
  have hout' : ∀ i, (⟨T.aS, i⟩ : Loc) ∉ locs := fun i hmem => by
    have := hlocs _ hmem cellS0 hcS0
    rw [hiss] at this; cases this
  have hknownS : cellS.vm ≠ .unknown := by
    rw [heS]; intro hu
    rw [show cellS0.vm = .unknown from hu] at hiss
    cases hiss
  have hvU : cellS.slots[T.fUnassigned.slot]? = some u0.v := by rw [hkeep _ (hout' _)]; exact hu0
  have hvSen : cellS.slots[T.fSentinel.slot]? = some sen.v := by rw [hkeep _ (hout' _)]; exact hsen
  obtain ⟨iM, hffM⟩ := Y.msg
  obtain ⟨tyC, dC, hdC, hdnC⟩ := Cond.laysAt hfound hk Y.cause (a (.lays cls Bundle.tN "cause" "Ljava/lang/Throwable;") (by simp [Bundle.messageArmAtoms]))
  obtain ⟨tyS, dS, hdS, hdnS⟩ := Cond.laysAt hfound hk Y.stack (a (.lays cls Bundle.tN "stackTrace" Bundle.steD) (by simp [Bundle.messageArmAtoms]))
  obtain ⟨tyP, dP, hdP, hdnP⟩ := Cond.laysAt hfound hk Y.supp (a (.lays cls Bundle.tN "suppressedExceptions" Bundle.listD) (by simp [Bundle.messageArmAtoms]))
  obtain ⟨tyM, dM, hdM, hdnM⟩ := Cond.laysAt hfound hk hffM (a (.lays cls Bundle.tN "detailMessage" "Ljava/lang/String;") (by simp [Bundle.messageArmAtoms]))
  obtain ⟨tyB, dB, hdB, hdnB⟩ := Cond.laysAt hfound hk hffB (a (.lays cls Bundle.tN "backtrace" "Ljava/lang/Object;") (by simp [Bundle.messageArmAtoms]))
  have bC := Cond.laysApart hdB hdC hdnB hdnC (by rw [hnB, Y.causeName]; decide)
  have bS := Cond.laysApart hdB hdS hdnB hdnS (by rw [hnB, Y.stackName]; decide)
  have bP := Cond.laysApart hdB hdP hdnB hdnP (by rw [hnB, Y.suppName]; decide)
  have hbk : ((preparedCellV T.toThrowableT (freshCell P1.m.cls kX) (W.heap.size + 2) u0 sen).withEntry W.cur).slots[fB.slot]? = some .null := by
    have := fresh_default (c := P1.m.cls) tyB
    rw [htB] at this
    simpa [preparedCellV, Cell.setSlot, Cell.withEntry, Array.getElem?_setIfInBounds, bC, bS, bP, bC.symm, bS.symm, bP.symm, defaultValue] using this
  have tkC := Takes.of_laid (v := .ref (W.heap.size + 2)) hk hord tyC (by rw [Y.causeType]; rfl)
  have tkS := Takes.of_laid (v := u0.v) hk hord tyS (by rw [Y.stackType]; exact fits_refV_array _ u0)
  have tkP := Takes.of_laid (v := sen.v) hk hord tyP (by rw [Y.suppType]; exact fits_refV_object _ sen)
  have tkM := Takes.of_laid (v := .ref (W.heap.size + 1)) hk hord tyM (by rw [Y.msgType]; rfl)
  have hskip : SkipFacts T e.platform s (fun u => u) u0 ((preparedCellV T.toThrowableT (freshCell P1.m.cls kX) (W.heap.size + 2) u0 sen).withEntry W.cur) := ⟨{ ci198 := ci198, i198 := i198, fBack := fB }, ⟨hk198, hg198, ha198, hsB⟩, hbk, fun _ _ => rfl⟩
  have h0 : At W g.method c below := by rw [hg]; exact X.here
  obtain ⟨hbeyond, hfreeW⟩ := X.vmMayThrow hsize (.throwNew cls (some text) none) (fun f hf => by cases hf) rfl hRlocals
  have hfr' : W.frames.length + Ps.length + 4 < (e.platform.stackLimits W.me).1 := by have := X.framesAbove hRframes; omega
  have hwd' : (stackUse (.java g :: W.frames.tail)).2 + 13 * Ps.length + 55 ≤ (e.platform.stackLimits W.me).2 := by have := X.stackAbove hsize (K := 13 * Ps.length + 55) (by omega); omega
  have hslots : W.slotsUsed + (stringBytes (stringToUtf16 text)).size + Zs.kS.instanceTypes.size + kX.instanceTypes.size ≤ e.platform.maxSlots := by
    have := X.slotsAbove hRslots
    rw [hn4, hn6]
    omega
  obtain ⟨vm', hW', st⟩ := Steps.vmThrowsMessageColdByV p (s₀ := s) (S := W) (g := g) h0 hexec T L Z LZ M LM X.warmed (t := W.cur) rfl Zs LZs P1 L1 Ps hL hlink1 hlink hsoe hoom hfound hk hinit hord hctor
    (Launch.admits_hotImplicitExceptions X.admits) hbeyond hfreeW htext hlimit hheap (X.cellsAbove hRcells) hslots (hfitv _) (hfitc _)
    (Nn := fun u => u) heapOnly_id (fun _ _ => rfl) (fun _ => rfl) (fun u x y => setCell_twice _ _ _ _) (fun _ => Nat.le_refl _) (cN := ((preparedCellV T.toThrowableT (freshCell P1.m.cls kX) (W.heap.size + 2) u0 sen).withEntry W.cur))
    hsel0 hcellS hknownS hvU tkS (fun _ hu => hu) (fun _ hu => hu) rfl rfl rfl (by simp [preparedCellV, Cell.setSlot, Cell.withEntry]) hskip (fun _ _ hA hW _ hroom _ hrest => L.nativeOff p htr hA hW hroom hrest) hselF hvSen tkC tkP tkM Y.objLocals rfl hfr' hwd'
  rw [plainBareV_eq T.toThrowableT (W.heap.size + 2) u0 sen (.ref (W.heap.size + 1)) W.cur rfl rfl] at st
  obtain ⟨-, -, w3, w4, -, -, -⟩ := withThrown_facts e.platform W Zs text P1.m.cls kX
  have X3 := ((X.pushed (bytesOf Zs.cB (stringToUtf16 text))).pushed (stringAt Zs.cS Zs.kS Zs.fv Zs.fc (stringToUtf16 text) W.heap.size)).pushed (freshCell P1.m.cls kX)
  rw [← withString_eq] at X3
  have X4 := X3.noted hW'
  have ha : (W.heap.size + 2) < ((withThrown W Zs text P1.m.cls kX).setVm vm').heap.size := by show _ < (withThrown W Zs text P1.m.cls kX).heap.size; rw [w3]; omega
  have hcell : ((withThrown W Zs text P1.m.cls kX).setVm vm').heap[(W.heap.size + 2)]? = some (freshCell P1.m.cls kX) := w4
  have X5 := ((((X4.stored hcell T.fCause.slot (.ref (W.heap.size + 2))).storedAgain ha T.fStack.slot u0.v).storedAgain ha T.fSupp.slot sen.v).storedAgain ha T.fStack.slot u0.v).storedAgain ha T.fMsg.slot (.ref (W.heap.size + 1))
  obtain ⟨g₁, hfrM⟩ := X5.frames_eq
  have hU : ((((withThrown W Zs text P1.m.cls kX).setVm vm').setCell (W.heap.size + 2) (plainBareV T.toThrowableT (freshCell P1.m.cls kX) (W.heap.size + 2) u0 sen (.ref (W.heap.size + 1)))).setTop g).pushFrame (.throwing (W.heap.size + 2)) = (((withThrown W Zs text P1.m.cls kX).setVm vm').setCell (W.heap.size + 2) (plainBareV T.toThrowableT (freshCell P1.m.cls kX) (W.heap.size + 2) u0 sen (.ref (W.heap.size + 1)))).setFrames (.throwing (W.heap.size + 2) :: .java g :: below) := by
    rw [State.pushFrame, State.frames_setTop _ hfrM, State.setTop_of_frames _ hfrM, State.setFrames_setFrames]
  have b1 : (bytesOf Zs.cB (stringToUtf16 text)).slots.size = (stringBytes (stringToUtf16 text)).size := by
    rw [(Cell.writeAll_facts _ _).2.2]; simp [bytes0]
  have b2 : (stringAt Zs.cS Zs.kS Zs.fv Zs.fc (stringToUtf16 text) W.heap.size).slots.size = 4 := by simp [string0, Cell.setSlot, hn4]
  have b3 : (freshCell P1.m.cls kX).slots.size = 6 := by simp [hn6]
  rw [b1, b2, b3] at X5
  have e9 : slots + (stringBytes (stringToUtf16 text)).size + 4 + 6 = slots + ((stringBytes (stringToUtf16 text)).size + 4 + 6) := by omega
  rw [e9] at X5
  simp only [List.append_assoc, List.cons_append, List.nil_append] at X5
  refine ⟨((withThrown W Zs text P1.m.cls kX).setVm vm').setCell (W.heap.size + 2) (plainBareV T.toThrowableT (freshCell P1.m.cls kX) (W.heap.size + 2) u0 sen (.ref (W.heap.size + 1))), W.heap.size + 2, _, fun target ht => st _ (by rw [X.tail, ← hU]; exact ht),
    X5.forget (fun y hy => ?_), heapAt_setCell_self _ ha, hfound, rfl⟩
  simp only [List.mem_cons, List.not_mem_nil, or_false] at hy
  have hge : s.heap.size ≤ W.heap.size := X.same.2.1
  rcases hy with rfl | rfl | rfl | rfl | rfl <;> exact Nat.le_trans hge (Nat.le_add_right _ 2)
set_option maxHeartbeats 1000000 in
/-- the machine throws NullPointerException, no traces kept: from its note over the frame g to 'throwing' over the same frame (follows the proof of Stand.vmThrowsNpe, Shelf42/KT2.lean; throwsNpeColdBareVAt, Shelf42/NT91.lean, called) -/
theorem vx_npeAt {p : Program} {l : Launch} {e : Env} {R : Room} {s : State} {m₀ : MethodId} {args : Array Value} {below : List Frame} {meth : Method} {c : Code} {W : State} {locs : List Loc} {cells slots : Nat}
    (X : Stand p l e R s m₀ args below meth c W locs cells slots) (hexec : p.tables.exec = Jvm.exec) (htr : e.platform.stackTraces = false) {n : Nat}
    (h : ∀ a ∈ Bundle.npeArmAtoms n, a.before args s = true)
    (hlocs : ∀ x ∈ locs, ∀ cell, s.heap[x.base]? = some cell → cell.vm.isStatics = false)
    {g : JFrame} (hg : g.method = m₀) (hsize : g.locals.size = c.maxLocals)
    (hRframes : 7 < R.frames) (hRlocals : 2 * g.monitorRoom + (g.stack.map fun v => v.category).sum + 10240 ≤ R.locals)
    (hRcells : cells + 1 ≤ R.cells) (hRslots : slots + n ≤ R.slots) (hlocks : meth.locks = false) :
    ∃ (S : State) (q : Addr) (ce : Cell), (∀ target, Steps p.tables e below ((S.setTop g).pushFrame (.throwing q)) target → Steps p.tables e below ((W.setTop g).pushFrame (.throwNew "java/lang/NullPointerException" none none)) target) ∧
      Stand p l e R s m₀ args below meth c S locs (cells + 1) (slots + n) ∧ S.heap[q]? = some ce ∧ s.vm.findClass "java/lang/NullPointerException" = some ce.cls ∧ ce.vm = .none := by
  have howns : e.platform.frameOwnsMonitors = true := by rw [X.admits.platform]
  have hfin : e.platform.finalization = false := by rw [X.admits.platform]
  have hpl : e.platform.magicAccessors = ({} : Platform).magicAccessors := by rw [X.admits.platform]
  have hpl2 : e.platform.arrayCloneIsPublic = true := by rw [X.admits.platform]
  have a' : ∀ x, x ∈ Bundle.npeArmAtoms n → x.holds args s none s [] = true := fun x hx => h x hx
  obtain ⟨T, Z, L, LZ, Y⟩ := ThrowableC.of_atoms (args := args) howns hfin hpl (fun x hx => h x (by simp [Bundle.npeArmAtoms, hx]))
  obtain ⟨N, LN, hcN, hnNF, hordN, hffS⟩ := NpeC.of_atoms (args := args) hpl hpl2 L Y (fun x hx => h x (by simp [Bundle.npeArmAtoms, hx]))
  obtain ⟨P1, L1, hP1m, hP1s⟩ := PassC.of_atoms (args := args) (s := s) hpl (X := Bundle.nN) (Y := Bundle.rN) (by decide) (by decide) LibCode.NullPointerException.Init0.at_0 LibCode.NullPointerException.Init0.at_1 LibCode.NullPointerException.Init0.at_4 (fun x hx => h x (by simp [Bundle.npeArmAtoms, hx]))
  obtain ⟨PR, LR, hPRm, hPRs⟩ := PassC.of_atoms (args := args) (s := s) hpl (X := Bundle.rN) (Y := Bundle.eN) (by decide) (by decide) LibCode.RuntimeException.Init0.at_0 LibCode.RuntimeException.Init0.at_1 LibCode.RuntimeException.Init0.at_4 (fun x hx => h x (by simp [Bundle.npeArmAtoms, hx]))
  obtain ⟨PE, LEx, hPEm, hPEs⟩ := PassC.of_atoms (args := args) (s := s) hpl (X := Bundle.eN) (Y := Bundle.tN) (by decide) (by decide) LibCode.Exception.Init0.at_0 LibCode.Exception.Init0.at_1 LibCode.Exception.Init0.at_4 (fun x hx => h x (by simp [Bundle.npeArmAtoms, hx]))
  have hfound : s.vm.findClass Bundle.nN = some P1.m.cls := findClass_of_methodNamed hP1m
  have ecls : N.cN = P1.m.cls := Option.some.inj (hcN.symm.trans hfound)
  have hk : s.vm.classes[P1.m.cls]? = some N.kN := by rw [← ecls]; exact LN.cls
  have hinit := Cond.initialized_spec hfound hk (a' (.initialized Bundle.nN) (by simp [Bundle.npeArmAtoms]))
  have hctor : N.kN.findMethod "<init>" "()V" = some P1.m.idx := findMethod_of_methodNamed hP1m hk
  obtain ⟨c1, k1, hc1, hk1, -, -, -, hn⟩ := Cond.instantiable_spec (a' (.instantiable Bundle.nN n) (by simp [Bundle.npeArmAtoms]))
  cases Option.some.inj (hc1.symm.trans hfound)
  cases Option.some.inj (hk1.symm.trans hk)
  have hfsz : (freshCell P1.m.cls N.kN).slots.size = n := by simp [hn]
  have hlink1 : P1.sup = PR.m := Option.some.inj (hP1s.symm.trans hPRm)
  have hlinkR : PR.sup = PE.m := Option.some.inj (hPRs.symm.trans hPEm)
  have hlinkE : PE.sup = Z.m T.toThrowableT := Option.some.inj (hPEs.symm.trans Y.init0)
  have hLs : ∀ P, P ∈ [PR, PE] → P.Links0 e.platform s := fun P hP => by
    simp only [List.mem_cons, List.not_mem_nil, or_false] at hP
    rcases hP with rfl | rfl
    · exact LR
    · exact LEx
  have hsel0 : selectMethod e.platform s.vm P1.m.cls T.fill0 = .method T.fill0 := by
    obtain ⟨c2, r2, m2, q1, q2, q3, q4, -⟩ := Cond.selects_spec (a' (.selects Bundle.nN Bundle.tFill0 Bundle.tFill0) (by simp [Bundle.npeArmAtoms]))
    cases Option.some.inj (q1.symm.trans hfound)
    cases Option.some.inj (q2.symm.trans (State.methodFound?_of_named Y.fill0 (by decide)))
    cases Option.some.inj (q3.symm.trans Y.fill0)
    rw [Launch.admits_selectMethod X.admits]; exact q4
  have hselF : selectMethod e.platform s.vm P1.m.cls T.fill = .method N.fill := by
    obtain ⟨c2, r2, m2, q1, q2, q3, q4, -⟩ := Cond.selects_spec (a' (.selects Bundle.nN Bundle.tFill Bundle.nFill) (by simp [Bundle.npeArmAtoms]))
    cases Option.some.inj (q1.symm.trans hfound)
    cases Option.some.inj (q2.symm.trans (State.methodFound?_of_named Y.fill (by decide)))
    cases Option.some.inj (q3.symm.trans hnNF)
    rw [Launch.admits_selectMethod X.admits]; exact q4
  obtain ⟨cellS0, hcS0, hiss⟩ := Y.statics
  obtain ⟨u0, hu0⟩ := Cond.staticRefV Y.unassigned L.unassignedStatic L.statics hcS0 hiss (a' (.isRef (.static Bundle.tN "UNASSIGNED_STACK" Bundle.steD)) (by simp [Bundle.npeArmAtoms]))
  obtain ⟨sen, hsen⟩ := Cond.staticRefV Y.sentinel L.sentinelStatic L.statics hcS0 hiss (a' (.isRef (.static Bundle.tN "SUPPRESSED_SENTINEL" Bundle.listD)) (by simp [Bundle.npeArmAtoms]))
  obtain ⟨ci198, i198, fB, hk198, hg198, ha198, hsB, -, hnB, htB, hffB⟩ := Cond.ownField (t := .object "java/lang/Object") Y.found L.cls (by decide +kernel) (a' (.fieldLink Bundle.tN 198 Bundle.tN "backtrace" Bundle.objD) (by simp [Bundle.npeArmAtoms])) (a' (.lays Bundle.tN Bundle.tN "backtrace" Bundle.objD) (by simp [Bundle.npeArmAtoms])) e.platform hpl
  obtain ⟨cellS, hcS', heS, -, hkeep⟩ := X.same.2.2.2.2.2 T.aS cellS0 hcS0
  have hcellS : W.heap[T.aS]? = some cellS := hcS'
  have hout' : ∀ i, (⟨T.aS, i⟩ : Loc) ∉ locs := fun i hmem => by
    have := hlocs _ hmem cellS0 hcS0
    rw [hiss] at this; cases this
  have hknownS : cellS.vm ≠ .unknown := by
    rw [heS]; intro hu
    rw [show cellS0.vm = .unknown from hu] at hiss
    cases hiss
  have hvU : cellS.slots[T.fUnassigned.slot]? = some u0.v := by rw [hkeep _ (hout' _)]; exact hu0
  have hvSen : cellS.slots[T.fSentinel.slot]? = some sen.v := by rw [hkeep _ (hout' _)]; exact hsen
  obtain ⟨tyC, dC, hdC, hdnC⟩ := Cond.laysAt hfound hk Y.cause (a' (.lays Bundle.nN Bundle.tN "cause" "Ljava/lang/Throwable;") (by simp [Bundle.npeArmAtoms]))
  obtain ⟨tyS, dS, hdS, hdnS⟩ := Cond.laysAt hfound hk Y.stack (a' (.lays Bundle.nN Bundle.tN "stackTrace" Bundle.steD) (by simp [Bundle.npeArmAtoms]))
  obtain ⟨tyP, dP, hdP, hdnP⟩ := Cond.laysAt hfound hk Y.supp (a' (.lays Bundle.nN Bundle.tN "suppressedExceptions" Bundle.listD) (by simp [Bundle.npeArmAtoms]))
  obtain ⟨tyX, dX, hdX, hdnX⟩ := Cond.laysAt hfound hk hffS (a' (.lays Bundle.nN Bundle.nN "extendedMessageState" "I") (by simp [Bundle.npeArmAtoms, Bundle.npeAtoms]))
  obtain ⟨hnX, htX⟩ := State.fieldFound?_type hffS (t := .int) (by decide +kernel)
  have xC := Cond.laysApart hdC hdX hdnC hdnX (by rw [hnX, Y.causeName]; decide)
  have xS := Cond.laysApart hdS hdX hdnS hdnX (by rw [hnX, Y.stackName]; decide)
  have xP := Cond.laysApart hdP hdX hdnP hdnX (by rw [hnX, Y.suppName]; decide)
  have hv0 : (freshCell P1.m.cls N.kN).slots[N.fState.slot]? = some (.int 0) := by
    have := fresh_default (c := P1.m.cls) tyX
    rw [htX] at this; exact this
  obtain ⟨tyB, dB, hdB, hdnB⟩ := Cond.laysAt hfound hk hffB (a' (.lays Bundle.nN Bundle.tN "backtrace" Bundle.objD) (by simp [Bundle.npeArmAtoms]))
  have bC := Cond.laysApart hdB hdC hdnB hdnC (by rw [hnB, Y.causeName]; decide)
  have bS := Cond.laysApart hdB hdS hdnB hdnS (by rw [hnB, Y.stackName]; decide)
  have bP := Cond.laysApart hdB hdP hdnB hdnP (by rw [hnB, Y.suppName]; decide)
  have bX := Cond.laysApart hdB hdX hdnB hdnX (by rw [hnB, hnX]; decide)
  have hbk : ((npeCell N.toNpeT (preparedCellV T.toThrowableT (freshCell P1.m.cls N.kN) W.heap.size u0 sen) W.cur).withEntry W.cur).slots[fB.slot]? = some .null := by
    have := fresh_default (c := P1.m.cls) tyB
    rw [htB] at this
    simpa [npeCell, preparedCellV, Cell.setSlot, Cell.withEntry, Array.getElem?_setIfInBounds, bC, bS, bP, bX, bC.symm, bS.symm, bP.symm, bX.symm, defaultValue] using this
  have tkC := Takes.of_laid (v := .ref W.heap.size) hk hordN tyC (by rw [Y.causeType]; rfl)
  have tkS := Takes.of_laid (v := u0.v) hk hordN tyS (by rw [Y.stackType]; exact fits_refV_array _ u0)
  have tkP := Takes.of_laid (v := sen.v) hk hordN tyP (by rw [Y.suppType]; exact fits_refV_object _ sen)
  have tkX := Takes.of_laid (v := .int 1) hk hordN tyX (by rw [htX]; rfl)
  have hskip : SkipFacts T e.platform s (fun u => u) u0 ((npeCell N.toNpeT (preparedCellV T.toThrowableT (freshCell P1.m.cls N.kN) W.heap.size u0 sen) W.cur).withEntry W.cur) := ⟨{ ci198 := ci198, i198 := i198, fBack := fB }, ⟨hk198, hg198, ha198, hsB⟩, hbk, fun _ _ => rfl⟩
  obtain ⟨vm', X3, st, -⟩ := X.throwsNpeColdBareVAt hexec hg hsize T L Z LZ N LN P1 L1 [PR, PE] hLs hlink1 ⟨hlinkR, hlinkE, trivial⟩ hfound hk hinit hordN hctor hsel0 hselF hcellS hknownS hvU hvSen
    hv0 xC xS xP tkC tkS tkP tkX Y.objLocals hskip (fun _ _ hA hW _ hroom _ hrest => L.nativeOff p htr hA hW hroom hrest) (by simpa using hRframes) hRlocals (by simp) hRcells (by rw [hn]; exact hRslots)
  have hlt : W.heap.size < ((W.pushCell (freshCell P1.m.cls N.kN)).setVm vm').heap.size := by
    show W.heap.size < (W.pushCell (freshCell P1.m.cls N.kN)).heap.size
    rw [State.heap_size_pushCell]; omega
  rw [hfsz] at X3
  obtain ⟨g₁, hfrM⟩ := X3.frames_eq
  have hU : ((((W.pushCell (freshCell P1.m.cls N.kN)).setVm vm').setCell W.heap.size (npeBareV T.toThrowableT N.toNpeT (freshCell P1.m.cls N.kN) W.heap.size u0 sen)).setTop g).pushFrame (.throwing W.heap.size) = (((W.pushCell (freshCell P1.m.cls N.kN)).setVm vm').setCell W.heap.size (npeBareV T.toThrowableT N.toNpeT (freshCell P1.m.cls N.kN) W.heap.size u0 sen)).setFrames (.throwing W.heap.size :: .java g :: below) := by
    rw [State.pushFrame, State.frames_setTop _ hfrM, State.setTop_of_frames _ hfrM, State.setFrames_setFrames]
  refine ⟨_, W.heap.size, _, fun target ht => st.trans (by rw [← hU]; exact ht), X3.forget (fun y hy => ?_), heapAt_setCell_self _ hlt, hfound, rfl⟩
  simp only [List.mem_cons, List.not_mem_nil, or_false] at hy
  have hge : s.heap.size ≤ W.heap.size := X.same.2.1
  rcases hy with rfl | rfl | rfl | rfl | rfl <;> exact hge
/-- the words of a machine's NullPointerException, but the four that speak of the heap -/
def vx_atN (n : Nat) : List Cond := (Bundle.npeArmAtoms n).filter vx_no
/-- the words of a machine's throw with a message, but the four that speak of the heap -/
def vx_atM (X : String) (names : List String) : List Cond := (Bundle.messageArmAtoms X names).filter vx_no
section
variable {p : Program} {l : Launch} {e : Env} {R : Room} {s : State} {m : MethodId} {args : Array Value} {below : List Frame} {meth : Method} {c : Code} {H : Heap} {locs : List Loc} {cells slots : Nat}
/-- a frame seen from a rebased start, seen from the first start again -/
theorem vx_back9 {T S : State} {R' : Room} {k n : Nat} (X : Stand p l e R s m args below meth c T locs cells slots) (Y : Stand p l e R' ((T.setVm s.vm).setFrames (.invoking m args :: below)) m args below meth c T [] 0 0) (Z : Stand p l e R' ((T.setVm s.vm).setFrames (.invoking m args :: below)) m args below meth c S [] k n) :
    Stand p l e R s m args below meth c S locs (cells + k) (slots + n) := by
  have hW0 : s.WarmedH ((T.setVm s.vm).setFrames (.invoking m args :: below)).vm := State.WarmedH.refl s
  refine { admits := X.admits, cas := X.cas, clock := X.clock, frames := X.frames, room := X.room, hears := X.hears, method := X.method, code := X.code, here := Z.here, tail := Z.tail, warmed := State.WarmedH.trans hW0 Z.warmed, limits := Z.limits.trans (Y.limits.symm.trans X.limits), bytes := Z.bytes.trans (Y.bytes.symm.trans X.bytes), same := ?_ }
  obtain ⟨e1, e2⟩ := Z.same
  rw [State.setFrames_setFrames] at e1
  have h2 : (T.setVm s.vm).sameButNew (S.setVm s.vm) [] k n := ⟨e1, e2⟩
  have h3 := X.same.trans h2
  rw [List.append_nil] at h3
  exact h3
/-- from the machine's note that E is thrown here with this text -/
def vx_Note (p : Program) (l : Launch) (e : Env) (R : Room) (s : State) (m : MethodId) (args : Array Value) (below : List Frame) (meth : Method) (c : Code) (H : Heap) (locs : List Loc) (cells slots : Nat) (Q : State → Prop) (g : JFrame) (E text : String) : Prop :=
  ∀ T : State, T.heap = H → Stand p l e R s m args below meth c T locs cells slots → ∃ t, Steps p.tables e below ((T.setTop g).pushFrame (.throwNew E (some text) none)) t ∧ Q t
theorem vx_vm {pc : Nat} {ls : Array Slot} {rest : List Value} {Q : State → Prop} (hexec : p.tables.exec = Jvm.exec) (hl : l.stackTraces = false) {cls text : String} {names : List String} {nb : Nat} {A : Nat → Prop}
    (hcls : Bundle.fit cls = true) (hnames : ∀ n ∈ names, Bundle.fit n = true) (hsoe : (cls == "java/lang/StackOverflowError") = false) (hoom : (cls == "java/lang/OutOfMemoryError") = false)
    (hat : ∀ w ∈ vx_atM cls names, w.before args s = true) (hgood : ∀ w ∈ vx_atM cls names, vx_ot w = true)
    (hU : vx_Zq Bundle.tN "UNASSIGNED_STACK" Bundle.steD A s s.heap) (hN : vx_Zq Bundle.tN "SUPPRESSED_SENTINEL" Bundle.listD A s s.heap) (hS : va_S A s.heap H locs) (hsize : ls.size = c.maxLocals)
    (htext : (text == notModelled) = false) (hnb : (stringBytes (stringToUtf16 text)).size ≤ nb) (hnb1 : nb ≤ 1000)
    (hRframes : names.length + 4 < R.frames) (hRlocals : (rest.map fun v => v.category).sum + 10240 ≤ R.locals) (hshort : 13 * names.length + 55 ≤ 10240) (hRcells : cells + 3 ≤ R.cells) (hRslots : slots + (nb + 10) ≤ R.slots) (hlocks : meth.locks = false)
    (k : ∀ (H1 : Heap) (q9 : Addr) (ce : Cell), H.size ≤ H1.size → (∀ q : Nat, q < H.size → H1[q]? = H[q]?) → va_S A s.heap H1 locs → H1[q9]? = some ce → ce.vm = .none → s.vm.findClass cls = some ce.cls → vx_W p l e R s m args below meth c H1 locs (cells + 3) (slots + (nb + 10)) Q (F0 m pc ls rest) q9) :
    vx_Note p l e R s m args below meth c H locs cells slots Q (F0 m pc ls rest) cls text := by
  intro T hT X
  have htr : e.platform.stackTraces = false := (show e.platform.stackTraces = l.stackTraces by rw [X.admits.platform]).trans hl
  have Y := vx_rebase X (R' := { frames := R.frames, locals := R.locals, cells := 3, slots := nb + 10 }) (Nat.le_refl _) (Nat.le_refl _) hRcells hRslots
  have hhp : ((T.setVm s.vm).setFrames (.invoking m args :: below)).heap = H := hT
  have hW0 : s.WarmedH ((T.setVm s.vm).setFrames (.invoking m args :: below)).vm := State.WarmedH.refl s
  have hat' : ∀ w ∈ vx_atM cls names, w.before args ((T.setVm s.vm).setFrames (.invoking m args :: below)) = true := fun w hw => vx_ot_at hW0 rfl (hgood w hw) (hat w hw)
  have hU' : vx_Zq Bundle.tN "UNASSIGNED_STACK" Bundle.steD A ((T.setVm s.vm).setFrames (.invoking m args :: below)) ((T.setVm s.vm).setFrames (.invoking m args :: below)).heap := by rw [hhp]; exact vx_Zq.moved hW0.alike (hU.kept hS.2.1)
  have hN' : vx_Zq Bundle.tN "SUPPRESSED_SENTINEL" Bundle.listD A ((T.setVm s.vm).setFrames (.invoking m args :: below)) ((T.setVm s.vm).setFrames (.invoking m args :: below)).heap := by rw [hhp]; exact vx_Zq.moved hW0.alike (hN.kept hS.2.1)
  obtain ⟨S, q, ce, st, Z, hce, hcl', hv⟩ := vx_vmAt Y hexec htr (cls := cls) (names := names) (text := text) hcls hnames hsoe hoom (vx_own hat' (vx_isRefq hU'.1) (vx_isRefq hN'.1) hU'.2.word hN'.2.word) (fun x hx => nomatch hx) htext
    (by rw [Launch.admits_arrayLengthLimit X.admits]; omega) (by rw [Launch.admits_maxHeapBytes X.admits]; simp only [componentBytes]; omega)
    (g := F0 m pc ls rest) rfl hsize hRframes (by show 2 * 0 + (rest.map fun v => v.category).sum + 10240 ≤ R.locals; omega) hshort (by show 0 + 3 ≤ 3; omega) (by show 0 + (_ + 4 + 6) ≤ nb + 10; omega) hlocks
  obtain ⟨f1, f2⟩ := vx_frame Z.same
  have f1' : H.size ≤ S.heap.size := by rw [← hT]; exact f1
  have f2' : ∀ q : Nat, q < H.size → S.heap[q]? = H[q]? := fun q hq => by
    rw [← hT]
    exact f2 q (by rw [← hT] at hq; exact hq) (fun z hz => nomatch hz)
  have X5 := vx_back9 X Y Z
  have X6 : Stand p l e R s m args below meth c S locs (cells + 3) (slots + (nb + 10)) := { X5 with same := X5.same.mono (by omega) (by omega) }
  obtain ⟨t, a1, b1⟩ := k S.heap q ce f1' f2' ⟨Nat.le_trans hS.1 f1', fun q h1 h2 => (f2' q (Nat.lt_of_lt_of_le h1 hS.1)).trans (hS.2.1 q h1 h2), hS.2.2⟩ hce hv hcl' S rfl X6
  exact ⟨t, st t a1, b1⟩
/-- from the machine's note that NullPointerException is thrown here -/
def vx_NoteN (p : Program) (l : Launch) (e : Env) (R : Room) (s : State) (m : MethodId) (args : Array Value) (below : List Frame) (meth : Method) (c : Code) (H : Heap) (locs : List Loc) (cells slots : Nat) (Q : State → Prop) (g : JFrame) : Prop :=
  ∀ T : State, T.heap = H → Stand p l e R s m args below meth c T locs cells slots → ∃ t, Steps p.tables e below ((T.setTop g).pushFrame (.throwNew "java/lang/NullPointerException" none none)) t ∧ Q t
theorem vx_npe {pc : Nat} {ls : Array Slot} {rest : List Value} {Q : State → Prop} (hexec : p.tables.exec = Jvm.exec) (hl : l.stackTraces = false) {nb : Nat} {A : Nat → Prop}
    (hat : ∀ w ∈ vx_atN nb, w.before args s = true) (hgood : ∀ w ∈ vx_atN nb, vx_ot w = true)
    (hU : vx_Zq Bundle.tN "UNASSIGNED_STACK" Bundle.steD A s s.heap) (hN : vx_Zq Bundle.tN "SUPPRESSED_SENTINEL" Bundle.listD A s s.heap) (hS : va_S A s.heap H locs) (hsize : ls.size = c.maxLocals)
    (hRframes : 7 < R.frames) (hRlocals : (rest.map fun v => v.category).sum + 10240 ≤ R.locals) (hRcells : cells + 1 ≤ R.cells) (hRslots : slots + nb ≤ R.slots) (hlocks : meth.locks = false)
    (k : ∀ (H1 : Heap) (q9 : Addr) (ce : Cell), H.size ≤ H1.size → (∀ q : Nat, q < H.size → H1[q]? = H[q]?) → va_S A s.heap H1 locs → H1[q9]? = some ce → ce.vm = .none → s.vm.findClass "java/lang/NullPointerException" = some ce.cls → vx_W p l e R s m args below meth c H1 locs (cells + 1) (slots + nb) Q (F0 m pc ls rest) q9) :
    vx_NoteN p l e R s m args below meth c H locs cells slots Q (F0 m pc ls rest) := by
  intro T hT X
  have htr : e.platform.stackTraces = false := (show e.platform.stackTraces = l.stackTraces by rw [X.admits.platform]).trans hl
  have Y := vx_rebase X (R' := { frames := R.frames, locals := R.locals, cells := 1, slots := nb }) (Nat.le_refl _) (Nat.le_refl _) hRcells hRslots
  have hhp : ((T.setVm s.vm).setFrames (.invoking m args :: below)).heap = H := hT
  have hW0 : s.WarmedH ((T.setVm s.vm).setFrames (.invoking m args :: below)).vm := State.WarmedH.refl s
  have hat' : ∀ w ∈ vx_atN nb, w.before args ((T.setVm s.vm).setFrames (.invoking m args :: below)) = true := fun w hw => vx_ot_at hW0 rfl (hgood w hw) (hat w hw)
  have hU' : vx_Zq Bundle.tN "UNASSIGNED_STACK" Bundle.steD A ((T.setVm s.vm).setFrames (.invoking m args :: below)) ((T.setVm s.vm).setFrames (.invoking m args :: below)).heap := by rw [hhp]; exact vx_Zq.moved hW0.alike (hU.kept hS.2.1)
  have hN' : vx_Zq Bundle.tN "SUPPRESSED_SENTINEL" Bundle.listD A ((T.setVm s.vm).setFrames (.invoking m args :: below)) ((T.setVm s.vm).setFrames (.invoking m args :: below)).heap := by rw [hhp]; exact vx_Zq.moved hW0.alike (hN.kept hS.2.1)
  obtain ⟨S, q, ce, st, Z, hce, hcl', hv⟩ := vx_npeAt Y hexec htr (n := nb) (vx_own hat' (vx_isRefq hU'.1) (vx_isRefq hN'.1) hU'.2.word hN'.2.word) (fun x hx => nomatch hx)
    (g := F0 m pc ls rest) rfl hsize hRframes (by show 2 * 0 + (rest.map fun v => v.category).sum + 10240 ≤ R.locals; omega) (by show 0 + 1 ≤ 1; omega) (by show 0 + nb ≤ nb; omega) hlocks
  obtain ⟨f1, f2⟩ := vx_frame Z.same
  have f1' : H.size ≤ S.heap.size := by rw [← hT]; exact f1
  have f2' : ∀ q : Nat, q < H.size → S.heap[q]? = H[q]? := fun q hq => by
    rw [← hT]
    exact f2 q (by rw [← hT] at hq; exact hq) (fun z hz => nomatch hz)
  have X5 := vx_back9 X Y Z
  have X6 : Stand p l e R s m args below meth c S locs (cells + 1) (slots + nb) := { X5 with same := X5.same.mono (by omega) (by omega) }
  obtain ⟨t, a1, b1⟩ := k S.heap q ce f1' f2' ⟨Nat.le_trans hS.1 f1', fun q h1 h2 => (f2' q (Nat.lt_of_lt_of_le h1 hS.1)).trans (hS.2.1 q h1 h2), hS.2.2⟩ hce hv hcl' S rfl X6
  exact ⟨t, st t a1, b1⟩
variable {Q : State → Prop} {cc : ByteArray} {pc : Nat} {ls : Array Slot} {rest : List Value}
theorem vx_idivZ (hexec : p.tables.exec = Jvm.exec) (hb : c.code = cc) {a b : Int32} (h0 : b = 0) (d : decode cc pc = .ok (.idiv, 1)) (k : vx_Note p l e R s m args below meth c H locs cells slots Q (F0 m pc ls rest) "java/lang/ArithmeticException" "/ by zero") :
    W p l e R s m args below meth c H locs cells slots Q (F0 m pc ls (.int b :: .int a :: rest)) := by
  intro T hT X
  obtain ⟨t, st, q⟩ := k T hT X
  exact ⟨t, X.idivZero hexec (g := F0 m pc ls (.int b :: .int a :: rest)) rfl (a := a) (rest := rest) (by rw [h0]) (by rw [hb]; exact d) t st, q⟩
theorem vx_iremZ (hexec : p.tables.exec = Jvm.exec) (hb : c.code = cc) {a b : Int32} (h0 : b = 0) (d : decode cc pc = .ok (.irem, 1)) (k : vx_Note p l e R s m args below meth c H locs cells slots Q (F0 m pc ls rest) "java/lang/ArithmeticException" "/ by zero") :
    W p l e R s m args below meth c H locs cells slots Q (F0 m pc ls (.int b :: .int a :: rest)) := by
  intro T hT X
  obtain ⟨t, st, q⟩ := k T hT X
  exact ⟨t, X.iremZero hexec (g := F0 m pc ls (.int b :: .int a :: rest)) rfl (a := a) (rest := rest) (by rw [h0]) (by rw [hb]; exact d) t st, q⟩
theorem vx_ldivZ (hexec : p.tables.exec = Jvm.exec) (hb : c.code = cc) {a b : Int64} (h0 : b = 0) (d : decode cc pc = .ok (.ldiv, 1)) (k : vx_Note p l e R s m args below meth c H locs cells slots Q (F0 m pc ls rest) "java/lang/ArithmeticException" "/ by zero") :
    W p l e R s m args below meth c H locs cells slots Q (F0 m pc ls (.long b :: .long a :: rest)) := by
  intro T hT X
  obtain ⟨t, st, q⟩ := k T hT X
  exact ⟨t, X.ldivZero hexec (g := F0 m pc ls (.long b :: .long a :: rest)) rfl (a := a) (rest := rest) (by rw [h0]) (by rw [hb]; exact d) t st, q⟩
theorem vx_lremZ (hexec : p.tables.exec = Jvm.exec) (hb : c.code = cc) {a b : Int64} (h0 : b = 0) (d : decode cc pc = .ok (.lrem, 1)) (k : vx_Note p l e R s m args below meth c H locs cells slots Q (F0 m pc ls rest) "java/lang/ArithmeticException" "/ by zero") :
    W p l e R s m args below meth c H locs cells slots Q (F0 m pc ls (.long b :: .long a :: rest)) := by
  intro T hT X
  obtain ⟨t, st, q⟩ := k T hT X
  exact ⟨t, X.lremZero hexec (g := F0 m pc ls (.long b :: .long a :: rest)) rfl (a := a) (rest := rest) (by rw [h0]) (by rw [hb]; exact d) t st, q⟩
theorem vx_ialdZ {D : va_G} {cl : List vw_C} {ws : va_W} {tys : List (ClassId × FieldType)} {a : Nat} (hexec : p.tables.exec = Jvm.exec) (hb : c.code = cc) (hK : va_K D cl tys s) (hP : va_P D cl ws H) (q0 t0 : Nat) {cA : ClassId} {n : Nat} {f : Nat → Int32} (ha : ws[q0]? = some (a, .inl (cA, n, .inl f))) (ht : tys[t0]? = some (cA, .int)) {i : Int32} (hout : ¬ vp_in i n) (hdg : decode cc pc = .ok (.iaload, 1))
    (k : ∀ tx : String, tx = (toString "Index " ++ toString i ++ toString " out of bounds for length " ++ toString n : String) → vx_Note p l e R s m args below meth c H locs cells slots Q (F0 m pc ls rest) "java/lang/ArrayIndexOutOfBoundsException" tx) : W p l e R s m args below meth c H locs cells slots Q (F0 m pc ls (.int i :: .ref a :: rest)) := by
  intro T hT X
  obtain ⟨t, st, q⟩ := k _ rfl T hT X
  refine ⟨t, ?_, q⟩
  have h1 := X.ialoadOut hexec (by rw [hT]; exact hP q0 _ ha) ((hK.2 t0 _ ht).1 n (fun j => .int (f j))) (j := i) (by show (i < 0 ∨ (arrV _ _ _).slots.size ≤ _); rw [arrV_size]; exact Classical.byContradiction hout) (g := F0 m pc ls (.int i :: .ref a :: rest)) rfl (rest := rest) rfl (by rw [hb]; exact hdg) t
  simp only [arrV_size] at h1
  exact h1 st
theorem vx_iastZ {D : va_G} {cl : List vw_C} {ws : va_W} {tys : List (ClassId × FieldType)} {a : Nat} (hexec : p.tables.exec = Jvm.exec) (hb : c.code = cc) (hK : va_K D cl tys s) (hP : va_P D cl ws H) (q0 t0 : Nat) {cA : ClassId} {n : Nat} {f : Nat → Int32} (ha : ws[q0]? = some (a, .inl (cA, n, .inl f))) (ht : tys[t0]? = some (cA, .int)) {i : Int32} {x : Int32} (hout : ¬ vp_in i n) (hdg : decode cc pc = .ok (.iastore, 1))
    (k : ∀ tx : String, tx = (toString "Index " ++ toString i ++ toString " out of bounds for length " ++ toString n : String) → vx_Note p l e R s m args below meth c H locs cells slots Q (F0 m pc ls rest) "java/lang/ArrayIndexOutOfBoundsException" tx) : W p l e R s m args below meth c H locs cells slots Q (F0 m pc ls (.int x :: .int i :: .ref a :: rest)) := by
  intro T hT X
  obtain ⟨t, st, q⟩ := k _ rfl T hT X
  refine ⟨t, ?_, q⟩
  have h1 := X.iastoreOut hexec (by rw [hT]; exact hP q0 _ ha) ((hK.2 t0 _ ht).1 n (fun j => .int (f j))) (j := i) (by show (i < 0 ∨ (arrV _ _ _).slots.size ≤ _); rw [arrV_size]; exact Classical.byContradiction hout) (g := F0 m pc ls (.int x :: .int i :: .ref a :: rest)) rfl (rest := rest) rfl (by rw [hb]; exact hdg) t
  simp only [arrV_size] at h1
  exact h1 st
theorem vx_baldZ {D : va_G} {cl : List vw_C} {ws : va_W} {tys : List (ClassId × FieldType)} {a : Nat} (hexec : p.tables.exec = Jvm.exec) (hb : c.code = cc) (hK : va_K D cl tys s) (hP : va_P D cl ws H) (q0 t0 : Nat) {cA : ClassId} {n : Nat} {f : Nat → Int32} (ha : ws[q0]? = some (a, .inl (cA, n, .inl f))) (ht : tys[t0]? = some (cA, .byte)) {i : Int32} (hout : ¬ vp_in i n) (hdg : decode cc pc = .ok (.baload, 1))
    (k : ∀ tx : String, tx = (toString "Index " ++ toString i ++ toString " out of bounds for length " ++ toString n : String) → vx_Note p l e R s m args below meth c H locs cells slots Q (F0 m pc ls rest) "java/lang/ArrayIndexOutOfBoundsException" tx) : W p l e R s m args below meth c H locs cells slots Q (F0 m pc ls (.int i :: .ref a :: rest)) := by
  intro T hT X
  obtain ⟨t, st, q⟩ := k _ rfl T hT X
  refine ⟨t, ?_, q⟩
  have h1 := X.baloadOut hexec (by rw [hT]; exact hP q0 _ ha) ((hK.2 t0 _ ht).1 n (fun j => .int (f j))) (j := i) (by show (i < 0 ∨ (arrV _ _ _).slots.size ≤ _); rw [arrV_size]; exact Classical.byContradiction hout) (g := F0 m pc ls (.int i :: .ref a :: rest)) rfl (rest := rest) rfl (by rw [hb]; exact hdg) t
  simp only [arrV_size] at h1
  exact h1 st
theorem vx_bastZ {D : va_G} {cl : List vw_C} {ws : va_W} {tys : List (ClassId × FieldType)} {a : Nat} (hexec : p.tables.exec = Jvm.exec) (hb : c.code = cc) (hK : va_K D cl tys s) (hP : va_P D cl ws H) (q0 t0 : Nat) {cA : ClassId} {n : Nat} {f : Nat → Int32} (ha : ws[q0]? = some (a, .inl (cA, n, .inl f))) (ht : tys[t0]? = some (cA, .byte)) {i : Int32} {x : Int32} (hout : ¬ vp_in i n) (hdg : decode cc pc = .ok (.bastore, 1))
    (k : ∀ tx : String, tx = (toString "Index " ++ toString i ++ toString " out of bounds for length " ++ toString n : String) → vx_Note p l e R s m args below meth c H locs cells slots Q (F0 m pc ls rest) "java/lang/ArrayIndexOutOfBoundsException" tx) : W p l e R s m args below meth c H locs cells slots Q (F0 m pc ls (.int x :: .int i :: .ref a :: rest)) := by
  intro T hT X
  obtain ⟨t, st, q⟩ := k _ rfl T hT X
  refine ⟨t, ?_, q⟩
  have h1 := X.bastoreOut hexec (by rw [hT]; exact hP q0 _ ha) ((hK.2 t0 _ ht).1 n (fun j => .int (f j))) (j := i) (by show (i < 0 ∨ (arrV _ _ _).slots.size ≤ _); rw [arrV_size]; exact Classical.byContradiction hout) (g := F0 m pc ls (.int x :: .int i :: .ref a :: rest)) rfl (rest := rest) rfl (by rw [hb]; exact hdg) t
  simp only [arrV_size] at h1
  exact h1 st
theorem vx_zaldZ {D : va_G} {cl : List vw_C} {ws : va_W} {tys : List (ClassId × FieldType)} {a : Nat} (hexec : p.tables.exec = Jvm.exec) (hb : c.code = cc) (hK : va_K D cl tys s) (hP : va_P D cl ws H) (q0 t0 : Nat) {cA : ClassId} {n : Nat} {f : Nat → Int32} (ha : ws[q0]? = some (a, .inl (cA, n, .inl f))) (ht : tys[t0]? = some (cA, .boolean)) {i : Int32} (hout : ¬ vp_in i n) (hdg : decode cc pc = .ok (.baload, 1))
    (k : ∀ tx : String, tx = (toString "Index " ++ toString i ++ toString " out of bounds for length " ++ toString n : String) → vx_Note p l e R s m args below meth c H locs cells slots Q (F0 m pc ls rest) "java/lang/ArrayIndexOutOfBoundsException" tx) : W p l e R s m args below meth c H locs cells slots Q (F0 m pc ls (.int i :: .ref a :: rest)) := by
  intro T hT X
  obtain ⟨t, st, q⟩ := k _ rfl T hT X
  refine ⟨t, ?_, q⟩
  have h1 := X.baloadOut hexec (by rw [hT]; exact hP q0 _ ha) ((hK.2 t0 _ ht).1 n (fun j => .int (f j))) (j := i) (by show (i < 0 ∨ (arrV _ _ _).slots.size ≤ _); rw [arrV_size]; exact Classical.byContradiction hout) (g := F0 m pc ls (.int i :: .ref a :: rest)) rfl (rest := rest) rfl (by rw [hb]; exact hdg) t
  simp only [arrV_size] at h1
  exact h1 st
theorem vx_zastZ {D : va_G} {cl : List vw_C} {ws : va_W} {tys : List (ClassId × FieldType)} {a : Nat} (hexec : p.tables.exec = Jvm.exec) (hb : c.code = cc) (hK : va_K D cl tys s) (hP : va_P D cl ws H) (q0 t0 : Nat) {cA : ClassId} {n : Nat} {f : Nat → Int32} (ha : ws[q0]? = some (a, .inl (cA, n, .inl f))) (ht : tys[t0]? = some (cA, .boolean)) {i : Int32} {x : Int32} (hout : ¬ vp_in i n) (hdg : decode cc pc = .ok (.bastore, 1))
    (k : ∀ tx : String, tx = (toString "Index " ++ toString i ++ toString " out of bounds for length " ++ toString n : String) → vx_Note p l e R s m args below meth c H locs cells slots Q (F0 m pc ls rest) "java/lang/ArrayIndexOutOfBoundsException" tx) : W p l e R s m args below meth c H locs cells slots Q (F0 m pc ls (.int x :: .int i :: .ref a :: rest)) := by
  intro T hT X
  obtain ⟨t, st, q⟩ := k _ rfl T hT X
  refine ⟨t, ?_, q⟩
  have h1 := X.bastoreOut hexec (by rw [hT]; exact hP q0 _ ha) ((hK.2 t0 _ ht).1 n (fun j => .int (f j))) (j := i) (by show (i < 0 ∨ (arrV _ _ _).slots.size ≤ _); rw [arrV_size]; exact Classical.byContradiction hout) (g := F0 m pc ls (.int x :: .int i :: .ref a :: rest)) rfl (rest := rest) rfl (by rw [hb]; exact hdg) t
  simp only [arrV_size] at h1
  exact h1 st
theorem vx_caldZ {D : va_G} {cl : List vw_C} {ws : va_W} {tys : List (ClassId × FieldType)} {a : Nat} (hexec : p.tables.exec = Jvm.exec) (hb : c.code = cc) (hK : va_K D cl tys s) (hP : va_P D cl ws H) (q0 t0 : Nat) {cA : ClassId} {n : Nat} {f : Nat → Int32} (ha : ws[q0]? = some (a, .inl (cA, n, .inl f))) (ht : tys[t0]? = some (cA, .char)) {i : Int32} (hout : ¬ vp_in i n) (hdg : decode cc pc = .ok (.caload, 1))
    (k : ∀ tx : String, tx = (toString "Index " ++ toString i ++ toString " out of bounds for length " ++ toString n : String) → vx_Note p l e R s m args below meth c H locs cells slots Q (F0 m pc ls rest) "java/lang/ArrayIndexOutOfBoundsException" tx) : W p l e R s m args below meth c H locs cells slots Q (F0 m pc ls (.int i :: .ref a :: rest)) := by
  intro T hT X
  obtain ⟨t, st, q⟩ := k _ rfl T hT X
  refine ⟨t, ?_, q⟩
  have h1 := X.caloadOut hexec (by rw [hT]; exact hP q0 _ ha) ((hK.2 t0 _ ht).1 n (fun j => .int (f j))) (j := i) (by show (i < 0 ∨ (arrV _ _ _).slots.size ≤ _); rw [arrV_size]; exact Classical.byContradiction hout) (g := F0 m pc ls (.int i :: .ref a :: rest)) rfl (rest := rest) rfl (by rw [hb]; exact hdg) t
  simp only [arrV_size] at h1
  exact h1 st
theorem vx_castZ {D : va_G} {cl : List vw_C} {ws : va_W} {tys : List (ClassId × FieldType)} {a : Nat} (hexec : p.tables.exec = Jvm.exec) (hb : c.code = cc) (hK : va_K D cl tys s) (hP : va_P D cl ws H) (q0 t0 : Nat) {cA : ClassId} {n : Nat} {f : Nat → Int32} (ha : ws[q0]? = some (a, .inl (cA, n, .inl f))) (ht : tys[t0]? = some (cA, .char)) {i : Int32} {x : Int32} (hout : ¬ vp_in i n) (hdg : decode cc pc = .ok (.castore, 1))
    (k : ∀ tx : String, tx = (toString "Index " ++ toString i ++ toString " out of bounds for length " ++ toString n : String) → vx_Note p l e R s m args below meth c H locs cells slots Q (F0 m pc ls rest) "java/lang/ArrayIndexOutOfBoundsException" tx) : W p l e R s m args below meth c H locs cells slots Q (F0 m pc ls (.int x :: .int i :: .ref a :: rest)) := by
  intro T hT X
  obtain ⟨t, st, q⟩ := k _ rfl T hT X
  refine ⟨t, ?_, q⟩
  have h1 := X.castoreOut hexec (by rw [hT]; exact hP q0 _ ha) ((hK.2 t0 _ ht).1 n (fun j => .int (f j))) (j := i) (by show (i < 0 ∨ (arrV _ _ _).slots.size ≤ _); rw [arrV_size]; exact Classical.byContradiction hout) (g := F0 m pc ls (.int x :: .int i :: .ref a :: rest)) rfl (rest := rest) rfl (by rw [hb]; exact hdg) t
  simp only [arrV_size] at h1
  exact h1 st
theorem vx_saldZ {D : va_G} {cl : List vw_C} {ws : va_W} {tys : List (ClassId × FieldType)} {a : Nat} (hexec : p.tables.exec = Jvm.exec) (hb : c.code = cc) (hK : va_K D cl tys s) (hP : va_P D cl ws H) (q0 t0 : Nat) {cA : ClassId} {n : Nat} {f : Nat → Int32} (ha : ws[q0]? = some (a, .inl (cA, n, .inl f))) (ht : tys[t0]? = some (cA, .short)) {i : Int32} (hout : ¬ vp_in i n) (hdg : decode cc pc = .ok (.saload, 1))
    (k : ∀ tx : String, tx = (toString "Index " ++ toString i ++ toString " out of bounds for length " ++ toString n : String) → vx_Note p l e R s m args below meth c H locs cells slots Q (F0 m pc ls rest) "java/lang/ArrayIndexOutOfBoundsException" tx) : W p l e R s m args below meth c H locs cells slots Q (F0 m pc ls (.int i :: .ref a :: rest)) := by
  intro T hT X
  obtain ⟨t, st, q⟩ := k _ rfl T hT X
  refine ⟨t, ?_, q⟩
  have h1 := X.saloadOut hexec (by rw [hT]; exact hP q0 _ ha) ((hK.2 t0 _ ht).1 n (fun j => .int (f j))) (j := i) (by show (i < 0 ∨ (arrV _ _ _).slots.size ≤ _); rw [arrV_size]; exact Classical.byContradiction hout) (g := F0 m pc ls (.int i :: .ref a :: rest)) rfl (rest := rest) rfl (by rw [hb]; exact hdg) t
  simp only [arrV_size] at h1
  exact h1 st
theorem vx_sastZ {D : va_G} {cl : List vw_C} {ws : va_W} {tys : List (ClassId × FieldType)} {a : Nat} (hexec : p.tables.exec = Jvm.exec) (hb : c.code = cc) (hK : va_K D cl tys s) (hP : va_P D cl ws H) (q0 t0 : Nat) {cA : ClassId} {n : Nat} {f : Nat → Int32} (ha : ws[q0]? = some (a, .inl (cA, n, .inl f))) (ht : tys[t0]? = some (cA, .short)) {i : Int32} {x : Int32} (hout : ¬ vp_in i n) (hdg : decode cc pc = .ok (.sastore, 1))
    (k : ∀ tx : String, tx = (toString "Index " ++ toString i ++ toString " out of bounds for length " ++ toString n : String) → vx_Note p l e R s m args below meth c H locs cells slots Q (F0 m pc ls rest) "java/lang/ArrayIndexOutOfBoundsException" tx) : W p l e R s m args below meth c H locs cells slots Q (F0 m pc ls (.int x :: .int i :: .ref a :: rest)) := by
  intro T hT X
  obtain ⟨t, st, q⟩ := k _ rfl T hT X
  refine ⟨t, ?_, q⟩
  have h1 := X.sastoreOut hexec (by rw [hT]; exact hP q0 _ ha) ((hK.2 t0 _ ht).1 n (fun j => .int (f j))) (j := i) (by show (i < 0 ∨ (arrV _ _ _).slots.size ≤ _); rw [arrV_size]; exact Classical.byContradiction hout) (g := F0 m pc ls (.int x :: .int i :: .ref a :: rest)) rfl (rest := rest) rfl (by rw [hb]; exact hdg) t
  simp only [arrV_size] at h1
  exact h1 st
theorem vx_laldZ {D : va_G} {cl : List vw_C} {ws : va_W} {tys : List (ClassId × FieldType)} {a : Nat} (hexec : p.tables.exec = Jvm.exec) (hb : c.code = cc) (hK : va_K D cl tys s) (hP : va_P D cl ws H) (q0 t0 : Nat) {cA : ClassId} {n : Nat} {f : Nat → Int64} (ha : ws[q0]? = some (a, .inl (cA, n, .inr (.inl f)))) (ht : tys[t0]? = some (cA, .long)) {i : Int32} (hout : ¬ vp_in i n) (hdg : decode cc pc = .ok (.laload, 1))
    (k : ∀ tx : String, tx = (toString "Index " ++ toString i ++ toString " out of bounds for length " ++ toString n : String) → vx_Note p l e R s m args below meth c H locs cells slots Q (F0 m pc ls rest) "java/lang/ArrayIndexOutOfBoundsException" tx) : W p l e R s m args below meth c H locs cells slots Q (F0 m pc ls (.int i :: .ref a :: rest)) := by
  intro T hT X
  obtain ⟨t, st, q⟩ := k _ rfl T hT X
  refine ⟨t, ?_, q⟩
  have h1 := X.laloadOut hexec (by rw [hT]; exact hP q0 _ ha) ((hK.2 t0 _ ht).1 n (fun j => .long (f j))) (j := i) (by show (i < 0 ∨ (arrV _ _ _).slots.size ≤ _); rw [arrV_size]; exact Classical.byContradiction hout) (g := F0 m pc ls (.int i :: .ref a :: rest)) rfl (rest := rest) rfl (by rw [hb]; exact hdg) t
  simp only [arrV_size] at h1
  exact h1 st
theorem vx_lastZ {D : va_G} {cl : List vw_C} {ws : va_W} {tys : List (ClassId × FieldType)} {a : Nat} (hexec : p.tables.exec = Jvm.exec) (hb : c.code = cc) (hK : va_K D cl tys s) (hP : va_P D cl ws H) (q0 t0 : Nat) {cA : ClassId} {n : Nat} {f : Nat → Int64} (ha : ws[q0]? = some (a, .inl (cA, n, .inr (.inl f)))) (ht : tys[t0]? = some (cA, .long)) {i : Int32} {x : Int64} (hout : ¬ vp_in i n) (hdg : decode cc pc = .ok (.lastore, 1))
    (k : ∀ tx : String, tx = (toString "Index " ++ toString i ++ toString " out of bounds for length " ++ toString n : String) → vx_Note p l e R s m args below meth c H locs cells slots Q (F0 m pc ls rest) "java/lang/ArrayIndexOutOfBoundsException" tx) : W p l e R s m args below meth c H locs cells slots Q (F0 m pc ls (.long x :: .int i :: .ref a :: rest)) := by
  intro T hT X
  obtain ⟨t, st, q⟩ := k _ rfl T hT X
  refine ⟨t, ?_, q⟩
  have h1 := X.lastoreOut hexec (by rw [hT]; exact hP q0 _ ha) ((hK.2 t0 _ ht).1 n (fun j => .long (f j))) (j := i) (by show (i < 0 ∨ (arrV _ _ _).slots.size ≤ _); rw [arrV_size]; exact Classical.byContradiction hout) (g := F0 m pc ls (.long x :: .int i :: .ref a :: rest)) rfl (rest := rest) rfl (by rw [hb]; exact hdg) t
  simp only [arrV_size] at h1
  exact h1 st
theorem vx_faldZ {D : va_G} {cl : List vw_C} {ws : va_W} {tys : List (ClassId × FieldType)} {a : Nat} (hexec : p.tables.exec = Jvm.exec) (hb : c.code = cc) (hK : va_K D cl tys s) (hP : va_P D cl ws H) (q0 t0 : Nat) {cA : ClassId} {n : Nat} {f : Nat → UInt32} (ha : ws[q0]? = some (a, .inl (cA, n, .inr (.inr (.inl f))))) (ht : tys[t0]? = some (cA, .float)) {i : Int32} (hout : ¬ vp_in i n) (hdg : decode cc pc = .ok (.faload, 1))
    (k : ∀ tx : String, tx = (toString "Index " ++ toString i ++ toString " out of bounds for length " ++ toString n : String) → vx_Note p l e R s m args below meth c H locs cells slots Q (F0 m pc ls rest) "java/lang/ArrayIndexOutOfBoundsException" tx) : W p l e R s m args below meth c H locs cells slots Q (F0 m pc ls (.int i :: .ref a :: rest)) := by
  intro T hT X
  obtain ⟨t, st, q⟩ := k _ rfl T hT X
  refine ⟨t, ?_, q⟩
  have h1 := X.faloadOut hexec (by rw [hT]; exact hP q0 _ ha) ((hK.2 t0 _ ht).1 n (fun j => .float (f j))) (j := i) (by show (i < 0 ∨ (arrV _ _ _).slots.size ≤ _); rw [arrV_size]; exact Classical.byContradiction hout) (g := F0 m pc ls (.int i :: .ref a :: rest)) rfl (rest := rest) rfl (by rw [hb]; exact hdg) t
  simp only [arrV_size] at h1
  exact h1 st
theorem vx_fastZ {D : va_G} {cl : List vw_C} {ws : va_W} {tys : List (ClassId × FieldType)} {a : Nat} (hexec : p.tables.exec = Jvm.exec) (hb : c.code = cc) (hK : va_K D cl tys s) (hP : va_P D cl ws H) (q0 t0 : Nat) {cA : ClassId} {n : Nat} {f : Nat → UInt32} (ha : ws[q0]? = some (a, .inl (cA, n, .inr (.inr (.inl f))))) (ht : tys[t0]? = some (cA, .float)) {i : Int32} {x : UInt32} (hout : ¬ vp_in i n) (hdg : decode cc pc = .ok (.fastore, 1))
    (k : ∀ tx : String, tx = (toString "Index " ++ toString i ++ toString " out of bounds for length " ++ toString n : String) → vx_Note p l e R s m args below meth c H locs cells slots Q (F0 m pc ls rest) "java/lang/ArrayIndexOutOfBoundsException" tx) : W p l e R s m args below meth c H locs cells slots Q (F0 m pc ls (.float x :: .int i :: .ref a :: rest)) := by
  intro T hT X
  obtain ⟨t, st, q⟩ := k _ rfl T hT X
  refine ⟨t, ?_, q⟩
  have h1 := X.fastoreOut hexec (by rw [hT]; exact hP q0 _ ha) ((hK.2 t0 _ ht).1 n (fun j => .float (f j))) (j := i) (by show (i < 0 ∨ (arrV _ _ _).slots.size ≤ _); rw [arrV_size]; exact Classical.byContradiction hout) (g := F0 m pc ls (.float x :: .int i :: .ref a :: rest)) rfl (rest := rest) rfl (by rw [hb]; exact hdg) t
  simp only [arrV_size] at h1
  exact h1 st
theorem vx_daldZ {D : va_G} {cl : List vw_C} {ws : va_W} {tys : List (ClassId × FieldType)} {a : Nat} (hexec : p.tables.exec = Jvm.exec) (hb : c.code = cc) (hK : va_K D cl tys s) (hP : va_P D cl ws H) (q0 t0 : Nat) {cA : ClassId} {n : Nat} {f : Nat → UInt64} (ha : ws[q0]? = some (a, .inl (cA, n, .inr (.inr (.inr (.inl f)))))) (ht : tys[t0]? = some (cA, .double)) {i : Int32} (hout : ¬ vp_in i n) (hdg : decode cc pc = .ok (.daload, 1))
    (k : ∀ tx : String, tx = (toString "Index " ++ toString i ++ toString " out of bounds for length " ++ toString n : String) → vx_Note p l e R s m args below meth c H locs cells slots Q (F0 m pc ls rest) "java/lang/ArrayIndexOutOfBoundsException" tx) : W p l e R s m args below meth c H locs cells slots Q (F0 m pc ls (.int i :: .ref a :: rest)) := by
  intro T hT X
  obtain ⟨t, st, q⟩ := k _ rfl T hT X
  refine ⟨t, ?_, q⟩
  have h1 := X.daloadOut hexec (by rw [hT]; exact hP q0 _ ha) ((hK.2 t0 _ ht).1 n (fun j => .double (f j))) (j := i) (by show (i < 0 ∨ (arrV _ _ _).slots.size ≤ _); rw [arrV_size]; exact Classical.byContradiction hout) (g := F0 m pc ls (.int i :: .ref a :: rest)) rfl (rest := rest) rfl (by rw [hb]; exact hdg) t
  simp only [arrV_size] at h1
  exact h1 st
theorem vx_dastZ {D : va_G} {cl : List vw_C} {ws : va_W} {tys : List (ClassId × FieldType)} {a : Nat} (hexec : p.tables.exec = Jvm.exec) (hb : c.code = cc) (hK : va_K D cl tys s) (hP : va_P D cl ws H) (q0 t0 : Nat) {cA : ClassId} {n : Nat} {f : Nat → UInt64} (ha : ws[q0]? = some (a, .inl (cA, n, .inr (.inr (.inr (.inl f)))))) (ht : tys[t0]? = some (cA, .double)) {i : Int32} {x : UInt64} (hout : ¬ vp_in i n) (hdg : decode cc pc = .ok (.dastore, 1))
    (k : ∀ tx : String, tx = (toString "Index " ++ toString i ++ toString " out of bounds for length " ++ toString n : String) → vx_Note p l e R s m args below meth c H locs cells slots Q (F0 m pc ls rest) "java/lang/ArrayIndexOutOfBoundsException" tx) : W p l e R s m args below meth c H locs cells slots Q (F0 m pc ls (.double x :: .int i :: .ref a :: rest)) := by
  intro T hT X
  obtain ⟨t, st, q⟩ := k _ rfl T hT X
  refine ⟨t, ?_, q⟩
  have h1 := X.dastoreOut hexec (by rw [hT]; exact hP q0 _ ha) ((hK.2 t0 _ ht).1 n (fun j => .double (f j))) (j := i) (by show (i < 0 ∨ (arrV _ _ _).slots.size ≤ _); rw [arrV_size]; exact Classical.byContradiction hout) (g := F0 m pc ls (.double x :: .int i :: .ref a :: rest)) rfl (rest := rest) rfl (by rw [hb]; exact hdg) t
  simp only [arrV_size] at h1
  exact h1 st
theorem vx_arraylengthN (hexec : p.tables.exec = Jvm.exec) (hb : c.code = cc) (hdg : decode cc pc = .ok (.arraylength, 1)) (k : vx_NoteN p l e R s m args below meth c H locs cells slots Q (F0 m pc ls rest)) : W p l e R s m args below meth c H locs cells slots Q (F0 m pc ls (.null :: rest)) := by
  intro T hT X
  obtain ⟨t, st, q⟩ := k T hT X
  exact ⟨t, X.arraylengthNull hexec (g := F0 m pc ls (.null :: rest)) rfl (rest := rest) rfl (by rw [hb]; exact hdg) t st, q⟩
theorem vx_ialoadN (hexec : p.tables.exec = Jvm.exec) (hb : c.code = cc) {i : Int32} (hdg : decode cc pc = .ok (.iaload, 1)) (k : vx_NoteN p l e R s m args below meth c H locs cells slots Q (F0 m pc ls rest)) : W p l e R s m args below meth c H locs cells slots Q (F0 m pc ls (.int i :: .null :: rest)) := by
  intro T hT X
  obtain ⟨t, st, q⟩ := k T hT X
  exact ⟨t, X.ialoadNull hexec (g := F0 m pc ls (.int i :: .null :: rest)) rfl (rest := rest) rfl (by rw [hb]; exact hdg) t st, q⟩
theorem vx_laloadN (hexec : p.tables.exec = Jvm.exec) (hb : c.code = cc) {i : Int32} (hdg : decode cc pc = .ok (.laload, 1)) (k : vx_NoteN p l e R s m args below meth c H locs cells slots Q (F0 m pc ls rest)) : W p l e R s m args below meth c H locs cells slots Q (F0 m pc ls (.int i :: .null :: rest)) := by
  intro T hT X
  obtain ⟨t, st, q⟩ := k T hT X
  exact ⟨t, X.laloadNull hexec (g := F0 m pc ls (.int i :: .null :: rest)) rfl (rest := rest) rfl (by rw [hb]; exact hdg) t st, q⟩
theorem vx_faloadN (hexec : p.tables.exec = Jvm.exec) (hb : c.code = cc) {i : Int32} (hdg : decode cc pc = .ok (.faload, 1)) (k : vx_NoteN p l e R s m args below meth c H locs cells slots Q (F0 m pc ls rest)) : W p l e R s m args below meth c H locs cells slots Q (F0 m pc ls (.int i :: .null :: rest)) := by
  intro T hT X
  obtain ⟨t, st, q⟩ := k T hT X
  exact ⟨t, X.faloadNull hexec (g := F0 m pc ls (.int i :: .null :: rest)) rfl (rest := rest) rfl (by rw [hb]; exact hdg) t st, q⟩
theorem vx_daloadN (hexec : p.tables.exec = Jvm.exec) (hb : c.code = cc) {i : Int32} (hdg : decode cc pc = .ok (.daload, 1)) (k : vx_NoteN p l e R s m args below meth c H locs cells slots Q (F0 m pc ls rest)) : W p l e R s m args below meth c H locs cells slots Q (F0 m pc ls (.int i :: .null :: rest)) := by
  intro T hT X
  obtain ⟨t, st, q⟩ := k T hT X
  exact ⟨t, X.daloadNull hexec (g := F0 m pc ls (.int i :: .null :: rest)) rfl (rest := rest) rfl (by rw [hb]; exact hdg) t st, q⟩
theorem vx_aaloadN (hexec : p.tables.exec = Jvm.exec) (hb : c.code = cc) {i : Int32} (hdg : decode cc pc = .ok (.aaload, 1)) (k : vx_NoteN p l e R s m args below meth c H locs cells slots Q (F0 m pc ls rest)) : W p l e R s m args below meth c H locs cells slots Q (F0 m pc ls (.int i :: .null :: rest)) := by
  intro T hT X
  obtain ⟨t, st, q⟩ := k T hT X
  exact ⟨t, X.aaloadNull hexec (g := F0 m pc ls (.int i :: .null :: rest)) rfl (rest := rest) rfl (by rw [hb]; exact hdg) t st, q⟩
theorem vx_baloadN (hexec : p.tables.exec = Jvm.exec) (hb : c.code = cc) {i : Int32} (hdg : decode cc pc = .ok (.baload, 1)) (k : vx_NoteN p l e R s m args below meth c H locs cells slots Q (F0 m pc ls rest)) : W p l e R s m args below meth c H locs cells slots Q (F0 m pc ls (.int i :: .null :: rest)) := by
  intro T hT X
  obtain ⟨t, st, q⟩ := k T hT X
  exact ⟨t, X.baloadNull hexec (g := F0 m pc ls (.int i :: .null :: rest)) rfl (rest := rest) rfl (by rw [hb]; exact hdg) t st, q⟩
theorem vx_caloadN (hexec : p.tables.exec = Jvm.exec) (hb : c.code = cc) {i : Int32} (hdg : decode cc pc = .ok (.caload, 1)) (k : vx_NoteN p l e R s m args below meth c H locs cells slots Q (F0 m pc ls rest)) : W p l e R s m args below meth c H locs cells slots Q (F0 m pc ls (.int i :: .null :: rest)) := by
  intro T hT X
  obtain ⟨t, st, q⟩ := k T hT X
  exact ⟨t, X.caloadNull hexec (g := F0 m pc ls (.int i :: .null :: rest)) rfl (rest := rest) rfl (by rw [hb]; exact hdg) t st, q⟩
theorem vx_saloadN (hexec : p.tables.exec = Jvm.exec) (hb : c.code = cc) {i : Int32} (hdg : decode cc pc = .ok (.saload, 1)) (k : vx_NoteN p l e R s m args below meth c H locs cells slots Q (F0 m pc ls rest)) : W p l e R s m args below meth c H locs cells slots Q (F0 m pc ls (.int i :: .null :: rest)) := by
  intro T hT X
  obtain ⟨t, st, q⟩ := k T hT X
  exact ⟨t, X.saloadNull hexec (g := F0 m pc ls (.int i :: .null :: rest)) rfl (rest := rest) rfl (by rw [hb]; exact hdg) t st, q⟩
theorem vx_iastoreN (hexec : p.tables.exec = Jvm.exec) (hb : c.code = cc) {x : Int32} {i : Int32} (hdg : decode cc pc = .ok (.iastore, 1)) (k : vx_NoteN p l e R s m args below meth c H locs cells slots Q (F0 m pc ls rest)) : W p l e R s m args below meth c H locs cells slots Q (F0 m pc ls (.int x :: .int i :: .null :: rest)) := by
  intro T hT X
  obtain ⟨t, st, q⟩ := k T hT X
  exact ⟨t, X.iastoreNull hexec (g := F0 m pc ls (.int x :: .int i :: .null :: rest)) rfl (rest := rest) rfl (by rw [hb]; exact hdg) t st, q⟩
theorem vx_lastoreN (hexec : p.tables.exec = Jvm.exec) (hb : c.code = cc) {x : Int64} {i : Int32} (hdg : decode cc pc = .ok (.lastore, 1)) (k : vx_NoteN p l e R s m args below meth c H locs cells slots Q (F0 m pc ls rest)) : W p l e R s m args below meth c H locs cells slots Q (F0 m pc ls (.long x :: .int i :: .null :: rest)) := by
  intro T hT X
  obtain ⟨t, st, q⟩ := k T hT X
  exact ⟨t, X.lastoreNull hexec (g := F0 m pc ls (.long x :: .int i :: .null :: rest)) rfl (rest := rest) rfl (by rw [hb]; exact hdg) t st, q⟩
theorem vx_fastoreN (hexec : p.tables.exec = Jvm.exec) (hb : c.code = cc) {x : UInt32} {i : Int32} (hdg : decode cc pc = .ok (.fastore, 1)) (k : vx_NoteN p l e R s m args below meth c H locs cells slots Q (F0 m pc ls rest)) : W p l e R s m args below meth c H locs cells slots Q (F0 m pc ls (.float x :: .int i :: .null :: rest)) := by
  intro T hT X
  obtain ⟨t, st, q⟩ := k T hT X
  exact ⟨t, X.fastoreNull hexec (g := F0 m pc ls (.float x :: .int i :: .null :: rest)) rfl (rest := rest) rfl (by rw [hb]; exact hdg) t st, q⟩
theorem vx_dastoreN (hexec : p.tables.exec = Jvm.exec) (hb : c.code = cc) {x : UInt64} {i : Int32} (hdg : decode cc pc = .ok (.dastore, 1)) (k : vx_NoteN p l e R s m args below meth c H locs cells slots Q (F0 m pc ls rest)) : W p l e R s m args below meth c H locs cells slots Q (F0 m pc ls (.double x :: .int i :: .null :: rest)) := by
  intro T hT X
  obtain ⟨t, st, q⟩ := k T hT X
  exact ⟨t, X.dastoreNull hexec (g := F0 m pc ls (.double x :: .int i :: .null :: rest)) rfl (rest := rest) rfl (by rw [hb]; exact hdg) t st, q⟩
theorem vx_bastoreN (hexec : p.tables.exec = Jvm.exec) (hb : c.code = cc) {x : Int32} {i : Int32} (hdg : decode cc pc = .ok (.bastore, 1)) (k : vx_NoteN p l e R s m args below meth c H locs cells slots Q (F0 m pc ls rest)) : W p l e R s m args below meth c H locs cells slots Q (F0 m pc ls (.int x :: .int i :: .null :: rest)) := by
  intro T hT X
  obtain ⟨t, st, q⟩ := k T hT X
  exact ⟨t, X.bastoreNull hexec (g := F0 m pc ls (.int x :: .int i :: .null :: rest)) rfl (rest := rest) rfl (by rw [hb]; exact hdg) t st, q⟩
theorem vx_castoreN (hexec : p.tables.exec = Jvm.exec) (hb : c.code = cc) {x : Int32} {i : Int32} (hdg : decode cc pc = .ok (.castore, 1)) (k : vx_NoteN p l e R s m args below meth c H locs cells slots Q (F0 m pc ls rest)) : W p l e R s m args below meth c H locs cells slots Q (F0 m pc ls (.int x :: .int i :: .null :: rest)) := by
  intro T hT X
  obtain ⟨t, st, q⟩ := k T hT X
  exact ⟨t, X.castoreNull hexec (g := F0 m pc ls (.int x :: .int i :: .null :: rest)) rfl (rest := rest) rfl (by rw [hb]; exact hdg) t st, q⟩
theorem vx_sastoreN (hexec : p.tables.exec = Jvm.exec) (hb : c.code = cc) {x : Int32} {i : Int32} (hdg : decode cc pc = .ok (.sastore, 1)) (k : vx_NoteN p l e R s m args below meth c H locs cells slots Q (F0 m pc ls rest)) : W p l e R s m args below meth c H locs cells slots Q (F0 m pc ls (.int x :: .int i :: .null :: rest)) := by
  intro T hT X
  obtain ⟨t, st, q⟩ := k T hT X
  exact ⟨t, X.sastoreNull hexec (g := F0 m pc ls (.int x :: .int i :: .null :: rest)) rfl (rest := rest) rfl (by rw [hb]; exact hdg) t st, q⟩
theorem vx_invokeN {own C : String} {index maxL : Nat} {y : MethodName} {bytes : ByteArray} {ret : Option FieldType} (hexec : p.tables.exec = Jvm.exec) (hb : c.code = cc) (hown : s.vm.findClass own = some m.cls) (hlink : (Cond.methodLink own index y).before args s = true) (hinst : (Cond.instanceMethod y).before args s = true) (hcode : (Cond.code y bytes maxL ret).before args s = true) (hsel : (Cond.selects C y y).before args s = true)
    (hx : y.cls ≠ "java/lang/invoke/MethodHandle" ∧ y.cls ≠ "java/lang/invoke/VarHandle") {As : List Value} (hlen : (parseMethodDescriptor y.desc).map (fun d => d.parameters.length) = some As.length) (hdg : decode cc pc = .ok (.invokevirtual index, 3))
    (k : vx_NoteN p l e R s m args below meth c H locs cells slots Q (F0 m pc ls rest)) {st0 : List Value} (hst : st0 = As.reverse ++ .null :: rest) : W p l e R s m args below meth c H locs cells slots Q (F0 m pc ls st0) := by
  intro T hT X
  obtain ⟨r0, r, hn, hrm, hstR, hsigR⟩ := va_Decl.of hinst hcode
  obtain ⟨c2, r2, m2, q1, q2, q3, q4, kP, hkP, hkPi⟩ := Cond.selects_spec hsel
  cases hn.symm.trans q3
  have hl9 : As.length = r.sig.parameters.length := by
    rw [hsigR] at hlen
    exact (Option.some.inj hlen).symm
  obtain ⟨vm', X1, st1⟩ := X.invokevirtualNull hexec hown hlink hn hrm hstR hkP hkPi hx (g := F0 m pc ls st0) rfl (argsL := As) (rest := rest) hl9 hst (by rw [hb]; exact hdg)
  obtain ⟨t, st, q⟩ := k (T.setVm vm') hT X1
  exact ⟨t, st1 t st, q⟩
theorem vx_newarrayZ {atype : ArrayType} (hexec : p.tables.exec = Jvm.exec) (hb : c.code = cc) {n : Int32} (h0 : n < 0) (hdg : decode cc pc = .ok (.newarray atype, 2)) (k : ∀ tx : String, tx = toString n → vx_Note p l e R s m args below meth c H locs cells slots Q (F0 m pc ls rest) "java/lang/NegativeArraySizeException" tx) : W p l e R s m args below meth c H locs cells slots Q (F0 m pc ls (.int n :: rest)) := by
  intro T hT X
  obtain ⟨t, st, q⟩ := k _ rfl T hT X
  exact ⟨t, X.newarrayNegative hexec (g := F0 m pc ls (.int n :: rest)) rfl h0 (rest := rest) rfl (by rw [hb]; exact hdg) t st, q⟩
end
end VXM
/-! ===== END ===== -/
end
section
/-! ===== BEGIN printed: names, fields, word lists, decode rows ===== -/
def RX0 : String := "SeedBattle$Copy"
def TX0 : u_T := fun k => match k with
  | 0 => ("SeedBattle$Copy", "numbers", "[I", true)
  | 1 => ("SeedBattle$Copy", "parity", "[I", true)
  | 2 => ("SeedBattle$Copy", "original", "[I", true)
  | 3 => ("SeedBattle$Copy", "size", "I", false)
  | 4 => ("SeedBattle$Copy", "brokenBits", "I", false)
  | 5 => ("SeedBattle$Copy", "allyBits", "I", false)
  | _ => ("SeedBattle$Copy", "allyGone", "Z", false)
def tyX0 : Nat → FieldType := fun k => match k with
  | 0 => .array .int
  | 1 => .array .int
  | 2 => .array .int
  | 3 => .int
  | 4 => .int
  | 5 => .int
  | _ => .boolean
abbrev wsX00 : List Cond := u_ws RX0 TX0 7
theorem nmX0 : ∀ a, a < 7 → ∀ b, b < 7 → a ≠ b → (TX0 a).2.1 ≠ (TX0 b).2.1 := by decide +kernel
theorem tyX0_ok : ∀ k, k < 7 → parseFieldDescriptor (TX0 k).2.2.1 = some (tyX0 k) := by decide +kernel
abbrev cX0_init : ByteArray := prog_2_method_1_code
def yX0_init : MethodName := ⟨RX0, "<init>", "()V"⟩
abbrev cX0_take : ByteArray := prog_2_method_2_code
def yX0_take : MethodName := ⟨RX0, "take", "(LSeedBattle$Index;I)V"⟩
abbrev cX0_keepParity : ByteArray := prog_2_method_3_code
def yX0_keepParity : MethodName := ⟨RX0, "keepParity", "([LSeedBattle$Copy;)V"⟩
abbrev cX0_writeTo : ByteArray := prog_2_method_4_code
def yX0_writeTo : MethodName := ⟨RX0, "writeTo", "(LSeedBattle$Index;)V"⟩
abbrev cX0_blockCount : ByteArray := prog_2_method_5_code
def yX0_blockCount : MethodName := ⟨RX0, "blockCount", "()I"⟩
abbrev cX0_numberAt : ByteArray := prog_2_method_6_code
def yX0_numberAt : MethodName := ⟨RX0, "numberAt", "(I)I"⟩
abbrev cX0_isBroken : ByteArray := prog_2_method_7_code
def yX0_isBroken : MethodName := ⟨RX0, "isBroken", "(I)Z"⟩
abbrev cX0_anyBroken : ByteArray := prog_2_method_8_code
def yX0_anyBroken : MethodName := ⟨RX0, "anyBroken", "()Z"⟩
abbrev cX0_breakOne : ByteArray := prog_2_method_9_code
def yX0_breakOne : MethodName := ⟨RX0, "breakOne", "(I)V"⟩
abbrev cX0_endTreaty : ByteArray := prog_2_method_10_code
def yX0_endTreaty : MethodName := ⟨RX0, "endTreaty", "(I)V"⟩
abbrev cX0_canRebuild : ByteArray := prog_2_method_11_code
def yX0_canRebuild : MethodName := ⟨RX0, "canRebuild", "(I[LSeedBattle$Copy;)Z"⟩
abbrev cX0_rebuild : ByteArray := prog_2_method_12_code
def yX0_rebuild : MethodName := ⟨RX0, "rebuild", "(I[LSeedBattle$Copy;)V"⟩
abbrev cX0_isAsTaken : ByteArray := prog_2_method_13_code
def yX0_isAsTaken : MethodName := ⟨RX0, "isAsTaken", "()Z"⟩
abbrev cX0_wasTaken : ByteArray := prog_2_method_14_code
def yX0_wasTaken : MethodName := ⟨RX0, "wasTaken", "(I)Z"⟩
abbrev cX0_isAlly : ByteArray := prog_2_method_15_code
def yX0_isAlly : MethodName := ⟨RX0, "isAlly", "(I)Z"⟩
abbrev cX0_blockEnd : ByteArray := prog_2_method_16_code
def yX0_blockEnd : MethodName := ⟨RX0, "blockEnd", "(I)I"⟩
abbrev cX0_alliesAt : ByteArray := prog_2_method_17_code
def yX0_alliesAt : MethodName := ⟨RX0, "alliesAt", "(I[LSeedBattle$Copy;)I"⟩
def RX1 : String := "SeedBattle$Field"
def TX1 : u_T := fun k => match k with
  | 0 => ("SeedBattle$Field", "land", "LSeedBattle$Land;", true)
  | 1 => ("SeedBattle$Field", "units", "LSeedBattle$Units;", true)
  | 2 => ("SeedBattle$Field", "wants", "[I", true)
  | _ => ("SeedBattle$Field", "powers", "[I", true)
def tyX1 : Nat → FieldType := fun k => match k with
  | 0 => .object "SeedBattle$Land"
  | 1 => .object "SeedBattle$Units"
  | 2 => .array .int
  | _ => .array .int
abbrev wsX10 : List Cond := u_ws RX1 TX1 4
theorem nmX1 : ∀ a, a < 4 → ∀ b, b < 4 → a ≠ b → (TX1 a).2.1 ≠ (TX1 b).2.1 := by decide +kernel
theorem tyX1_ok : ∀ k, k < 4 → parseFieldDescriptor (TX1 k).2.2.1 = some (tyX1 k) := by decide +kernel
abbrev cX1_init : ByteArray := prog_3_method_1_code
def yX1_init : MethodName := ⟨RX1, "<init>", "()V"⟩
abbrev cX1_playTurn : ByteArray := prog_3_method_2_code
def yX1_playTurn : MethodName := ⟨RX1, "playTurn", "(LSeedBattle$Orders;I)I"⟩
abbrev cX1_readWants : ByteArray := prog_3_method_3_code
def yX1_readWants : MethodName := ⟨RX1, "readWants", "(LSeedBattle$Orders;II)Z"⟩
abbrev cX1_isMover : ByteArray := prog_3_method_4_code
def yX1_isMover : MethodName := ⟨RX1, "isMover", "(I)Z"⟩
abbrev cX1_meetPairs : ByteArray := prog_3_method_5_code
def yX1_meetPairs : MethodName := ⟨RX1, "meetPairs", "()I"⟩
abbrev cX1_facing : ByteArray := prog_3_method_6_code
def yX1_facing : MethodName := ⟨RX1, "facing", "(I)I"⟩
abbrev cX1_meet : ByteArray := prog_3_method_7_code
def yX1_meet : MethodName := ⟨RX1, "meet", "(II)I"⟩
abbrev cX1_lose : ByteArray := prog_3_method_8_code
def yX1_lose : MethodName := ⟨RX1, "lose", "(I)V"⟩
abbrev cX1_settleCells : ByteArray := prog_3_method_9_code
def yX1_settleCells : MethodName := ⟨RX1, "settleCells", "()I"⟩
abbrev cX1_lowestContested : ByteArray := prog_3_method_10_code
def yX1_lowestContested : MethodName := ⟨RX1, "lowestContested", "()I"⟩
abbrev cX1_isContested : ByteArray := prog_3_method_11_code
def yX1_isContested : MethodName := ⟨RX1, "isContested", "(I)Z"⟩
abbrev cX1_lookAt : ByteArray := prog_3_method_12_code
def yX1_lookAt : MethodName := ⟨RX1, "lookAt", "(I)I"⟩
abbrev cX1_strongestFor : ByteArray := prog_3_method_13_code
def yX1_strongestFor : MethodName := ⟨RX1, "strongestFor", "(I)I"⟩
abbrev cX1_firstMover : ByteArray := prog_3_method_14_code
def yX1_firstMover : MethodName := ⟨RX1, "firstMover", "(II)I"⟩
abbrev cX1_turnBack : ByteArray := prog_3_method_15_code
def yX1_turnBack : MethodName := ⟨RX1, "turnBack", "(II)V"⟩
abbrev cX1_moveAll : ByteArray := prog_3_method_16_code
def yX1_moveAll : MethodName := ⟨RX1, "moveAll", "()V"⟩
abbrev cX1_unitSpots : ByteArray := prog_3_method_17_code
def yX1_unitSpots : MethodName := ⟨RX1, "unitSpots", "(II)Z"⟩
abbrev cX1_playerSpots : ByteArray := prog_3_method_18_code
def yX1_playerSpots : MethodName := ⟨RX1, "playerSpots", "(II)Z"⟩
def RX2 : String := "SeedBattle$Index"
def TX2 : u_T := fun k => match k with
  | 0 => ("SeedBattle$Index", "numbers", "[I", true)
  | _ => ("SeedBattle$Index", "count", "I", false)
def tyX2 : Nat → FieldType := fun k => match k with
  | 0 => .array .int
  | _ => .int
abbrev wsX20 : List Cond := u_ws RX2 TX2 2
theorem nmX2 : ∀ a, a < 2 → ∀ b, b < 2 → a ≠ b → (TX2 a).2.1 ≠ (TX2 b).2.1 := by decide +kernel
theorem tyX2_ok : ∀ k, k < 2 → parseFieldDescriptor (TX2 k).2.2.1 = some (tyX2 k) := by decide +kernel
abbrev cX2_init : ByteArray := prog_4_method_1_code
def yX2_init : MethodName := ⟨RX2, "<init>", "()V"⟩
abbrev cX2_at : ByteArray := prog_4_method_2_code
def yX2_at : MethodName := ⟨RX2, "at", "(I)I"⟩
abbrev cX2_clear : ByteArray := prog_4_method_3_code
def yX2_clear : MethodName := ⟨RX2, "clear", "()V"⟩
abbrev cX2_add : ByteArray := prog_4_method_4_code
def yX2_add : MethodName := ⟨RX2, "add", "(III)V"⟩
abbrev cX2_has : ByteArray := prog_4_method_5_code
def yX2_has : MethodName := ⟨RX2, "has", "(II)Z"⟩
abbrev cX2_latestOnCell : ByteArray := prog_4_method_6_code
def yX2_latestOnCell : MethodName := ⟨RX2, "latestOnCell", "(I)I"⟩
abbrev cX2_latestOfUnit : ByteArray := prog_4_method_7_code
def yX2_latestOfUnit : MethodName := ⟨RX2, "latestOfUnit", "(I)I"⟩
abbrev cX2_dropFirst : ByteArray := prog_4_method_8_code
def yX2_dropFirst : MethodName := ⟨RX2, "dropFirst", "()V"⟩
abbrev cX2_isBehind : ByteArray := prog_4_method_9_code
def yX2_isBehind : MethodName := ⟨RX2, "isBehind", "(III)Z"⟩
def RX3 : String := "SeedBattle$Land"
def TX3 : u_T := fun k => match k with
  | _ => ("SeedBattle$Land", "grounds", "[C", true)
def tyX3 : Nat → FieldType := fun k => match k with
  | _ => .array .char
abbrev wsX30 : List Cond := u_ws RX3 TX3 1
theorem nmX3 : ∀ a, a < 1 → ∀ b, b < 1 → a ≠ b → (TX3 a).2.1 ≠ (TX3 b).2.1 := by decide +kernel
theorem tyX3_ok : ∀ k, k < 1 → parseFieldDescriptor (TX3 k).2.2.1 = some (tyX3 k) := by decide +kernel
abbrev cX3_init : ByteArray := prog_5_method_1_code
def yX3_init : MethodName := ⟨RX3, "<init>", "()V"⟩
abbrev cX3_grow : ByteArray := prog_5_method_2_code
def yX3_grow : MethodName := ⟨RX3, "grow", "(I)V"⟩
abbrev cX3_at : ByteArray := prog_5_method_3_code
def yX3_at : MethodName := ⟨RX3, "at", "(I)C"⟩
abbrev cX3_beside : ByteArray := prog_5_method_4_code
def yX3_beside : MethodName := ⟨RX3, "beside", "(II)I"⟩
abbrev cX3_isClear : ByteArray := prog_5_method_5_code
def yX3_isClear : MethodName := ⟨RX3, "isClear", "(II)Z"⟩
abbrev cX3_distance : ByteArray := prog_5_method_6_code
def yX3_distance : MethodName := ⟨RX3, "distance", "(II)I"⟩
abbrev cX3_share : ByteArray := prog_5_method_7_code
def yX3_share : MethodName := ⟨RX3, "share", "(II)I"⟩
def RX4 : String := "SeedBattle$Orders"
def TX4 : u_T := fun k => match k with
  | 0 => ("SeedBattle$Orders", "directions", "[I", true)
  | _ => ("SeedBattle$Orders", "given", "[I", true)
def tyX4 : Nat → FieldType := fun k => match k with
  | 0 => .array .int
  | _ => .array .int
abbrev wsX40 : List Cond := u_ws RX4 TX4 2
theorem nmX4 : ∀ a, a < 2 → ∀ b, b < 2 → a ≠ b → (TX4 a).2.1 ≠ (TX4 b).2.1 := by decide +kernel
theorem tyX4_ok : ∀ k, k < 2 → parseFieldDescriptor (TX4 k).2.2.1 = some (tyX4 k) := by decide +kernel
abbrev cX4_init : ByteArray := prog_6_method_1_code
def yX4_init : MethodName := ⟨RX4, "<init>", "()V"⟩
abbrev cX4_give : ByteArray := prog_6_method_2_code
def yX4_give : MethodName := ⟨RX4, "give", "(III)I"⟩
abbrev cX4_givenTo : ByteArray := prog_6_method_3_code
def yX4_givenTo : MethodName := ⟨RX4, "givenTo", "(I)I"⟩
abbrev cX4_startTurn : ByteArray := prog_6_method_4_code
def yX4_startTurn : MethodName := ⟨RX4, "startTurn", "()V"⟩
abbrev cX4_direction : ByteArray := prog_6_method_5_code
def yX4_direction : MethodName := ⟨RX4, "direction", "(III)I"⟩
abbrev cX4_spotOf : ByteArray := prog_6_method_6_code
def yX4_spotOf : MethodName := ⟨RX4, "spotOf", "(III)I"⟩
def RX5 : String := "SeedBattle$Units"
def TX5 : u_T := fun k => match k with
  | 0 => ("SeedBattle$Units", "owners", "[I", true)
  | 1 => ("SeedBattle$Units", "kinds", "[I", true)
  | 2 => ("SeedBattle$Units", "starts", "[I", true)
  | 3 => ("SeedBattle$Units", "places", "[I", true)
  | _ => ("SeedBattle$Units", "count", "I", false)
def tyX5 : Nat → FieldType := fun k => match k with
  | 0 => .array .int
  | 1 => .array .int
  | 2 => .array .int
  | 3 => .array .int
  | _ => .int
abbrev wsX50 : List Cond := u_ws RX5 TX5 5
theorem nmX5 : ∀ a, a < 5 → ∀ b, b < 5 → a ≠ b → (TX5 a).2.1 ≠ (TX5 b).2.1 := by decide +kernel
theorem tyX5_ok : ∀ k, k < 5 → parseFieldDescriptor (TX5 k).2.2.1 = some (tyX5 k) := by decide +kernel
abbrev cX5_init : ByteArray := prog_7_method_1_code
def yX5_init : MethodName := ⟨RX5, "<init>", "()V"⟩
abbrev cX5_put : ByteArray := prog_7_method_2_code
def yX5_put : MethodName := ⟨RX5, "put", "(III)I"⟩
abbrev cX5_startLike : ByteArray := prog_7_method_3_code
def yX5_startLike : MethodName := ⟨RX5, "startLike", "(LSeedBattle$Units;)V"⟩
abbrev cX5_has : ByteArray := prog_7_method_4_code
def yX5_has : MethodName := ⟨RX5, "has", "(I)Z"⟩
abbrev cX5_lives : ByteArray := prog_7_method_5_code
def yX5_lives : MethodName := ⟨RX5, "lives", "(I)Z"⟩
abbrev cX5_place : ByteArray := prog_7_method_6_code
def yX5_place : MethodName := ⟨RX5, "place", "(I)I"⟩
abbrev cX5_owner : ByteArray := prog_7_method_7_code
def yX5_owner : MethodName := ⟨RX5, "owner", "(I)I"⟩
abbrev cX5_sight : ByteArray := prog_7_method_8_code
def yX5_sight : MethodName := ⟨RX5, "sight", "(I)I"⟩
abbrev cX5_steps : ByteArray := prog_7_method_9_code
def yX5_steps : MethodName := ⟨RX5, "steps", "(I)I"⟩
abbrev cX5_power : ByteArray := prog_7_method_10_code
def yX5_power : MethodName := ⟨RX5, "power", "(I)I"⟩
abbrev cX5_on : ByteArray := prog_7_method_11_code
def yX5_on : MethodName := ⟨RX5, "on", "(I)I"⟩
abbrev cX5_move : ByteArray := prog_7_method_12_code
def yX5_move : MethodName := ⟨RX5, "move", "(II)V"⟩
def RX6 : String := "SeedBattle"
def TX6 : u_T := fun k => match k with
  | 0 => ("SeedBattle", "field", "LSeedBattle$Field;", true)
  | 1 => ("SeedBattle", "rehearsal", "LSeedBattle$Field;", true)
  | 2 => ("SeedBattle", "orders", "LSeedBattle$Orders;", true)
  | 3 => ("SeedBattle", "indexes", "[LSeedBattle$Index;", true)
  | 4 => ("SeedBattle", "copies", "[LSeedBattle$Copy;", true)
  | 5 => ("SeedBattle", "treaties", "[I", true)
  | 6 => ("SeedBattle", "ownSights", "[I", true)
  | 7 => ("SeedBattle", "seedNow", "I", false)
  | 8 => ("SeedBattle", "turnsDone", "I", false)
  | _ => ("SeedBattle", "saved", "Z", false)
def tyX6 : Nat → FieldType := fun k => match k with
  | 0 => .object "SeedBattle$Field"
  | 1 => .object "SeedBattle$Field"
  | 2 => .object "SeedBattle$Orders"
  | 3 => .array (.object "SeedBattle$Index")
  | 4 => .array (.object "SeedBattle$Copy")
  | 5 => .array .int
  | 6 => .array .int
  | 7 => .int
  | 8 => .int
  | _ => .boolean
abbrev wsX60 : List Cond := u_ws RX6 TX6 10
theorem nmX6 : ∀ a, a < 10 → ∀ b, b < 10 → a ≠ b → (TX6 a).2.1 ≠ (TX6 b).2.1 := by decide +kernel
theorem tyX6_ok : ∀ k, k < 10 → parseFieldDescriptor (TX6 k).2.2.1 = some (tyX6 k) := by decide +kernel
abbrev cX6_init : ByteArray := prog_1_method_1_code
def yX6_init : MethodName := ⟨RX6, "<init>", "()V"⟩
abbrev cX6_setSeed : ByteArray := prog_1_method_2_code
def yX6_setSeed : MethodName := ⟨RX6, "setSeed", "(I)I"⟩
abbrev cX6_ground : ByteArray := prog_1_method_3_code
def yX6_ground : MethodName := ⟨RX6, "ground", "(I)C"⟩
abbrev cX6_addUnit : ByteArray := prog_1_method_4_code
def yX6_addUnit : MethodName := ⟨RX6, "addUnit", "(ICI)I"⟩
abbrev cX6_order : ByteArray := prog_1_method_5_code
def yX6_order : MethodName := ⟨RX6, "order", "(II)I"⟩
abbrev cX6_turn : ByteArray := prog_1_method_6_code
def yX6_turn : MethodName := ⟨RX6, "turn", "()I"⟩
abbrev cX6_done : ByteArray := prog_1_method_7_code
def yX6_done : MethodName := ⟨RX6, "done", "()I"⟩
abbrev cX6_cellOf : ByteArray := prog_1_method_8_code
def yX6_cellOf : MethodName := ⟨RX6, "cellOf", "(I)I"⟩
abbrev cX6_unitOn : ByteArray := prog_1_method_9_code
def yX6_unitOn : MethodName := ⟨RX6, "unitOn", "(I)I"⟩
abbrev cX6_sees : ByteArray := prog_1_method_10_code
def yX6_sees : MethodName := ⟨RX6, "sees", "(II)Z"⟩
abbrev cX6_seen : ByteArray := prog_1_method_11_code
def yX6_seen : MethodName := ⟨RX6, "seen", "(I)I"⟩
abbrev cX6_setTreaty : ByteArray := prog_1_method_12_code
def yX6_setTreaty : MethodName := ⟨RX6, "setTreaty", "(IIZ)Z"⟩
abbrev cX6_sightings : ByteArray := prog_1_method_13_code
def yX6_sightings : MethodName := ⟨RX6, "sightings", "(I)I"⟩
abbrev cX6_sighting : ByteArray := prog_1_method_14_code
def yX6_sighting : MethodName := ⟨RX6, "sighting", "(IIC)I"⟩
abbrev cX6_age : ByteArray := prog_1_method_15_code
def yX6_age : MethodName := ⟨RX6, "age", "(II)I"⟩
abbrev cX6_lastSeen : ByteArray := prog_1_method_16_code
def yX6_lastSeen : MethodName := ⟨RX6, "lastSeen", "(II)I"⟩
abbrev cX6_save : ByteArray := prog_1_method_17_code
def yX6_save : MethodName := ⟨RX6, "save", "()I"⟩
abbrev cX6_blocks : ByteArray := prog_1_method_18_code
def yX6_blocks : MethodName := ⟨RX6, "blocks", "(I)I"⟩
abbrev cX6_breakBlock : ByteArray := prog_1_method_19_code
def yX6_breakBlock : MethodName := ⟨RX6, "breakBlock", "(II)Z"⟩
abbrev cX6_savedAt : ByteArray := prog_1_method_20_code
def yX6_savedAt : MethodName := ⟨RX6, "savedAt", "(II)I"⟩
abbrev cX6_repair : ByteArray := prog_1_method_21_code
def yX6_repair : MethodName := ⟨RX6, "repair", "(I)I"⟩
abbrev cX6_load : ByteArray := prog_1_method_22_code
def yX6_load : MethodName := ⟨RX6, "load", "(I)I"⟩
abbrev cX6_allies : ByteArray := prog_1_method_23_code
def yX6_allies : MethodName := ⟨RX6, "allies", "(I)I"⟩
abbrev cX6_checksum : ByteArray := prog_1_method_24_code
def yX6_checksum : MethodName := ⟨RX6, "checksum", "()J"⟩
abbrev cX6_livingShare : ByteArray := prog_1_method_25_code
def yX6_livingShare : MethodName := ⟨RX6, "livingShare", "()F"⟩
abbrev cX6_meanAge : ByteArray := prog_1_method_26_code
def yX6_meanAge : MethodName := ⟨RX6, "meanAge", "()D"⟩
abbrev cX6_isSound : ByteArray := prog_1_method_27_code
def yX6_isSound : MethodName := ⟨RX6, "isSound", "()Z"⟩
abbrev cX6_requirePlayer : ByteArray := prog_1_method_28_code
def yX6_requirePlayer : MethodName := ⟨RX6, "requirePlayer", "(I)V"⟩
abbrev cX6_requireCell : ByteArray := prog_1_method_29_code
def yX6_requireCell : MethodName := ⟨RX6, "requireCell", "(I)V"⟩
abbrev cX6_requireUnit : ByteArray := prog_1_method_30_code
def yX6_requireUnit : MethodName := ⟨RX6, "requireUnit", "(I)V"⟩
abbrev cX6_requireSave : ByteArray := prog_1_method_31_code
def yX6_requireSave : MethodName := ⟨RX6, "requireSave", "()V"⟩
abbrev cX6_isCell : ByteArray := prog_1_method_32_code
def yX6_isCell : MethodName := ⟨RX6, "isCell", "(I)Z"⟩
abbrev cX6_numberFor : ByteArray := prog_1_method_33_code
def yX6_numberFor : MethodName := ⟨RX6, "numberFor", "(III)I"⟩
abbrev cX6_turnOf : ByteArray := prog_1_method_34_code
def yX6_turnOf : MethodName := ⟨RX6, "turnOf", "(I)I"⟩
abbrev cX6_placeOf : ByteArray := prog_1_method_35_code
def yX6_placeOf : MethodName := ⟨RX6, "placeOf", "(I)I"⟩
abbrev cX6_unitOf : ByteArray := prog_1_method_36_code
def yX6_unitOf : MethodName := ⟨RX6, "unitOf", "(I)I"⟩
abbrev cX6_hasTreaty : ByteArray := prog_1_method_37_code
def yX6_hasTreaty : MethodName := ⟨RX6, "hasTreaty", "(II)Z"⟩
abbrev cX6_watch : ByteArray := prog_1_method_38_code
def yX6_watch : MethodName := ⟨RX6, "watch", "(I)V"⟩
abbrev cX6_hearAll : ByteArray := prog_1_method_39_code
def yX6_hearAll : MethodName := ⟨RX6, "hearAll", "(I)V"⟩
abbrev cX6_hear : ByteArray := prog_1_method_40_code
def yX6_hear : MethodName := ⟨RX6, "hear", "(II)V"⟩
abbrev cX6_unitsAreWhereReplayed : ByteArray := prog_1_method_41_code
def yX6_unitsAreWhereReplayed : MethodName := ⟨RX6, "unitsAreWhereReplayed", "()Z"⟩
abbrev cX6_savesAreAsTaken : ByteArray := prog_1_method_42_code
def yX6_savesAreAsTaken : MethodName := ⟨RX6, "savesAreAsTaken", "()Z"⟩
abbrev cX6_noIndexHasOwnUnits : ByteArray := prog_1_method_43_code
def yX6_noIndexHasOwnUnits : MethodName := ⟨RX6, "noIndexHasOwnUnits", "()Z"⟩
def RX7 : String := "SeedBattleModel"
def TX7 : u_T := fun k => match k with
  | 0 => ("SeedBattleModel", "player", "[I", true)
  | 1 => ("SeedBattleModel", "cell", "[I", true)
  | 2 => ("SeedBattleModel", "wants", "[I", true)
  | 3 => ("SeedBattleModel", "many", "[I", true)
  | 4 => ("SeedBattleModel", "first", "[I", true)
  | 5 => ("SeedBattleModel", "second", "[I", true)
  | 6 => ("SeedBattleModel", "kind", "[C", true)
  | 7 => ("SeedBattleModel", "treaty", "[Z", true)
  | 8 => ("SeedBattleModel", "index", "[I", true)
  | 9 => ("SeedBattleModel", "size", "[I", true)
  | 10 => ("SeedBattleModel", "saved", "[I", true)
  | 11 => ("SeedBattleModel", "savedSize", "[I", true)
  | 12 => ("SeedBattleModel", "broken", "[Z", true)
  | 13 => ("SeedBattleModel", "ally", "[Z", true)
  | 14 => ("SeedBattleModel", "ended", "[Z", true)
  | 15 => ("SeedBattleModel", "thrown", "I", false)
  | 16 => ("SeedBattleModel", "seed", "I", false)
  | 17 => ("SeedBattleModel", "units", "I", false)
  | 18 => ("SeedBattleModel", "done", "I", false)
  | _ => ("SeedBattleModel", "isSaved", "Z", false)
def tyX7 : Nat → FieldType := fun k => match k with
  | 0 => .array .int
  | 1 => .array .int
  | 2 => .array .int
  | 3 => .array .int
  | 4 => .array .int
  | 5 => .array .int
  | 6 => .array .char
  | 7 => .array .boolean
  | 8 => .array .int
  | 9 => .array .int
  | 10 => .array .int
  | 11 => .array .int
  | 12 => .array .boolean
  | 13 => .array .boolean
  | 14 => .array .boolean
  | 15 => .int
  | 16 => .int
  | 17 => .int
  | 18 => .int
  | _ => .boolean
abbrev wsX70 : List Cond := u_ws RX7 TX7 20
theorem nmX7 : ∀ a, a < 20 → ∀ b, b < 20 → a ≠ b → (TX7 a).2.1 ≠ (TX7 b).2.1 := by decide +kernel
theorem tyX7_ok : ∀ k, k < 20 → parseFieldDescriptor (TX7 k).2.2.1 = some (tyX7 k) := by decide +kernel
abbrev cX7_init : ByteArray := prog_9_method_1_code
def yX7_init : MethodName := ⟨RX7, "<init>", "()V"⟩
abbrev cX7_thrown : ByteArray := prog_9_method_2_code
def yX7_thrown : MethodName := ⟨RX7, "thrown", "()I"⟩
abbrev cX7_no : ByteArray := prog_9_method_3_code
def yX7_no : MethodName := ⟨RX7, "no", "(ZI)Z"⟩
abbrev cX7_noPlayer : ByteArray := prog_9_method_4_code
def yX7_noPlayer : MethodName := ⟨RX7, "noPlayer", "(I)Z"⟩
abbrev cX7_noUnit : ByteArray := prog_9_method_5_code
def yX7_noUnit : MethodName := ⟨RX7, "noUnit", "(I)Z"⟩
abbrev cX7_isCell : ByteArray := prog_9_method_6_code
def yX7_isCell : MethodName := ⟨RX7, "isCell", "(I)Z"⟩
abbrev cX7_setSeed : ByteArray := prog_9_method_7_code
def yX7_setSeed : MethodName := ⟨RX7, "setSeed", "(I)I"⟩
abbrev cX7_groundOf : ByteArray := prog_9_method_8_code
def yX7_groundOf : MethodName := ⟨RX7, "groundOf", "(I)C"⟩
abbrev cX7_ground : ByteArray := prog_9_method_9_code
def yX7_ground : MethodName := ⟨RX7, "ground", "(I)C"⟩
abbrev cX7_steps : ByteArray := prog_9_method_10_code
def yX7_steps : MethodName := ⟨RX7, "steps", "(I)I"⟩
abbrev cX7_power : ByteArray := prog_9_method_11_code
def yX7_power : MethodName := ⟨RX7, "power", "(I)I"⟩
abbrev cX7_on : ByteArray := prog_9_method_12_code
def yX7_on : MethodName := ⟨RX7, "on", "(I)I"⟩
abbrev cX7_addUnit : ByteArray := prog_9_method_13_code
def yX7_addUnit : MethodName := ⟨RX7, "addUnit", "(ICI)I"⟩
abbrev cX7_order : ByteArray := prog_9_method_14_code
def yX7_order : MethodName := ⟨RX7, "order", "(II)I"⟩
abbrev cX7_moved : ByteArray := prog_9_method_15_code
def yX7_moved : MethodName := ⟨RX7, "moved", "(II)I"⟩
abbrev cX7_lose : ByteArray := prog_9_method_16_code
def yX7_lose : MethodName := ⟨RX7, "lose", "(I)V"⟩
abbrev cX7_step : ByteArray := prog_9_method_17_code
def yX7_step : MethodName := ⟨RX7, "step", "(I)V"⟩
abbrev cX7_meets : ByteArray := prog_9_method_18_code
def yX7_meets : MethodName := ⟨RX7, "meets", "(II)V"⟩
abbrev cX7_contested : ByteArray := prog_9_method_19_code
def yX7_contested : MethodName := ⟨RX7, "contested", "()I"⟩
abbrev cX7_powerAt : ByteArray := prog_9_method_20_code
def yX7_powerAt : MethodName := ⟨RX7, "powerAt", "(II)I"⟩
abbrev cX7_strongest : ByteArray := prog_9_method_21_code
def yX7_strongest : MethodName := ⟨RX7, "strongest", "(I)I"⟩
abbrev cX7_solves : ByteArray := prog_9_method_22_code
def yX7_solves : MethodName := ⟨RX7, "solves", "(I)V"⟩
abbrev cX7_turn : ByteArray := prog_9_method_23_code
def yX7_turn : MethodName := ⟨RX7, "turn", "()I"⟩
abbrev cX7_living : ByteArray := prog_9_method_24_code
def yX7_living : MethodName := ⟨RX7, "living", "()I"⟩
abbrev cX7_done : ByteArray := prog_9_method_25_code
def yX7_done : MethodName := ⟨RX7, "done", "()I"⟩
abbrev cX7_cellOf : ByteArray := prog_9_method_26_code
def yX7_cellOf : MethodName := ⟨RX7, "cellOf", "(I)I"⟩
abbrev cX7_unitOn : ByteArray := prog_9_method_27_code
def yX7_unitOn : MethodName := ⟨RX7, "unitOn", "(I)I"⟩
abbrev cX7_part : ByteArray := prog_9_method_28_code
def yX7_part : MethodName := ⟨RX7, "part", "(III)I"⟩
abbrev cX7_looksAt : ByteArray := prog_9_method_29_code
def yX7_looksAt : MethodName := ⟨RX7, "looksAt", "(II)Z"⟩
abbrev cX7_sees : ByteArray := prog_9_method_30_code
def yX7_sees : MethodName := ⟨RX7, "sees", "(II)Z"⟩
abbrev cX7_watches : ByteArray := prog_9_method_31_code
def yX7_watches : MethodName := ⟨RX7, "watches", "(II)Z"⟩
abbrev cX7_seen : ByteArray := prog_9_method_32_code
def yX7_seen : MethodName := ⟨RX7, "seen", "(I)I"⟩
abbrev cX7_turnOf : ByteArray := prog_9_method_33_code
def yX7_turnOf : MethodName := ⟨RX7, "turnOf", "(I)I"⟩
abbrev cX7_cellIn : ByteArray := prog_9_method_34_code
def yX7_cellIn : MethodName := ⟨RX7, "cellIn", "(I)I"⟩
abbrev cX7_unitIn : ByteArray := prog_9_method_35_code
def yX7_unitIn : MethodName := ⟨RX7, "unitIn", "(I)I"⟩
abbrev cX7_adds : ByteArray := prog_9_method_36_code
def yX7_adds : MethodName := ⟨RX7, "adds", "(II)V"⟩
abbrev cX7_isBehind : ByteArray := prog_9_method_37_code
def yX7_isBehind : MethodName := ⟨RX7, "isBehind", "(II)Z"⟩
abbrev cX7_sights : ByteArray := prog_9_method_38_code
def yX7_sights : MethodName := ⟨RX7, "sights", "()V"⟩
abbrev cX7_isSighted : ByteArray := prog_9_method_39_code
def yX7_isSighted : MethodName := ⟨RX7, "isSighted", "(II)Z"⟩
abbrev cX7_numberOf : ByteArray := prog_9_method_40_code
def yX7_numberOf : MethodName := ⟨RX7, "numberOf", "(I)I"⟩
abbrev cX7_setTreaty : ByteArray := prog_9_method_41_code
def yX7_setTreaty : MethodName := ⟨RX7, "setTreaty", "(IIZ)Z"⟩
abbrev cX7_sightings : ByteArray := prog_9_method_42_code
def yX7_sightings : MethodName := ⟨RX7, "sightings", "(I)I"⟩
abbrev cX7_sighting : ByteArray := prog_9_method_43_code
def yX7_sighting : MethodName := ⟨RX7, "sighting", "(IIC)I"⟩
abbrev cX7_age : ByteArray := prog_9_method_44_code
def yX7_age : MethodName := ⟨RX7, "age", "(II)I"⟩
abbrev cX7_lastSeen : ByteArray := prog_9_method_45_code
def yX7_lastSeen : MethodName := ⟨RX7, "lastSeen", "(II)I"⟩
abbrev cX7_save : ByteArray := prog_9_method_46_code
def yX7_save : MethodName := ⟨RX7, "save", "()I"⟩
abbrev cX7_blocksOf : ByteArray := prog_9_method_47_code
def yX7_blocksOf : MethodName := ⟨RX7, "blocksOf", "(I)I"⟩
abbrev cX7_noSave : ByteArray := prog_9_method_48_code
def yX7_noSave : MethodName := ⟨RX7, "noSave", "(I)Z"⟩
abbrev cX7_blocks : ByteArray := prog_9_method_49_code
def yX7_blocks : MethodName := ⟨RX7, "blocks", "(I)I"⟩
abbrev cX7_breakBlock : ByteArray := prog_9_method_50_code
def yX7_breakBlock : MethodName := ⟨RX7, "breakBlock", "(II)Z"⟩
abbrev cX7_savedAt : ByteArray := prog_9_method_51_code
def yX7_savedAt : MethodName := ⟨RX7, "savedAt", "(II)I"⟩
abbrev cX7_canRebuild : ByteArray := prog_9_method_52_code
def yX7_canRebuild : MethodName := ⟨RX7, "canRebuild", "(II)Z"⟩
abbrev cX7_repair : ByteArray := prog_9_method_53_code
def yX7_repair : MethodName := ⟨RX7, "repair", "(I)I"⟩
abbrev cX7_load : ByteArray := prog_9_method_54_code
def yX7_load : MethodName := ⟨RX7, "load", "(I)I"⟩
abbrev cX7_allies : ByteArray := prog_9_method_55_code
def yX7_allies : MethodName := ⟨RX7, "allies", "(I)I"⟩
abbrev cX7_checksum : ByteArray := prog_9_method_56_code
def yX7_checksum : MethodName := ⟨RX7, "checksum", "()J"⟩
abbrev cX7_livingShare : ByteArray := prog_9_method_57_code
def yX7_livingShare : MethodName := ⟨RX7, "livingShare", "()F"⟩
abbrev cX7_meanAge : ByteArray := prog_9_method_58_code
def yX7_meanAge : MethodName := ⟨RX7, "meanAge", "()D"⟩
abbrev cX7_isSound : ByteArray := prog_9_method_59_code
def yX7_isSound : MethodName := ⟨RX7, "isSound", "()Z"⟩
def RJx145de : String := "java/io/Serializable"
def TJx145de : u_T := fun k => match k with
  | _ => ("", "", "", false)
def tyJx145de : Nat → FieldType := fun k => match k with
  | _ => .int
abbrev wsJx145de0 : List Cond := u_ws RJx145de TJx145de 0
theorem nmJx145de : ∀ a, a < 0 → ∀ b, b < 0 → a ≠ b → (TJx145de a).2.1 ≠ (TJx145de b).2.1 := by decide +kernel
theorem tyJx145de_ok : ∀ k, k < 0 → parseFieldDescriptor (TJx145de k).2.2.1 = some (tyJx145de k) := by decide +kernel
def RJx00060 : String := "java/lang/ArrayIndexOutOfBoundsException"
def TJx00060 : u_T := fun k => match k with
  | 0 => ("java/lang/Throwable", "backtrace", "Ljava/lang/Object;", false)
  | 1 => ("java/lang/Throwable", "detailMessage", "Ljava/lang/String;", false)
  | 2 => ("java/lang/Throwable", "cause", "Ljava/lang/Throwable;", false)
  | 3 => ("java/lang/Throwable", "stackTrace", "[Ljava/lang/StackTraceElement;", false)
  | 4 => ("java/lang/Throwable", "depth", "I", false)
  | _ => ("java/lang/Throwable", "suppressedExceptions", "Ljava/util/List;", false)
def tyJx00060 : Nat → FieldType := fun k => match k with
  | 0 => .object "java/lang/Object"
  | 1 => .object "java/lang/String"
  | 2 => .object "java/lang/Throwable"
  | 3 => .array (.object "java/lang/StackTraceElement")
  | 4 => .int
  | _ => .object "java/util/List"
abbrev wsJx000600 : List Cond := u_ws RJx00060 TJx00060 6
theorem nmJx00060 : ∀ a, a < 6 → ∀ b, b < 6 → a ≠ b → (TJx00060 a).2.1 ≠ (TJx00060 b).2.1 := by decide +kernel
theorem tyJx00060_ok : ∀ k, k < 6 → parseFieldDescriptor (TJx00060 k).2.2.1 = some (tyJx00060 k) := by decide +kernel
abbrev cJx00060_init_a7421 : ByteArray := prog_12_method_2_code
def yJx00060_init_a7421 : MethodName := ⟨RJx00060, "<init>", "(Ljava/lang/String;)V"⟩
def RJx9f9b0 : String := "java/lang/CharSequence"
def TJx9f9b0 : u_T := fun k => match k with
  | _ => ("", "", "", false)
def tyJx9f9b0 : Nat → FieldType := fun k => match k with
  | _ => .int
abbrev wsJx9f9b00 : List Cond := u_ws RJx9f9b0 TJx9f9b0 0
theorem nmJx9f9b0 : ∀ a, a < 0 → ∀ b, b < 0 → a ≠ b → (TJx9f9b0 a).2.1 ≠ (TJx9f9b0 b).2.1 := by decide +kernel
theorem tyJx9f9b0_ok : ∀ k, k < 0 → parseFieldDescriptor (TJx9f9b0 k).2.2.1 = some (tyJx9f9b0 k) := by decide +kernel
def RJ11 : String := "java/lang/Character"
def TJ11 : u_T := fun k => match k with
  | _ => ("", "", "", false)
def tyJ11 : Nat → FieldType := fun k => match k with
  | _ => .int
abbrev wsJ110 : List Cond := u_ws RJ11 TJ11 0
theorem nmJ11 : ∀ a, a < 0 → ∀ b, b < 0 → a ≠ b → (TJ11 a).2.1 ≠ (TJ11 b).2.1 := by decide +kernel
theorem tyJ11_ok : ∀ k, k < 0 → parseFieldDescriptor (TJ11 k).2.2.1 = some (tyJ11 k) := by decide +kernel
abbrev cJ11_isValidCodePoint_9a6ad : ByteArray := prog_14_method_11_code
def yJ11_isValidCodePoint_9a6ad : MethodName := ⟨RJ11, "isValidCodePoint", "(I)Z"⟩
abbrev cJ11_highSurrogate_5068e : ByteArray := prog_14_method_28_code
def yJ11_highSurrogate_5068e : MethodName := ⟨RJ11, "highSurrogate", "(I)C"⟩
abbrev cJ11_lowSurrogate_5068e : ByteArray := prog_14_method_29_code
def yJ11_lowSurrogate_5068e : MethodName := ⟨RJ11, "lowSurrogate", "(I)C"⟩
def RJxb160c : String := "java/lang/Comparable"
def TJxb160c : u_T := fun k => match k with
  | _ => ("", "", "", false)
def tyJxb160c : Nat → FieldType := fun k => match k with
  | _ => .int
abbrev wsJxb160c0 : List Cond := u_ws RJxb160c TJxb160c 0
theorem nmJxb160c : ∀ a, a < 0 → ∀ b, b < 0 → a ≠ b → (TJxb160c a).2.1 ≠ (TJxb160c b).2.1 := by decide +kernel
theorem tyJxb160c_ok : ∀ k, k < 0 → parseFieldDescriptor (TJxb160c k).2.2.1 = some (tyJxb160c k) := by decide +kernel
def RJ6 : String := "java/lang/Integer"
def TJ6 : u_T := fun k => match k with
  | _ => ("", "", "", false)
def tyJ6 : Nat → FieldType := fun k => match k with
  | _ => .int
abbrev wsJ60 : List Cond := u_ws RJ6 TJ6 0
theorem nmJ6 : ∀ a, a < 0 → ∀ b, b < 0 → a ≠ b → (TJ6 a).2.1 ≠ (TJ6 b).2.1 := by decide +kernel
theorem tyJ6_ok : ∀ k, k < 0 → parseFieldDescriptor (TJ6 k).2.2.1 = some (tyJ6 k) := by decide +kernel
abbrev cJ6_bitCount_0f7a4 : ByteArray := prog_20_method_49_code
def yJ6_bitCount_0f7a4 : MethodName := ⟨RJ6, "bitCount", "(I)I"⟩
def RJ9 : String := "java/lang/Math"
def TJ9 : u_T := fun k => match k with
  | _ => ("", "", "", false)
def tyJ9 : Nat → FieldType := fun k => match k with
  | _ => .int
abbrev wsJ90 : List Cond := u_ws RJ9 TJ9 0
theorem nmJ9 : ∀ a, a < 0 → ∀ b, b < 0 → a ≠ b → (TJ9 a).2.1 ≠ (TJ9 b).2.1 := by decide +kernel
theorem tyJ9_ok : ∀ k, k < 0 → parseFieldDescriptor (TJ9 k).2.2.1 = some (tyJ9 k) := by decide +kernel
abbrev cJ9_abs_0f7a4 : ByteArray := prog_21_method_59_code
def yJ9_abs_0f7a4 : MethodName := ⟨RJ9, "abs", "(I)I"⟩
abbrev cJ9_max_7cf53 : ByteArray := prog_21_method_65_code
def yJ9_max_7cf53 : MethodName := ⟨RJ9, "max", "(II)I"⟩
abbrev cJ9_min_7cf53 : ByteArray := prog_21_method_69_code
def yJ9_min_7cf53 : MethodName := ⟨RJ9, "min", "(II)I"⟩
def RJ0 : String := "java/lang/String"
def TJ0 : u_T := fun k => match k with
  | 0 => ("java/lang/String", "value", "[B", true)
  | _ => ("java/lang/String", "coder", "B", true)
def tyJ0 : Nat → FieldType := fun k => match k with
  | 0 => .array .byte
  | _ => .byte
abbrev wsJ00 : List Cond := u_ws RJ0 TJ0 2
theorem nmJ0 : ∀ a, a < 2 → ∀ b, b < 2 → a ≠ b → (TJ0 a).2.1 ≠ (TJ0 b).2.1 := by decide +kernel
theorem tyJ0_ok : ∀ k, k < 2 → parseFieldDescriptor (TJ0 k).2.2.1 = some (tyJ0 k) := by decide +kernel
abbrev cJ0_length_8abf5 : ByteArray := prog_23_method_54_code
def yJ0_length_8abf5 : MethodName := ⟨RJ0, "length", "()I"⟩
abbrev cJ0_charAt_5068e : ByteArray := prog_23_method_56_code
def yJ0_charAt_5068e : MethodName := ⟨RJ0, "charAt", "(I)C"⟩
abbrev cJ0_indexOf_0f7a4 : ByteArray := prog_23_method_79_code
def yJ0_indexOf_0f7a4 : MethodName := ⟨RJ0, "indexOf", "(I)I"⟩
abbrev cJ0_indexOf_7cf53 : ByteArray := prog_23_method_80_code
def yJ0_indexOf_7cf53 : MethodName := ⟨RJ0, "indexOf", "(II)I"⟩
abbrev cJ0_coder_7d493 : ByteArray := prog_23_method_152_code
def yJ0_coder_7d493 : MethodName := ⟨RJ0, "coder", "()B"⟩
abbrev cJ0_isLatin1_aae02 : ByteArray := prog_23_method_154_code
def yJ0_isLatin1_aae02 : MethodName := ⟨RJ0, "isLatin1", "()Z"⟩
abbrev cJ0_checkIndex_df160 : ByteArray := prog_23_method_155_code
def yJ0_checkIndex_df160 : MethodName := ⟨RJ0, "checkIndex", "(II)V"⟩
abbrev cJ0_checkBoundsBeginEnd_23922 : ByteArray := prog_23_method_158_code
def yJ0_checkBoundsBeginEnd_23922 : MethodName := ⟨RJ0, "checkBoundsBeginEnd", "(III)V"⟩
def RJ1 : String := "java/lang/StringLatin1"
def TJ1 : u_T := fun k => match k with
  | _ => ("", "", "", false)
def tyJ1 : Nat → FieldType := fun k => match k with
  | _ => .int
abbrev wsJ10 : List Cond := u_ws RJ1 TJ1 0
theorem nmJ1 : ∀ a, a < 0 → ∀ b, b < 0 → a ≠ b → (TJ1 a).2.1 ≠ (TJ1 b).2.1 := by decide +kernel
theorem tyJ1_ok : ∀ k, k < 0 → parseFieldDescriptor (TJ1 k).2.2.1 = some (tyJ1 k) := by decide +kernel
abbrev cJ1_charAt_3b067 : ByteArray := prog_24_method_2_code
def yJ1_charAt_3b067 : MethodName := ⟨RJ1, "charAt", "([BI)C"⟩
abbrev cJ1_canEncode_9a6ad : ByteArray := prog_24_method_4_code
def yJ1_canEncode_9a6ad : MethodName := ⟨RJ1, "canEncode", "(I)Z"⟩
abbrev cJ1_indexOf_4cfef : ByteArray := prog_24_method_22_code
def yJ1_indexOf_4cfef : MethodName := ⟨RJ1, "indexOf", "([BIII)I"⟩
abbrev cJ1_indexOfChar_4cfef : ByteArray := prog_24_method_23_code
def yJ1_indexOfChar_4cfef : MethodName := ⟨RJ1, "indexOfChar", "([BIII)I"⟩
def RJ2 : String := "java/lang/StringUTF16"
def TJ2 : u_T := fun k => match k with
  | _ => ("", "", "", false)
def tyJ2 : Nat → FieldType := fun k => match k with
  | _ => .int
abbrev wsJ20 : List Cond := u_ws RJ2 TJ2 0
theorem nmJ2 : ∀ a, a < 0 → ∀ b, b < 0 → a ≠ b → (TJ2 a).2.1 ≠ (TJ2 b).2.1 := by decide +kernel
theorem tyJ2_ok : ∀ k, k < 0 → parseFieldDescriptor (TJ2 k).2.2.1 = some (tyJ2 k) := by decide +kernel
abbrev cJ2_getChar_3b067 : ByteArray := prog_25_method_5_code
def yJ2_getChar_3b067 : MethodName := ⟨RJ2, "getChar", "([BI)C"⟩
abbrev cJ2_length_9d52b : ByteArray := prog_25_method_6_code
def yJ2_length_9d52b : MethodName := ⟨RJ2, "length", "([B)I"⟩
abbrev cJ2_indexOf_4cfef : ByteArray := prog_25_method_40_code
def yJ2_indexOf_4cfef : MethodName := ⟨RJ2, "indexOf", "([BIII)I"⟩
abbrev cJ2_indexOfChar_4cfef : ByteArray := prog_25_method_47_code
def yJ2_indexOfChar_4cfef : MethodName := ⟨RJ2, "indexOfChar", "([BIII)I"⟩
abbrev cJ2_indexOfCharUnsafe_4cfef : ByteArray := prog_25_method_48_code
def yJ2_indexOfCharUnsafe_4cfef : MethodName := ⟨RJ2, "indexOfCharUnsafe", "([BIII)I"⟩
abbrev cJ2_indexOfSupplementary_4cfef : ByteArray := prog_25_method_49_code
def yJ2_indexOfSupplementary_4cfef : MethodName := ⟨RJ2, "indexOfSupplementary", "([BIII)I"⟩
abbrev cJ2_charAt_3b067 : ByteArray := prog_25_method_83_code
def yJ2_charAt_3b067 : MethodName := ⟨RJ2, "charAt", "([BI)C"⟩
abbrev cJ2_checkIndex_2214a : ByteArray := prog_25_method_91_code
def yJ2_checkIndex_2214a : MethodName := ⟨RJ2, "checkIndex", "(I[B)V"⟩
abbrev cJ2_checkBoundsBeginEnd_d044e : ByteArray := prog_25_method_93_code
def yJ2_checkBoundsBeginEnd_d044e : MethodName := ⟨RJ2, "checkBoundsBeginEnd", "(II[B)V"⟩
def RJxfd54e : String := "java/lang/constant/Constable"
def TJxfd54e : u_T := fun k => match k with
  | _ => ("", "", "", false)
def tyJxfd54e : Nat → FieldType := fun k => match k with
  | _ => .int
abbrev wsJxfd54e0 : List Cond := u_ws RJxfd54e TJxfd54e 0
theorem nmJxfd54e : ∀ a, a < 0 → ∀ b, b < 0 → a ≠ b → (TJxfd54e a).2.1 ≠ (TJxfd54e b).2.1 := by decide +kernel
theorem tyJxfd54e_ok : ∀ k, k < 0 → parseFieldDescriptor (TJxfd54e k).2.2.1 = some (tyJxfd54e k) := by decide +kernel
def RJx3cf43 : String := "java/lang/constant/ConstantDesc"
def TJx3cf43 : u_T := fun k => match k with
  | _ => ("", "", "", false)
def tyJx3cf43 : Nat → FieldType := fun k => match k with
  | _ => .int
abbrev wsJx3cf430 : List Cond := u_ws RJx3cf43 TJx3cf43 0
theorem nmJx3cf43 : ∀ a, a < 0 → ∀ b, b < 0 → a ≠ b → (TJx3cf43 a).2.1 ≠ (TJx3cf43 b).2.1 := by decide +kernel
theorem tyJx3cf43_ok : ∀ k, k < 0 → parseFieldDescriptor (TJx3cf43 k).2.2.1 = some (tyJx3cf43 k) := by decide +kernel
def RJ7 : String := "java/util/Arrays"
def TJ7 : u_T := fun k => match k with
  | _ => ("", "", "", false)
def tyJ7 : Nat → FieldType := fun k => match k with
  | _ => .int
abbrev wsJ70 : List Cond := u_ws RJ7 TJ7 0
theorem nmJ7 : ∀ a, a < 0 → ∀ b, b < 0 → a ≠ b → (TJ7 a).2.1 ≠ (TJ7 b).2.1 := by decide +kernel
theorem tyJ7_ok : ∀ k, k < 0 → parseFieldDescriptor (TJ7 k).2.2.1 = some (tyJ7 k) := by decide +kernel
abbrev cJ7_fill_53178 : ByteArray := prog_30_method_103_code
def yJ7_fill_53178 : MethodName := ⟨RJ7, "fill", "([II)V"⟩
def RJ3 : String := "jdk/internal/util/Preconditions"
def TJ3 : u_T := fun k => match k with
  | _ => ("", "", "", false)
def tyJ3 : Nat → FieldType := fun k => match k with
  | _ => .int
abbrev wsJ30 : List Cond := u_ws RJ3 TJ3 0
theorem nmJ3 : ∀ a, a < 0 → ∀ b, b < 0 → a ≠ b → (TJ3 a).2.1 ≠ (TJ3 b).2.1 := by decide +kernel
theorem tyJ3_ok : ∀ k, k < 0 → parseFieldDescriptor (TJ3 k).2.2.1 = some (tyJ3 k) := by decide +kernel
abbrev cJ3_checkIndex_8e157 : ByteArray := prog_32_method_11_code
def yJ3_checkIndex_8e157 : MethodName := ⟨RJ3, "checkIndex", "(IILjava/util/function/BiFunction;)I"⟩
abbrev cJ3_checkFromToIndex_8c36e : ByteArray := prog_32_method_12_code
def yJ3_checkFromToIndex_8c36e : MethodName := ⟨RJ3, "checkFromToIndex", "(IIILjava/util/function/BiFunction;)I"⟩
def RL : String := "SeedBattleLaw"
abbrev cL_setSeed : ByteArray := method_3_code
def yL_setSeed : MethodName := ⟨RL, "setSeed", "(LSeedBattle;I[J)I"⟩
abbrev cL_ground : ByteArray := method_4_code
def yL_ground : MethodName := ⟨RL, "ground", "(LSeedBattle;I[J)I"⟩
abbrev cL_addUnit : ByteArray := method_5_code
def yL_addUnit : MethodName := ⟨RL, "addUnit", "(LSeedBattle;ICI[J)I"⟩
abbrev cL_order : ByteArray := method_6_code
def yL_order : MethodName := ⟨RL, "order", "(LSeedBattle;II[J)I"⟩
abbrev cL_turn : ByteArray := method_7_code
def yL_turn : MethodName := ⟨RL, "turn", "(LSeedBattle;[J)I"⟩
abbrev cL_cellOf : ByteArray := method_8_code
def yL_cellOf : MethodName := ⟨RL, "cellOf", "(LSeedBattle;I[J)I"⟩
abbrev cL_unitOn : ByteArray := method_9_code
def yL_unitOn : MethodName := ⟨RL, "unitOn", "(LSeedBattle;I[J)I"⟩
abbrev cL_sees : ByteArray := method_10_code
def yL_sees : MethodName := ⟨RL, "sees", "(LSeedBattle;II[J)I"⟩
abbrev cL_seen : ByteArray := method_11_code
def yL_seen : MethodName := ⟨RL, "seen", "(LSeedBattle;I[J)I"⟩
abbrev cL_setTreaty : ByteArray := method_12_code
def yL_setTreaty : MethodName := ⟨RL, "setTreaty", "(LSeedBattle;IIZ[J)I"⟩
abbrev cL_sightings : ByteArray := method_13_code
def yL_sightings : MethodName := ⟨RL, "sightings", "(LSeedBattle;I[J)I"⟩
abbrev cL_sighting : ByteArray := method_14_code
def yL_sighting : MethodName := ⟨RL, "sighting", "(LSeedBattle;IIC[J)I"⟩
abbrev cL_age : ByteArray := method_15_code
def yL_age : MethodName := ⟨RL, "age", "(LSeedBattle;II[J)I"⟩
abbrev cL_lastSeen : ByteArray := method_16_code
def yL_lastSeen : MethodName := ⟨RL, "lastSeen", "(LSeedBattle;II[J)I"⟩
abbrev cL_blocks : ByteArray := method_17_code
def yL_blocks : MethodName := ⟨RL, "blocks", "(LSeedBattle;I[J)I"⟩
abbrev cL_breakBlock : ByteArray := method_18_code
def yL_breakBlock : MethodName := ⟨RL, "breakBlock", "(LSeedBattle;II[J)I"⟩
abbrev cL_savedAt : ByteArray := method_19_code
def yL_savedAt : MethodName := ⟨RL, "savedAt", "(LSeedBattle;II[J)I"⟩
abbrev cL_repair : ByteArray := method_20_code
def yL_repair : MethodName := ⟨RL, "repair", "(LSeedBattle;I[J)I"⟩
abbrev cL_load : ByteArray := method_21_code
def yL_load : MethodName := ⟨RL, "load", "(LSeedBattle;I[J)I"⟩
abbrev cL_allies : ByteArray := method_22_code
def yL_allies : MethodName := ⟨RL, "allies", "(LSeedBattle;I[J)I"⟩
abbrev cL_livingShare : ByteArray := method_23_code
def yL_livingShare : MethodName := ⟨RL, "livingShare", "(LSeedBattle;[D)I"⟩
abbrev cL_meanAge : ByteArray := method_24_code
def yL_meanAge : MethodName := ⟨RL, "meanAge", "(LSeedBattle;[D)I"⟩
abbrev cL_law : ByteArray := code
def yL_law : MethodName := ⟨RL, "law", "([I)Z"⟩
def wsX0_init : List Cond := .code yX0_init cX0_init 1 none :: ([.methodLink RX0 3 objectInit, .instanceMethod objectInit, .code objectInit ⟨#[0xb1]⟩ 1 none, .arrayClass .int, .fieldLink RX0 9 "SeedBattle$Copy" "numbers" "[I", .fieldLink RX0 15 "SeedBattle$Copy" "parity" "[I", .fieldLink RX0 18 "SeedBattle$Copy" "original" "[I"] ++ wsX00)
def wsX2_at : List Cond := .code yX2_at cX2_at 2 (some .int) :: ([.fieldLink RX2 15 "SeedBattle$Index" "count" "I", .fieldLink RX2 9 "SeedBattle$Index" "numbers" "[I"] ++ wsX20 ++ (vx_atM "java/lang/ArrayIndexOutOfBoundsException" ["java/lang/IndexOutOfBoundsException", "java/lang/RuntimeException", "java/lang/Exception"]).filter goodWord)
def wsX0_take : List Cond := .code yX0_take cX0_take 4 none :: ([.methodLink RX0 27 Lib.Math.min.name, .static Lib.Math.min.name, .initialized "java/lang/Math", .code Lib.Math.min.name Lib.Math.min.code 2 (some .int), .fieldLink RX0 33 "SeedBattle$Copy" "size" "I", .fieldLink RX0 9 "SeedBattle$Copy" "numbers" "[I", .fieldLink RX0 18 "SeedBattle$Copy" "original" "[I", .fieldLink RX0 40 "SeedBattle$Copy" "brokenBits" "I", .fieldLink RX0 43 "SeedBattle$Copy" "allyBits" "I", .fieldLink RX0 46 "SeedBattle$Copy" "allyGone" "Z", .methodLink RX0 36 yX2_at, .instanceMethod yX2_at, .selects RX2 yX2_at yX2_at, .initialized RX2, .code yX2_at cX2_at 2 (some .int), .fieldLink RX2 15 "SeedBattle$Index" "count" "I", .fieldLink RX2 9 "SeedBattle$Index" "numbers" "[I"] ++ wsX20 ++ wsX00 ++ (vx_atM "java/lang/ArrayIndexOutOfBoundsException" ["java/lang/IndexOutOfBoundsException", "java/lang/RuntimeException", "java/lang/Exception"]).filter goodWord)
def wsX0_numberAt : List Cond := .code yX0_numberAt cX0_numberAt 2 (some .int) :: ([.fieldLink RX0 33 "SeedBattle$Copy" "size" "I", .fieldLink RX0 9 "SeedBattle$Copy" "numbers" "[I"] ++ wsX00 ++ (vx_atM "java/lang/ArrayIndexOutOfBoundsException" ["java/lang/IndexOutOfBoundsException", "java/lang/RuntimeException", "java/lang/Exception"]).filter goodWord)
def wsX0_isAlly : List Cond := .code yX0_isAlly cX0_isAlly 2 (some .boolean) :: ([.fieldLink RX0 43 "SeedBattle$Copy" "allyBits" "I"] ++ wsX00)
def wsX0_alliesAt : List Cond := .code yX0_alliesAt cX0_alliesAt 5 (some .int) :: ([.methodLink RX0 80 yX0_isAlly, .instanceMethod yX0_isAlly, .selects RX0 yX0_isAlly yX0_isAlly, .initialized RX0, .code yX0_isAlly cX0_isAlly 2 (some .boolean), .fieldLink RX0 43 "SeedBattle$Copy" "allyBits" "I", .methodLink RX0 50 yX0_numberAt, .instanceMethod yX0_numberAt, .selects RX0 yX0_numberAt yX0_numberAt, .code yX0_numberAt cX0_numberAt 2 (some .int), .fieldLink RX0 33 "SeedBattle$Copy" "size" "I", .fieldLink RX0 9 "SeedBattle$Copy" "numbers" "[I"] ++ wsX00 ++ (vx_atM "java/lang/ArrayIndexOutOfBoundsException" ["java/lang/IndexOutOfBoundsException", "java/lang/RuntimeException", "java/lang/Exception"]).filter goodWord)
def wsX0_keepParity : List Cond := .code yX0_keepParity cX0_keepParity 3 none :: ([.fieldLink RX0 15 "SeedBattle$Copy" "parity" "[I", .methodLink RX0 50 yX0_numberAt, .instanceMethod yX0_numberAt, .selects RX0 yX0_numberAt yX0_numberAt, .initialized RX0, .code yX0_numberAt cX0_numberAt 2 (some .int), .fieldLink RX0 33 "SeedBattle$Copy" "size" "I", .fieldLink RX0 9 "SeedBattle$Copy" "numbers" "[I", .methodLink RX0 53 yX0_alliesAt, .instanceMethod yX0_alliesAt, .selects RX0 yX0_alliesAt yX0_alliesAt, .code yX0_alliesAt cX0_alliesAt 5 (some .int), .methodLink RX0 80 yX0_isAlly, .instanceMethod yX0_isAlly, .selects RX0 yX0_isAlly yX0_isAlly, .code yX0_isAlly cX0_isAlly 2 (some .boolean), .fieldLink RX0 43 "SeedBattle$Copy" "allyBits" "I"] ++ wsX00 ++ (vx_atM "java/lang/ArrayIndexOutOfBoundsException" ["java/lang/IndexOutOfBoundsException", "java/lang/RuntimeException", "java/lang/Exception"]).filter goodWord)
def wsX2_clear : List Cond := .code yX2_clear cX2_clear 1 none :: ([.fieldLink RX2 15 "SeedBattle$Index" "count" "I"] ++ wsX20)
def wsX6_turnOf : List Cond := .code yX6_turnOf cX6_turnOf 1 (some .int) :: ([.constant RX6 297 (100000)])
def wsX6_placeOf : List Cond := .code yX6_placeOf cX6_placeOf 1 (some .int) :: ([.constant RX6 297 (100000)])
def wsX6_unitOf : List Cond := .code yX6_unitOf cX6_unitOf 1 (some .int) :: ([])
def wsX2_isBehind : List Cond := .code yX2_isBehind cX2_isBehind 3 (some .boolean) :: ([.static yX6_turnOf, .initialized RX6, .code yX6_turnOf cX6_turnOf 1 (some .int), .constant RX6 297 (100000), .static yX6_unitOf, .code yX6_unitOf cX6_unitOf 1 (some .int)])
def wsX6_numberFor : List Cond := .code yX6_numberFor cX6_numberFor 3 (some .int) :: ([.constant RX6 297 (100000)])
def wsX2_dropFirst : List Cond := .code yX2_dropFirst cX2_dropFirst 2 none :: ([.fieldLink RX2 15 "SeedBattle$Index" "count" "I", .fieldLink RX2 9 "SeedBattle$Index" "numbers" "[I"] ++ wsX20 ++ (vx_atM "java/lang/ArrayIndexOutOfBoundsException" ["java/lang/IndexOutOfBoundsException", "java/lang/RuntimeException", "java/lang/Exception"]).filter goodWord)
def wsX2_add : List Cond := .code yX2_add cX2_add 5 none :: ([.fieldLink RX2 15 "SeedBattle$Index" "count" "I", .fieldLink RX2 9 "SeedBattle$Index" "numbers" "[I", .methodLink RX2 19 yX2_isBehind, .static yX2_isBehind, .initialized RX2, .code yX2_isBehind cX2_isBehind 3 (some .boolean), .static yX6_turnOf, .initialized RX6, .code yX6_turnOf cX6_turnOf 1 (some .int), .constant RX6 297 (100000), .static yX6_unitOf, .code yX6_unitOf cX6_unitOf 1 (some .int), .static yX6_numberFor, .code yX6_numberFor cX6_numberFor 3 (some .int), .methodLink RX2 27 yX2_dropFirst, .instanceMethod yX2_dropFirst, .selects RX2 yX2_dropFirst yX2_dropFirst, .code yX2_dropFirst cX2_dropFirst 2 none] ++ wsX20 ++ (vx_atM "java/lang/ArrayIndexOutOfBoundsException" ["java/lang/IndexOutOfBoundsException", "java/lang/RuntimeException", "java/lang/Exception"]).filter goodWord)
def wsX0_writeTo_r1 : List Cond := [Cond.fieldLink RX0 33 "SeedBattle$Copy" "size" "I", Cond.fieldLink RX0 9 "SeedBattle$Copy" "numbers" "[I", Cond.methodLink RX0 57 yX2_clear, Cond.instanceMethod yX2_clear, Cond.selects RX2 yX2_clear yX2_clear, Cond.initialized RX2, Cond.code yX2_clear cX2_clear 1 none, Cond.fieldLink RX2 15 "SeedBattle$Index" "count" "I", Cond.static yX6_turnOf, Cond.initialized RX6, Cond.code yX6_turnOf cX6_turnOf 1 (some .int), Cond.constant RX6 297 (100000), Cond.static yX6_placeOf, Cond.code yX6_placeOf cX6_placeOf 1 (some .int), Cond.static yX6_unitOf, Cond.code yX6_unitOf cX6_unitOf 1 (some .int), Cond.methodLink RX0 69 yX2_add, Cond.instanceMethod yX2_add, Cond.selects RX2 yX2_add yX2_add, Cond.code yX2_add cX2_add 5 none, Cond.fieldLink RX2 9 "SeedBattle$Index" "numbers" "[I", Cond.methodLink RX2 19 yX2_isBehind, Cond.static yX2_isBehind, Cond.code yX2_isBehind cX2_isBehind 3 (some .boolean)]
def wsX0_writeTo_r2 : List Cond := [Cond.static yX6_numberFor, Cond.code yX6_numberFor cX6_numberFor 3 (some .int), Cond.methodLink RX2 27 yX2_dropFirst, Cond.instanceMethod yX2_dropFirst, Cond.selects RX2 yX2_dropFirst yX2_dropFirst, Cond.code yX2_dropFirst cX2_dropFirst 2 none]
def wsX0_writeTo : List Cond := .code yX0_writeTo cX0_writeTo 3 none :: ((wsX0_writeTo_r1 ++ wsX0_writeTo_r2) ++ wsX00 ++ wsX20 ++ (vx_atM "java/lang/ArrayIndexOutOfBoundsException" ["java/lang/IndexOutOfBoundsException", "java/lang/RuntimeException", "java/lang/Exception"]).filter goodWord)
def wsX0_blockCount : List Cond := .code yX0_blockCount cX0_blockCount 1 (some .int) :: ([.fieldLink RX0 33 "SeedBattle$Copy" "size" "I"] ++ wsX00)
def wsX0_isBroken : List Cond := .code yX0_isBroken cX0_isBroken 2 (some .boolean) :: ([.fieldLink RX0 40 "SeedBattle$Copy" "brokenBits" "I", .methodLink RX0 73 yX0_blockCount, .instanceMethod yX0_blockCount, .selects RX0 yX0_blockCount yX0_blockCount, .initialized RX0, .code yX0_blockCount cX0_blockCount 1 (some .int), .fieldLink RX0 33 "SeedBattle$Copy" "size" "I"] ++ wsX00)
def wsX0_anyBroken : List Cond := .code yX0_anyBroken cX0_anyBroken 1 (some .boolean) :: ([.fieldLink RX0 40 "SeedBattle$Copy" "brokenBits" "I"] ++ wsX00)
def wsX0_blockEnd : List Cond := .code yX0_blockEnd cX0_blockEnd 2 (some .int) :: ([.fieldLink RX0 33 "SeedBattle$Copy" "size" "I", .methodLink RX0 27 Lib.Math.min.name, .static Lib.Math.min.name, .initialized "java/lang/Math", .code Lib.Math.min.name Lib.Math.min.code 2 (some .int)] ++ wsX00)
def wsX0_breakOne : List Cond := .code yX0_breakOne cX0_breakOne 3 none :: ([.fieldLink RX0 40 "SeedBattle$Copy" "brokenBits" "I", .fieldLink RX0 9 "SeedBattle$Copy" "numbers" "[I", .methodLink RX0 73 yX0_blockCount, .instanceMethod yX0_blockCount, .selects RX0 yX0_blockCount yX0_blockCount, .initialized RX0, .code yX0_blockCount cX0_blockCount 1 (some .int), .fieldLink RX0 33 "SeedBattle$Copy" "size" "I", .methodLink RX0 77 yX0_blockEnd, .instanceMethod yX0_blockEnd, .selects RX0 yX0_blockEnd yX0_blockEnd, .code yX0_blockEnd cX0_blockEnd 2 (some .int), .methodLink RX0 27 Lib.Math.min.name, .static Lib.Math.min.name, .initialized "java/lang/Math", .code Lib.Math.min.name Lib.Math.min.code 2 (some .int)] ++ wsX00 ++ (vx_atM "java/lang/ArrayIndexOutOfBoundsException" ["java/lang/IndexOutOfBoundsException", "java/lang/RuntimeException", "java/lang/Exception"]).filter goodWord)
def wsX0_endTreaty : List Cond := .code yX0_endTreaty cX0_endTreaty 2 none :: ([.fieldLink RX0 46 "SeedBattle$Copy" "allyGone" "Z", .methodLink RX0 80 yX0_isAlly, .instanceMethod yX0_isAlly, .selects RX0 yX0_isAlly yX0_isAlly, .initialized RX0, .code yX0_isAlly cX0_isAlly 2 (some .boolean), .fieldLink RX0 43 "SeedBattle$Copy" "allyBits" "I"] ++ wsX00)
def wsX0_canRebuild : List Cond := .code yX0_canRebuild cX0_canRebuild 4 (some .boolean) :: ([.fieldLink RX0 43 "SeedBattle$Copy" "allyBits" "I", .fieldLink RX0 46 "SeedBattle$Copy" "allyGone" "Z", .methodLink RX0 80 yX0_isAlly, .instanceMethod yX0_isAlly, .selects RX0 yX0_isAlly yX0_isAlly, .initialized RX0, .code yX0_isAlly cX0_isAlly 2 (some .boolean), .methodLink RX0 84 yX0_isBroken, .instanceMethod yX0_isBroken, .selects RX0 yX0_isBroken yX0_isBroken, .code yX0_isBroken cX0_isBroken 2 (some .boolean), .fieldLink RX0 40 "SeedBattle$Copy" "brokenBits" "I", .methodLink RX0 73 yX0_blockCount, .instanceMethod yX0_blockCount, .selects RX0 yX0_blockCount yX0_blockCount, .code yX0_blockCount cX0_blockCount 1 (some .int), .fieldLink RX0 33 "SeedBattle$Copy" "size" "I"] ++ wsX00)
def wsX0_rebuild_r1 : List Cond := [Cond.fieldLink RX0 9 "SeedBattle$Copy" "numbers" "[I", Cond.fieldLink RX0 15 "SeedBattle$Copy" "parity" "[I", Cond.fieldLink RX0 40 "SeedBattle$Copy" "brokenBits" "I", Cond.methodLink RX0 73 yX0_blockCount, Cond.instanceMethod yX0_blockCount, Cond.selects RX0 yX0_blockCount yX0_blockCount, Cond.initialized RX0, Cond.code yX0_blockCount cX0_blockCount 1 (some .int), Cond.fieldLink RX0 33 "SeedBattle$Copy" "size" "I", Cond.methodLink RX0 77 yX0_blockEnd, Cond.instanceMethod yX0_blockEnd, Cond.selects RX0 yX0_blockEnd yX0_blockEnd, Cond.code yX0_blockEnd cX0_blockEnd 2 (some .int), Cond.methodLink RX0 27 Lib.Math.min.name, Cond.static Lib.Math.min.name, Cond.initialized "java/lang/Math", Cond.code Lib.Math.min.name Lib.Math.min.code 2 (some .int), Cond.methodLink RX0 53 yX0_alliesAt, Cond.instanceMethod yX0_alliesAt, Cond.selects RX0 yX0_alliesAt yX0_alliesAt, Cond.code yX0_alliesAt cX0_alliesAt 5 (some .int), Cond.methodLink RX0 80 yX0_isAlly, Cond.instanceMethod yX0_isAlly, Cond.selects RX0 yX0_isAlly yX0_isAlly]
def wsX0_rebuild_r2 : List Cond := [Cond.code yX0_isAlly cX0_isAlly 2 (some .boolean), Cond.fieldLink RX0 43 "SeedBattle$Copy" "allyBits" "I", Cond.methodLink RX0 50 yX0_numberAt, Cond.instanceMethod yX0_numberAt, Cond.selects RX0 yX0_numberAt yX0_numberAt, Cond.code yX0_numberAt cX0_numberAt 2 (some .int)]
def wsX0_rebuild : List Cond := .code yX0_rebuild cX0_rebuild 4 none :: ((wsX0_rebuild_r1 ++ wsX0_rebuild_r2) ++ wsX00 ++ (vx_atM "java/lang/ArrayIndexOutOfBoundsException" ["java/lang/IndexOutOfBoundsException", "java/lang/RuntimeException", "java/lang/Exception"]).filter goodWord)
def wsX0_wasTaken : List Cond := .code yX0_wasTaken cX0_wasTaken 3 (some .boolean) :: ([.fieldLink RX0 33 "SeedBattle$Copy" "size" "I", .fieldLink RX0 18 "SeedBattle$Copy" "original" "[I"] ++ wsX00 ++ (vx_atM "java/lang/ArrayIndexOutOfBoundsException" ["java/lang/IndexOutOfBoundsException", "java/lang/RuntimeException", "java/lang/Exception"]).filter goodWord)
def wsX0_isAsTaken : List Cond := .code yX0_isAsTaken cX0_isAsTaken 2 (some .boolean) :: ([.fieldLink RX0 33 "SeedBattle$Copy" "size" "I", .fieldLink RX0 9 "SeedBattle$Copy" "numbers" "[I", .methodLink RX0 84 yX0_isBroken, .instanceMethod yX0_isBroken, .selects RX0 yX0_isBroken yX0_isBroken, .initialized RX0, .code yX0_isBroken cX0_isBroken 2 (some .boolean), .fieldLink RX0 40 "SeedBattle$Copy" "brokenBits" "I", .methodLink RX0 73 yX0_blockCount, .instanceMethod yX0_blockCount, .selects RX0 yX0_blockCount yX0_blockCount, .code yX0_blockCount cX0_blockCount 1 (some .int), .methodLink RX0 87 yX0_wasTaken, .instanceMethod yX0_wasTaken, .selects RX0 yX0_wasTaken yX0_wasTaken, .code yX0_wasTaken cX0_wasTaken 3 (some .boolean), .fieldLink RX0 18 "SeedBattle$Copy" "original" "[I"] ++ wsX00 ++ (vx_atM "java/lang/ArrayIndexOutOfBoundsException" ["java/lang/IndexOutOfBoundsException", "java/lang/RuntimeException", "java/lang/Exception"]).filter goodWord)
def wsX3_init : List Cond := .code yX3_init cX3_init 1 none :: ([.methodLink RX3 3 objectInit, .instanceMethod objectInit, .code objectInit ⟨#[0xb1]⟩ 1 none, .arrayClass .char, .fieldLink RX3 9 "SeedBattle$Land" "grounds" "[C"] ++ wsX30)
def wsX5_init : List Cond := .code yX5_init cX5_init 1 none :: ([.methodLink RX5 3 objectInit, .instanceMethod objectInit, .code objectInit ⟨#[0xb1]⟩ 1 none, .arrayClass .int, .fieldLink RX5 9 "SeedBattle$Units" "owners" "[I", .fieldLink RX5 15 "SeedBattle$Units" "kinds" "[I", .fieldLink RX5 18 "SeedBattle$Units" "starts" "[I", .fieldLink RX5 21 "SeedBattle$Units" "places" "[I"] ++ wsX50)
def wsX1_init_r1 : List Cond := [Cond.methodLink RX1 3 objectInit, Cond.instanceMethod objectInit, Cond.code objectInit ⟨#[0xb1]⟩ 1 none, Cond.classLink RX1 9 RX3, Cond.instantiable RX3 1, Cond.initialized RX3, Cond.fieldLink RX1 12 "SeedBattle$Field" "land" "LSeedBattle$Land;", Cond.classLink RX1 18 RX5, Cond.instantiable RX5 5, Cond.initialized RX5, Cond.fieldLink RX1 21 "SeedBattle$Field" "units" "LSeedBattle$Units;", Cond.arrayClass .int, Cond.fieldLink RX1 25 "SeedBattle$Field" "wants" "[I", Cond.fieldLink RX1 29 "SeedBattle$Field" "powers" "[I", Cond.instanceMethod yX3_init, Cond.code yX3_init cX3_init 1 none, Cond.methodLink RX3 3 objectInit, Cond.arrayClass .char, Cond.fieldLink RX3 9 "SeedBattle$Land" "grounds" "[C", Cond.instanceMethod yX5_init, Cond.code yX5_init cX5_init 1 none, Cond.methodLink RX5 3 objectInit, Cond.fieldLink RX5 9 "SeedBattle$Units" "owners" "[I", Cond.fieldLink RX5 15 "SeedBattle$Units" "kinds" "[I"]
def wsX1_init_r2 : List Cond := [Cond.fieldLink RX5 18 "SeedBattle$Units" "starts" "[I", Cond.fieldLink RX5 21 "SeedBattle$Units" "places" "[I"]
def wsX1_init : List Cond := .code yX1_init cX1_init 1 none :: ((wsX1_init_r1 ++ wsX1_init_r2) ++ wsX30 ++ wsX10 ++ wsX50)
def wsX5_place : List Cond := .code yX5_place cX5_place 2 (some .int) :: ([.fieldLink RX5 24 "SeedBattle$Units" "count" "I", .fieldLink RX5 21 "SeedBattle$Units" "places" "[I"] ++ wsX50 ++ (vx_atM "java/lang/ArrayIndexOutOfBoundsException" ["java/lang/IndexOutOfBoundsException", "java/lang/RuntimeException", "java/lang/Exception"]).filter goodWord)
def wsX4_spotOf : List Cond := .code yX4_spotOf cX4_spotOf 4 (some .int) :: ([])
def wsX4_direction : List Cond := .code yX4_direction cX4_direction 5 (some .int) :: ([.fieldLink RX4 9 "SeedBattle$Orders" "directions" "[I", .methodLink RX4 28 yX4_spotOf, .static yX4_spotOf, .initialized RX4, .code yX4_spotOf cX4_spotOf 4 (some .int)] ++ wsX40 ++ (vx_atM "java/lang/ArrayIndexOutOfBoundsException" ["java/lang/IndexOutOfBoundsException", "java/lang/RuntimeException", "java/lang/Exception"]).filter goodWord)
def wsX6_isCell : List Cond := .code yX6_isCell cX6_isCell 1 (some .boolean) :: ([])
def wsX3_at : List Cond := .code yX3_at cX3_at 2 (some .char) :: ([.fieldLink RX3 9 "SeedBattle$Land" "grounds" "[C", .static yX6_isCell, .initialized RX6, .code yX6_isCell cX6_isCell 1 (some .boolean)] ++ wsX30 ++ (vx_atM "java/lang/ArrayIndexOutOfBoundsException" ["java/lang/IndexOutOfBoundsException", "java/lang/RuntimeException", "java/lang/Exception"]).filter goodWord)
def wsX3_beside : List Cond := .code yX3_beside cX3_beside 6 (some .int) :: ([.methodLink RX3 35 yX3_at, .instanceMethod yX3_at, .selects RX3 yX3_at yX3_at, .initialized RX3, .code yX3_at cX3_at 2 (some .char), .fieldLink RX3 9 "SeedBattle$Land" "grounds" "[C", .static yX6_isCell, .initialized RX6, .code yX6_isCell cX6_isCell 1 (some .boolean)] ++ wsX30 ++ (vx_atM "java/lang/ArrayIndexOutOfBoundsException" ["java/lang/IndexOutOfBoundsException", "java/lang/RuntimeException", "java/lang/Exception"]).filter goodWord)
def wsX1_isMover : List Cond := .code yX1_isMover cX1_isMover 2 (some .boolean) :: ([.fieldLink RX1 25 "SeedBattle$Field" "wants" "[I", .fieldLink RX1 21 "SeedBattle$Field" "units" "LSeedBattle$Units;", .methodLink RX1 50 yX5_place, .instanceMethod yX5_place, .selects RX5 yX5_place yX5_place, .initialized RX5, .code yX5_place cX5_place 2 (some .int), .fieldLink RX5 24 "SeedBattle$Units" "count" "I", .fieldLink RX5 21 "SeedBattle$Units" "places" "[I"] ++ wsX10 ++ wsX50 ++ (vx_atM "java/lang/ArrayIndexOutOfBoundsException" ["java/lang/IndexOutOfBoundsException", "java/lang/RuntimeException", "java/lang/Exception"]).filter goodWord)
def wsX1_readWants_r1 : List Cond := [Cond.fieldLink RX1 21 "SeedBattle$Field" "units" "LSeedBattle$Units;", Cond.fieldLink RX1 25 "SeedBattle$Field" "wants" "[I", Cond.fieldLink RX1 12 "SeedBattle$Field" "land" "LSeedBattle$Land;", Cond.methodLink RX1 50 yX5_place, Cond.instanceMethod yX5_place, Cond.selects RX5 yX5_place yX5_place, Cond.initialized RX5, Cond.code yX5_place cX5_place 2 (some .int), Cond.fieldLink RX5 24 "SeedBattle$Units" "count" "I", Cond.fieldLink RX5 21 "SeedBattle$Units" "places" "[I", Cond.methodLink RX1 54 yX4_direction, Cond.instanceMethod yX4_direction, Cond.selects RX4 yX4_direction yX4_direction, Cond.initialized RX4, Cond.code yX4_direction cX4_direction 5 (some .int), Cond.fieldLink RX4 9 "SeedBattle$Orders" "directions" "[I", Cond.methodLink RX4 28 yX4_spotOf, Cond.static yX4_spotOf, Cond.code yX4_spotOf cX4_spotOf 4 (some .int), Cond.methodLink RX1 60 yX3_beside, Cond.instanceMethod yX3_beside, Cond.selects RX3 yX3_beside yX3_beside, Cond.initialized RX3, Cond.code yX3_beside cX3_beside 6 (some .int)]
def wsX1_readWants_r2 : List Cond := [Cond.methodLink RX3 35 yX3_at, Cond.instanceMethod yX3_at, Cond.selects RX3 yX3_at yX3_at, Cond.code yX3_at cX3_at 2 (some .char), Cond.fieldLink RX3 9 "SeedBattle$Land" "grounds" "[C", Cond.static yX6_isCell, Cond.initialized RX6, Cond.code yX6_isCell cX6_isCell 1 (some .boolean), Cond.methodLink RX1 64 yX1_isMover, Cond.instanceMethod yX1_isMover, Cond.selects RX1 yX1_isMover yX1_isMover, Cond.initialized RX1, Cond.code yX1_isMover cX1_isMover 2 (some .boolean)]
def wsX1_readWants : List Cond := .code yX1_readWants cX1_readWants 7 (some .boolean) :: ((wsX1_readWants_r1 ++ wsX1_readWants_r2) ++ wsX10 ++ wsX50 ++ wsX40 ++ wsX30 ++ (vx_atM "java/lang/ArrayIndexOutOfBoundsException" ["java/lang/IndexOutOfBoundsException", "java/lang/RuntimeException", "java/lang/Exception"]).filter goodWord)
def wsX5_on : List Cond := .code yX5_on cX5_on 3 (some .int) :: ([.fieldLink RX5 24 "SeedBattle$Units" "count" "I", .fieldLink RX5 21 "SeedBattle$Units" "places" "[I"] ++ wsX50 ++ (vx_atM "java/lang/ArrayIndexOutOfBoundsException" ["java/lang/IndexOutOfBoundsException", "java/lang/RuntimeException", "java/lang/Exception"]).filter goodWord)
def wsX5_owner : List Cond := .code yX5_owner cX5_owner 2 (some .int) :: ([.fieldLink RX5 24 "SeedBattle$Units" "count" "I", .fieldLink RX5 9 "SeedBattle$Units" "owners" "[I"] ++ wsX50 ++ (vx_atM "java/lang/ArrayIndexOutOfBoundsException" ["java/lang/IndexOutOfBoundsException", "java/lang/RuntimeException", "java/lang/Exception"]).filter goodWord)
def wsX1_facing : List Cond := .code yX1_facing cX1_facing 3 (some .int) :: ([.fieldLink RX1 21 "SeedBattle$Field" "units" "LSeedBattle$Units;", .fieldLink RX1 25 "SeedBattle$Field" "wants" "[I", .methodLink RX1 64 yX1_isMover, .instanceMethod yX1_isMover, .selects RX1 yX1_isMover yX1_isMover, .initialized RX1, .code yX1_isMover cX1_isMover 2 (some .boolean), .methodLink RX1 50 yX5_place, .instanceMethod yX5_place, .selects RX5 yX5_place yX5_place, .initialized RX5, .code yX5_place cX5_place 2 (some .int), .fieldLink RX5 24 "SeedBattle$Units" "count" "I", .fieldLink RX5 21 "SeedBattle$Units" "places" "[I", .methodLink RX1 74 yX5_on, .instanceMethod yX5_on, .selects RX5 yX5_on yX5_on, .code yX5_on cX5_on 3 (some .int), .methodLink RX1 77 yX5_owner, .instanceMethod yX5_owner, .selects RX5 yX5_owner yX5_owner, .code yX5_owner cX5_owner 2 (some .int), .fieldLink RX5 9 "SeedBattle$Units" "owners" "[I"] ++ wsX10 ++ wsX50 ++ (vx_atM "java/lang/ArrayIndexOutOfBoundsException" ["java/lang/IndexOutOfBoundsException", "java/lang/RuntimeException", "java/lang/Exception"]).filter goodWord)
def wsX5_power : List Cond := .code yX5_power cX5_power 2 (some .int) :: ([.fieldLink RX5 24 "SeedBattle$Units" "count" "I", .fieldLink RX5 15 "SeedBattle$Units" "kinds" "[I"] ++ wsX50 ++ (vx_atM "java/lang/ArrayIndexOutOfBoundsException" ["java/lang/IndexOutOfBoundsException", "java/lang/RuntimeException", "java/lang/Exception"]).filter goodWord)
def wsX5_move : List Cond := .code yX5_move cX5_move 3 none :: ([.fieldLink RX5 24 "SeedBattle$Units" "count" "I", .fieldLink RX5 21 "SeedBattle$Units" "places" "[I"] ++ wsX50 ++ (vx_atM "java/lang/ArrayIndexOutOfBoundsException" ["java/lang/IndexOutOfBoundsException", "java/lang/RuntimeException", "java/lang/Exception"]).filter goodWord)
def wsX1_lose : List Cond := .code yX1_lose cX1_lose 2 none :: ([.fieldLink RX1 21 "SeedBattle$Field" "units" "LSeedBattle$Units;", .fieldLink RX1 25 "SeedBattle$Field" "wants" "[I", .methodLink RX1 87 yX5_move, .instanceMethod yX5_move, .selects RX5 yX5_move yX5_move, .initialized RX5, .code yX5_move cX5_move 3 none, .fieldLink RX5 24 "SeedBattle$Units" "count" "I", .fieldLink RX5 21 "SeedBattle$Units" "places" "[I"] ++ wsX10 ++ wsX50 ++ (vx_atM "java/lang/ArrayIndexOutOfBoundsException" ["java/lang/IndexOutOfBoundsException", "java/lang/RuntimeException", "java/lang/Exception"]).filter goodWord)
def wsX1_meet : List Cond := .code yX1_meet cX1_meet 4 (some .int) :: ([.fieldLink RX1 21 "SeedBattle$Field" "units" "LSeedBattle$Units;", .fieldLink RX1 25 "SeedBattle$Field" "wants" "[I", .methodLink RX1 80 yX5_power, .instanceMethod yX5_power, .selects RX5 yX5_power yX5_power, .initialized RX5, .code yX5_power cX5_power 2 (some .int), .fieldLink RX5 24 "SeedBattle$Units" "count" "I", .fieldLink RX5 15 "SeedBattle$Units" "kinds" "[I", .methodLink RX1 50 yX5_place, .instanceMethod yX5_place, .selects RX5 yX5_place yX5_place, .code yX5_place cX5_place 2 (some .int), .fieldLink RX5 21 "SeedBattle$Units" "places" "[I", .methodLink RX1 83 yX1_lose, .instanceMethod yX1_lose, .selects RX1 yX1_lose yX1_lose, .initialized RX1, .code yX1_lose cX1_lose 2 none, .methodLink RX1 87 yX5_move, .instanceMethod yX5_move, .selects RX5 yX5_move yX5_move, .code yX5_move cX5_move 3 none] ++ wsX10 ++ wsX50 ++ (vx_atM "java/lang/ArrayIndexOutOfBoundsException" ["java/lang/IndexOutOfBoundsException", "java/lang/RuntimeException", "java/lang/Exception"]).filter goodWord)
def wsX1_meetPairs_r1 : List Cond := [Cond.fieldLink RX1 21 "SeedBattle$Field" "units" "LSeedBattle$Units;", Cond.methodLink RX1 68 yX1_facing, Cond.instanceMethod yX1_facing, Cond.selects RX1 yX1_facing yX1_facing, Cond.initialized RX1, Cond.code yX1_facing cX1_facing 3 (some .int), Cond.fieldLink RX1 25 "SeedBattle$Field" "wants" "[I", Cond.methodLink RX1 64 yX1_isMover, Cond.instanceMethod yX1_isMover, Cond.selects RX1 yX1_isMover yX1_isMover, Cond.code yX1_isMover cX1_isMover 2 (some .boolean), Cond.methodLink RX1 50 yX5_place, Cond.instanceMethod yX5_place, Cond.selects RX5 yX5_place yX5_place, Cond.initialized RX5, Cond.code yX5_place cX5_place 2 (some .int), Cond.fieldLink RX5 24 "SeedBattle$Units" "count" "I", Cond.fieldLink RX5 21 "SeedBattle$Units" "places" "[I", Cond.methodLink RX1 74 yX5_on, Cond.instanceMethod yX5_on, Cond.selects RX5 yX5_on yX5_on, Cond.code yX5_on cX5_on 3 (some .int), Cond.methodLink RX1 77 yX5_owner, Cond.instanceMethod yX5_owner]
def wsX1_meetPairs_r2 : List Cond := [Cond.selects RX5 yX5_owner yX5_owner, Cond.code yX5_owner cX5_owner 2 (some .int), Cond.fieldLink RX5 9 "SeedBattle$Units" "owners" "[I", Cond.methodLink RX1 71 yX1_meet, Cond.instanceMethod yX1_meet, Cond.selects RX1 yX1_meet yX1_meet, Cond.code yX1_meet cX1_meet 4 (some .int), Cond.methodLink RX1 80 yX5_power, Cond.instanceMethod yX5_power, Cond.selects RX5 yX5_power yX5_power, Cond.code yX5_power cX5_power 2 (some .int), Cond.fieldLink RX5 15 "SeedBattle$Units" "kinds" "[I", Cond.methodLink RX1 83 yX1_lose, Cond.instanceMethod yX1_lose, Cond.selects RX1 yX1_lose yX1_lose, Cond.code yX1_lose cX1_lose 2 none, Cond.methodLink RX1 87 yX5_move, Cond.instanceMethod yX5_move, Cond.selects RX5 yX5_move yX5_move, Cond.code yX5_move cX5_move 3 none]
def wsX1_meetPairs : List Cond := .code yX1_meetPairs cX1_meetPairs 4 (some .int) :: ((wsX1_meetPairs_r1 ++ wsX1_meetPairs_r2) ++ wsX10 ++ wsX50 ++ (vx_atM "java/lang/ArrayIndexOutOfBoundsException" ["java/lang/IndexOutOfBoundsException", "java/lang/RuntimeException", "java/lang/Exception"]).filter goodWord)
def wsX1_isContested : List Cond := .code yX1_isContested cX1_isContested 4 (some .boolean) :: ([.fieldLink RX1 21 "SeedBattle$Field" "units" "LSeedBattle$Units;", .fieldLink RX1 25 "SeedBattle$Field" "wants" "[I"] ++ wsX10 ++ wsX50 ++ (vx_atM "java/lang/ArrayIndexOutOfBoundsException" ["java/lang/IndexOutOfBoundsException", "java/lang/RuntimeException", "java/lang/Exception"]).filter goodWord)
def wsX1_lowestContested : List Cond := .code yX1_lowestContested cX1_lowestContested 3 (some .int) :: ([.fieldLink RX1 21 "SeedBattle$Field" "units" "LSeedBattle$Units;", .fieldLink RX1 25 "SeedBattle$Field" "wants" "[I", .methodLink RX1 64 yX1_isMover, .instanceMethod yX1_isMover, .selects RX1 yX1_isMover yX1_isMover, .initialized RX1, .code yX1_isMover cX1_isMover 2 (some .boolean), .methodLink RX1 50 yX5_place, .instanceMethod yX5_place, .selects RX5 yX5_place yX5_place, .initialized RX5, .code yX5_place cX5_place 2 (some .int), .fieldLink RX5 24 "SeedBattle$Units" "count" "I", .fieldLink RX5 21 "SeedBattle$Units" "places" "[I", .methodLink RX1 97 yX1_isContested, .instanceMethod yX1_isContested, .selects RX1 yX1_isContested yX1_isContested, .code yX1_isContested cX1_isContested 4 (some .boolean)] ++ wsX10 ++ wsX50 ++ (vx_atM "java/lang/ArrayIndexOutOfBoundsException" ["java/lang/IndexOutOfBoundsException", "java/lang/RuntimeException", "java/lang/Exception"]).filter goodWord)
def wsJ7_fill_53178 : List Cond := .code yJ7_fill_53178 cJ7_fill_53178 4 none :: ([])
def wsX1_strongestFor : List Cond := .code yX1_strongestFor cX1_strongestFor 5 (some .int) :: ([.fieldLink RX1 29 "SeedBattle$Field" "powers" "[I", .fieldLink RX1 21 "SeedBattle$Field" "units" "LSeedBattle$Units;", .fieldLink RX1 25 "SeedBattle$Field" "wants" "[I", .methodLink RX1 109 yJ7_fill_53178, .static yJ7_fill_53178, .initialized RJ7, .code yJ7_fill_53178 cJ7_fill_53178 4 none, .methodLink RX1 77 yX5_owner, .instanceMethod yX5_owner, .selects RX5 yX5_owner yX5_owner, .initialized RX5, .code yX5_owner cX5_owner 2 (some .int), .fieldLink RX5 24 "SeedBattle$Units" "count" "I", .fieldLink RX5 9 "SeedBattle$Units" "owners" "[I", .methodLink RX1 80 yX5_power, .instanceMethod yX5_power, .selects RX5 yX5_power yX5_power, .code yX5_power cX5_power 2 (some .int), .fieldLink RX5 15 "SeedBattle$Units" "kinds" "[I"] ++ wsX10 ++ wsX50 ++ (vx_atM "java/lang/ArrayIndexOutOfBoundsException" ["java/lang/IndexOutOfBoundsException", "java/lang/RuntimeException", "java/lang/Exception"]).filter goodWord)
def wsX1_firstMover : List Cond := .code yX1_firstMover cX1_firstMover 4 (some .int) :: ([.fieldLink RX1 21 "SeedBattle$Field" "units" "LSeedBattle$Units;", .fieldLink RX1 25 "SeedBattle$Field" "wants" "[I", .methodLink RX1 77 yX5_owner, .instanceMethod yX5_owner, .selects RX5 yX5_owner yX5_owner, .initialized RX5, .code yX5_owner cX5_owner 2 (some .int), .fieldLink RX5 24 "SeedBattle$Units" "count" "I", .fieldLink RX5 9 "SeedBattle$Units" "owners" "[I"] ++ wsX10 ++ wsX50 ++ (vx_atM "java/lang/ArrayIndexOutOfBoundsException" ["java/lang/IndexOutOfBoundsException", "java/lang/RuntimeException", "java/lang/Exception"]).filter goodWord)
def wsX1_turnBack : List Cond := .code yX1_turnBack cX1_turnBack 4 none :: ([.fieldLink RX1 21 "SeedBattle$Field" "units" "LSeedBattle$Units;", .fieldLink RX1 25 "SeedBattle$Field" "wants" "[I", .methodLink RX1 50 yX5_place, .instanceMethod yX5_place, .selects RX5 yX5_place yX5_place, .initialized RX5, .code yX5_place cX5_place 2 (some .int), .fieldLink RX5 24 "SeedBattle$Units" "count" "I", .fieldLink RX5 21 "SeedBattle$Units" "places" "[I"] ++ wsX10 ++ wsX50 ++ (vx_atM "java/lang/ArrayIndexOutOfBoundsException" ["java/lang/IndexOutOfBoundsException", "java/lang/RuntimeException", "java/lang/Exception"]).filter goodWord)
def wsX1_lookAt_r1 : List Cond := [Cond.fieldLink RX1 21 "SeedBattle$Field" "units" "LSeedBattle$Units;", Cond.fieldLink RX1 25 "SeedBattle$Field" "wants" "[I", Cond.methodLink RX1 74 yX5_on, Cond.instanceMethod yX5_on, Cond.selects RX5 yX5_on yX5_on, Cond.initialized RX5, Cond.code yX5_on cX5_on 3 (some .int), Cond.fieldLink RX5 24 "SeedBattle$Units" "count" "I", Cond.fieldLink RX5 21 "SeedBattle$Units" "places" "[I", Cond.methodLink RX1 100 yX1_strongestFor, Cond.instanceMethod yX1_strongestFor, Cond.selects RX1 yX1_strongestFor yX1_strongestFor, Cond.initialized RX1, Cond.code yX1_strongestFor cX1_strongestFor 5 (some .int), Cond.fieldLink RX1 29 "SeedBattle$Field" "powers" "[I", Cond.methodLink RX1 109 yJ7_fill_53178, Cond.static yJ7_fill_53178, Cond.initialized RJ7, Cond.code yJ7_fill_53178 cJ7_fill_53178 4 none, Cond.methodLink RX1 77 yX5_owner, Cond.instanceMethod yX5_owner, Cond.selects RX5 yX5_owner yX5_owner, Cond.code yX5_owner cX5_owner 2 (some .int), Cond.fieldLink RX5 9 "SeedBattle$Units" "owners" "[I"]
def wsX1_lookAt_r2 : List Cond := [Cond.methodLink RX1 80 yX5_power, Cond.instanceMethod yX5_power, Cond.selects RX5 yX5_power yX5_power, Cond.code yX5_power cX5_power 2 (some .int), Cond.fieldLink RX5 15 "SeedBattle$Units" "kinds" "[I", Cond.methodLink RX1 103 yX1_firstMover, Cond.instanceMethod yX1_firstMover, Cond.selects RX1 yX1_firstMover yX1_firstMover, Cond.code yX1_firstMover cX1_firstMover 4 (some .int), Cond.methodLink RX1 106 yX1_turnBack, Cond.instanceMethod yX1_turnBack, Cond.selects RX1 yX1_turnBack yX1_turnBack, Cond.code yX1_turnBack cX1_turnBack 4 none, Cond.methodLink RX1 50 yX5_place, Cond.instanceMethod yX5_place, Cond.selects RX5 yX5_place yX5_place, Cond.code yX5_place cX5_place 2 (some .int), Cond.methodLink RX1 83 yX1_lose, Cond.instanceMethod yX1_lose, Cond.selects RX1 yX1_lose yX1_lose, Cond.code yX1_lose cX1_lose 2 none, Cond.methodLink RX1 87 yX5_move, Cond.instanceMethod yX5_move, Cond.selects RX5 yX5_move yX5_move]
def wsX1_lookAt_r3 : List Cond := [Cond.code yX5_move cX5_move 3 none]
def wsX1_lookAt : List Cond := .code yX1_lookAt cX1_lookAt 4 (some .int) :: ((wsX1_lookAt_r1 ++ (wsX1_lookAt_r2 ++ wsX1_lookAt_r3)) ++ wsX10 ++ wsX50 ++ (vx_atM "java/lang/ArrayIndexOutOfBoundsException" ["java/lang/IndexOutOfBoundsException", "java/lang/RuntimeException", "java/lang/Exception"]).filter goodWord)
def wsX1_settleCells_r1 : List Cond := [Cond.methodLink RX1 91 yX1_lowestContested, Cond.instanceMethod yX1_lowestContested, Cond.selects RX1 yX1_lowestContested yX1_lowestContested, Cond.initialized RX1, Cond.code yX1_lowestContested cX1_lowestContested 3 (some .int), Cond.fieldLink RX1 21 "SeedBattle$Field" "units" "LSeedBattle$Units;", Cond.fieldLink RX1 25 "SeedBattle$Field" "wants" "[I", Cond.methodLink RX1 64 yX1_isMover, Cond.instanceMethod yX1_isMover, Cond.selects RX1 yX1_isMover yX1_isMover, Cond.code yX1_isMover cX1_isMover 2 (some .boolean), Cond.methodLink RX1 50 yX5_place, Cond.instanceMethod yX5_place, Cond.selects RX5 yX5_place yX5_place, Cond.initialized RX5, Cond.code yX5_place cX5_place 2 (some .int), Cond.fieldLink RX5 24 "SeedBattle$Units" "count" "I", Cond.fieldLink RX5 21 "SeedBattle$Units" "places" "[I", Cond.methodLink RX1 97 yX1_isContested, Cond.instanceMethod yX1_isContested, Cond.selects RX1 yX1_isContested yX1_isContested, Cond.code yX1_isContested cX1_isContested 4 (some .boolean), Cond.methodLink RX1 94 yX1_lookAt, Cond.instanceMethod yX1_lookAt]
def wsX1_settleCells_r2 : List Cond := [Cond.selects RX1 yX1_lookAt yX1_lookAt, Cond.code yX1_lookAt cX1_lookAt 4 (some .int), Cond.methodLink RX1 74 yX5_on, Cond.instanceMethod yX5_on, Cond.selects RX5 yX5_on yX5_on, Cond.code yX5_on cX5_on 3 (some .int), Cond.methodLink RX1 100 yX1_strongestFor, Cond.instanceMethod yX1_strongestFor, Cond.selects RX1 yX1_strongestFor yX1_strongestFor, Cond.code yX1_strongestFor cX1_strongestFor 5 (some .int), Cond.fieldLink RX1 29 "SeedBattle$Field" "powers" "[I", Cond.methodLink RX1 109 yJ7_fill_53178, Cond.static yJ7_fill_53178, Cond.initialized RJ7, Cond.code yJ7_fill_53178 cJ7_fill_53178 4 none, Cond.methodLink RX1 77 yX5_owner, Cond.instanceMethod yX5_owner, Cond.selects RX5 yX5_owner yX5_owner, Cond.code yX5_owner cX5_owner 2 (some .int), Cond.fieldLink RX5 9 "SeedBattle$Units" "owners" "[I", Cond.methodLink RX1 80 yX5_power, Cond.instanceMethod yX5_power, Cond.selects RX5 yX5_power yX5_power, Cond.code yX5_power cX5_power 2 (some .int)]
def wsX1_settleCells_r3 : List Cond := [Cond.fieldLink RX5 15 "SeedBattle$Units" "kinds" "[I", Cond.methodLink RX1 103 yX1_firstMover, Cond.instanceMethod yX1_firstMover, Cond.selects RX1 yX1_firstMover yX1_firstMover, Cond.code yX1_firstMover cX1_firstMover 4 (some .int), Cond.methodLink RX1 106 yX1_turnBack, Cond.instanceMethod yX1_turnBack, Cond.selects RX1 yX1_turnBack yX1_turnBack, Cond.code yX1_turnBack cX1_turnBack 4 none, Cond.methodLink RX1 83 yX1_lose, Cond.instanceMethod yX1_lose, Cond.selects RX1 yX1_lose yX1_lose, Cond.code yX1_lose cX1_lose 2 none, Cond.methodLink RX1 87 yX5_move, Cond.instanceMethod yX5_move, Cond.selects RX5 yX5_move yX5_move, Cond.code yX5_move cX5_move 3 none]
def wsX1_settleCells : List Cond := .code yX1_settleCells cX1_settleCells 4 (some .int) :: ((wsX1_settleCells_r1 ++ (wsX1_settleCells_r2 ++ wsX1_settleCells_r3)) ++ wsX10 ++ wsX50 ++ (vx_atM "java/lang/ArrayIndexOutOfBoundsException" ["java/lang/IndexOutOfBoundsException", "java/lang/RuntimeException", "java/lang/Exception"]).filter goodWord)
def wsX1_moveAll : List Cond := .code yX1_moveAll cX1_moveAll 2 none :: ([.fieldLink RX1 21 "SeedBattle$Field" "units" "LSeedBattle$Units;", .fieldLink RX1 25 "SeedBattle$Field" "wants" "[I", .methodLink RX1 87 yX5_move, .instanceMethod yX5_move, .selects RX5 yX5_move yX5_move, .initialized RX5, .code yX5_move cX5_move 3 none, .fieldLink RX5 24 "SeedBattle$Units" "count" "I", .fieldLink RX5 21 "SeedBattle$Units" "places" "[I"] ++ wsX10 ++ wsX50 ++ (vx_atM "java/lang/ArrayIndexOutOfBoundsException" ["java/lang/IndexOutOfBoundsException", "java/lang/RuntimeException", "java/lang/Exception"]).filter goodWord)
def wsX1_playTurn_r1 : List Cond := [Cond.methodLink RX1 32 yX1_readWants, Cond.instanceMethod yX1_readWants, Cond.selects RX1 yX1_readWants yX1_readWants, Cond.initialized RX1, Cond.code yX1_readWants cX1_readWants 7 (some .boolean), Cond.fieldLink RX1 21 "SeedBattle$Field" "units" "LSeedBattle$Units;", Cond.fieldLink RX1 25 "SeedBattle$Field" "wants" "[I", Cond.fieldLink RX1 12 "SeedBattle$Field" "land" "LSeedBattle$Land;", Cond.methodLink RX1 50 yX5_place, Cond.instanceMethod yX5_place, Cond.selects RX5 yX5_place yX5_place, Cond.initialized RX5, Cond.code yX5_place cX5_place 2 (some .int), Cond.fieldLink RX5 24 "SeedBattle$Units" "count" "I", Cond.fieldLink RX5 21 "SeedBattle$Units" "places" "[I", Cond.methodLink RX1 54 yX4_direction, Cond.instanceMethod yX4_direction, Cond.selects RX4 yX4_direction yX4_direction, Cond.initialized RX4, Cond.code yX4_direction cX4_direction 5 (some .int), Cond.fieldLink RX4 9 "SeedBattle$Orders" "directions" "[I", Cond.methodLink RX4 28 yX4_spotOf, Cond.static yX4_spotOf, Cond.code yX4_spotOf cX4_spotOf 4 (some .int)]
def wsX1_playTurn_r2 : List Cond := [Cond.methodLink RX1 60 yX3_beside, Cond.instanceMethod yX3_beside, Cond.selects RX3 yX3_beside yX3_beside, Cond.initialized RX3, Cond.code yX3_beside cX3_beside 6 (some .int), Cond.methodLink RX3 35 yX3_at, Cond.instanceMethod yX3_at, Cond.selects RX3 yX3_at yX3_at, Cond.code yX3_at cX3_at 2 (some .char), Cond.fieldLink RX3 9 "SeedBattle$Land" "grounds" "[C", Cond.static yX6_isCell, Cond.initialized RX6, Cond.code yX6_isCell cX6_isCell 1 (some .boolean), Cond.methodLink RX1 64 yX1_isMover, Cond.instanceMethod yX1_isMover, Cond.selects RX1 yX1_isMover yX1_isMover, Cond.code yX1_isMover cX1_isMover 2 (some .boolean), Cond.methodLink RX1 36 yX1_meetPairs, Cond.instanceMethod yX1_meetPairs, Cond.selects RX1 yX1_meetPairs yX1_meetPairs, Cond.code yX1_meetPairs cX1_meetPairs 4 (some .int), Cond.methodLink RX1 68 yX1_facing, Cond.instanceMethod yX1_facing, Cond.selects RX1 yX1_facing yX1_facing]
def wsX1_playTurn_r3 : List Cond := [Cond.code yX1_facing cX1_facing 3 (some .int), Cond.methodLink RX1 74 yX5_on, Cond.instanceMethod yX5_on, Cond.selects RX5 yX5_on yX5_on, Cond.code yX5_on cX5_on 3 (some .int), Cond.methodLink RX1 77 yX5_owner, Cond.instanceMethod yX5_owner, Cond.selects RX5 yX5_owner yX5_owner, Cond.code yX5_owner cX5_owner 2 (some .int), Cond.fieldLink RX5 9 "SeedBattle$Units" "owners" "[I", Cond.methodLink RX1 71 yX1_meet, Cond.instanceMethod yX1_meet, Cond.selects RX1 yX1_meet yX1_meet, Cond.code yX1_meet cX1_meet 4 (some .int), Cond.methodLink RX1 80 yX5_power, Cond.instanceMethod yX5_power, Cond.selects RX5 yX5_power yX5_power, Cond.code yX5_power cX5_power 2 (some .int), Cond.fieldLink RX5 15 "SeedBattle$Units" "kinds" "[I", Cond.methodLink RX1 83 yX1_lose, Cond.instanceMethod yX1_lose, Cond.selects RX1 yX1_lose yX1_lose, Cond.code yX1_lose cX1_lose 2 none, Cond.methodLink RX1 87 yX5_move]
def wsX1_playTurn_r4 : List Cond := [Cond.instanceMethod yX5_move, Cond.selects RX5 yX5_move yX5_move, Cond.code yX5_move cX5_move 3 none, Cond.methodLink RX1 40 yX1_settleCells, Cond.instanceMethod yX1_settleCells, Cond.selects RX1 yX1_settleCells yX1_settleCells, Cond.code yX1_settleCells cX1_settleCells 4 (some .int), Cond.methodLink RX1 91 yX1_lowestContested, Cond.instanceMethod yX1_lowestContested, Cond.selects RX1 yX1_lowestContested yX1_lowestContested, Cond.code yX1_lowestContested cX1_lowestContested 3 (some .int), Cond.methodLink RX1 97 yX1_isContested, Cond.instanceMethod yX1_isContested, Cond.selects RX1 yX1_isContested yX1_isContested, Cond.code yX1_isContested cX1_isContested 4 (some .boolean), Cond.methodLink RX1 94 yX1_lookAt, Cond.instanceMethod yX1_lookAt, Cond.selects RX1 yX1_lookAt yX1_lookAt, Cond.code yX1_lookAt cX1_lookAt 4 (some .int), Cond.methodLink RX1 100 yX1_strongestFor, Cond.instanceMethod yX1_strongestFor, Cond.selects RX1 yX1_strongestFor yX1_strongestFor, Cond.code yX1_strongestFor cX1_strongestFor 5 (some .int), Cond.fieldLink RX1 29 "SeedBattle$Field" "powers" "[I"]
def wsX1_playTurn_r5 : List Cond := [Cond.methodLink RX1 109 yJ7_fill_53178, Cond.static yJ7_fill_53178, Cond.initialized RJ7, Cond.code yJ7_fill_53178 cJ7_fill_53178 4 none, Cond.methodLink RX1 103 yX1_firstMover, Cond.instanceMethod yX1_firstMover, Cond.selects RX1 yX1_firstMover yX1_firstMover, Cond.code yX1_firstMover cX1_firstMover 4 (some .int), Cond.methodLink RX1 106 yX1_turnBack, Cond.instanceMethod yX1_turnBack, Cond.selects RX1 yX1_turnBack yX1_turnBack, Cond.code yX1_turnBack cX1_turnBack 4 none, Cond.methodLink RX1 43 yX1_moveAll, Cond.instanceMethod yX1_moveAll, Cond.selects RX1 yX1_moveAll yX1_moveAll, Cond.code yX1_moveAll cX1_moveAll 2 none]
def wsX1_playTurn : List Cond := .code yX1_playTurn cX1_playTurn 5 (some .int) :: ((wsX1_playTurn_r1 ++ (wsX1_playTurn_r2 ++ (wsX1_playTurn_r3 ++ (wsX1_playTurn_r4 ++ wsX1_playTurn_r5)))) ++ wsX10 ++ wsX50 ++ wsX40 ++ wsX30 ++ (vx_atM "java/lang/ArrayIndexOutOfBoundsException" ["java/lang/IndexOutOfBoundsException", "java/lang/RuntimeException", "java/lang/Exception"]).filter goodWord)
def wsX5_sight : List Cond := .code yX5_sight cX5_sight 2 (some .int) :: ([.fieldLink RX5 24 "SeedBattle$Units" "count" "I", .fieldLink RX5 15 "SeedBattle$Units" "kinds" "[I"] ++ wsX50 ++ (vx_atM "java/lang/ArrayIndexOutOfBoundsException" ["java/lang/IndexOutOfBoundsException", "java/lang/RuntimeException", "java/lang/Exception"]).filter goodWord)
def wsX3_distance : List Cond := .code yX3_distance cX3_distance 4 (some .int) :: ([.methodLink RX3 45 Lib.Math.abs.name, .static Lib.Math.abs.name, .initialized "java/lang/Math", .code Lib.Math.abs.name Lib.Math.abs.code 1 (some .int), .methodLink RX3 51 Lib.Math.max.name, .static Lib.Math.max.name, .code Lib.Math.max.name Lib.Math.max.code 2 (some .int)])
def wsX3_share : List Cond := .code yX3_share cX3_share 3 (some .int) :: ([.methodLink RX3 45 Lib.Math.abs.name, .static Lib.Math.abs.name, .initialized "java/lang/Math", .code Lib.Math.abs.name Lib.Math.abs.code 1 (some .int)] ++ (vx_atM "java/lang/ArithmeticException" ["java/lang/RuntimeException", "java/lang/Exception"]).filter goodWord)
def wsX3_isClear : List Cond := .code yX3_isClear cX3_isClear 11 (some .boolean) :: ([.methodLink RX3 38 yX3_distance, .static yX3_distance, .initialized RX3, .code yX3_distance cX3_distance 4 (some .int), .methodLink RX3 45 Lib.Math.abs.name, .static Lib.Math.abs.name, .initialized "java/lang/Math", .code Lib.Math.abs.name Lib.Math.abs.code 1 (some .int), .methodLink RX3 51 Lib.Math.max.name, .static Lib.Math.max.name, .code Lib.Math.max.name Lib.Math.max.code 2 (some .int), .methodLink RX3 35 yX3_at, .instanceMethod yX3_at, .selects RX3 yX3_at yX3_at, .code yX3_at cX3_at 2 (some .char), .fieldLink RX3 9 "SeedBattle$Land" "grounds" "[C", .static yX6_isCell, .initialized RX6, .code yX6_isCell cX6_isCell 1 (some .boolean), .methodLink RX3 42 yX3_share, .static yX3_share, .code yX3_share cX3_share 3 (some .int)] ++ wsX30 ++ (vx_atM "java/lang/ArrayIndexOutOfBoundsException" ["java/lang/IndexOutOfBoundsException", "java/lang/RuntimeException", "java/lang/Exception"]).filter goodWord ++ (vx_atM "java/lang/ArithmeticException" ["java/lang/RuntimeException", "java/lang/Exception"]).filter goodWord)
def wsX1_unitSpots_r1 : List Cond := [Cond.fieldLink RX1 21 "SeedBattle$Field" "units" "LSeedBattle$Units;", Cond.fieldLink RX1 12 "SeedBattle$Field" "land" "LSeedBattle$Land;", Cond.methodLink RX1 50 yX5_place, Cond.instanceMethod yX5_place, Cond.selects RX5 yX5_place yX5_place, Cond.initialized RX5, Cond.code yX5_place cX5_place 2 (some .int), Cond.fieldLink RX5 24 "SeedBattle$Units" "count" "I", Cond.fieldLink RX5 21 "SeedBattle$Units" "places" "[I", Cond.methodLink RX1 115 yX5_sight, Cond.instanceMethod yX5_sight, Cond.selects RX5 yX5_sight yX5_sight, Cond.code yX5_sight cX5_sight 2 (some .int), Cond.fieldLink RX5 15 "SeedBattle$Units" "kinds" "[I", Cond.methodLink RX1 118 yX3_at, Cond.instanceMethod yX3_at, Cond.selects RX3 yX3_at yX3_at, Cond.initialized RX3, Cond.code yX3_at cX3_at 2 (some .char), Cond.fieldLink RX3 9 "SeedBattle$Land" "grounds" "[C", Cond.static yX6_isCell, Cond.initialized RX6, Cond.code yX6_isCell cX6_isCell 1 (some .boolean), Cond.methodLink RX1 122 yX3_distance]
def wsX1_unitSpots_r2 : List Cond := [Cond.static yX3_distance, Cond.code yX3_distance cX3_distance 4 (some .int), Cond.methodLink RX3 45 Lib.Math.abs.name, Cond.static Lib.Math.abs.name, Cond.initialized "java/lang/Math", Cond.code Lib.Math.abs.name Lib.Math.abs.code 1 (some .int), Cond.methodLink RX3 51 Lib.Math.max.name, Cond.static Lib.Math.max.name, Cond.code Lib.Math.max.name Lib.Math.max.code 2 (some .int), Cond.methodLink RX1 125 yX3_isClear, Cond.instanceMethod yX3_isClear, Cond.selects RX3 yX3_isClear yX3_isClear, Cond.code yX3_isClear cX3_isClear 11 (some .boolean), Cond.methodLink RX3 38 yX3_distance, Cond.methodLink RX3 35 yX3_at, Cond.methodLink RX3 42 yX3_share, Cond.static yX3_share, Cond.code yX3_share cX3_share 3 (some .int)]
def wsX1_unitSpots : List Cond := .code yX1_unitSpots cX1_unitSpots 5 (some .boolean) :: ((wsX1_unitSpots_r1 ++ wsX1_unitSpots_r2) ++ wsX10 ++ wsX50 ++ wsX30 ++ (vx_atM "java/lang/ArrayIndexOutOfBoundsException" ["java/lang/IndexOutOfBoundsException", "java/lang/RuntimeException", "java/lang/Exception"]).filter goodWord ++ (vx_atM "java/lang/ArithmeticException" ["java/lang/RuntimeException", "java/lang/Exception"]).filter goodWord)
def wsX1_playerSpots_r1 : List Cond := [Cond.fieldLink RX1 21 "SeedBattle$Field" "units" "LSeedBattle$Units;", Cond.methodLink RX1 77 yX5_owner, Cond.instanceMethod yX5_owner, Cond.selects RX5 yX5_owner yX5_owner, Cond.initialized RX5, Cond.code yX5_owner cX5_owner 2 (some .int), Cond.fieldLink RX5 24 "SeedBattle$Units" "count" "I", Cond.fieldLink RX5 9 "SeedBattle$Units" "owners" "[I", Cond.methodLink RX1 129 yX1_unitSpots, Cond.instanceMethod yX1_unitSpots, Cond.selects RX1 yX1_unitSpots yX1_unitSpots, Cond.initialized RX1, Cond.code yX1_unitSpots cX1_unitSpots 5 (some .boolean), Cond.fieldLink RX1 12 "SeedBattle$Field" "land" "LSeedBattle$Land;", Cond.methodLink RX1 50 yX5_place, Cond.instanceMethod yX5_place, Cond.selects RX5 yX5_place yX5_place, Cond.code yX5_place cX5_place 2 (some .int), Cond.fieldLink RX5 21 "SeedBattle$Units" "places" "[I", Cond.methodLink RX1 115 yX5_sight, Cond.instanceMethod yX5_sight, Cond.selects RX5 yX5_sight yX5_sight, Cond.code yX5_sight cX5_sight 2 (some .int), Cond.fieldLink RX5 15 "SeedBattle$Units" "kinds" "[I"]
def wsX1_playerSpots_r2 : List Cond := [Cond.methodLink RX1 118 yX3_at, Cond.instanceMethod yX3_at, Cond.selects RX3 yX3_at yX3_at, Cond.initialized RX3, Cond.code yX3_at cX3_at 2 (some .char), Cond.fieldLink RX3 9 "SeedBattle$Land" "grounds" "[C", Cond.static yX6_isCell, Cond.initialized RX6, Cond.code yX6_isCell cX6_isCell 1 (some .boolean), Cond.methodLink RX1 122 yX3_distance, Cond.static yX3_distance, Cond.code yX3_distance cX3_distance 4 (some .int), Cond.methodLink RX3 45 Lib.Math.abs.name, Cond.static Lib.Math.abs.name, Cond.initialized "java/lang/Math", Cond.code Lib.Math.abs.name Lib.Math.abs.code 1 (some .int), Cond.methodLink RX3 51 Lib.Math.max.name, Cond.static Lib.Math.max.name, Cond.code Lib.Math.max.name Lib.Math.max.code 2 (some .int), Cond.methodLink RX1 125 yX3_isClear, Cond.instanceMethod yX3_isClear, Cond.selects RX3 yX3_isClear yX3_isClear, Cond.code yX3_isClear cX3_isClear 11 (some .boolean), Cond.methodLink RX3 38 yX3_distance]
def wsX1_playerSpots_r3 : List Cond := [Cond.methodLink RX3 35 yX3_at, Cond.methodLink RX3 42 yX3_share, Cond.static yX3_share, Cond.code yX3_share cX3_share 3 (some .int)]
def wsX1_playerSpots : List Cond := .code yX1_playerSpots cX1_playerSpots 4 (some .boolean) :: ((wsX1_playerSpots_r1 ++ (wsX1_playerSpots_r2 ++ wsX1_playerSpots_r3)) ++ wsX10 ++ wsX50 ++ wsX30 ++ (vx_atM "java/lang/ArrayIndexOutOfBoundsException" ["java/lang/IndexOutOfBoundsException", "java/lang/RuntimeException", "java/lang/Exception"]).filter goodWord ++ (vx_atM "java/lang/ArithmeticException" ["java/lang/RuntimeException", "java/lang/Exception"]).filter goodWord)
def wsX2_init : List Cond := .code yX2_init cX2_init 1 none :: ([.methodLink RX2 3 objectInit, .instanceMethod objectInit, .code objectInit ⟨#[0xb1]⟩ 1 none, .arrayClass .int, .fieldLink RX2 9 "SeedBattle$Index" "numbers" "[I"] ++ wsX20)
def wsX2_has : List Cond := .code yX2_has cX2_has 4 (some .boolean) :: ([.fieldLink RX2 15 "SeedBattle$Index" "count" "I", .fieldLink RX2 9 "SeedBattle$Index" "numbers" "[I", .static yX6_turnOf, .initialized RX6, .code yX6_turnOf cX6_turnOf 1 (some .int), .constant RX6 297 (100000), .static yX6_unitOf, .code yX6_unitOf cX6_unitOf 1 (some .int)] ++ wsX20 ++ (vx_atM "java/lang/ArrayIndexOutOfBoundsException" ["java/lang/IndexOutOfBoundsException", "java/lang/RuntimeException", "java/lang/Exception"]).filter goodWord)
def wsX2_latestOnCell : List Cond := .code yX2_latestOnCell cX2_latestOnCell 3 (some .int) :: ([.fieldLink RX2 15 "SeedBattle$Index" "count" "I", .fieldLink RX2 9 "SeedBattle$Index" "numbers" "[I", .static yX6_placeOf, .initialized RX6, .code yX6_placeOf cX6_placeOf 1 (some .int), .constant RX6 297 (100000)] ++ wsX20 ++ (vx_atM "java/lang/ArrayIndexOutOfBoundsException" ["java/lang/IndexOutOfBoundsException", "java/lang/RuntimeException", "java/lang/Exception"]).filter goodWord)
def wsX2_latestOfUnit : List Cond := .code yX2_latestOfUnit cX2_latestOfUnit 3 (some .int) :: ([.fieldLink RX2 15 "SeedBattle$Index" "count" "I", .fieldLink RX2 9 "SeedBattle$Index" "numbers" "[I", .static yX6_unitOf, .initialized RX6, .code yX6_unitOf cX6_unitOf 1 (some .int)] ++ wsX20 ++ (vx_atM "java/lang/ArrayIndexOutOfBoundsException" ["java/lang/IndexOutOfBoundsException", "java/lang/RuntimeException", "java/lang/Exception"]).filter goodWord)
def wsJ0_isLatin1_aae02 : List Cond := .code yJ0_isLatin1_aae02 cJ0_isLatin1_aae02 1 (some .boolean) :: ([.fieldLink RJ0 38 "java/lang/String" "COMPACT_STRINGS" "Z", .fieldLink RJ0 15 "java/lang/String" "coder" "B"] ++ wsJ00)
def wsJ3_checkIndex_8e157 : List Cond := .code yJ3_checkIndex_8e157 cJ3_checkIndex_8e157 3 (some .int) :: ([])
def wsJ0_checkIndex_df160 : List Cond := .code yJ0_checkIndex_df160 cJ0_checkIndex_df160 2 none :: ([.fieldLink RJ0 1053 "jdk/internal/util/Preconditions" "SIOOBE_FORMATTER" "Ljava/util/function/BiFunction;", .methodLink RJ0 1059 yJ3_checkIndex_8e157, .static yJ3_checkIndex_8e157, .initialized RJ3, .code yJ3_checkIndex_8e157 cJ3_checkIndex_8e157 3 (some .int)])
def wsJ1_charAt_3b067 : List Cond := .code yJ1_charAt_3b067 cJ1_charAt_3b067 2 (some .char) :: ([.methodLink RJ1 9 yJ0_checkIndex_df160, .static yJ0_checkIndex_df160, .initialized RJ0, .code yJ0_checkIndex_df160 cJ0_checkIndex_df160 2 none, .fieldLink RJ0 1053 "jdk/internal/util/Preconditions" "SIOOBE_FORMATTER" "Ljava/util/function/BiFunction;", .methodLink RJ0 1059 yJ3_checkIndex_8e157, .static yJ3_checkIndex_8e157, .initialized RJ3, .code yJ3_checkIndex_8e157 cJ3_checkIndex_8e157 3 (some .int)])
def wsJ2_length_9d52b : List Cond := .code yJ2_length_9d52b cJ2_length_9d52b 1 (some .int) :: ([])
def wsJ2_checkIndex_2214a : List Cond := .code yJ2_checkIndex_2214a cJ2_checkIndex_2214a 2 none :: ([.methodLink RJ2 48 yJ2_length_9d52b, .static yJ2_length_9d52b, .initialized RJ2, .code yJ2_length_9d52b cJ2_length_9d52b 1 (some .int), .methodLink RJ2 414 yJ0_checkIndex_df160, .static yJ0_checkIndex_df160, .initialized RJ0, .code yJ0_checkIndex_df160 cJ0_checkIndex_df160 2 none, .fieldLink RJ0 1053 "jdk/internal/util/Preconditions" "SIOOBE_FORMATTER" "Ljava/util/function/BiFunction;", .methodLink RJ0 1059 yJ3_checkIndex_8e157, .static yJ3_checkIndex_8e157, .initialized RJ3, .code yJ3_checkIndex_8e157 cJ3_checkIndex_8e157 3 (some .int)])
def wsJ2_getChar_3b067 : List Cond := .code yJ2_getChar_3b067 cJ2_getChar_3b067 2 (some .char) :: ([.fieldLink RJ2 44 "java/lang/StringUTF16" "$assertionsDisabled" "Z", .fieldLink RJ2 59 "java/lang/StringUTF16" "HI_BYTE_SHIFT" "I", .fieldLink RJ2 63 "java/lang/StringUTF16" "LO_BYTE_SHIFT" "I", .methodLink RJ2 48 yJ2_length_9d52b, .static yJ2_length_9d52b, .initialized RJ2, .code yJ2_length_9d52b cJ2_length_9d52b 1 (some .int)])
def wsJ2_charAt_3b067 : List Cond := .code yJ2_charAt_3b067 cJ2_charAt_3b067 2 (some .char) :: ([.methodLink RJ2 67 yJ2_checkIndex_2214a, .static yJ2_checkIndex_2214a, .initialized RJ2, .code yJ2_checkIndex_2214a cJ2_checkIndex_2214a 2 none, .methodLink RJ2 48 yJ2_length_9d52b, .static yJ2_length_9d52b, .code yJ2_length_9d52b cJ2_length_9d52b 1 (some .int), .methodLink RJ2 414 yJ0_checkIndex_df160, .static yJ0_checkIndex_df160, .initialized RJ0, .code yJ0_checkIndex_df160 cJ0_checkIndex_df160 2 none, .fieldLink RJ0 1053 "jdk/internal/util/Preconditions" "SIOOBE_FORMATTER" "Ljava/util/function/BiFunction;", .methodLink RJ0 1059 yJ3_checkIndex_8e157, .static yJ3_checkIndex_8e157, .initialized RJ3, .code yJ3_checkIndex_8e157 cJ3_checkIndex_8e157 3 (some .int), .methodLink RJ2 71 yJ2_getChar_3b067, .static yJ2_getChar_3b067, .code yJ2_getChar_3b067 cJ2_getChar_3b067 2 (some .char), .fieldLink RJ2 44 "java/lang/StringUTF16" "$assertionsDisabled" "Z", .fieldLink RJ2 59 "java/lang/StringUTF16" "HI_BYTE_SHIFT" "I", .fieldLink RJ2 63 "java/lang/StringUTF16" "LO_BYTE_SHIFT" "I"])
def wsJ0_charAt_5068e_r1 : List Cond := [Cond.fieldLink RJ0 9 "java/lang/String" "value" "[B", Cond.methodLink RJ0 492 yJ0_isLatin1_aae02, Cond.instanceMethod yJ0_isLatin1_aae02, Cond.selects RJ0 yJ0_isLatin1_aae02 yJ0_isLatin1_aae02, Cond.initialized RJ0, Cond.code yJ0_isLatin1_aae02 cJ0_isLatin1_aae02 1 (some .boolean), Cond.fieldLink RJ0 38 "java/lang/String" "COMPACT_STRINGS" "Z", Cond.fieldLink RJ0 15 "java/lang/String" "coder" "B", Cond.methodLink RJ0 495 yJ1_charAt_3b067, Cond.static yJ1_charAt_3b067, Cond.initialized RJ1, Cond.code yJ1_charAt_3b067 cJ1_charAt_3b067 2 (some .char), Cond.methodLink RJ1 9 yJ0_checkIndex_df160, Cond.static yJ0_checkIndex_df160, Cond.code yJ0_checkIndex_df160 cJ0_checkIndex_df160 2 none, Cond.fieldLink RJ0 1053 "jdk/internal/util/Preconditions" "SIOOBE_FORMATTER" "Ljava/util/function/BiFunction;", Cond.methodLink RJ0 1059 yJ3_checkIndex_8e157, Cond.static yJ3_checkIndex_8e157, Cond.initialized RJ3, Cond.code yJ3_checkIndex_8e157 cJ3_checkIndex_8e157 3 (some .int), Cond.methodLink RJ0 498 yJ2_charAt_3b067, Cond.static yJ2_charAt_3b067, Cond.initialized RJ2, Cond.code yJ2_charAt_3b067 cJ2_charAt_3b067 2 (some .char)]
def wsJ0_charAt_5068e_r2 : List Cond := [Cond.methodLink RJ2 67 yJ2_checkIndex_2214a, Cond.static yJ2_checkIndex_2214a, Cond.code yJ2_checkIndex_2214a cJ2_checkIndex_2214a 2 none, Cond.methodLink RJ2 48 yJ2_length_9d52b, Cond.static yJ2_length_9d52b, Cond.code yJ2_length_9d52b cJ2_length_9d52b 1 (some .int), Cond.methodLink RJ2 414 yJ0_checkIndex_df160, Cond.methodLink RJ2 71 yJ2_getChar_3b067, Cond.static yJ2_getChar_3b067, Cond.code yJ2_getChar_3b067 cJ2_getChar_3b067 2 (some .char), Cond.fieldLink RJ2 44 "java/lang/StringUTF16" "$assertionsDisabled" "Z", Cond.fieldLink RJ2 59 "java/lang/StringUTF16" "HI_BYTE_SHIFT" "I", Cond.fieldLink RJ2 63 "java/lang/StringUTF16" "LO_BYTE_SHIFT" "I"]
def wsJ0_charAt_5068e : List Cond := .code yJ0_charAt_5068e cJ0_charAt_5068e 2 (some .char) :: ((wsJ0_charAt_5068e_r1 ++ wsJ0_charAt_5068e_r2) ++ wsJ00)
def wsX3_grow_r1 : List Cond := [Cond.constant RX3 15 (1103515245), Cond.fieldLink RX3 9 "SeedBattle$Land" "grounds" "[C", Cond.methodLink RX3 18 yJ0_charAt_5068e, Cond.instanceMethod yJ0_charAt_5068e, Cond.selects RJ0 yJ0_charAt_5068e yJ0_charAt_5068e, Cond.initialized RJ0, Cond.code yJ0_charAt_5068e cJ0_charAt_5068e 2 (some .char), Cond.fieldLink RJ0 9 "java/lang/String" "value" "[B", Cond.methodLink RJ0 492 yJ0_isLatin1_aae02, Cond.instanceMethod yJ0_isLatin1_aae02, Cond.selects RJ0 yJ0_isLatin1_aae02 yJ0_isLatin1_aae02, Cond.code yJ0_isLatin1_aae02 cJ0_isLatin1_aae02 1 (some .boolean), Cond.fieldLink RJ0 38 "java/lang/String" "COMPACT_STRINGS" "Z", Cond.fieldLink RJ0 15 "java/lang/String" "coder" "B", Cond.methodLink RJ0 495 yJ1_charAt_3b067, Cond.static yJ1_charAt_3b067, Cond.initialized RJ1, Cond.code yJ1_charAt_3b067 cJ1_charAt_3b067 2 (some .char), Cond.methodLink RJ1 9 yJ0_checkIndex_df160, Cond.static yJ0_checkIndex_df160, Cond.code yJ0_checkIndex_df160 cJ0_checkIndex_df160 2 none, Cond.fieldLink RJ0 1053 "jdk/internal/util/Preconditions" "SIOOBE_FORMATTER" "Ljava/util/function/BiFunction;", Cond.methodLink RJ0 1059 yJ3_checkIndex_8e157, Cond.static yJ3_checkIndex_8e157]
def wsX3_grow_r2 : List Cond := [Cond.initialized RJ3, Cond.code yJ3_checkIndex_8e157 cJ3_checkIndex_8e157 3 (some .int), Cond.methodLink RJ0 498 yJ2_charAt_3b067, Cond.static yJ2_charAt_3b067, Cond.initialized RJ2, Cond.code yJ2_charAt_3b067 cJ2_charAt_3b067 2 (some .char), Cond.methodLink RJ2 67 yJ2_checkIndex_2214a, Cond.static yJ2_checkIndex_2214a, Cond.code yJ2_checkIndex_2214a cJ2_checkIndex_2214a 2 none, Cond.methodLink RJ2 48 yJ2_length_9d52b, Cond.static yJ2_length_9d52b, Cond.code yJ2_length_9d52b cJ2_length_9d52b 1 (some .int), Cond.methodLink RJ2 414 yJ0_checkIndex_df160, Cond.methodLink RJ2 71 yJ2_getChar_3b067, Cond.static yJ2_getChar_3b067, Cond.code yJ2_getChar_3b067 cJ2_getChar_3b067 2 (some .char), Cond.fieldLink RJ2 44 "java/lang/StringUTF16" "$assertionsDisabled" "Z", Cond.fieldLink RJ2 59 "java/lang/StringUTF16" "HI_BYTE_SHIFT" "I", Cond.fieldLink RJ2 63 "java/lang/StringUTF16" "LO_BYTE_SHIFT" "I"]
def wsX3_grow : List Cond := .code yX3_grow cX3_grow 4 none :: ((wsX3_grow_r1 ++ wsX3_grow_r2) ++ wsX30 ++ wsJ00 ++ (vx_atM "java/lang/ArrayIndexOutOfBoundsException" ["java/lang/IndexOutOfBoundsException", "java/lang/RuntimeException", "java/lang/Exception"]).filter goodWord)
def wsX4_init : List Cond := .code yX4_init cX4_init 1 none :: ([.methodLink RX4 3 objectInit, .instanceMethod objectInit, .code objectInit ⟨#[0xb1]⟩ 1 none, .arrayClass .int, .fieldLink RX4 9 "SeedBattle$Orders" "directions" "[I", .fieldLink RX4 15 "SeedBattle$Orders" "given" "[I", .methodLink RX4 18 yJ7_fill_53178, .static yJ7_fill_53178, .initialized RJ7, .code yJ7_fill_53178 cJ7_fill_53178 4 none] ++ wsX40)
def wsX4_givenTo : List Cond := .code yX4_givenTo cX4_givenTo 2 (some .int) :: ([.fieldLink RX4 15 "SeedBattle$Orders" "given" "[I"] ++ wsX40 ++ (vx_atM "java/lang/ArrayIndexOutOfBoundsException" ["java/lang/IndexOutOfBoundsException", "java/lang/RuntimeException", "java/lang/Exception"]).filter goodWord)
def wsX4_give : List Cond := .code yX4_give cX4_give 5 (some .int) :: ([.fieldLink RX4 9 "SeedBattle$Orders" "directions" "[I", .fieldLink RX4 15 "SeedBattle$Orders" "given" "[I", .methodLink RX4 24 yX4_givenTo, .instanceMethod yX4_givenTo, .selects RX4 yX4_givenTo yX4_givenTo, .initialized RX4, .code yX4_givenTo cX4_givenTo 2 (some .int), .methodLink RX4 28 yX4_spotOf, .static yX4_spotOf, .code yX4_spotOf cX4_spotOf 4 (some .int)] ++ wsX40 ++ (vx_atM "java/lang/ArrayIndexOutOfBoundsException" ["java/lang/IndexOutOfBoundsException", "java/lang/RuntimeException", "java/lang/Exception"]).filter goodWord)
def wsX4_startTurn : List Cond := .code yX4_startTurn cX4_startTurn 1 none :: ([.fieldLink RX4 15 "SeedBattle$Orders" "given" "[I", .methodLink RX4 18 yJ7_fill_53178, .static yJ7_fill_53178, .initialized RJ7, .code yJ7_fill_53178 cJ7_fill_53178 4 none] ++ wsX40)
def wsX5_put : List Cond := .code yX5_put cX5_put 4 (some .int) :: ([.fieldLink RX5 24 "SeedBattle$Units" "count" "I", .fieldLink RX5 9 "SeedBattle$Units" "owners" "[I", .fieldLink RX5 15 "SeedBattle$Units" "kinds" "[I", .fieldLink RX5 18 "SeedBattle$Units" "starts" "[I", .fieldLink RX5 21 "SeedBattle$Units" "places" "[I"] ++ wsX50 ++ (vx_atM "java/lang/ArrayIndexOutOfBoundsException" ["java/lang/IndexOutOfBoundsException", "java/lang/RuntimeException", "java/lang/Exception"]).filter goodWord)
def wsX5_startLike : List Cond := .code yX5_startLike cX5_startLike 3 none :: ([.fieldLink RX5 24 "SeedBattle$Units" "count" "I", .fieldLink RX5 9 "SeedBattle$Units" "owners" "[I", .fieldLink RX5 15 "SeedBattle$Units" "kinds" "[I", .fieldLink RX5 18 "SeedBattle$Units" "starts" "[I", .methodLink RX5 28 yX5_put, .instanceMethod yX5_put, .selects RX5 yX5_put yX5_put, .initialized RX5, .code yX5_put cX5_put 4 (some .int), .fieldLink RX5 21 "SeedBattle$Units" "places" "[I"] ++ wsX50 ++ (vx_atM "java/lang/ArrayIndexOutOfBoundsException" ["java/lang/IndexOutOfBoundsException", "java/lang/RuntimeException", "java/lang/Exception"]).filter goodWord)
def wsX5_has : List Cond := .code yX5_has cX5_has 2 (some .boolean) :: ([.fieldLink RX5 24 "SeedBattle$Units" "count" "I"] ++ wsX50)
def wsX5_lives : List Cond := .code yX5_lives cX5_lives 2 (some .boolean) :: ([.methodLink RX5 32 yX5_place, .instanceMethod yX5_place, .selects RX5 yX5_place yX5_place, .initialized RX5, .code yX5_place cX5_place 2 (some .int), .fieldLink RX5 24 "SeedBattle$Units" "count" "I", .fieldLink RX5 21 "SeedBattle$Units" "places" "[I"] ++ wsX50 ++ (vx_atM "java/lang/ArrayIndexOutOfBoundsException" ["java/lang/IndexOutOfBoundsException", "java/lang/RuntimeException", "java/lang/Exception"]).filter goodWord)
def wsX5_steps : List Cond := .code yX5_steps cX5_steps 2 (some .int) :: ([.fieldLink RX5 24 "SeedBattle$Units" "count" "I", .fieldLink RX5 15 "SeedBattle$Units" "kinds" "[I"] ++ wsX50 ++ (vx_atM "java/lang/ArrayIndexOutOfBoundsException" ["java/lang/IndexOutOfBoundsException", "java/lang/RuntimeException", "java/lang/Exception"]).filter goodWord)
def wsX6_init_r1 : List Cond := [Cond.methodLink RX6 1 objectInit, Cond.instanceMethod objectInit, Cond.code objectInit ⟨#[0xb1]⟩ 1 none, Cond.classLink RX6 7 RX1, Cond.instantiable RX1 4, Cond.initialized RX1, Cond.fieldLink RX6 10 "SeedBattle" "field" "LSeedBattle$Field;", Cond.fieldLink RX6 16 "SeedBattle" "rehearsal" "LSeedBattle$Field;", Cond.classLink RX6 19 RX4, Cond.instantiable RX4 2, Cond.initialized RX4, Cond.fieldLink RX6 22 "SeedBattle" "orders" "LSeedBattle$Orders;", Cond.classLink RX6 26 RX2, Cond.fieldLink RX6 28 "SeedBattle" "indexes" "[LSeedBattle$Index;", Cond.classLink RX6 32 RX0, Cond.fieldLink RX6 34 "SeedBattle" "copies" "[LSeedBattle$Copy;", Cond.arrayClass .int, Cond.fieldLink RX6 38 "SeedBattle" "treaties" "[I", Cond.fieldLink RX6 42 "SeedBattle" "ownSights" "[I", Cond.instantiable RX2 2, Cond.initialized RX2, Cond.instantiable RX0 7, Cond.initialized RX0, Cond.instanceMethod yX1_init]
def wsX6_init_r2 : List Cond := [Cond.code yX1_init cX1_init 1 none, Cond.methodLink RX1 3 objectInit, Cond.classLink RX1 9 RX3, Cond.instantiable RX3 1, Cond.initialized RX3, Cond.fieldLink RX1 12 "SeedBattle$Field" "land" "LSeedBattle$Land;", Cond.classLink RX1 18 RX5, Cond.instantiable RX5 5, Cond.initialized RX5, Cond.fieldLink RX1 21 "SeedBattle$Field" "units" "LSeedBattle$Units;", Cond.fieldLink RX1 25 "SeedBattle$Field" "wants" "[I", Cond.fieldLink RX1 29 "SeedBattle$Field" "powers" "[I", Cond.instanceMethod yX3_init, Cond.code yX3_init cX3_init 1 none, Cond.methodLink RX3 3 objectInit, Cond.arrayClass .char, Cond.fieldLink RX3 9 "SeedBattle$Land" "grounds" "[C", Cond.instanceMethod yX5_init, Cond.code yX5_init cX5_init 1 none, Cond.methodLink RX5 3 objectInit, Cond.fieldLink RX5 9 "SeedBattle$Units" "owners" "[I", Cond.fieldLink RX5 15 "SeedBattle$Units" "kinds" "[I", Cond.fieldLink RX5 18 "SeedBattle$Units" "starts" "[I", Cond.fieldLink RX5 21 "SeedBattle$Units" "places" "[I"]
def wsX6_init_r3 : List Cond := [Cond.methodLink RX6 21 yX4_init, Cond.instanceMethod yX4_init, Cond.code yX4_init cX4_init 1 none, Cond.methodLink RX4 3 objectInit, Cond.fieldLink RX4 9 "SeedBattle$Orders" "directions" "[I", Cond.fieldLink RX4 15 "SeedBattle$Orders" "given" "[I", Cond.methodLink RX4 18 yJ7_fill_53178, Cond.static yJ7_fill_53178, Cond.initialized RJ7, Cond.code yJ7_fill_53178 cJ7_fill_53178 4 none, Cond.instanceMethod yX2_init, Cond.code yX2_init cX2_init 1 none, Cond.methodLink RX2 3 objectInit, Cond.fieldLink RX2 9 "SeedBattle$Index" "numbers" "[I", Cond.instanceMethod yX0_init, Cond.code yX0_init cX0_init 1 none, Cond.methodLink RX0 3 objectInit, Cond.fieldLink RX0 9 "SeedBattle$Copy" "numbers" "[I", Cond.fieldLink RX0 15 "SeedBattle$Copy" "parity" "[I", Cond.fieldLink RX0 18 "SeedBattle$Copy" "original" "[I", Cond.methodLink RX6 51 yX3_grow, Cond.instanceMethod yX3_grow, Cond.selects RX3 yX3_grow yX3_grow, Cond.code yX3_grow cX3_grow 4 none]
def wsX6_init_r4 : List Cond := [Cond.constant RX3 15 (1103515245), Cond.methodLink RX3 18 yJ0_charAt_5068e, Cond.instanceMethod yJ0_charAt_5068e, Cond.selects RJ0 yJ0_charAt_5068e yJ0_charAt_5068e, Cond.initialized RJ0, Cond.code yJ0_charAt_5068e cJ0_charAt_5068e 2 (some .char), Cond.fieldLink RJ0 9 "java/lang/String" "value" "[B", Cond.methodLink RJ0 492 yJ0_isLatin1_aae02, Cond.instanceMethod yJ0_isLatin1_aae02, Cond.selects RJ0 yJ0_isLatin1_aae02 yJ0_isLatin1_aae02, Cond.code yJ0_isLatin1_aae02 cJ0_isLatin1_aae02 1 (some .boolean), Cond.fieldLink RJ0 38 "java/lang/String" "COMPACT_STRINGS" "Z", Cond.fieldLink RJ0 15 "java/lang/String" "coder" "B", Cond.methodLink RJ0 495 yJ1_charAt_3b067, Cond.static yJ1_charAt_3b067, Cond.initialized RJ1, Cond.code yJ1_charAt_3b067 cJ1_charAt_3b067 2 (some .char), Cond.methodLink RJ1 9 yJ0_checkIndex_df160, Cond.static yJ0_checkIndex_df160, Cond.code yJ0_checkIndex_df160 cJ0_checkIndex_df160 2 none, Cond.fieldLink RJ0 1053 "jdk/internal/util/Preconditions" "SIOOBE_FORMATTER" "Ljava/util/function/BiFunction;", Cond.methodLink RJ0 1059 yJ3_checkIndex_8e157, Cond.static yJ3_checkIndex_8e157, Cond.initialized RJ3]
def wsX6_init_r5 : List Cond := [Cond.code yJ3_checkIndex_8e157 cJ3_checkIndex_8e157 3 (some .int), Cond.methodLink RJ0 498 yJ2_charAt_3b067, Cond.static yJ2_charAt_3b067, Cond.initialized RJ2, Cond.code yJ2_charAt_3b067 cJ2_charAt_3b067 2 (some .char), Cond.methodLink RJ2 67 yJ2_checkIndex_2214a, Cond.static yJ2_checkIndex_2214a, Cond.code yJ2_checkIndex_2214a cJ2_checkIndex_2214a 2 none, Cond.methodLink RJ2 48 yJ2_length_9d52b, Cond.static yJ2_length_9d52b, Cond.code yJ2_length_9d52b cJ2_length_9d52b 1 (some .int), Cond.methodLink RJ2 414 yJ0_checkIndex_df160, Cond.methodLink RJ2 71 yJ2_getChar_3b067, Cond.static yJ2_getChar_3b067, Cond.code yJ2_getChar_3b067 cJ2_getChar_3b067 2 (some .char), Cond.fieldLink RJ2 44 "java/lang/StringUTF16" "$assertionsDisabled" "Z", Cond.fieldLink RJ2 59 "java/lang/StringUTF16" "HI_BYTE_SHIFT" "I", Cond.fieldLink RJ2 63 "java/lang/StringUTF16" "LO_BYTE_SHIFT" "I"]
def wsX6_init : List Cond := .code yX6_init cX6_init 2 none :: ((wsX6_init_r1 ++ (wsX6_init_r2 ++ (wsX6_init_r3 ++ (wsX6_init_r4 ++ wsX6_init_r5)))) ++ wsX10 ++ wsX60 ++ wsX40 ++ wsX20 ++ wsX00 ++ wsX30 ++ wsX50 ++ wsJ00 ++ (vx_atM "java/lang/ArrayIndexOutOfBoundsException" ["java/lang/IndexOutOfBoundsException", "java/lang/RuntimeException", "java/lang/Exception"]).filter goodWord)
def wsX6_setSeed_r1 : List Cond := [Cond.classLink RX6 67 "java/lang/IllegalStateException", Cond.initialized "java/lang/IllegalStateException", Cond.fieldLink RX6 10 "SeedBattle" "field" "LSeedBattle$Field;", Cond.fieldLink RX6 74 "SeedBattle" "seedNow" "I", Cond.methodLink RX6 51 yX3_grow, Cond.instanceMethod yX3_grow, Cond.selects RX3 yX3_grow yX3_grow, Cond.initialized RX3, Cond.code yX3_grow cX3_grow 4 none, Cond.constant RX3 15 (1103515245), Cond.fieldLink RX3 9 "SeedBattle$Land" "grounds" "[C", Cond.methodLink RX3 18 yJ0_charAt_5068e, Cond.instanceMethod yJ0_charAt_5068e, Cond.selects RJ0 yJ0_charAt_5068e yJ0_charAt_5068e, Cond.initialized RJ0, Cond.code yJ0_charAt_5068e cJ0_charAt_5068e 2 (some .char), Cond.fieldLink RJ0 9 "java/lang/String" "value" "[B", Cond.methodLink RJ0 492 yJ0_isLatin1_aae02, Cond.instanceMethod yJ0_isLatin1_aae02, Cond.selects RJ0 yJ0_isLatin1_aae02 yJ0_isLatin1_aae02, Cond.code yJ0_isLatin1_aae02 cJ0_isLatin1_aae02 1 (some .boolean), Cond.fieldLink RJ0 38 "java/lang/String" "COMPACT_STRINGS" "Z", Cond.fieldLink RJ0 15 "java/lang/String" "coder" "B", Cond.methodLink RJ0 495 yJ1_charAt_3b067]
def wsX6_setSeed_r2 : List Cond := [Cond.static yJ1_charAt_3b067, Cond.initialized RJ1, Cond.code yJ1_charAt_3b067 cJ1_charAt_3b067 2 (some .char), Cond.methodLink RJ1 9 yJ0_checkIndex_df160, Cond.static yJ0_checkIndex_df160, Cond.code yJ0_checkIndex_df160 cJ0_checkIndex_df160 2 none, Cond.fieldLink RJ0 1053 "jdk/internal/util/Preconditions" "SIOOBE_FORMATTER" "Ljava/util/function/BiFunction;", Cond.methodLink RJ0 1059 yJ3_checkIndex_8e157, Cond.static yJ3_checkIndex_8e157, Cond.initialized RJ3, Cond.code yJ3_checkIndex_8e157 cJ3_checkIndex_8e157 3 (some .int), Cond.methodLink RJ0 498 yJ2_charAt_3b067, Cond.static yJ2_charAt_3b067, Cond.initialized RJ2, Cond.code yJ2_charAt_3b067 cJ2_charAt_3b067 2 (some .char), Cond.methodLink RJ2 67 yJ2_checkIndex_2214a, Cond.static yJ2_checkIndex_2214a, Cond.code yJ2_checkIndex_2214a cJ2_checkIndex_2214a 2 none, Cond.methodLink RJ2 48 yJ2_length_9d52b, Cond.static yJ2_length_9d52b, Cond.code yJ2_length_9d52b cJ2_length_9d52b 1 (some .int), Cond.methodLink RJ2 414 yJ0_checkIndex_df160, Cond.methodLink RJ2 71 yJ2_getChar_3b067, Cond.static yJ2_getChar_3b067]
def wsX6_setSeed_r3 : List Cond := [Cond.code yJ2_getChar_3b067 cJ2_getChar_3b067 2 (some .char), Cond.fieldLink RJ2 44 "java/lang/StringUTF16" "$assertionsDisabled" "Z", Cond.fieldLink RJ2 59 "java/lang/StringUTF16" "HI_BYTE_SHIFT" "I", Cond.fieldLink RJ2 63 "java/lang/StringUTF16" "LO_BYTE_SHIFT" "I"]
def wsX6_setSeed : List Cond := .code yX6_setSeed cX6_setSeed 3 (some .int) :: ((wsX6_setSeed_r1 ++ (wsX6_setSeed_r2 ++ wsX6_setSeed_r3)) ++ wsX60 ++ wsX10 ++ wsX50 ++ wsX30 ++ wsJ00 ++ (vx_atS RX6 71 "java/lang/IllegalStateException" ["java/lang/RuntimeException", "java/lang/Exception"]).filter goodWord ++ (vx_atM "java/lang/ArrayIndexOutOfBoundsException" ["java/lang/IndexOutOfBoundsException", "java/lang/RuntimeException", "java/lang/Exception"]).filter goodWord)
def wsX6_requireCell : List Cond := .code yX6_requireCell cX6_requireCell 1 none :: ([.classLink RX6 171 "java/lang/IndexOutOfBoundsException", .initialized "java/lang/IndexOutOfBoundsException", .methodLink RX6 285 yX6_isCell, .static yX6_isCell, .initialized RX6, .code yX6_isCell cX6_isCell 1 (some .boolean)] ++ (vx_atS RX6 175 "java/lang/IndexOutOfBoundsException" ["java/lang/RuntimeException", "java/lang/Exception"]).filter goodWord)
def wsX6_ground : List Cond := .code yX6_ground cX6_ground 2 (some .char) :: ([.fieldLink RX6 10 "SeedBattle" "field" "LSeedBattle$Field;", .methodLink RX6 77 yX6_requireCell, .static yX6_requireCell, .initialized RX6, .code yX6_requireCell cX6_requireCell 1 none, .classLink RX6 171 "java/lang/IndexOutOfBoundsException", .initialized "java/lang/IndexOutOfBoundsException", .methodLink RX6 285 yX6_isCell, .static yX6_isCell, .code yX6_isCell cX6_isCell 1 (some .boolean), .methodLink RX6 80 yX3_at, .instanceMethod yX3_at, .selects RX3 yX3_at yX3_at, .initialized RX3, .code yX3_at cX3_at 2 (some .char), .fieldLink RX3 9 "SeedBattle$Land" "grounds" "[C"] ++ wsX60 ++ wsX10 ++ wsX30 ++ (vx_atS RX6 175 "java/lang/IndexOutOfBoundsException" ["java/lang/RuntimeException", "java/lang/Exception"]).filter goodWord ++ (vx_atM "java/lang/ArrayIndexOutOfBoundsException" ["java/lang/IndexOutOfBoundsException", "java/lang/RuntimeException", "java/lang/Exception"]).filter goodWord)
def wsX6_requirePlayer : List Cond := .code yX6_requirePlayer cX6_requirePlayer 1 none :: ([.classLink RX6 171 "java/lang/IndexOutOfBoundsException", .initialized "java/lang/IndexOutOfBoundsException"] ++ (vx_atS RX6 175 "java/lang/IndexOutOfBoundsException" ["java/lang/RuntimeException", "java/lang/Exception"]).filter goodWord)
def wsJ0_coder_7d493 : List Cond := .code yJ0_coder_7d493 cJ0_coder_7d493 1 (some .byte) :: ([.fieldLink RJ0 38 "java/lang/String" "COMPACT_STRINGS" "Z", .fieldLink RJ0 15 "java/lang/String" "coder" "B"] ++ wsJ00)
def wsJ0_length_8abf5 : List Cond := .code yJ0_length_8abf5 cJ0_length_8abf5 1 (some .int) :: ([.fieldLink RJ0 9 "java/lang/String" "value" "[B", .methodLink RJ0 335 yJ0_coder_7d493, .instanceMethod yJ0_coder_7d493, .selects RJ0 yJ0_coder_7d493 yJ0_coder_7d493, .initialized RJ0, .code yJ0_coder_7d493 cJ0_coder_7d493 1 (some .byte), .fieldLink RJ0 38 "java/lang/String" "COMPACT_STRINGS" "Z", .fieldLink RJ0 15 "java/lang/String" "coder" "B"] ++ wsJ00)
def wsJ1_canEncode_9a6ad : List Cond := .code yJ1_canEncode_9a6ad cJ1_canEncode_9a6ad 1 (some .boolean) :: ([])
def wsJ1_indexOfChar_4cfef : List Cond := .code yJ1_indexOfChar_4cfef cJ1_indexOfChar_4cfef 6 (some .int) :: ([])
def wsJ1_indexOf_4cfef : List Cond := .code yJ1_indexOf_4cfef cJ1_indexOf_4cfef 4 (some .int) :: ([.methodLink RJ1 92 Lib.Math.max.name, .static Lib.Math.max.name, .initialized "java/lang/Math", .code Lib.Math.max.name Lib.Math.max.code 2 (some .int), .methodLink RJ1 38 Lib.Math.min.name, .static Lib.Math.min.name, .code Lib.Math.min.name Lib.Math.min.code 2 (some .int), .methodLink RJ1 88 yJ1_canEncode_9a6ad, .static yJ1_canEncode_9a6ad, .initialized RJ1, .code yJ1_canEncode_9a6ad cJ1_canEncode_9a6ad 1 (some .boolean), .methodLink RJ1 95 yJ1_indexOfChar_4cfef, .static yJ1_indexOfChar_4cfef, .code yJ1_indexOfChar_4cfef cJ1_indexOfChar_4cfef 6 (some .int)])
def wsJ3_checkFromToIndex_8c36e : List Cond := .code yJ3_checkFromToIndex_8c36e cJ3_checkFromToIndex_8c36e 4 (some .int) :: ([])
def wsJ0_checkBoundsBeginEnd_23922 : List Cond := .code yJ0_checkBoundsBeginEnd_23922 cJ0_checkBoundsBeginEnd_23922 3 none :: ([.fieldLink RJ0 1053 "jdk/internal/util/Preconditions" "SIOOBE_FORMATTER" "Ljava/util/function/BiFunction;", .methodLink RJ0 1062 yJ3_checkFromToIndex_8c36e, .static yJ3_checkFromToIndex_8c36e, .initialized RJ3, .code yJ3_checkFromToIndex_8c36e cJ3_checkFromToIndex_8c36e 4 (some .int)])
def wsJ2_checkBoundsBeginEnd_d044e : List Cond := .code yJ2_checkBoundsBeginEnd_d044e cJ2_checkBoundsBeginEnd_d044e 3 none :: ([.methodLink RJ2 48 yJ2_length_9d52b, .static yJ2_length_9d52b, .initialized RJ2, .code yJ2_length_9d52b cJ2_length_9d52b 1 (some .int), .methodLink RJ2 241 yJ0_checkBoundsBeginEnd_23922, .static yJ0_checkBoundsBeginEnd_23922, .initialized RJ0, .code yJ0_checkBoundsBeginEnd_23922 cJ0_checkBoundsBeginEnd_23922 3 none, .fieldLink RJ0 1053 "jdk/internal/util/Preconditions" "SIOOBE_FORMATTER" "Ljava/util/function/BiFunction;", .methodLink RJ0 1062 yJ3_checkFromToIndex_8c36e, .static yJ3_checkFromToIndex_8c36e, .initialized RJ3, .code yJ3_checkFromToIndex_8c36e cJ3_checkFromToIndex_8c36e 4 (some .int)])
def wsJ2_indexOfCharUnsafe_4cfef : List Cond := .code yJ2_indexOfCharUnsafe_4cfef cJ2_indexOfCharUnsafe_4cfef 5 (some .int) :: ([.methodLink RJ2 71 yJ2_getChar_3b067, .static yJ2_getChar_3b067, .initialized RJ2, .code yJ2_getChar_3b067 cJ2_getChar_3b067 2 (some .char), .fieldLink RJ2 44 "java/lang/StringUTF16" "$assertionsDisabled" "Z", .fieldLink RJ2 59 "java/lang/StringUTF16" "HI_BYTE_SHIFT" "I", .fieldLink RJ2 63 "java/lang/StringUTF16" "LO_BYTE_SHIFT" "I", .methodLink RJ2 48 yJ2_length_9d52b, .static yJ2_length_9d52b, .code yJ2_length_9d52b cJ2_length_9d52b 1 (some .int)])
def wsJ2_indexOfChar_4cfef_r1 : List Cond := [Cond.methodLink RJ2 96 yJ2_checkBoundsBeginEnd_d044e, Cond.static yJ2_checkBoundsBeginEnd_d044e, Cond.initialized RJ2, Cond.code yJ2_checkBoundsBeginEnd_d044e cJ2_checkBoundsBeginEnd_d044e 3 none, Cond.methodLink RJ2 48 yJ2_length_9d52b, Cond.static yJ2_length_9d52b, Cond.code yJ2_length_9d52b cJ2_length_9d52b 1 (some .int), Cond.methodLink RJ2 241 yJ0_checkBoundsBeginEnd_23922, Cond.static yJ0_checkBoundsBeginEnd_23922, Cond.initialized RJ0, Cond.code yJ0_checkBoundsBeginEnd_23922 cJ0_checkBoundsBeginEnd_23922 3 none, Cond.fieldLink RJ0 1053 "jdk/internal/util/Preconditions" "SIOOBE_FORMATTER" "Ljava/util/function/BiFunction;", Cond.methodLink RJ0 1062 yJ3_checkFromToIndex_8c36e, Cond.static yJ3_checkFromToIndex_8c36e, Cond.initialized RJ3, Cond.code yJ3_checkFromToIndex_8c36e cJ3_checkFromToIndex_8c36e 4 (some .int), Cond.methodLink RJ2 244 yJ2_indexOfCharUnsafe_4cfef, Cond.static yJ2_indexOfCharUnsafe_4cfef, Cond.code yJ2_indexOfCharUnsafe_4cfef cJ2_indexOfCharUnsafe_4cfef 5 (some .int), Cond.methodLink RJ2 71 yJ2_getChar_3b067, Cond.static yJ2_getChar_3b067, Cond.code yJ2_getChar_3b067 cJ2_getChar_3b067 2 (some .char), Cond.fieldLink RJ2 44 "java/lang/StringUTF16" "$assertionsDisabled" "Z", Cond.fieldLink RJ2 59 "java/lang/StringUTF16" "HI_BYTE_SHIFT" "I"]
def wsJ2_indexOfChar_4cfef_r2 : List Cond := [Cond.fieldLink RJ2 63 "java/lang/StringUTF16" "LO_BYTE_SHIFT" "I"]
def wsJ2_indexOfChar_4cfef : List Cond := .code yJ2_indexOfChar_4cfef cJ2_indexOfChar_4cfef 4 (some .int) :: ((wsJ2_indexOfChar_4cfef_r1 ++ wsJ2_indexOfChar_4cfef_r2))
def wsJ11_isValidCodePoint_9a6ad : List Cond := .code yJ11_isValidCodePoint_9a6ad cJ11_isValidCodePoint_9a6ad 2 (some .boolean) :: ([])
def wsJ11_highSurrogate_5068e : List Cond := .code yJ11_highSurrogate_5068e cJ11_highSurrogate_5068e 1 (some .char) :: ([.constant RJ11 110 (55232)])
def wsJ11_lowSurrogate_5068e : List Cond := .code yJ11_lowSurrogate_5068e cJ11_lowSurrogate_5068e 1 (some .char) :: ([.constant RJ11 76 (56320)])
def wsJ2_indexOfSupplementary_4cfef_r1 : List Cond := [Cond.methodLink RJ2 164 yJ11_isValidCodePoint_9a6ad, Cond.static yJ11_isValidCodePoint_9a6ad, Cond.initialized RJ11, Cond.code yJ11_isValidCodePoint_9a6ad cJ11_isValidCodePoint_9a6ad 2 (some .boolean), Cond.methodLink RJ2 157 yJ11_highSurrogate_5068e, Cond.static yJ11_highSurrogate_5068e, Cond.code yJ11_highSurrogate_5068e cJ11_highSurrogate_5068e 1 (some .char), Cond.constant RJ11 110 (55232), Cond.methodLink RJ2 161 yJ11_lowSurrogate_5068e, Cond.static yJ11_lowSurrogate_5068e, Cond.code yJ11_lowSurrogate_5068e cJ11_lowSurrogate_5068e 1 (some .char), Cond.constant RJ11 76 (56320), Cond.methodLink RJ2 96 yJ2_checkBoundsBeginEnd_d044e, Cond.static yJ2_checkBoundsBeginEnd_d044e, Cond.initialized RJ2, Cond.code yJ2_checkBoundsBeginEnd_d044e cJ2_checkBoundsBeginEnd_d044e 3 none, Cond.methodLink RJ2 48 yJ2_length_9d52b, Cond.static yJ2_length_9d52b, Cond.code yJ2_length_9d52b cJ2_length_9d52b 1 (some .int), Cond.methodLink RJ2 241 yJ0_checkBoundsBeginEnd_23922, Cond.static yJ0_checkBoundsBeginEnd_23922, Cond.initialized RJ0, Cond.code yJ0_checkBoundsBeginEnd_23922 cJ0_checkBoundsBeginEnd_23922 3 none, Cond.fieldLink RJ0 1053 "jdk/internal/util/Preconditions" "SIOOBE_FORMATTER" "Ljava/util/function/BiFunction;"]
def wsJ2_indexOfSupplementary_4cfef_r2 : List Cond := [Cond.methodLink RJ0 1062 yJ3_checkFromToIndex_8c36e, Cond.static yJ3_checkFromToIndex_8c36e, Cond.initialized RJ3, Cond.code yJ3_checkFromToIndex_8c36e cJ3_checkFromToIndex_8c36e 4 (some .int), Cond.methodLink RJ2 71 yJ2_getChar_3b067, Cond.static yJ2_getChar_3b067, Cond.code yJ2_getChar_3b067 cJ2_getChar_3b067 2 (some .char), Cond.fieldLink RJ2 44 "java/lang/StringUTF16" "$assertionsDisabled" "Z", Cond.fieldLink RJ2 59 "java/lang/StringUTF16" "HI_BYTE_SHIFT" "I", Cond.fieldLink RJ2 63 "java/lang/StringUTF16" "LO_BYTE_SHIFT" "I"]
def wsJ2_indexOfSupplementary_4cfef : List Cond := .code yJ2_indexOfSupplementary_4cfef cJ2_indexOfSupplementary_4cfef 7 (some .int) :: ((wsJ2_indexOfSupplementary_4cfef_r1 ++ wsJ2_indexOfSupplementary_4cfef_r2))
def wsJ2_indexOf_4cfef_r1 : List Cond := [Cond.methodLink RJ2 224 Lib.Math.max.name, Cond.static Lib.Math.max.name, Cond.initialized "java/lang/Math", Cond.code Lib.Math.max.name Lib.Math.max.code 2 (some .int), Cond.methodLink RJ2 183 Lib.Math.min.name, Cond.static Lib.Math.min.name, Cond.code Lib.Math.min.name Lib.Math.min.code 2 (some .int), Cond.constant RJ2 227 (65536), Cond.methodLink RJ2 228 yJ2_indexOfChar_4cfef, Cond.static yJ2_indexOfChar_4cfef, Cond.initialized RJ2, Cond.code yJ2_indexOfChar_4cfef cJ2_indexOfChar_4cfef 4 (some .int), Cond.methodLink RJ2 96 yJ2_checkBoundsBeginEnd_d044e, Cond.static yJ2_checkBoundsBeginEnd_d044e, Cond.code yJ2_checkBoundsBeginEnd_d044e cJ2_checkBoundsBeginEnd_d044e 3 none, Cond.methodLink RJ2 48 yJ2_length_9d52b, Cond.static yJ2_length_9d52b, Cond.code yJ2_length_9d52b cJ2_length_9d52b 1 (some .int), Cond.methodLink RJ2 241 yJ0_checkBoundsBeginEnd_23922, Cond.static yJ0_checkBoundsBeginEnd_23922, Cond.initialized RJ0, Cond.code yJ0_checkBoundsBeginEnd_23922 cJ0_checkBoundsBeginEnd_23922 3 none, Cond.fieldLink RJ0 1053 "jdk/internal/util/Preconditions" "SIOOBE_FORMATTER" "Ljava/util/function/BiFunction;", Cond.methodLink RJ0 1062 yJ3_checkFromToIndex_8c36e]
def wsJ2_indexOf_4cfef_r2 : List Cond := [Cond.static yJ3_checkFromToIndex_8c36e, Cond.initialized RJ3, Cond.code yJ3_checkFromToIndex_8c36e cJ3_checkFromToIndex_8c36e 4 (some .int), Cond.methodLink RJ2 244 yJ2_indexOfCharUnsafe_4cfef, Cond.static yJ2_indexOfCharUnsafe_4cfef, Cond.code yJ2_indexOfCharUnsafe_4cfef cJ2_indexOfCharUnsafe_4cfef 5 (some .int), Cond.methodLink RJ2 71 yJ2_getChar_3b067, Cond.static yJ2_getChar_3b067, Cond.code yJ2_getChar_3b067 cJ2_getChar_3b067 2 (some .char), Cond.fieldLink RJ2 44 "java/lang/StringUTF16" "$assertionsDisabled" "Z", Cond.fieldLink RJ2 59 "java/lang/StringUTF16" "HI_BYTE_SHIFT" "I", Cond.fieldLink RJ2 63 "java/lang/StringUTF16" "LO_BYTE_SHIFT" "I", Cond.methodLink RJ2 232 yJ2_indexOfSupplementary_4cfef, Cond.static yJ2_indexOfSupplementary_4cfef, Cond.code yJ2_indexOfSupplementary_4cfef cJ2_indexOfSupplementary_4cfef 7 (some .int), Cond.methodLink RJ2 164 yJ11_isValidCodePoint_9a6ad, Cond.static yJ11_isValidCodePoint_9a6ad, Cond.initialized RJ11, Cond.code yJ11_isValidCodePoint_9a6ad cJ11_isValidCodePoint_9a6ad 2 (some .boolean), Cond.methodLink RJ2 157 yJ11_highSurrogate_5068e, Cond.static yJ11_highSurrogate_5068e, Cond.code yJ11_highSurrogate_5068e cJ11_highSurrogate_5068e 1 (some .char), Cond.constant RJ11 110 (55232), Cond.methodLink RJ2 161 yJ11_lowSurrogate_5068e]
def wsJ2_indexOf_4cfef_r3 : List Cond := [Cond.static yJ11_lowSurrogate_5068e, Cond.code yJ11_lowSurrogate_5068e cJ11_lowSurrogate_5068e 1 (some .char), Cond.constant RJ11 76 (56320)]
def wsJ2_indexOf_4cfef : List Cond := .code yJ2_indexOf_4cfef cJ2_indexOf_4cfef 4 (some .int) :: ((wsJ2_indexOf_4cfef_r1 ++ (wsJ2_indexOf_4cfef_r2 ++ wsJ2_indexOf_4cfef_r3)))
def wsJ0_indexOf_7cf53_r1 : List Cond := [Cond.fieldLink RJ0 9 "java/lang/String" "value" "[B", Cond.methodLink RJ0 492 yJ0_isLatin1_aae02, Cond.instanceMethod yJ0_isLatin1_aae02, Cond.selects RJ0 yJ0_isLatin1_aae02 yJ0_isLatin1_aae02, Cond.initialized RJ0, Cond.code yJ0_isLatin1_aae02 cJ0_isLatin1_aae02 1 (some .boolean), Cond.fieldLink RJ0 38 "java/lang/String" "COMPACT_STRINGS" "Z", Cond.fieldLink RJ0 15 "java/lang/String" "coder" "B", Cond.methodLink RJ0 505 yJ0_length_8abf5, Cond.instanceMethod yJ0_length_8abf5, Cond.selects RJ0 yJ0_length_8abf5 yJ0_length_8abf5, Cond.code yJ0_length_8abf5 cJ0_length_8abf5 1 (some .int), Cond.methodLink RJ0 335 yJ0_coder_7d493, Cond.instanceMethod yJ0_coder_7d493, Cond.selects RJ0 yJ0_coder_7d493 yJ0_coder_7d493, Cond.code yJ0_coder_7d493 cJ0_coder_7d493 1 (some .byte), Cond.methodLink RJ0 637 yJ1_indexOf_4cfef, Cond.static yJ1_indexOf_4cfef, Cond.initialized RJ1, Cond.code yJ1_indexOf_4cfef cJ1_indexOf_4cfef 4 (some .int), Cond.methodLink RJ1 92 Lib.Math.max.name, Cond.static Lib.Math.max.name, Cond.initialized "java/lang/Math", Cond.code Lib.Math.max.name Lib.Math.max.code 2 (some .int)]
def wsJ0_indexOf_7cf53_r2 : List Cond := [Cond.methodLink RJ1 38 Lib.Math.min.name, Cond.static Lib.Math.min.name, Cond.code Lib.Math.min.name Lib.Math.min.code 2 (some .int), Cond.methodLink RJ1 88 yJ1_canEncode_9a6ad, Cond.static yJ1_canEncode_9a6ad, Cond.code yJ1_canEncode_9a6ad cJ1_canEncode_9a6ad 1 (some .boolean), Cond.methodLink RJ1 95 yJ1_indexOfChar_4cfef, Cond.static yJ1_indexOfChar_4cfef, Cond.code yJ1_indexOfChar_4cfef cJ1_indexOfChar_4cfef 6 (some .int), Cond.methodLink RJ0 640 yJ2_indexOf_4cfef, Cond.static yJ2_indexOf_4cfef, Cond.initialized RJ2, Cond.code yJ2_indexOf_4cfef cJ2_indexOf_4cfef 4 (some .int), Cond.methodLink RJ2 224 Lib.Math.max.name, Cond.methodLink RJ2 183 Lib.Math.min.name, Cond.constant RJ2 227 (65536), Cond.methodLink RJ2 228 yJ2_indexOfChar_4cfef, Cond.static yJ2_indexOfChar_4cfef, Cond.code yJ2_indexOfChar_4cfef cJ2_indexOfChar_4cfef 4 (some .int), Cond.methodLink RJ2 96 yJ2_checkBoundsBeginEnd_d044e, Cond.static yJ2_checkBoundsBeginEnd_d044e, Cond.code yJ2_checkBoundsBeginEnd_d044e cJ2_checkBoundsBeginEnd_d044e 3 none, Cond.methodLink RJ2 48 yJ2_length_9d52b, Cond.static yJ2_length_9d52b]
def wsJ0_indexOf_7cf53_r3 : List Cond := [Cond.code yJ2_length_9d52b cJ2_length_9d52b 1 (some .int), Cond.methodLink RJ2 241 yJ0_checkBoundsBeginEnd_23922, Cond.static yJ0_checkBoundsBeginEnd_23922, Cond.code yJ0_checkBoundsBeginEnd_23922 cJ0_checkBoundsBeginEnd_23922 3 none, Cond.fieldLink RJ0 1053 "jdk/internal/util/Preconditions" "SIOOBE_FORMATTER" "Ljava/util/function/BiFunction;", Cond.methodLink RJ0 1062 yJ3_checkFromToIndex_8c36e, Cond.static yJ3_checkFromToIndex_8c36e, Cond.initialized RJ3, Cond.code yJ3_checkFromToIndex_8c36e cJ3_checkFromToIndex_8c36e 4 (some .int), Cond.methodLink RJ2 244 yJ2_indexOfCharUnsafe_4cfef, Cond.static yJ2_indexOfCharUnsafe_4cfef, Cond.code yJ2_indexOfCharUnsafe_4cfef cJ2_indexOfCharUnsafe_4cfef 5 (some .int), Cond.methodLink RJ2 71 yJ2_getChar_3b067, Cond.static yJ2_getChar_3b067, Cond.code yJ2_getChar_3b067 cJ2_getChar_3b067 2 (some .char), Cond.fieldLink RJ2 44 "java/lang/StringUTF16" "$assertionsDisabled" "Z", Cond.fieldLink RJ2 59 "java/lang/StringUTF16" "HI_BYTE_SHIFT" "I", Cond.fieldLink RJ2 63 "java/lang/StringUTF16" "LO_BYTE_SHIFT" "I", Cond.methodLink RJ2 232 yJ2_indexOfSupplementary_4cfef, Cond.static yJ2_indexOfSupplementary_4cfef, Cond.code yJ2_indexOfSupplementary_4cfef cJ2_indexOfSupplementary_4cfef 7 (some .int), Cond.methodLink RJ2 164 yJ11_isValidCodePoint_9a6ad, Cond.static yJ11_isValidCodePoint_9a6ad, Cond.initialized RJ11]
def wsJ0_indexOf_7cf53_r4 : List Cond := [Cond.code yJ11_isValidCodePoint_9a6ad cJ11_isValidCodePoint_9a6ad 2 (some .boolean), Cond.methodLink RJ2 157 yJ11_highSurrogate_5068e, Cond.static yJ11_highSurrogate_5068e, Cond.code yJ11_highSurrogate_5068e cJ11_highSurrogate_5068e 1 (some .char), Cond.constant RJ11 110 (55232), Cond.methodLink RJ2 161 yJ11_lowSurrogate_5068e, Cond.static yJ11_lowSurrogate_5068e, Cond.code yJ11_lowSurrogate_5068e cJ11_lowSurrogate_5068e 1 (some .char), Cond.constant RJ11 76 (56320)]
def wsJ0_indexOf_7cf53 : List Cond := .code yJ0_indexOf_7cf53 cJ0_indexOf_7cf53 3 (some .int) :: ((wsJ0_indexOf_7cf53_r1 ++ (wsJ0_indexOf_7cf53_r2 ++ (wsJ0_indexOf_7cf53_r3 ++ wsJ0_indexOf_7cf53_r4))) ++ wsJ00)
def wsJ0_indexOf_0f7a4_r1 : List Cond := [Cond.methodLink RJ0 633 yJ0_indexOf_7cf53, Cond.instanceMethod yJ0_indexOf_7cf53, Cond.selects RJ0 yJ0_indexOf_7cf53 yJ0_indexOf_7cf53, Cond.initialized RJ0, Cond.code yJ0_indexOf_7cf53 cJ0_indexOf_7cf53 3 (some .int), Cond.fieldLink RJ0 9 "java/lang/String" "value" "[B", Cond.methodLink RJ0 492 yJ0_isLatin1_aae02, Cond.instanceMethod yJ0_isLatin1_aae02, Cond.selects RJ0 yJ0_isLatin1_aae02 yJ0_isLatin1_aae02, Cond.code yJ0_isLatin1_aae02 cJ0_isLatin1_aae02 1 (some .boolean), Cond.fieldLink RJ0 38 "java/lang/String" "COMPACT_STRINGS" "Z", Cond.fieldLink RJ0 15 "java/lang/String" "coder" "B", Cond.methodLink RJ0 505 yJ0_length_8abf5, Cond.instanceMethod yJ0_length_8abf5, Cond.selects RJ0 yJ0_length_8abf5 yJ0_length_8abf5, Cond.code yJ0_length_8abf5 cJ0_length_8abf5 1 (some .int), Cond.methodLink RJ0 335 yJ0_coder_7d493, Cond.instanceMethod yJ0_coder_7d493, Cond.selects RJ0 yJ0_coder_7d493 yJ0_coder_7d493, Cond.code yJ0_coder_7d493 cJ0_coder_7d493 1 (some .byte), Cond.methodLink RJ0 637 yJ1_indexOf_4cfef, Cond.static yJ1_indexOf_4cfef, Cond.initialized RJ1, Cond.code yJ1_indexOf_4cfef cJ1_indexOf_4cfef 4 (some .int)]
def wsJ0_indexOf_0f7a4_r2 : List Cond := [Cond.methodLink RJ1 92 Lib.Math.max.name, Cond.static Lib.Math.max.name, Cond.initialized "java/lang/Math", Cond.code Lib.Math.max.name Lib.Math.max.code 2 (some .int), Cond.methodLink RJ1 38 Lib.Math.min.name, Cond.static Lib.Math.min.name, Cond.code Lib.Math.min.name Lib.Math.min.code 2 (some .int), Cond.methodLink RJ1 88 yJ1_canEncode_9a6ad, Cond.static yJ1_canEncode_9a6ad, Cond.code yJ1_canEncode_9a6ad cJ1_canEncode_9a6ad 1 (some .boolean), Cond.methodLink RJ1 95 yJ1_indexOfChar_4cfef, Cond.static yJ1_indexOfChar_4cfef, Cond.code yJ1_indexOfChar_4cfef cJ1_indexOfChar_4cfef 6 (some .int), Cond.methodLink RJ0 640 yJ2_indexOf_4cfef, Cond.static yJ2_indexOf_4cfef, Cond.initialized RJ2, Cond.code yJ2_indexOf_4cfef cJ2_indexOf_4cfef 4 (some .int), Cond.methodLink RJ2 224 Lib.Math.max.name, Cond.methodLink RJ2 183 Lib.Math.min.name, Cond.constant RJ2 227 (65536), Cond.methodLink RJ2 228 yJ2_indexOfChar_4cfef, Cond.static yJ2_indexOfChar_4cfef, Cond.code yJ2_indexOfChar_4cfef cJ2_indexOfChar_4cfef 4 (some .int), Cond.methodLink RJ2 96 yJ2_checkBoundsBeginEnd_d044e]
def wsJ0_indexOf_0f7a4_r3 : List Cond := [Cond.static yJ2_checkBoundsBeginEnd_d044e, Cond.code yJ2_checkBoundsBeginEnd_d044e cJ2_checkBoundsBeginEnd_d044e 3 none, Cond.methodLink RJ2 48 yJ2_length_9d52b, Cond.static yJ2_length_9d52b, Cond.code yJ2_length_9d52b cJ2_length_9d52b 1 (some .int), Cond.methodLink RJ2 241 yJ0_checkBoundsBeginEnd_23922, Cond.static yJ0_checkBoundsBeginEnd_23922, Cond.code yJ0_checkBoundsBeginEnd_23922 cJ0_checkBoundsBeginEnd_23922 3 none, Cond.fieldLink RJ0 1053 "jdk/internal/util/Preconditions" "SIOOBE_FORMATTER" "Ljava/util/function/BiFunction;", Cond.methodLink RJ0 1062 yJ3_checkFromToIndex_8c36e, Cond.static yJ3_checkFromToIndex_8c36e, Cond.initialized RJ3, Cond.code yJ3_checkFromToIndex_8c36e cJ3_checkFromToIndex_8c36e 4 (some .int), Cond.methodLink RJ2 244 yJ2_indexOfCharUnsafe_4cfef, Cond.static yJ2_indexOfCharUnsafe_4cfef, Cond.code yJ2_indexOfCharUnsafe_4cfef cJ2_indexOfCharUnsafe_4cfef 5 (some .int), Cond.methodLink RJ2 71 yJ2_getChar_3b067, Cond.static yJ2_getChar_3b067, Cond.code yJ2_getChar_3b067 cJ2_getChar_3b067 2 (some .char), Cond.fieldLink RJ2 44 "java/lang/StringUTF16" "$assertionsDisabled" "Z", Cond.fieldLink RJ2 59 "java/lang/StringUTF16" "HI_BYTE_SHIFT" "I", Cond.fieldLink RJ2 63 "java/lang/StringUTF16" "LO_BYTE_SHIFT" "I", Cond.methodLink RJ2 232 yJ2_indexOfSupplementary_4cfef, Cond.static yJ2_indexOfSupplementary_4cfef]
def wsJ0_indexOf_0f7a4_r4 : List Cond := [Cond.code yJ2_indexOfSupplementary_4cfef cJ2_indexOfSupplementary_4cfef 7 (some .int), Cond.methodLink RJ2 164 yJ11_isValidCodePoint_9a6ad, Cond.static yJ11_isValidCodePoint_9a6ad, Cond.initialized RJ11, Cond.code yJ11_isValidCodePoint_9a6ad cJ11_isValidCodePoint_9a6ad 2 (some .boolean), Cond.methodLink RJ2 157 yJ11_highSurrogate_5068e, Cond.static yJ11_highSurrogate_5068e, Cond.code yJ11_highSurrogate_5068e cJ11_highSurrogate_5068e 1 (some .char), Cond.constant RJ11 110 (55232), Cond.methodLink RJ2 161 yJ11_lowSurrogate_5068e, Cond.static yJ11_lowSurrogate_5068e, Cond.code yJ11_lowSurrogate_5068e cJ11_lowSurrogate_5068e 1 (some .char), Cond.constant RJ11 76 (56320)]
def wsJ0_indexOf_0f7a4 : List Cond := .code yJ0_indexOf_0f7a4 cJ0_indexOf_0f7a4 2 (some .int) :: ((wsJ0_indexOf_0f7a4_r1 ++ (wsJ0_indexOf_0f7a4_r2 ++ (wsJ0_indexOf_0f7a4_r3 ++ wsJ0_indexOf_0f7a4_r4))) ++ wsJ00)
def wsX6_addUnit_r1 : List Cond := [Cond.classLink RX6 95 "java/lang/IllegalArgumentException", Cond.initialized "java/lang/IllegalArgumentException", Cond.classLink RX6 103 "java/lang/UnsupportedOperationException", Cond.initialized "java/lang/UnsupportedOperationException", Cond.classLink RX6 67 "java/lang/IllegalStateException", Cond.initialized "java/lang/IllegalStateException", Cond.fieldLink RX6 10 "SeedBattle" "field" "LSeedBattle$Field;", Cond.fieldLink RX6 108 "SeedBattle" "turnsDone" "I", Cond.methodLink RX6 84 yX6_requirePlayer, Cond.static yX6_requirePlayer, Cond.initialized RX6, Cond.code yX6_requirePlayer cX6_requirePlayer 1 none, Cond.classLink RX6 171 "java/lang/IndexOutOfBoundsException", Cond.initialized "java/lang/IndexOutOfBoundsException", Cond.methodLink RX6 77 yX6_requireCell, Cond.static yX6_requireCell, Cond.code yX6_requireCell cX6_requireCell 1 none, Cond.methodLink RX6 285 yX6_isCell, Cond.static yX6_isCell, Cond.code yX6_isCell cX6_isCell 1 (some .boolean), Cond.methodLink RX6 89 yJ0_indexOf_0f7a4, Cond.instanceMethod yJ0_indexOf_0f7a4, Cond.selects RJ0 yJ0_indexOf_0f7a4 yJ0_indexOf_0f7a4, Cond.initialized RJ0]
def wsX6_addUnit_r2 : List Cond := [Cond.code yJ0_indexOf_0f7a4 cJ0_indexOf_0f7a4 2 (some .int), Cond.methodLink RJ0 633 yJ0_indexOf_7cf53, Cond.instanceMethod yJ0_indexOf_7cf53, Cond.selects RJ0 yJ0_indexOf_7cf53 yJ0_indexOf_7cf53, Cond.code yJ0_indexOf_7cf53 cJ0_indexOf_7cf53 3 (some .int), Cond.fieldLink RJ0 9 "java/lang/String" "value" "[B", Cond.methodLink RJ0 492 yJ0_isLatin1_aae02, Cond.instanceMethod yJ0_isLatin1_aae02, Cond.selects RJ0 yJ0_isLatin1_aae02 yJ0_isLatin1_aae02, Cond.code yJ0_isLatin1_aae02 cJ0_isLatin1_aae02 1 (some .boolean), Cond.fieldLink RJ0 38 "java/lang/String" "COMPACT_STRINGS" "Z", Cond.fieldLink RJ0 15 "java/lang/String" "coder" "B", Cond.methodLink RJ0 505 yJ0_length_8abf5, Cond.instanceMethod yJ0_length_8abf5, Cond.selects RJ0 yJ0_length_8abf5 yJ0_length_8abf5, Cond.code yJ0_length_8abf5 cJ0_length_8abf5 1 (some .int), Cond.methodLink RJ0 335 yJ0_coder_7d493, Cond.instanceMethod yJ0_coder_7d493, Cond.selects RJ0 yJ0_coder_7d493 yJ0_coder_7d493, Cond.code yJ0_coder_7d493 cJ0_coder_7d493 1 (some .byte), Cond.methodLink RJ0 637 yJ1_indexOf_4cfef, Cond.static yJ1_indexOf_4cfef, Cond.initialized RJ1, Cond.code yJ1_indexOf_4cfef cJ1_indexOf_4cfef 4 (some .int)]
def wsX6_addUnit_r3 : List Cond := [Cond.methodLink RJ1 92 Lib.Math.max.name, Cond.static Lib.Math.max.name, Cond.initialized "java/lang/Math", Cond.code Lib.Math.max.name Lib.Math.max.code 2 (some .int), Cond.methodLink RJ1 38 Lib.Math.min.name, Cond.static Lib.Math.min.name, Cond.code Lib.Math.min.name Lib.Math.min.code 2 (some .int), Cond.methodLink RJ1 88 yJ1_canEncode_9a6ad, Cond.static yJ1_canEncode_9a6ad, Cond.code yJ1_canEncode_9a6ad cJ1_canEncode_9a6ad 1 (some .boolean), Cond.methodLink RJ1 95 yJ1_indexOfChar_4cfef, Cond.static yJ1_indexOfChar_4cfef, Cond.code yJ1_indexOfChar_4cfef cJ1_indexOfChar_4cfef 6 (some .int), Cond.methodLink RJ0 640 yJ2_indexOf_4cfef, Cond.static yJ2_indexOf_4cfef, Cond.initialized RJ2, Cond.code yJ2_indexOf_4cfef cJ2_indexOf_4cfef 4 (some .int), Cond.methodLink RJ2 224 Lib.Math.max.name, Cond.methodLink RJ2 183 Lib.Math.min.name, Cond.constant RJ2 227 (65536), Cond.methodLink RJ2 228 yJ2_indexOfChar_4cfef, Cond.static yJ2_indexOfChar_4cfef, Cond.code yJ2_indexOfChar_4cfef cJ2_indexOfChar_4cfef 4 (some .int), Cond.methodLink RJ2 96 yJ2_checkBoundsBeginEnd_d044e]
def wsX6_addUnit_r4 : List Cond := [Cond.static yJ2_checkBoundsBeginEnd_d044e, Cond.code yJ2_checkBoundsBeginEnd_d044e cJ2_checkBoundsBeginEnd_d044e 3 none, Cond.methodLink RJ2 48 yJ2_length_9d52b, Cond.static yJ2_length_9d52b, Cond.code yJ2_length_9d52b cJ2_length_9d52b 1 (some .int), Cond.methodLink RJ2 241 yJ0_checkBoundsBeginEnd_23922, Cond.static yJ0_checkBoundsBeginEnd_23922, Cond.code yJ0_checkBoundsBeginEnd_23922 cJ0_checkBoundsBeginEnd_23922 3 none, Cond.fieldLink RJ0 1053 "jdk/internal/util/Preconditions" "SIOOBE_FORMATTER" "Ljava/util/function/BiFunction;", Cond.methodLink RJ0 1062 yJ3_checkFromToIndex_8c36e, Cond.static yJ3_checkFromToIndex_8c36e, Cond.initialized RJ3, Cond.code yJ3_checkFromToIndex_8c36e cJ3_checkFromToIndex_8c36e 4 (some .int), Cond.methodLink RJ2 244 yJ2_indexOfCharUnsafe_4cfef, Cond.static yJ2_indexOfCharUnsafe_4cfef, Cond.code yJ2_indexOfCharUnsafe_4cfef cJ2_indexOfCharUnsafe_4cfef 5 (some .int), Cond.methodLink RJ2 71 yJ2_getChar_3b067, Cond.static yJ2_getChar_3b067, Cond.code yJ2_getChar_3b067 cJ2_getChar_3b067 2 (some .char), Cond.fieldLink RJ2 44 "java/lang/StringUTF16" "$assertionsDisabled" "Z", Cond.fieldLink RJ2 59 "java/lang/StringUTF16" "HI_BYTE_SHIFT" "I", Cond.fieldLink RJ2 63 "java/lang/StringUTF16" "LO_BYTE_SHIFT" "I", Cond.methodLink RJ2 232 yJ2_indexOfSupplementary_4cfef, Cond.static yJ2_indexOfSupplementary_4cfef]
def wsX6_addUnit_r5 : List Cond := [Cond.code yJ2_indexOfSupplementary_4cfef cJ2_indexOfSupplementary_4cfef 7 (some .int), Cond.methodLink RJ2 164 yJ11_isValidCodePoint_9a6ad, Cond.static yJ11_isValidCodePoint_9a6ad, Cond.initialized RJ11, Cond.code yJ11_isValidCodePoint_9a6ad cJ11_isValidCodePoint_9a6ad 2 (some .boolean), Cond.methodLink RJ2 157 yJ11_highSurrogate_5068e, Cond.static yJ11_highSurrogate_5068e, Cond.code yJ11_highSurrogate_5068e cJ11_highSurrogate_5068e 1 (some .char), Cond.constant RJ11 110 (55232), Cond.methodLink RJ2 161 yJ11_lowSurrogate_5068e, Cond.static yJ11_lowSurrogate_5068e, Cond.code yJ11_lowSurrogate_5068e cJ11_lowSurrogate_5068e 1 (some .char), Cond.constant RJ11 76 (56320), Cond.methodLink RX6 80 yX3_at, Cond.instanceMethod yX3_at, Cond.selects RX3 yX3_at yX3_at, Cond.initialized RX3, Cond.code yX3_at cX3_at 2 (some .char), Cond.fieldLink RX3 9 "SeedBattle$Land" "grounds" "[C", Cond.methodLink RX6 100 yX5_on, Cond.instanceMethod yX5_on, Cond.selects RX5 yX5_on yX5_on, Cond.initialized RX5, Cond.code yX5_on cX5_on 3 (some .int)]
def wsX6_addUnit_r6 : List Cond := [Cond.fieldLink RX5 24 "SeedBattle$Units" "count" "I", Cond.fieldLink RX5 21 "SeedBattle$Units" "places" "[I", Cond.methodLink RX6 113 yX5_put, Cond.instanceMethod yX5_put, Cond.selects RX5 yX5_put yX5_put, Cond.code yX5_put cX5_put 4 (some .int), Cond.fieldLink RX5 9 "SeedBattle$Units" "owners" "[I", Cond.fieldLink RX5 15 "SeedBattle$Units" "kinds" "[I", Cond.fieldLink RX5 18 "SeedBattle$Units" "starts" "[I"]
def wsX6_addUnit : List Cond := .code yX6_addUnit cX6_addUnit 5 (some .int) :: ((wsX6_addUnit_r1 ++ (wsX6_addUnit_r2 ++ (wsX6_addUnit_r3 ++ (wsX6_addUnit_r4 ++ (wsX6_addUnit_r5 ++ wsX6_addUnit_r6))))) ++ wsX60 ++ wsX10 ++ wsX50 ++ wsJ00 ++ wsX30 ++ (vx_atS RX6 99 "java/lang/IllegalArgumentException" ["java/lang/RuntimeException", "java/lang/Exception"]).filter goodWord ++ (vx_atS RX6 107 "java/lang/UnsupportedOperationException" ["java/lang/RuntimeException", "java/lang/Exception"]).filter goodWord ++ (vx_atS RX6 71 "java/lang/IllegalStateException" ["java/lang/RuntimeException", "java/lang/Exception"]).filter goodWord ++ (vx_atS RX6 175 "java/lang/IndexOutOfBoundsException" ["java/lang/RuntimeException", "java/lang/Exception"]).filter goodWord ++ (vx_atM "java/lang/ArrayIndexOutOfBoundsException" ["java/lang/IndexOutOfBoundsException", "java/lang/RuntimeException", "java/lang/Exception"]).filter goodWord)
def wsX6_requireUnit : List Cond := .code yX6_requireUnit cX6_requireUnit 2 none :: ([.classLink RX6 171 "java/lang/IndexOutOfBoundsException", .initialized "java/lang/IndexOutOfBoundsException", .fieldLink RX6 10 "SeedBattle" "field" "LSeedBattle$Field;", .methodLink RX6 290 yX5_has, .instanceMethod yX5_has, .selects RX5 yX5_has yX5_has, .initialized RX5, .code yX5_has cX5_has 2 (some .boolean), .fieldLink RX5 24 "SeedBattle$Units" "count" "I"] ++ wsX60 ++ wsX10 ++ wsX50 ++ (vx_atS RX6 175 "java/lang/IndexOutOfBoundsException" ["java/lang/RuntimeException", "java/lang/Exception"]).filter goodWord)
def wsX6_order_r1 : List Cond := [Cond.classLink RX6 95 "java/lang/IllegalArgumentException", Cond.initialized "java/lang/IllegalArgumentException", Cond.classLink RX6 103 "java/lang/UnsupportedOperationException", Cond.initialized "java/lang/UnsupportedOperationException", Cond.fieldLink RX6 10 "SeedBattle" "field" "LSeedBattle$Field;", Cond.fieldLink RX6 22 "SeedBattle" "orders" "LSeedBattle$Orders;", Cond.fieldLink RX6 108 "SeedBattle" "turnsDone" "I", Cond.methodLink RX6 117 yX6_requireUnit, Cond.instanceMethod yX6_requireUnit, Cond.selects RX6 yX6_requireUnit yX6_requireUnit, Cond.initialized RX6, Cond.code yX6_requireUnit cX6_requireUnit 2 none, Cond.classLink RX6 171 "java/lang/IndexOutOfBoundsException", Cond.initialized "java/lang/IndexOutOfBoundsException", Cond.methodLink RX6 290 yX5_has, Cond.instanceMethod yX5_has, Cond.selects RX5 yX5_has yX5_has, Cond.initialized RX5, Cond.code yX5_has cX5_has 2 (some .boolean), Cond.fieldLink RX5 24 "SeedBattle$Units" "count" "I", Cond.methodLink RX6 122 yX5_lives, Cond.instanceMethod yX5_lives, Cond.selects RX5 yX5_lives yX5_lives, Cond.code yX5_lives cX5_lives 2 (some .boolean)]
def wsX6_order_r2 : List Cond := [Cond.methodLink RX5 32 yX5_place, Cond.instanceMethod yX5_place, Cond.selects RX5 yX5_place yX5_place, Cond.code yX5_place cX5_place 2 (some .int), Cond.fieldLink RX5 21 "SeedBattle$Units" "places" "[I", Cond.methodLink RX6 126 yX4_givenTo, Cond.instanceMethod yX4_givenTo, Cond.selects RX4 yX4_givenTo yX4_givenTo, Cond.initialized RX4, Cond.code yX4_givenTo cX4_givenTo 2 (some .int), Cond.fieldLink RX4 15 "SeedBattle$Orders" "given" "[I", Cond.methodLink RX6 129 yX5_steps, Cond.instanceMethod yX5_steps, Cond.selects RX5 yX5_steps yX5_steps, Cond.code yX5_steps cX5_steps 2 (some .int), Cond.fieldLink RX5 15 "SeedBattle$Units" "kinds" "[I", Cond.methodLink RX6 134 yX4_give, Cond.instanceMethod yX4_give, Cond.selects RX4 yX4_give yX4_give, Cond.code yX4_give cX4_give 5 (some .int), Cond.fieldLink RX4 9 "SeedBattle$Orders" "directions" "[I", Cond.methodLink RX4 24 yX4_givenTo, Cond.methodLink RX4 28 yX4_spotOf, Cond.static yX4_spotOf]
def wsX6_order_r3 : List Cond := [Cond.code yX4_spotOf cX4_spotOf 4 (some .int)]
def wsX6_order : List Cond := .code yX6_order cX6_order 3 (some .int) :: ((wsX6_order_r1 ++ (wsX6_order_r2 ++ wsX6_order_r3)) ++ wsX60 ++ wsX10 ++ wsX50 ++ wsX40 ++ (vx_atS RX6 99 "java/lang/IllegalArgumentException" ["java/lang/RuntimeException", "java/lang/Exception"]).filter goodWord ++ (vx_atS RX6 107 "java/lang/UnsupportedOperationException" ["java/lang/RuntimeException", "java/lang/Exception"]).filter goodWord ++ (vx_atS RX6 175 "java/lang/IndexOutOfBoundsException" ["java/lang/RuntimeException", "java/lang/Exception"]).filter goodWord ++ (vx_atM "java/lang/ArrayIndexOutOfBoundsException" ["java/lang/IndexOutOfBoundsException", "java/lang/RuntimeException", "java/lang/Exception"]).filter goodWord)
def wsX6_watch_r1 : List Cond := [Cond.fieldLink RX6 10 "SeedBattle" "field" "LSeedBattle$Field;", Cond.fieldLink RX6 28 "SeedBattle" "indexes" "[LSeedBattle$Index;", Cond.fieldLink RX6 108 "SeedBattle" "turnsDone" "I", Cond.fieldLink RX6 42 "SeedBattle" "ownSights" "[I", Cond.methodLink RX6 152 yX5_place, Cond.instanceMethod yX5_place, Cond.selects RX5 yX5_place yX5_place, Cond.initialized RX5, Cond.code yX5_place cX5_place 2 (some .int), Cond.fieldLink RX5 24 "SeedBattle$Units" "count" "I", Cond.fieldLink RX5 21 "SeedBattle$Units" "places" "[I", Cond.methodLink RX6 298 yX5_owner, Cond.instanceMethod yX5_owner, Cond.selects RX5 yX5_owner yX5_owner, Cond.code yX5_owner cX5_owner 2 (some .int), Cond.fieldLink RX5 9 "SeedBattle$Units" "owners" "[I", Cond.methodLink RX6 159 yX1_playerSpots, Cond.instanceMethod yX1_playerSpots, Cond.selects RX1 yX1_playerSpots yX1_playerSpots, Cond.initialized RX1, Cond.code yX1_playerSpots cX1_playerSpots 4 (some .boolean), Cond.fieldLink RX1 21 "SeedBattle$Field" "units" "LSeedBattle$Units;", Cond.methodLink RX1 77 yX5_owner, Cond.methodLink RX1 129 yX1_unitSpots]
def wsX6_watch_r2 : List Cond := [Cond.instanceMethod yX1_unitSpots, Cond.selects RX1 yX1_unitSpots yX1_unitSpots, Cond.code yX1_unitSpots cX1_unitSpots 5 (some .boolean), Cond.fieldLink RX1 12 "SeedBattle$Field" "land" "LSeedBattle$Land;", Cond.methodLink RX1 50 yX5_place, Cond.methodLink RX1 115 yX5_sight, Cond.instanceMethod yX5_sight, Cond.selects RX5 yX5_sight yX5_sight, Cond.code yX5_sight cX5_sight 2 (some .int), Cond.fieldLink RX5 15 "SeedBattle$Units" "kinds" "[I", Cond.methodLink RX1 118 yX3_at, Cond.instanceMethod yX3_at, Cond.selects RX3 yX3_at yX3_at, Cond.initialized RX3, Cond.code yX3_at cX3_at 2 (some .char), Cond.fieldLink RX3 9 "SeedBattle$Land" "grounds" "[C", Cond.static yX6_isCell, Cond.initialized RX6, Cond.code yX6_isCell cX6_isCell 1 (some .boolean), Cond.methodLink RX1 122 yX3_distance, Cond.static yX3_distance, Cond.code yX3_distance cX3_distance 4 (some .int), Cond.methodLink RX3 45 Lib.Math.abs.name, Cond.static Lib.Math.abs.name]
def wsX6_watch_r3 : List Cond := [Cond.initialized "java/lang/Math", Cond.code Lib.Math.abs.name Lib.Math.abs.code 1 (some .int), Cond.methodLink RX3 51 Lib.Math.max.name, Cond.static Lib.Math.max.name, Cond.code Lib.Math.max.name Lib.Math.max.code 2 (some .int), Cond.methodLink RX1 125 yX3_isClear, Cond.instanceMethod yX3_isClear, Cond.selects RX3 yX3_isClear yX3_isClear, Cond.code yX3_isClear cX3_isClear 11 (some .boolean), Cond.methodLink RX3 38 yX3_distance, Cond.methodLink RX3 35 yX3_at, Cond.methodLink RX3 42 yX3_share, Cond.static yX3_share, Cond.code yX3_share cX3_share 3 (some .int), Cond.methodLink RX6 301 yX2_add, Cond.instanceMethod yX2_add, Cond.selects RX2 yX2_add yX2_add, Cond.initialized RX2, Cond.code yX2_add cX2_add 5 none, Cond.fieldLink RX2 15 "SeedBattle$Index" "count" "I", Cond.fieldLink RX2 9 "SeedBattle$Index" "numbers" "[I", Cond.methodLink RX2 19 yX2_isBehind, Cond.static yX2_isBehind, Cond.code yX2_isBehind cX2_isBehind 3 (some .boolean)]
def wsX6_watch_r4 : List Cond := [Cond.static yX6_turnOf, Cond.code yX6_turnOf cX6_turnOf 1 (some .int), Cond.constant RX6 297 (100000), Cond.static yX6_unitOf, Cond.code yX6_unitOf cX6_unitOf 1 (some .int), Cond.static yX6_numberFor, Cond.code yX6_numberFor cX6_numberFor 3 (some .int), Cond.methodLink RX2 27 yX2_dropFirst, Cond.instanceMethod yX2_dropFirst, Cond.selects RX2 yX2_dropFirst yX2_dropFirst, Cond.code yX2_dropFirst cX2_dropFirst 2 none]
def wsX6_watch : List Cond := .code yX6_watch cX6_watch 6 none :: ((wsX6_watch_r1 ++ (wsX6_watch_r2 ++ (wsX6_watch_r3 ++ wsX6_watch_r4))) ++ wsX60 ++ wsX10 ++ wsX50 ++ wsX30 ++ wsX20 ++ (vx_atM "java/lang/ArrayIndexOutOfBoundsException" ["java/lang/IndexOutOfBoundsException", "java/lang/RuntimeException", "java/lang/Exception"]).filter goodWord ++ (vx_atM "java/lang/ArithmeticException" ["java/lang/RuntimeException", "java/lang/Exception"]).filter goodWord)
def wsX6_hasTreaty : List Cond := .code yX6_hasTreaty cX6_hasTreaty 3 (some .boolean) :: ([.fieldLink RX6 38 "SeedBattle" "treaties" "[I"] ++ wsX60 ++ (vx_atM "java/lang/ArrayIndexOutOfBoundsException" ["java/lang/IndexOutOfBoundsException", "java/lang/RuntimeException", "java/lang/Exception"]).filter goodWord)
def wsX6_hear_r1 : List Cond := [Cond.fieldLink RX6 10 "SeedBattle" "field" "LSeedBattle$Field;", Cond.fieldLink RX6 42 "SeedBattle" "ownSights" "[I", Cond.fieldLink RX6 28 "SeedBattle" "indexes" "[LSeedBattle$Index;", Cond.fieldLink RX6 108 "SeedBattle" "turnsDone" "I", Cond.methodLink RX6 298 yX5_owner, Cond.instanceMethod yX5_owner, Cond.selects RX5 yX5_owner yX5_owner, Cond.initialized RX5, Cond.code yX5_owner cX5_owner 2 (some .int), Cond.fieldLink RX5 24 "SeedBattle$Units" "count" "I", Cond.fieldLink RX5 9 "SeedBattle$Units" "owners" "[I", Cond.methodLink RX6 309 yX2_has, Cond.instanceMethod yX2_has, Cond.selects RX2 yX2_has yX2_has, Cond.initialized RX2, Cond.code yX2_has cX2_has 4 (some .boolean), Cond.fieldLink RX2 15 "SeedBattle$Index" "count" "I", Cond.fieldLink RX2 9 "SeedBattle$Index" "numbers" "[I", Cond.static yX6_turnOf, Cond.initialized RX6, Cond.code yX6_turnOf cX6_turnOf 1 (some .int), Cond.constant RX6 297 (100000), Cond.static yX6_unitOf, Cond.code yX6_unitOf cX6_unitOf 1 (some .int)]
def wsX6_hear_r2 : List Cond := [Cond.methodLink RX6 152 yX5_place, Cond.instanceMethod yX5_place, Cond.selects RX5 yX5_place yX5_place, Cond.code yX5_place cX5_place 2 (some .int), Cond.fieldLink RX5 21 "SeedBattle$Units" "places" "[I", Cond.methodLink RX6 301 yX2_add, Cond.instanceMethod yX2_add, Cond.selects RX2 yX2_add yX2_add, Cond.code yX2_add cX2_add 5 none, Cond.methodLink RX2 19 yX2_isBehind, Cond.static yX2_isBehind, Cond.code yX2_isBehind cX2_isBehind 3 (some .boolean), Cond.static yX6_numberFor, Cond.code yX6_numberFor cX6_numberFor 3 (some .int), Cond.methodLink RX2 27 yX2_dropFirst, Cond.instanceMethod yX2_dropFirst, Cond.selects RX2 yX2_dropFirst yX2_dropFirst, Cond.code yX2_dropFirst cX2_dropFirst 2 none]
def wsX6_hear : List Cond := .code yX6_hear cX6_hear 6 none :: ((wsX6_hear_r1 ++ wsX6_hear_r2) ++ wsX60 ++ wsX10 ++ wsX50 ++ wsX20 ++ (vx_atM "java/lang/ArrayIndexOutOfBoundsException" ["java/lang/IndexOutOfBoundsException", "java/lang/RuntimeException", "java/lang/Exception"]).filter goodWord)
def wsX6_hearAll_r1 : List Cond := [Cond.methodLink RX6 164 yX6_hasTreaty, Cond.instanceMethod yX6_hasTreaty, Cond.selects RX6 yX6_hasTreaty yX6_hasTreaty, Cond.initialized RX6, Cond.code yX6_hasTreaty cX6_hasTreaty 3 (some .boolean), Cond.fieldLink RX6 38 "SeedBattle" "treaties" "[I", Cond.methodLink RX6 305 yX6_hear, Cond.instanceMethod yX6_hear, Cond.selects RX6 yX6_hear yX6_hear, Cond.code yX6_hear cX6_hear 6 none, Cond.fieldLink RX6 10 "SeedBattle" "field" "LSeedBattle$Field;", Cond.fieldLink RX6 42 "SeedBattle" "ownSights" "[I", Cond.fieldLink RX6 28 "SeedBattle" "indexes" "[LSeedBattle$Index;", Cond.fieldLink RX6 108 "SeedBattle" "turnsDone" "I", Cond.methodLink RX6 298 yX5_owner, Cond.instanceMethod yX5_owner, Cond.selects RX5 yX5_owner yX5_owner, Cond.initialized RX5, Cond.code yX5_owner cX5_owner 2 (some .int), Cond.fieldLink RX5 24 "SeedBattle$Units" "count" "I", Cond.fieldLink RX5 9 "SeedBattle$Units" "owners" "[I", Cond.methodLink RX6 309 yX2_has, Cond.instanceMethod yX2_has, Cond.selects RX2 yX2_has yX2_has]
def wsX6_hearAll_r2 : List Cond := [Cond.initialized RX2, Cond.code yX2_has cX2_has 4 (some .boolean), Cond.fieldLink RX2 15 "SeedBattle$Index" "count" "I", Cond.fieldLink RX2 9 "SeedBattle$Index" "numbers" "[I", Cond.static yX6_turnOf, Cond.code yX6_turnOf cX6_turnOf 1 (some .int), Cond.constant RX6 297 (100000), Cond.static yX6_unitOf, Cond.code yX6_unitOf cX6_unitOf 1 (some .int), Cond.methodLink RX6 152 yX5_place, Cond.instanceMethod yX5_place, Cond.selects RX5 yX5_place yX5_place, Cond.code yX5_place cX5_place 2 (some .int), Cond.fieldLink RX5 21 "SeedBattle$Units" "places" "[I", Cond.methodLink RX6 301 yX2_add, Cond.instanceMethod yX2_add, Cond.selects RX2 yX2_add yX2_add, Cond.code yX2_add cX2_add 5 none, Cond.methodLink RX2 19 yX2_isBehind, Cond.static yX2_isBehind, Cond.code yX2_isBehind cX2_isBehind 3 (some .boolean), Cond.static yX6_numberFor, Cond.code yX6_numberFor cX6_numberFor 3 (some .int), Cond.methodLink RX2 27 yX2_dropFirst]
def wsX6_hearAll_r3 : List Cond := [Cond.instanceMethod yX2_dropFirst, Cond.selects RX2 yX2_dropFirst yX2_dropFirst, Cond.code yX2_dropFirst cX2_dropFirst 2 none]
def wsX6_hearAll : List Cond := .code yX6_hearAll cX6_hearAll 3 none :: ((wsX6_hearAll_r1 ++ (wsX6_hearAll_r2 ++ wsX6_hearAll_r3)) ++ wsX60 ++ wsX10 ++ wsX50 ++ wsX20 ++ (vx_atM "java/lang/ArrayIndexOutOfBoundsException" ["java/lang/IndexOutOfBoundsException", "java/lang/RuntimeException", "java/lang/Exception"]).filter goodWord)
def wsX6_turn_r1 : List Cond := [Cond.classLink RX6 67 "java/lang/IllegalStateException", Cond.initialized "java/lang/IllegalStateException", Cond.fieldLink RX6 108 "SeedBattle" "turnsDone" "I", Cond.fieldLink RX6 10 "SeedBattle" "field" "LSeedBattle$Field;", Cond.fieldLink RX6 22 "SeedBattle" "orders" "LSeedBattle$Orders;", Cond.methodLink RX6 139 yX1_playTurn, Cond.instanceMethod yX1_playTurn, Cond.selects RX1 yX1_playTurn yX1_playTurn, Cond.initialized RX1, Cond.code yX1_playTurn cX1_playTurn 5 (some .int), Cond.methodLink RX1 32 yX1_readWants, Cond.instanceMethod yX1_readWants, Cond.selects RX1 yX1_readWants yX1_readWants, Cond.code yX1_readWants cX1_readWants 7 (some .boolean), Cond.fieldLink RX1 21 "SeedBattle$Field" "units" "LSeedBattle$Units;", Cond.fieldLink RX1 25 "SeedBattle$Field" "wants" "[I", Cond.fieldLink RX1 12 "SeedBattle$Field" "land" "LSeedBattle$Land;", Cond.methodLink RX1 50 yX5_place, Cond.instanceMethod yX5_place, Cond.selects RX5 yX5_place yX5_place, Cond.initialized RX5, Cond.code yX5_place cX5_place 2 (some .int), Cond.fieldLink RX5 24 "SeedBattle$Units" "count" "I", Cond.fieldLink RX5 21 "SeedBattle$Units" "places" "[I"]
def wsX6_turn_r2 : List Cond := [Cond.methodLink RX1 54 yX4_direction, Cond.instanceMethod yX4_direction, Cond.selects RX4 yX4_direction yX4_direction, Cond.initialized RX4, Cond.code yX4_direction cX4_direction 5 (some .int), Cond.fieldLink RX4 9 "SeedBattle$Orders" "directions" "[I", Cond.methodLink RX4 28 yX4_spotOf, Cond.static yX4_spotOf, Cond.code yX4_spotOf cX4_spotOf 4 (some .int), Cond.methodLink RX1 60 yX3_beside, Cond.instanceMethod yX3_beside, Cond.selects RX3 yX3_beside yX3_beside, Cond.initialized RX3, Cond.code yX3_beside cX3_beside 6 (some .int), Cond.methodLink RX3 35 yX3_at, Cond.instanceMethod yX3_at, Cond.selects RX3 yX3_at yX3_at, Cond.code yX3_at cX3_at 2 (some .char), Cond.fieldLink RX3 9 "SeedBattle$Land" "grounds" "[C", Cond.static yX6_isCell, Cond.initialized RX6, Cond.code yX6_isCell cX6_isCell 1 (some .boolean), Cond.methodLink RX1 64 yX1_isMover, Cond.instanceMethod yX1_isMover]
def wsX6_turn_r3 : List Cond := [Cond.selects RX1 yX1_isMover yX1_isMover, Cond.code yX1_isMover cX1_isMover 2 (some .boolean), Cond.methodLink RX1 36 yX1_meetPairs, Cond.instanceMethod yX1_meetPairs, Cond.selects RX1 yX1_meetPairs yX1_meetPairs, Cond.code yX1_meetPairs cX1_meetPairs 4 (some .int), Cond.methodLink RX1 68 yX1_facing, Cond.instanceMethod yX1_facing, Cond.selects RX1 yX1_facing yX1_facing, Cond.code yX1_facing cX1_facing 3 (some .int), Cond.methodLink RX1 74 yX5_on, Cond.instanceMethod yX5_on, Cond.selects RX5 yX5_on yX5_on, Cond.code yX5_on cX5_on 3 (some .int), Cond.methodLink RX1 77 yX5_owner, Cond.instanceMethod yX5_owner, Cond.selects RX5 yX5_owner yX5_owner, Cond.code yX5_owner cX5_owner 2 (some .int), Cond.fieldLink RX5 9 "SeedBattle$Units" "owners" "[I", Cond.methodLink RX1 71 yX1_meet, Cond.instanceMethod yX1_meet, Cond.selects RX1 yX1_meet yX1_meet, Cond.code yX1_meet cX1_meet 4 (some .int), Cond.methodLink RX1 80 yX5_power]
def wsX6_turn_r4 : List Cond := [Cond.instanceMethod yX5_power, Cond.selects RX5 yX5_power yX5_power, Cond.code yX5_power cX5_power 2 (some .int), Cond.fieldLink RX5 15 "SeedBattle$Units" "kinds" "[I", Cond.methodLink RX1 83 yX1_lose, Cond.instanceMethod yX1_lose, Cond.selects RX1 yX1_lose yX1_lose, Cond.code yX1_lose cX1_lose 2 none, Cond.methodLink RX1 87 yX5_move, Cond.instanceMethod yX5_move, Cond.selects RX5 yX5_move yX5_move, Cond.code yX5_move cX5_move 3 none, Cond.methodLink RX1 40 yX1_settleCells, Cond.instanceMethod yX1_settleCells, Cond.selects RX1 yX1_settleCells yX1_settleCells, Cond.code yX1_settleCells cX1_settleCells 4 (some .int), Cond.methodLink RX1 91 yX1_lowestContested, Cond.instanceMethod yX1_lowestContested, Cond.selects RX1 yX1_lowestContested yX1_lowestContested, Cond.code yX1_lowestContested cX1_lowestContested 3 (some .int), Cond.methodLink RX1 97 yX1_isContested, Cond.instanceMethod yX1_isContested, Cond.selects RX1 yX1_isContested yX1_isContested, Cond.code yX1_isContested cX1_isContested 4 (some .boolean)]
def wsX6_turn_r5 : List Cond := [Cond.methodLink RX1 94 yX1_lookAt, Cond.instanceMethod yX1_lookAt, Cond.selects RX1 yX1_lookAt yX1_lookAt, Cond.code yX1_lookAt cX1_lookAt 4 (some .int), Cond.methodLink RX1 100 yX1_strongestFor, Cond.instanceMethod yX1_strongestFor, Cond.selects RX1 yX1_strongestFor yX1_strongestFor, Cond.code yX1_strongestFor cX1_strongestFor 5 (some .int), Cond.fieldLink RX1 29 "SeedBattle$Field" "powers" "[I", Cond.methodLink RX1 109 yJ7_fill_53178, Cond.static yJ7_fill_53178, Cond.initialized RJ7, Cond.code yJ7_fill_53178 cJ7_fill_53178 4 none, Cond.methodLink RX1 103 yX1_firstMover, Cond.instanceMethod yX1_firstMover, Cond.selects RX1 yX1_firstMover yX1_firstMover, Cond.code yX1_firstMover cX1_firstMover 4 (some .int), Cond.methodLink RX1 106 yX1_turnBack, Cond.instanceMethod yX1_turnBack, Cond.selects RX1 yX1_turnBack yX1_turnBack, Cond.code yX1_turnBack cX1_turnBack 4 none, Cond.methodLink RX1 43 yX1_moveAll, Cond.instanceMethod yX1_moveAll, Cond.selects RX1 yX1_moveAll yX1_moveAll]
def wsX6_turn_r6 : List Cond := [Cond.code yX1_moveAll cX1_moveAll 2 none, Cond.methodLink RX6 143 yX4_startTurn, Cond.instanceMethod yX4_startTurn, Cond.selects RX4 yX4_startTurn yX4_startTurn, Cond.code yX4_startTurn cX4_startTurn 1 none, Cond.fieldLink RX4 15 "SeedBattle$Orders" "given" "[I", Cond.methodLink RX4 18 yJ7_fill_53178, Cond.methodLink RX6 146 yX6_watch, Cond.instanceMethod yX6_watch, Cond.selects RX6 yX6_watch yX6_watch, Cond.code yX6_watch cX6_watch 6 none, Cond.fieldLink RX6 28 "SeedBattle" "indexes" "[LSeedBattle$Index;", Cond.fieldLink RX6 42 "SeedBattle" "ownSights" "[I", Cond.methodLink RX6 152 yX5_place, Cond.methodLink RX6 298 yX5_owner, Cond.methodLink RX6 159 yX1_playerSpots, Cond.instanceMethod yX1_playerSpots, Cond.selects RX1 yX1_playerSpots yX1_playerSpots, Cond.code yX1_playerSpots cX1_playerSpots 4 (some .boolean), Cond.methodLink RX1 129 yX1_unitSpots, Cond.instanceMethod yX1_unitSpots, Cond.selects RX1 yX1_unitSpots yX1_unitSpots, Cond.code yX1_unitSpots cX1_unitSpots 5 (some .boolean), Cond.methodLink RX1 115 yX5_sight]
def wsX6_turn_r7 : List Cond := [Cond.instanceMethod yX5_sight, Cond.selects RX5 yX5_sight yX5_sight, Cond.code yX5_sight cX5_sight 2 (some .int), Cond.methodLink RX1 118 yX3_at, Cond.methodLink RX1 122 yX3_distance, Cond.static yX3_distance, Cond.code yX3_distance cX3_distance 4 (some .int), Cond.methodLink RX3 45 Lib.Math.abs.name, Cond.static Lib.Math.abs.name, Cond.initialized "java/lang/Math", Cond.code Lib.Math.abs.name Lib.Math.abs.code 1 (some .int), Cond.methodLink RX3 51 Lib.Math.max.name, Cond.static Lib.Math.max.name, Cond.code Lib.Math.max.name Lib.Math.max.code 2 (some .int), Cond.methodLink RX1 125 yX3_isClear, Cond.instanceMethod yX3_isClear, Cond.selects RX3 yX3_isClear yX3_isClear, Cond.code yX3_isClear cX3_isClear 11 (some .boolean), Cond.methodLink RX3 38 yX3_distance, Cond.methodLink RX3 42 yX3_share, Cond.static yX3_share, Cond.code yX3_share cX3_share 3 (some .int), Cond.methodLink RX6 301 yX2_add, Cond.instanceMethod yX2_add]
def wsX6_turn_r8 : List Cond := [Cond.selects RX2 yX2_add yX2_add, Cond.initialized RX2, Cond.code yX2_add cX2_add 5 none, Cond.fieldLink RX2 15 "SeedBattle$Index" "count" "I", Cond.fieldLink RX2 9 "SeedBattle$Index" "numbers" "[I", Cond.methodLink RX2 19 yX2_isBehind, Cond.static yX2_isBehind, Cond.code yX2_isBehind cX2_isBehind 3 (some .boolean), Cond.static yX6_turnOf, Cond.code yX6_turnOf cX6_turnOf 1 (some .int), Cond.constant RX6 297 (100000), Cond.static yX6_unitOf, Cond.code yX6_unitOf cX6_unitOf 1 (some .int), Cond.static yX6_numberFor, Cond.code yX6_numberFor cX6_numberFor 3 (some .int), Cond.methodLink RX2 27 yX2_dropFirst, Cond.instanceMethod yX2_dropFirst, Cond.selects RX2 yX2_dropFirst yX2_dropFirst, Cond.code yX2_dropFirst cX2_dropFirst 2 none, Cond.methodLink RX6 149 yX6_hearAll, Cond.instanceMethod yX6_hearAll, Cond.selects RX6 yX6_hearAll yX6_hearAll, Cond.code yX6_hearAll cX6_hearAll 3 none, Cond.methodLink RX6 164 yX6_hasTreaty]
def wsX6_turn_r9 : List Cond := [Cond.instanceMethod yX6_hasTreaty, Cond.selects RX6 yX6_hasTreaty yX6_hasTreaty, Cond.code yX6_hasTreaty cX6_hasTreaty 3 (some .boolean), Cond.fieldLink RX6 38 "SeedBattle" "treaties" "[I", Cond.methodLink RX6 305 yX6_hear, Cond.instanceMethod yX6_hear, Cond.selects RX6 yX6_hear yX6_hear, Cond.code yX6_hear cX6_hear 6 none, Cond.methodLink RX6 309 yX2_has, Cond.instanceMethod yX2_has, Cond.selects RX2 yX2_has yX2_has, Cond.code yX2_has cX2_has 4 (some .boolean)]
def wsX6_turn : List Cond := .code yX6_turn cX6_turn 3 (some .int) :: ((wsX6_turn_r1 ++ (wsX6_turn_r2 ++ (wsX6_turn_r3 ++ (wsX6_turn_r4 ++ (wsX6_turn_r5 ++ (wsX6_turn_r6 ++ (wsX6_turn_r7 ++ (wsX6_turn_r8 ++ wsX6_turn_r9)))))))) ++ wsX60 ++ wsX10 ++ wsX50 ++ wsX40 ++ wsX30 ++ wsX20 ++ (vx_atS RX6 71 "java/lang/IllegalStateException" ["java/lang/RuntimeException", "java/lang/Exception"]).filter goodWord ++ (vx_atM "java/lang/ArrayIndexOutOfBoundsException" ["java/lang/IndexOutOfBoundsException", "java/lang/RuntimeException", "java/lang/Exception"]).filter goodWord ++ (vx_atM "java/lang/ArithmeticException" ["java/lang/RuntimeException", "java/lang/Exception"]).filter goodWord)
def wsX6_done : List Cond := .code yX6_done cX6_done 1 (some .int) :: ([.fieldLink RX6 108 "SeedBattle" "turnsDone" "I"] ++ wsX60)
def wsX6_cellOf : List Cond := .code yX6_cellOf cX6_cellOf 2 (some .int) :: ([.fieldLink RX6 10 "SeedBattle" "field" "LSeedBattle$Field;", .methodLink RX6 117 yX6_requireUnit, .instanceMethod yX6_requireUnit, .selects RX6 yX6_requireUnit yX6_requireUnit, .initialized RX6, .code yX6_requireUnit cX6_requireUnit 2 none, .classLink RX6 171 "java/lang/IndexOutOfBoundsException", .initialized "java/lang/IndexOutOfBoundsException", .methodLink RX6 290 yX5_has, .instanceMethod yX5_has, .selects RX5 yX5_has yX5_has, .initialized RX5, .code yX5_has cX5_has 2 (some .boolean), .fieldLink RX5 24 "SeedBattle$Units" "count" "I", .methodLink RX6 152 yX5_place, .instanceMethod yX5_place, .selects RX5 yX5_place yX5_place, .code yX5_place cX5_place 2 (some .int), .fieldLink RX5 21 "SeedBattle$Units" "places" "[I"] ++ wsX60 ++ wsX10 ++ wsX50 ++ (vx_atS RX6 175 "java/lang/IndexOutOfBoundsException" ["java/lang/RuntimeException", "java/lang/Exception"]).filter goodWord ++ (vx_atM "java/lang/ArrayIndexOutOfBoundsException" ["java/lang/IndexOutOfBoundsException", "java/lang/RuntimeException", "java/lang/Exception"]).filter goodWord)
def wsX6_unitOn : List Cond := .code yX6_unitOn cX6_unitOn 2 (some .int) :: ([.fieldLink RX6 10 "SeedBattle" "field" "LSeedBattle$Field;", .methodLink RX6 77 yX6_requireCell, .static yX6_requireCell, .initialized RX6, .code yX6_requireCell cX6_requireCell 1 none, .classLink RX6 171 "java/lang/IndexOutOfBoundsException", .initialized "java/lang/IndexOutOfBoundsException", .methodLink RX6 285 yX6_isCell, .static yX6_isCell, .code yX6_isCell cX6_isCell 1 (some .boolean), .methodLink RX6 100 yX5_on, .instanceMethod yX5_on, .selects RX5 yX5_on yX5_on, .initialized RX5, .code yX5_on cX5_on 3 (some .int), .fieldLink RX5 24 "SeedBattle$Units" "count" "I", .fieldLink RX5 21 "SeedBattle$Units" "places" "[I"] ++ wsX60 ++ wsX10 ++ wsX50 ++ (vx_atS RX6 175 "java/lang/IndexOutOfBoundsException" ["java/lang/RuntimeException", "java/lang/Exception"]).filter goodWord ++ (vx_atM "java/lang/ArrayIndexOutOfBoundsException" ["java/lang/IndexOutOfBoundsException", "java/lang/RuntimeException", "java/lang/Exception"]).filter goodWord)
def wsX6_sees_r1 : List Cond := [Cond.fieldLink RX6 10 "SeedBattle" "field" "LSeedBattle$Field;", Cond.methodLink RX6 117 yX6_requireUnit, Cond.instanceMethod yX6_requireUnit, Cond.selects RX6 yX6_requireUnit yX6_requireUnit, Cond.initialized RX6, Cond.code yX6_requireUnit cX6_requireUnit 2 none, Cond.classLink RX6 171 "java/lang/IndexOutOfBoundsException", Cond.initialized "java/lang/IndexOutOfBoundsException", Cond.methodLink RX6 290 yX5_has, Cond.instanceMethod yX5_has, Cond.selects RX5 yX5_has yX5_has, Cond.initialized RX5, Cond.code yX5_has cX5_has 2 (some .boolean), Cond.fieldLink RX5 24 "SeedBattle$Units" "count" "I", Cond.methodLink RX6 77 yX6_requireCell, Cond.static yX6_requireCell, Cond.code yX6_requireCell cX6_requireCell 1 none, Cond.methodLink RX6 285 yX6_isCell, Cond.static yX6_isCell, Cond.code yX6_isCell cX6_isCell 1 (some .boolean), Cond.methodLink RX6 155 yX1_unitSpots, Cond.instanceMethod yX1_unitSpots, Cond.selects RX1 yX1_unitSpots yX1_unitSpots, Cond.initialized RX1]
def wsX6_sees_r2 : List Cond := [Cond.code yX1_unitSpots cX1_unitSpots 5 (some .boolean), Cond.fieldLink RX1 21 "SeedBattle$Field" "units" "LSeedBattle$Units;", Cond.fieldLink RX1 12 "SeedBattle$Field" "land" "LSeedBattle$Land;", Cond.methodLink RX1 50 yX5_place, Cond.instanceMethod yX5_place, Cond.selects RX5 yX5_place yX5_place, Cond.code yX5_place cX5_place 2 (some .int), Cond.fieldLink RX5 21 "SeedBattle$Units" "places" "[I", Cond.methodLink RX1 115 yX5_sight, Cond.instanceMethod yX5_sight, Cond.selects RX5 yX5_sight yX5_sight, Cond.code yX5_sight cX5_sight 2 (some .int), Cond.fieldLink RX5 15 "SeedBattle$Units" "kinds" "[I", Cond.methodLink RX1 118 yX3_at, Cond.instanceMethod yX3_at, Cond.selects RX3 yX3_at yX3_at, Cond.initialized RX3, Cond.code yX3_at cX3_at 2 (some .char), Cond.fieldLink RX3 9 "SeedBattle$Land" "grounds" "[C", Cond.methodLink RX1 122 yX3_distance, Cond.static yX3_distance, Cond.code yX3_distance cX3_distance 4 (some .int), Cond.methodLink RX3 45 Lib.Math.abs.name, Cond.static Lib.Math.abs.name]
def wsX6_sees_r3 : List Cond := [Cond.initialized "java/lang/Math", Cond.code Lib.Math.abs.name Lib.Math.abs.code 1 (some .int), Cond.methodLink RX3 51 Lib.Math.max.name, Cond.static Lib.Math.max.name, Cond.code Lib.Math.max.name Lib.Math.max.code 2 (some .int), Cond.methodLink RX1 125 yX3_isClear, Cond.instanceMethod yX3_isClear, Cond.selects RX3 yX3_isClear yX3_isClear, Cond.code yX3_isClear cX3_isClear 11 (some .boolean), Cond.methodLink RX3 38 yX3_distance, Cond.methodLink RX3 35 yX3_at, Cond.methodLink RX3 42 yX3_share, Cond.static yX3_share, Cond.code yX3_share cX3_share 3 (some .int)]
def wsX6_sees : List Cond := .code yX6_sees cX6_sees 3 (some .boolean) :: ((wsX6_sees_r1 ++ (wsX6_sees_r2 ++ wsX6_sees_r3)) ++ wsX60 ++ wsX10 ++ wsX50 ++ wsX30 ++ (vx_atS RX6 175 "java/lang/IndexOutOfBoundsException" ["java/lang/RuntimeException", "java/lang/Exception"]).filter goodWord ++ (vx_atM "java/lang/ArrayIndexOutOfBoundsException" ["java/lang/IndexOutOfBoundsException", "java/lang/RuntimeException", "java/lang/Exception"]).filter goodWord ++ (vx_atM "java/lang/ArithmeticException" ["java/lang/RuntimeException", "java/lang/Exception"]).filter goodWord)
def wsX6_seen_r1 : List Cond := [Cond.fieldLink RX6 10 "SeedBattle" "field" "LSeedBattle$Field;", Cond.methodLink RX6 84 yX6_requirePlayer, Cond.static yX6_requirePlayer, Cond.initialized RX6, Cond.code yX6_requirePlayer cX6_requirePlayer 1 none, Cond.classLink RX6 171 "java/lang/IndexOutOfBoundsException", Cond.initialized "java/lang/IndexOutOfBoundsException", Cond.methodLink RX6 159 yX1_playerSpots, Cond.instanceMethod yX1_playerSpots, Cond.selects RX1 yX1_playerSpots yX1_playerSpots, Cond.initialized RX1, Cond.code yX1_playerSpots cX1_playerSpots 4 (some .boolean), Cond.fieldLink RX1 21 "SeedBattle$Field" "units" "LSeedBattle$Units;", Cond.methodLink RX1 77 yX5_owner, Cond.instanceMethod yX5_owner, Cond.selects RX5 yX5_owner yX5_owner, Cond.initialized RX5, Cond.code yX5_owner cX5_owner 2 (some .int), Cond.fieldLink RX5 24 "SeedBattle$Units" "count" "I", Cond.fieldLink RX5 9 "SeedBattle$Units" "owners" "[I", Cond.methodLink RX1 129 yX1_unitSpots, Cond.instanceMethod yX1_unitSpots, Cond.selects RX1 yX1_unitSpots yX1_unitSpots, Cond.code yX1_unitSpots cX1_unitSpots 5 (some .boolean)]
def wsX6_seen_r2 : List Cond := [Cond.fieldLink RX1 12 "SeedBattle$Field" "land" "LSeedBattle$Land;", Cond.methodLink RX1 50 yX5_place, Cond.instanceMethod yX5_place, Cond.selects RX5 yX5_place yX5_place, Cond.code yX5_place cX5_place 2 (some .int), Cond.fieldLink RX5 21 "SeedBattle$Units" "places" "[I", Cond.methodLink RX1 115 yX5_sight, Cond.instanceMethod yX5_sight, Cond.selects RX5 yX5_sight yX5_sight, Cond.code yX5_sight cX5_sight 2 (some .int), Cond.fieldLink RX5 15 "SeedBattle$Units" "kinds" "[I", Cond.methodLink RX1 118 yX3_at, Cond.instanceMethod yX3_at, Cond.selects RX3 yX3_at yX3_at, Cond.initialized RX3, Cond.code yX3_at cX3_at 2 (some .char), Cond.fieldLink RX3 9 "SeedBattle$Land" "grounds" "[C", Cond.static yX6_isCell, Cond.code yX6_isCell cX6_isCell 1 (some .boolean), Cond.methodLink RX1 122 yX3_distance, Cond.static yX3_distance, Cond.code yX3_distance cX3_distance 4 (some .int), Cond.methodLink RX3 45 Lib.Math.abs.name, Cond.static Lib.Math.abs.name]
def wsX6_seen_r3 : List Cond := [Cond.initialized "java/lang/Math", Cond.code Lib.Math.abs.name Lib.Math.abs.code 1 (some .int), Cond.methodLink RX3 51 Lib.Math.max.name, Cond.static Lib.Math.max.name, Cond.code Lib.Math.max.name Lib.Math.max.code 2 (some .int), Cond.methodLink RX1 125 yX3_isClear, Cond.instanceMethod yX3_isClear, Cond.selects RX3 yX3_isClear yX3_isClear, Cond.code yX3_isClear cX3_isClear 11 (some .boolean), Cond.methodLink RX3 38 yX3_distance, Cond.methodLink RX3 35 yX3_at, Cond.methodLink RX3 42 yX3_share, Cond.static yX3_share, Cond.code yX3_share cX3_share 3 (some .int)]
def wsX6_seen : List Cond := .code yX6_seen cX6_seen 4 (some .int) :: ((wsX6_seen_r1 ++ (wsX6_seen_r2 ++ wsX6_seen_r3)) ++ wsX60 ++ wsX10 ++ wsX50 ++ wsX30 ++ (vx_atS RX6 175 "java/lang/IndexOutOfBoundsException" ["java/lang/RuntimeException", "java/lang/Exception"]).filter goodWord ++ (vx_atM "java/lang/ArrayIndexOutOfBoundsException" ["java/lang/IndexOutOfBoundsException", "java/lang/RuntimeException", "java/lang/Exception"]).filter goodWord ++ (vx_atM "java/lang/ArithmeticException" ["java/lang/RuntimeException", "java/lang/Exception"]).filter goodWord)
def wsX6_setTreaty_r1 : List Cond := [Cond.classLink RX6 95 "java/lang/IllegalArgumentException", Cond.initialized "java/lang/IllegalArgumentException", Cond.fieldLink RX6 38 "SeedBattle" "treaties" "[I", Cond.fieldLink RX6 34 "SeedBattle" "copies" "[LSeedBattle$Copy;", Cond.methodLink RX6 84 yX6_requirePlayer, Cond.static yX6_requirePlayer, Cond.initialized RX6, Cond.code yX6_requirePlayer cX6_requirePlayer 1 none, Cond.classLink RX6 171 "java/lang/IndexOutOfBoundsException", Cond.initialized "java/lang/IndexOutOfBoundsException", Cond.methodLink RX6 164 yX6_hasTreaty, Cond.instanceMethod yX6_hasTreaty, Cond.selects RX6 yX6_hasTreaty yX6_hasTreaty, Cond.code yX6_hasTreaty cX6_hasTreaty 3 (some .boolean), Cond.methodLink RX6 167 yX0_endTreaty, Cond.instanceMethod yX0_endTreaty, Cond.selects RX0 yX0_endTreaty yX0_endTreaty, Cond.initialized RX0, Cond.code yX0_endTreaty cX0_endTreaty 2 none, Cond.fieldLink RX0 46 "SeedBattle$Copy" "allyGone" "Z", Cond.methodLink RX0 80 yX0_isAlly, Cond.instanceMethod yX0_isAlly, Cond.selects RX0 yX0_isAlly yX0_isAlly, Cond.code yX0_isAlly cX0_isAlly 2 (some .boolean)]
def wsX6_setTreaty_r2 : List Cond := [Cond.fieldLink RX0 43 "SeedBattle$Copy" "allyBits" "I"]
def wsX6_setTreaty : List Cond := .code yX6_setTreaty cX6_setTreaty 5 (some .boolean) :: ((wsX6_setTreaty_r1 ++ wsX6_setTreaty_r2) ++ wsX60 ++ wsX00 ++ (vx_atS RX6 99 "java/lang/IllegalArgumentException" ["java/lang/RuntimeException", "java/lang/Exception"]).filter goodWord ++ (vx_atM "java/lang/ArrayIndexOutOfBoundsException" ["java/lang/IndexOutOfBoundsException", "java/lang/RuntimeException", "java/lang/Exception"]).filter goodWord ++ (vx_atS RX6 175 "java/lang/IndexOutOfBoundsException" ["java/lang/RuntimeException", "java/lang/Exception"]).filter goodWord)
def wsX6_sightings : List Cond := .code yX6_sightings cX6_sightings 2 (some .int) :: ([.fieldLink RX6 28 "SeedBattle" "indexes" "[LSeedBattle$Index;", .methodLink RX6 84 yX6_requirePlayer, .static yX6_requirePlayer, .initialized RX6, .code yX6_requirePlayer cX6_requirePlayer 1 none, .classLink RX6 171 "java/lang/IndexOutOfBoundsException", .initialized "java/lang/IndexOutOfBoundsException"] ++ wsX60 ++ wsX20 ++ (vx_atS RX6 175 "java/lang/IndexOutOfBoundsException" ["java/lang/RuntimeException", "java/lang/Exception"]).filter goodWord)
def wsX6_sighting_r1 : List Cond := [Cond.classLink RX6 171 "java/lang/IndexOutOfBoundsException", Cond.initialized "java/lang/IndexOutOfBoundsException", Cond.classLink RX6 95 "java/lang/IllegalArgumentException", Cond.initialized "java/lang/IllegalArgumentException", Cond.fieldLink RX6 28 "SeedBattle" "indexes" "[LSeedBattle$Index;", Cond.methodLink RX6 84 yX6_requirePlayer, Cond.static yX6_requirePlayer, Cond.initialized RX6, Cond.code yX6_requirePlayer cX6_requirePlayer 1 none, Cond.methodLink RX6 176 yX2_at, Cond.instanceMethod yX2_at, Cond.selects RX2 yX2_at yX2_at, Cond.initialized RX2, Cond.code yX2_at cX2_at 2 (some .int), Cond.fieldLink RX2 15 "SeedBattle$Index" "count" "I", Cond.fieldLink RX2 9 "SeedBattle$Index" "numbers" "[I", Cond.methodLink RX6 178 yX6_turnOf, Cond.static yX6_turnOf, Cond.code yX6_turnOf cX6_turnOf 1 (some .int), Cond.constant RX6 297 (100000), Cond.methodLink RX6 181 yX6_placeOf, Cond.static yX6_placeOf, Cond.code yX6_placeOf cX6_placeOf 1 (some .int), Cond.methodLink RX6 184 yX6_unitOf]
def wsX6_sighting_r2 : List Cond := [Cond.static yX6_unitOf, Cond.code yX6_unitOf cX6_unitOf 1 (some .int)]
def wsX6_sighting : List Cond := .code yX6_sighting cX6_sighting 5 (some .int) :: ((wsX6_sighting_r1 ++ wsX6_sighting_r2) ++ wsX60 ++ wsX20 ++ (vx_atS RX6 175 "java/lang/IndexOutOfBoundsException" ["java/lang/RuntimeException", "java/lang/Exception"]).filter goodWord ++ (vx_atS RX6 99 "java/lang/IllegalArgumentException" ["java/lang/RuntimeException", "java/lang/Exception"]).filter goodWord ++ (vx_atM "java/lang/ArrayIndexOutOfBoundsException" ["java/lang/IndexOutOfBoundsException", "java/lang/RuntimeException", "java/lang/Exception"]).filter goodWord)
def wsX6_age_r1 : List Cond := [Cond.classLink RX6 192 "java/util/NoSuchElementException", Cond.initialized "java/util/NoSuchElementException", Cond.fieldLink RX6 28 "SeedBattle" "indexes" "[LSeedBattle$Index;", Cond.fieldLink RX6 108 "SeedBattle" "turnsDone" "I", Cond.methodLink RX6 84 yX6_requirePlayer, Cond.static yX6_requirePlayer, Cond.initialized RX6, Cond.code yX6_requirePlayer cX6_requirePlayer 1 none, Cond.classLink RX6 171 "java/lang/IndexOutOfBoundsException", Cond.initialized "java/lang/IndexOutOfBoundsException", Cond.methodLink RX6 77 yX6_requireCell, Cond.static yX6_requireCell, Cond.code yX6_requireCell cX6_requireCell 1 none, Cond.methodLink RX6 285 yX6_isCell, Cond.static yX6_isCell, Cond.code yX6_isCell cX6_isCell 1 (some .boolean), Cond.methodLink RX6 189 yX2_latestOnCell, Cond.instanceMethod yX2_latestOnCell, Cond.selects RX2 yX2_latestOnCell yX2_latestOnCell, Cond.initialized RX2, Cond.code yX2_latestOnCell cX2_latestOnCell 3 (some .int), Cond.fieldLink RX2 15 "SeedBattle$Index" "count" "I", Cond.fieldLink RX2 9 "SeedBattle$Index" "numbers" "[I", Cond.static yX6_placeOf]
def wsX6_age_r2 : List Cond := [Cond.code yX6_placeOf cX6_placeOf 1 (some .int), Cond.constant RX6 297 (100000), Cond.methodLink RX6 178 yX6_turnOf, Cond.static yX6_turnOf, Cond.code yX6_turnOf cX6_turnOf 1 (some .int)]
def wsX6_age : List Cond := .code yX6_age cX6_age 4 (some .int) :: ((wsX6_age_r1 ++ wsX6_age_r2) ++ wsX60 ++ wsX20 ++ (vx_atS RX6 196 "java/util/NoSuchElementException" ["java/lang/RuntimeException", "java/lang/Exception"]).filter goodWord ++ (vx_atS RX6 175 "java/lang/IndexOutOfBoundsException" ["java/lang/RuntimeException", "java/lang/Exception"]).filter goodWord ++ (vx_atM "java/lang/ArrayIndexOutOfBoundsException" ["java/lang/IndexOutOfBoundsException", "java/lang/RuntimeException", "java/lang/Exception"]).filter goodWord)
def wsX6_lastSeen_r1 : List Cond := [Cond.classLink RX6 192 "java/util/NoSuchElementException", Cond.initialized "java/util/NoSuchElementException", Cond.fieldLink RX6 28 "SeedBattle" "indexes" "[LSeedBattle$Index;", Cond.methodLink RX6 84 yX6_requirePlayer, Cond.static yX6_requirePlayer, Cond.initialized RX6, Cond.code yX6_requirePlayer cX6_requirePlayer 1 none, Cond.classLink RX6 171 "java/lang/IndexOutOfBoundsException", Cond.initialized "java/lang/IndexOutOfBoundsException", Cond.methodLink RX6 117 yX6_requireUnit, Cond.instanceMethod yX6_requireUnit, Cond.selects RX6 yX6_requireUnit yX6_requireUnit, Cond.code yX6_requireUnit cX6_requireUnit 2 none, Cond.fieldLink RX6 10 "SeedBattle" "field" "LSeedBattle$Field;", Cond.methodLink RX6 290 yX5_has, Cond.instanceMethod yX5_has, Cond.selects RX5 yX5_has yX5_has, Cond.initialized RX5, Cond.code yX5_has cX5_has 2 (some .boolean), Cond.fieldLink RX5 24 "SeedBattle$Units" "count" "I", Cond.methodLink RX6 197 yX2_latestOfUnit, Cond.instanceMethod yX2_latestOfUnit, Cond.selects RX2 yX2_latestOfUnit yX2_latestOfUnit, Cond.initialized RX2]
def wsX6_lastSeen_r2 : List Cond := [Cond.code yX2_latestOfUnit cX2_latestOfUnit 3 (some .int), Cond.fieldLink RX2 15 "SeedBattle$Index" "count" "I", Cond.fieldLink RX2 9 "SeedBattle$Index" "numbers" "[I", Cond.static yX6_unitOf, Cond.code yX6_unitOf cX6_unitOf 1 (some .int), Cond.methodLink RX6 181 yX6_placeOf, Cond.static yX6_placeOf, Cond.code yX6_placeOf cX6_placeOf 1 (some .int), Cond.constant RX6 297 (100000)]
def wsX6_lastSeen : List Cond := .code yX6_lastSeen cX6_lastSeen 4 (some .int) :: ((wsX6_lastSeen_r1 ++ wsX6_lastSeen_r2) ++ wsX60 ++ wsX10 ++ wsX50 ++ wsX20 ++ (vx_atS RX6 196 "java/util/NoSuchElementException" ["java/lang/RuntimeException", "java/lang/Exception"]).filter goodWord ++ (vx_atS RX6 175 "java/lang/IndexOutOfBoundsException" ["java/lang/RuntimeException", "java/lang/Exception"]).filter goodWord ++ (vx_atM "java/lang/ArrayIndexOutOfBoundsException" ["java/lang/IndexOutOfBoundsException", "java/lang/RuntimeException", "java/lang/Exception"]).filter goodWord)
def wsX6_save_r1 : List Cond := [Cond.fieldLink RX6 34 "SeedBattle" "copies" "[LSeedBattle$Copy;", Cond.fieldLink RX6 28 "SeedBattle" "indexes" "[LSeedBattle$Index;", Cond.fieldLink RX6 38 "SeedBattle" "treaties" "[I", Cond.fieldLink RX6 213 "SeedBattle" "saved" "Z", Cond.methodLink RX6 202 yX0_take, Cond.instanceMethod yX0_take, Cond.selects RX0 yX0_take yX0_take, Cond.initialized RX0, Cond.code yX0_take cX0_take 4 none, Cond.methodLink RX0 27 Lib.Math.min.name, Cond.static Lib.Math.min.name, Cond.initialized "java/lang/Math", Cond.code Lib.Math.min.name Lib.Math.min.code 2 (some .int), Cond.fieldLink RX0 33 "SeedBattle$Copy" "size" "I", Cond.fieldLink RX0 9 "SeedBattle$Copy" "numbers" "[I", Cond.fieldLink RX0 18 "SeedBattle$Copy" "original" "[I", Cond.fieldLink RX0 40 "SeedBattle$Copy" "brokenBits" "I", Cond.fieldLink RX0 43 "SeedBattle$Copy" "allyBits" "I", Cond.fieldLink RX0 46 "SeedBattle$Copy" "allyGone" "Z", Cond.methodLink RX0 36 yX2_at, Cond.instanceMethod yX2_at, Cond.selects RX2 yX2_at yX2_at, Cond.initialized RX2, Cond.code yX2_at cX2_at 2 (some .int)]
def wsX6_save_r2 : List Cond := [Cond.fieldLink RX2 15 "SeedBattle$Index" "count" "I", Cond.fieldLink RX2 9 "SeedBattle$Index" "numbers" "[I", Cond.methodLink RX6 209 yX0_keepParity, Cond.instanceMethod yX0_keepParity, Cond.selects RX0 yX0_keepParity yX0_keepParity, Cond.code yX0_keepParity cX0_keepParity 3 none, Cond.fieldLink RX0 15 "SeedBattle$Copy" "parity" "[I", Cond.methodLink RX0 50 yX0_numberAt, Cond.instanceMethod yX0_numberAt, Cond.selects RX0 yX0_numberAt yX0_numberAt, Cond.code yX0_numberAt cX0_numberAt 2 (some .int), Cond.methodLink RX0 53 yX0_alliesAt, Cond.instanceMethod yX0_alliesAt, Cond.selects RX0 yX0_alliesAt yX0_alliesAt, Cond.code yX0_alliesAt cX0_alliesAt 5 (some .int), Cond.methodLink RX0 80 yX0_isAlly, Cond.instanceMethod yX0_isAlly, Cond.selects RX0 yX0_isAlly yX0_isAlly, Cond.code yX0_isAlly cX0_isAlly 2 (some .boolean)]
def wsX6_save : List Cond := .code yX6_save cX6_save 3 (some .int) :: ((wsX6_save_r1 ++ wsX6_save_r2) ++ wsX60 ++ wsX00 ++ wsX20 ++ (vx_atM "java/lang/ArrayIndexOutOfBoundsException" ["java/lang/IndexOutOfBoundsException", "java/lang/RuntimeException", "java/lang/Exception"]).filter goodWord)
def wsX6_requireSave : List Cond := .code yX6_requireSave cX6_requireSave 1 none :: ([.classLink RX6 192 "java/util/NoSuchElementException", .initialized "java/util/NoSuchElementException", .fieldLink RX6 213 "SeedBattle" "saved" "Z"] ++ wsX60 ++ (vx_atS RX6 196 "java/util/NoSuchElementException" ["java/lang/RuntimeException", "java/lang/Exception"]).filter goodWord)
def wsX6_blocks : List Cond := .code yX6_blocks cX6_blocks 2 (some .int) :: ([.fieldLink RX6 34 "SeedBattle" "copies" "[LSeedBattle$Copy;", .methodLink RX6 84 yX6_requirePlayer, .static yX6_requirePlayer, .initialized RX6, .code yX6_requirePlayer cX6_requirePlayer 1 none, .classLink RX6 171 "java/lang/IndexOutOfBoundsException", .initialized "java/lang/IndexOutOfBoundsException", .methodLink RX6 217 yX6_requireSave, .instanceMethod yX6_requireSave, .selects RX6 yX6_requireSave yX6_requireSave, .code yX6_requireSave cX6_requireSave 1 none, .classLink RX6 192 "java/util/NoSuchElementException", .initialized "java/util/NoSuchElementException", .fieldLink RX6 213 "SeedBattle" "saved" "Z", .methodLink RX6 220 yX0_blockCount, .instanceMethod yX0_blockCount, .selects RX0 yX0_blockCount yX0_blockCount, .initialized RX0, .code yX0_blockCount cX0_blockCount 1 (some .int), .fieldLink RX0 33 "SeedBattle$Copy" "size" "I"] ++ wsX60 ++ wsX00 ++ (vx_atS RX6 175 "java/lang/IndexOutOfBoundsException" ["java/lang/RuntimeException", "java/lang/Exception"]).filter goodWord ++ (vx_atS RX6 196 "java/util/NoSuchElementException" ["java/lang/RuntimeException", "java/lang/Exception"]).filter goodWord)
def wsX6_breakBlock_r1 : List Cond := [Cond.classLink RX6 192 "java/util/NoSuchElementException", Cond.initialized "java/util/NoSuchElementException", Cond.fieldLink RX6 34 "SeedBattle" "copies" "[LSeedBattle$Copy;", Cond.methodLink RX6 84 yX6_requirePlayer, Cond.static yX6_requirePlayer, Cond.initialized RX6, Cond.code yX6_requirePlayer cX6_requirePlayer 1 none, Cond.classLink RX6 171 "java/lang/IndexOutOfBoundsException", Cond.initialized "java/lang/IndexOutOfBoundsException", Cond.methodLink RX6 217 yX6_requireSave, Cond.instanceMethod yX6_requireSave, Cond.selects RX6 yX6_requireSave yX6_requireSave, Cond.code yX6_requireSave cX6_requireSave 1 none, Cond.fieldLink RX6 213 "SeedBattle" "saved" "Z", Cond.methodLink RX6 220 yX0_blockCount, Cond.instanceMethod yX0_blockCount, Cond.selects RX0 yX0_blockCount yX0_blockCount, Cond.initialized RX0, Cond.code yX0_blockCount cX0_blockCount 1 (some .int), Cond.fieldLink RX0 33 "SeedBattle$Copy" "size" "I", Cond.methodLink RX6 226 yX0_isBroken, Cond.instanceMethod yX0_isBroken, Cond.selects RX0 yX0_isBroken yX0_isBroken, Cond.code yX0_isBroken cX0_isBroken 2 (some .boolean)]
def wsX6_breakBlock_r2 : List Cond := [Cond.fieldLink RX0 40 "SeedBattle$Copy" "brokenBits" "I", Cond.methodLink RX0 73 yX0_blockCount, Cond.methodLink RX6 229 yX0_breakOne, Cond.instanceMethod yX0_breakOne, Cond.selects RX0 yX0_breakOne yX0_breakOne, Cond.code yX0_breakOne cX0_breakOne 3 none, Cond.fieldLink RX0 9 "SeedBattle$Copy" "numbers" "[I", Cond.methodLink RX0 77 yX0_blockEnd, Cond.instanceMethod yX0_blockEnd, Cond.selects RX0 yX0_blockEnd yX0_blockEnd, Cond.code yX0_blockEnd cX0_blockEnd 2 (some .int), Cond.methodLink RX0 27 Lib.Math.min.name, Cond.static Lib.Math.min.name, Cond.initialized "java/lang/Math", Cond.code Lib.Math.min.name Lib.Math.min.code 2 (some .int)]
def wsX6_breakBlock : List Cond := .code yX6_breakBlock cX6_breakBlock 4 (some .boolean) :: ((wsX6_breakBlock_r1 ++ wsX6_breakBlock_r2) ++ wsX60 ++ wsX00 ++ (vx_atS RX6 196 "java/util/NoSuchElementException" ["java/lang/RuntimeException", "java/lang/Exception"]).filter goodWord ++ (vx_atS RX6 175 "java/lang/IndexOutOfBoundsException" ["java/lang/RuntimeException", "java/lang/Exception"]).filter goodWord ++ (vx_atM "java/lang/ArrayIndexOutOfBoundsException" ["java/lang/IndexOutOfBoundsException", "java/lang/RuntimeException", "java/lang/Exception"]).filter goodWord)
def wsX6_savedAt_r1 : List Cond := [Cond.classLink RX6 192 "java/util/NoSuchElementException", Cond.initialized "java/util/NoSuchElementException", Cond.classLink RX6 103 "java/lang/UnsupportedOperationException", Cond.initialized "java/lang/UnsupportedOperationException", Cond.fieldLink RX6 34 "SeedBattle" "copies" "[LSeedBattle$Copy;", Cond.methodLink RX6 84 yX6_requirePlayer, Cond.static yX6_requirePlayer, Cond.initialized RX6, Cond.code yX6_requirePlayer cX6_requirePlayer 1 none, Cond.classLink RX6 171 "java/lang/IndexOutOfBoundsException", Cond.initialized "java/lang/IndexOutOfBoundsException", Cond.methodLink RX6 217 yX6_requireSave, Cond.instanceMethod yX6_requireSave, Cond.selects RX6 yX6_requireSave yX6_requireSave, Cond.code yX6_requireSave cX6_requireSave 1 none, Cond.fieldLink RX6 213 "SeedBattle" "saved" "Z", Cond.methodLink RX6 226 yX0_isBroken, Cond.instanceMethod yX0_isBroken, Cond.selects RX0 yX0_isBroken yX0_isBroken, Cond.initialized RX0, Cond.code yX0_isBroken cX0_isBroken 2 (some .boolean), Cond.fieldLink RX0 40 "SeedBattle$Copy" "brokenBits" "I", Cond.methodLink RX0 73 yX0_blockCount, Cond.instanceMethod yX0_blockCount]
def wsX6_savedAt_r2 : List Cond := [Cond.selects RX0 yX0_blockCount yX0_blockCount, Cond.code yX0_blockCount cX0_blockCount 1 (some .int), Cond.fieldLink RX0 33 "SeedBattle$Copy" "size" "I", Cond.methodLink RX6 236 yX0_numberAt, Cond.instanceMethod yX0_numberAt, Cond.selects RX0 yX0_numberAt yX0_numberAt, Cond.code yX0_numberAt cX0_numberAt 2 (some .int), Cond.fieldLink RX0 9 "SeedBattle$Copy" "numbers" "[I"]
def wsX6_savedAt : List Cond := .code yX6_savedAt cX6_savedAt 3 (some .int) :: ((wsX6_savedAt_r1 ++ wsX6_savedAt_r2) ++ wsX60 ++ wsX00 ++ (vx_atS RX6 196 "java/util/NoSuchElementException" ["java/lang/RuntimeException", "java/lang/Exception"]).filter goodWord ++ (vx_atS RX6 107 "java/lang/UnsupportedOperationException" ["java/lang/RuntimeException", "java/lang/Exception"]).filter goodWord ++ (vx_atS RX6 175 "java/lang/IndexOutOfBoundsException" ["java/lang/RuntimeException", "java/lang/Exception"]).filter goodWord ++ (vx_atM "java/lang/ArrayIndexOutOfBoundsException" ["java/lang/IndexOutOfBoundsException", "java/lang/RuntimeException", "java/lang/Exception"]).filter goodWord)
def wsX6_repair_r1 : List Cond := [Cond.fieldLink RX6 34 "SeedBattle" "copies" "[LSeedBattle$Copy;", Cond.methodLink RX6 84 yX6_requirePlayer, Cond.static yX6_requirePlayer, Cond.initialized RX6, Cond.code yX6_requirePlayer cX6_requirePlayer 1 none, Cond.classLink RX6 171 "java/lang/IndexOutOfBoundsException", Cond.initialized "java/lang/IndexOutOfBoundsException", Cond.methodLink RX6 217 yX6_requireSave, Cond.instanceMethod yX6_requireSave, Cond.selects RX6 yX6_requireSave yX6_requireSave, Cond.code yX6_requireSave cX6_requireSave 1 none, Cond.classLink RX6 192 "java/util/NoSuchElementException", Cond.initialized "java/util/NoSuchElementException", Cond.fieldLink RX6 213 "SeedBattle" "saved" "Z", Cond.methodLink RX6 220 yX0_blockCount, Cond.instanceMethod yX0_blockCount, Cond.selects RX0 yX0_blockCount yX0_blockCount, Cond.initialized RX0, Cond.code yX0_blockCount cX0_blockCount 1 (some .int), Cond.fieldLink RX0 33 "SeedBattle$Copy" "size" "I", Cond.methodLink RX6 226 yX0_isBroken, Cond.instanceMethod yX0_isBroken, Cond.selects RX0 yX0_isBroken yX0_isBroken, Cond.code yX0_isBroken cX0_isBroken 2 (some .boolean)]
def wsX6_repair_r2 : List Cond := [Cond.fieldLink RX0 40 "SeedBattle$Copy" "brokenBits" "I", Cond.methodLink RX0 73 yX0_blockCount, Cond.methodLink RX6 239 yX0_canRebuild, Cond.instanceMethod yX0_canRebuild, Cond.selects RX0 yX0_canRebuild yX0_canRebuild, Cond.code yX0_canRebuild cX0_canRebuild 4 (some .boolean), Cond.fieldLink RX0 43 "SeedBattle$Copy" "allyBits" "I", Cond.fieldLink RX0 46 "SeedBattle$Copy" "allyGone" "Z", Cond.methodLink RX0 80 yX0_isAlly, Cond.instanceMethod yX0_isAlly, Cond.selects RX0 yX0_isAlly yX0_isAlly, Cond.code yX0_isAlly cX0_isAlly 2 (some .boolean), Cond.methodLink RX0 84 yX0_isBroken, Cond.methodLink RX6 243 yX0_rebuild, Cond.instanceMethod yX0_rebuild, Cond.selects RX0 yX0_rebuild yX0_rebuild, Cond.code yX0_rebuild cX0_rebuild 4 none, Cond.fieldLink RX0 9 "SeedBattle$Copy" "numbers" "[I", Cond.fieldLink RX0 15 "SeedBattle$Copy" "parity" "[I", Cond.methodLink RX0 77 yX0_blockEnd, Cond.instanceMethod yX0_blockEnd, Cond.selects RX0 yX0_blockEnd yX0_blockEnd, Cond.code yX0_blockEnd cX0_blockEnd 2 (some .int), Cond.methodLink RX0 27 Lib.Math.min.name]
def wsX6_repair_r3 : List Cond := [Cond.static Lib.Math.min.name, Cond.initialized "java/lang/Math", Cond.code Lib.Math.min.name Lib.Math.min.code 2 (some .int), Cond.methodLink RX0 53 yX0_alliesAt, Cond.instanceMethod yX0_alliesAt, Cond.selects RX0 yX0_alliesAt yX0_alliesAt, Cond.code yX0_alliesAt cX0_alliesAt 5 (some .int), Cond.methodLink RX0 50 yX0_numberAt, Cond.instanceMethod yX0_numberAt, Cond.selects RX0 yX0_numberAt yX0_numberAt, Cond.code yX0_numberAt cX0_numberAt 2 (some .int)]
def wsX6_repair : List Cond := .code yX6_repair cX6_repair 4 (some .int) :: ((wsX6_repair_r1 ++ (wsX6_repair_r2 ++ wsX6_repair_r3)) ++ wsX60 ++ wsX00 ++ (vx_atS RX6 175 "java/lang/IndexOutOfBoundsException" ["java/lang/RuntimeException", "java/lang/Exception"]).filter goodWord ++ (vx_atS RX6 196 "java/util/NoSuchElementException" ["java/lang/RuntimeException", "java/lang/Exception"]).filter goodWord ++ (vx_atM "java/lang/ArrayIndexOutOfBoundsException" ["java/lang/IndexOutOfBoundsException", "java/lang/RuntimeException", "java/lang/Exception"]).filter goodWord)
def wsX6_load_r1 : List Cond := [Cond.classLink RX6 103 "java/lang/UnsupportedOperationException", Cond.initialized "java/lang/UnsupportedOperationException", Cond.fieldLink RX6 34 "SeedBattle" "copies" "[LSeedBattle$Copy;", Cond.fieldLink RX6 28 "SeedBattle" "indexes" "[LSeedBattle$Index;", Cond.methodLink RX6 84 yX6_requirePlayer, Cond.static yX6_requirePlayer, Cond.initialized RX6, Cond.code yX6_requirePlayer cX6_requirePlayer 1 none, Cond.classLink RX6 171 "java/lang/IndexOutOfBoundsException", Cond.initialized "java/lang/IndexOutOfBoundsException", Cond.methodLink RX6 217 yX6_requireSave, Cond.instanceMethod yX6_requireSave, Cond.selects RX6 yX6_requireSave yX6_requireSave, Cond.code yX6_requireSave cX6_requireSave 1 none, Cond.classLink RX6 192 "java/util/NoSuchElementException", Cond.initialized "java/util/NoSuchElementException", Cond.fieldLink RX6 213 "SeedBattle" "saved" "Z", Cond.methodLink RX6 247 yX0_anyBroken, Cond.instanceMethod yX0_anyBroken, Cond.selects RX0 yX0_anyBroken yX0_anyBroken, Cond.initialized RX0, Cond.code yX0_anyBroken cX0_anyBroken 1 (some .boolean), Cond.fieldLink RX0 40 "SeedBattle$Copy" "brokenBits" "I", Cond.methodLink RX6 253 yX0_writeTo]
def wsX6_load_r2 : List Cond := [Cond.instanceMethod yX0_writeTo, Cond.selects RX0 yX0_writeTo yX0_writeTo, Cond.code yX0_writeTo cX0_writeTo 3 none, Cond.fieldLink RX0 33 "SeedBattle$Copy" "size" "I", Cond.fieldLink RX0 9 "SeedBattle$Copy" "numbers" "[I", Cond.methodLink RX0 57 yX2_clear, Cond.instanceMethod yX2_clear, Cond.selects RX2 yX2_clear yX2_clear, Cond.initialized RX2, Cond.code yX2_clear cX2_clear 1 none, Cond.fieldLink RX2 15 "SeedBattle$Index" "count" "I", Cond.static yX6_turnOf, Cond.code yX6_turnOf cX6_turnOf 1 (some .int), Cond.constant RX6 297 (100000), Cond.static yX6_placeOf, Cond.code yX6_placeOf cX6_placeOf 1 (some .int), Cond.static yX6_unitOf, Cond.code yX6_unitOf cX6_unitOf 1 (some .int), Cond.methodLink RX0 69 yX2_add, Cond.instanceMethod yX2_add, Cond.selects RX2 yX2_add yX2_add, Cond.code yX2_add cX2_add 5 none, Cond.fieldLink RX2 9 "SeedBattle$Index" "numbers" "[I", Cond.methodLink RX2 19 yX2_isBehind]
def wsX6_load_r3 : List Cond := [Cond.static yX2_isBehind, Cond.code yX2_isBehind cX2_isBehind 3 (some .boolean), Cond.static yX6_numberFor, Cond.code yX6_numberFor cX6_numberFor 3 (some .int), Cond.methodLink RX2 27 yX2_dropFirst, Cond.instanceMethod yX2_dropFirst, Cond.selects RX2 yX2_dropFirst yX2_dropFirst, Cond.code yX2_dropFirst cX2_dropFirst 2 none]
def wsX6_load : List Cond := .code yX6_load cX6_load 2 (some .int) :: ((wsX6_load_r1 ++ (wsX6_load_r2 ++ wsX6_load_r3)) ++ wsX60 ++ wsX20 ++ wsX00 ++ (vx_atS RX6 107 "java/lang/UnsupportedOperationException" ["java/lang/RuntimeException", "java/lang/Exception"]).filter goodWord ++ (vx_atS RX6 175 "java/lang/IndexOutOfBoundsException" ["java/lang/RuntimeException", "java/lang/Exception"]).filter goodWord ++ (vx_atS RX6 196 "java/util/NoSuchElementException" ["java/lang/RuntimeException", "java/lang/Exception"]).filter goodWord ++ (vx_atM "java/lang/ArrayIndexOutOfBoundsException" ["java/lang/IndexOutOfBoundsException", "java/lang/RuntimeException", "java/lang/Exception"]).filter goodWord)
def wsJ6_bitCount_0f7a4 : List Cond := .code yJ6_bitCount_0f7a4 cJ6_bitCount_0f7a4 1 (some .int) :: ([.constant RJ6 265 (1431655765), .constant RJ6 266 (858993459), .constant RJ6 267 (252645135)])
def wsX6_allies : List Cond := .code yX6_allies cX6_allies 2 (some .int) :: ([.fieldLink RX6 34 "SeedBattle" "copies" "[LSeedBattle$Copy;", .methodLink RX6 84 yX6_requirePlayer, .static yX6_requirePlayer, .initialized RX6, .code yX6_requirePlayer cX6_requirePlayer 1 none, .classLink RX6 171 "java/lang/IndexOutOfBoundsException", .initialized "java/lang/IndexOutOfBoundsException", .methodLink RX6 217 yX6_requireSave, .instanceMethod yX6_requireSave, .selects RX6 yX6_requireSave yX6_requireSave, .code yX6_requireSave cX6_requireSave 1 none, .classLink RX6 192 "java/util/NoSuchElementException", .initialized "java/util/NoSuchElementException", .fieldLink RX6 213 "SeedBattle" "saved" "Z", .methodLink RX6 260 yJ6_bitCount_0f7a4, .static yJ6_bitCount_0f7a4, .initialized RJ6, .code yJ6_bitCount_0f7a4 cJ6_bitCount_0f7a4 1 (some .int), .constant RJ6 265 (1431655765), .constant RJ6 266 (858993459), .constant RJ6 267 (252645135)] ++ wsX60 ++ wsX00 ++ (vx_atS RX6 175 "java/lang/IndexOutOfBoundsException" ["java/lang/RuntimeException", "java/lang/Exception"]).filter goodWord ++ (vx_atS RX6 196 "java/util/NoSuchElementException" ["java/lang/RuntimeException", "java/lang/Exception"]).filter goodWord)
def wsX6_checksum : List Cond := .code yX6_checksum cX6_checksum 4 (some .long) :: ([.fieldLink RX6 10 "SeedBattle" "field" "LSeedBattle$Field;", .constantLong RX6 265 (31), .methodLink RX6 152 yX5_place, .instanceMethod yX5_place, .selects RX5 yX5_place yX5_place, .initialized RX5, .code yX5_place cX5_place 2 (some .int), .fieldLink RX5 24 "SeedBattle$Units" "count" "I", .fieldLink RX5 21 "SeedBattle$Units" "places" "[I"] ++ wsX60 ++ wsX10 ++ wsX50 ++ (vx_atM "java/lang/ArrayIndexOutOfBoundsException" ["java/lang/IndexOutOfBoundsException", "java/lang/RuntimeException", "java/lang/Exception"]).filter goodWord)
def wsX6_livingShare : List Cond := .code yX6_livingShare cX6_livingShare 4 (some .float) :: ([.classLink RX6 267 "java/lang/ArithmeticException", .initialized "java/lang/ArithmeticException", .fieldLink RX6 10 "SeedBattle" "field" "LSeedBattle$Field;", .methodLink RX6 122 yX5_lives, .instanceMethod yX5_lives, .selects RX5 yX5_lives yX5_lives, .initialized RX5, .code yX5_lives cX5_lives 2 (some .boolean), .methodLink RX5 32 yX5_place, .instanceMethod yX5_place, .selects RX5 yX5_place yX5_place, .code yX5_place cX5_place 2 (some .int), .fieldLink RX5 24 "SeedBattle$Units" "count" "I", .fieldLink RX5 21 "SeedBattle$Units" "places" "[I"] ++ wsX60 ++ wsX10 ++ wsX50 ++ (vx_atS RX6 271 "java/lang/ArithmeticException" ["java/lang/RuntimeException", "java/lang/Exception"]).filter goodWord ++ (vx_atM "java/lang/ArrayIndexOutOfBoundsException" ["java/lang/IndexOutOfBoundsException", "java/lang/RuntimeException", "java/lang/Exception"]).filter goodWord)
def wsX6_meanAge : List Cond := .code yX6_meanAge cX6_meanAge 7 (some .double) :: ([.classLink RX6 267 "java/lang/ArithmeticException", .initialized "java/lang/ArithmeticException", .fieldLink RX6 28 "SeedBattle" "indexes" "[LSeedBattle$Index;", .fieldLink RX6 108 "SeedBattle" "turnsDone" "I", .methodLink RX6 176 yX2_at, .instanceMethod yX2_at, .selects RX2 yX2_at yX2_at, .initialized RX2, .code yX2_at cX2_at 2 (some .int), .fieldLink RX2 15 "SeedBattle$Index" "count" "I", .fieldLink RX2 9 "SeedBattle$Index" "numbers" "[I", .methodLink RX6 178 yX6_turnOf, .static yX6_turnOf, .initialized RX6, .code yX6_turnOf cX6_turnOf 1 (some .int), .constant RX6 297 (100000)] ++ wsX60 ++ wsX20 ++ (vx_atS RX6 271 "java/lang/ArithmeticException" ["java/lang/RuntimeException", "java/lang/Exception"]).filter goodWord ++ (vx_atM "java/lang/ArrayIndexOutOfBoundsException" ["java/lang/IndexOutOfBoundsException", "java/lang/RuntimeException", "java/lang/Exception"]).filter goodWord)
def wsX6_unitsAreWhereReplayed_r1 : List Cond := [Cond.fieldLink RX6 16 "SeedBattle" "rehearsal" "LSeedBattle$Field;", Cond.fieldLink RX6 74 "SeedBattle" "seedNow" "I", Cond.fieldLink RX6 10 "SeedBattle" "field" "LSeedBattle$Field;", Cond.fieldLink RX6 108 "SeedBattle" "turnsDone" "I", Cond.fieldLink RX6 22 "SeedBattle" "orders" "LSeedBattle$Orders;", Cond.methodLink RX6 51 yX3_grow, Cond.instanceMethod yX3_grow, Cond.selects RX3 yX3_grow yX3_grow, Cond.initialized RX3, Cond.code yX3_grow cX3_grow 4 none, Cond.constant RX3 15 (1103515245), Cond.fieldLink RX3 9 "SeedBattle$Land" "grounds" "[C", Cond.methodLink RX3 18 yJ0_charAt_5068e, Cond.instanceMethod yJ0_charAt_5068e, Cond.selects RJ0 yJ0_charAt_5068e yJ0_charAt_5068e, Cond.initialized RJ0, Cond.code yJ0_charAt_5068e cJ0_charAt_5068e 2 (some .char), Cond.fieldLink RJ0 9 "java/lang/String" "value" "[B", Cond.methodLink RJ0 492 yJ0_isLatin1_aae02, Cond.instanceMethod yJ0_isLatin1_aae02, Cond.selects RJ0 yJ0_isLatin1_aae02 yJ0_isLatin1_aae02, Cond.code yJ0_isLatin1_aae02 cJ0_isLatin1_aae02 1 (some .boolean), Cond.fieldLink RJ0 38 "java/lang/String" "COMPACT_STRINGS" "Z", Cond.fieldLink RJ0 15 "java/lang/String" "coder" "B"]
def wsX6_unitsAreWhereReplayed_r2 : List Cond := [Cond.methodLink RJ0 495 yJ1_charAt_3b067, Cond.static yJ1_charAt_3b067, Cond.initialized RJ1, Cond.code yJ1_charAt_3b067 cJ1_charAt_3b067 2 (some .char), Cond.methodLink RJ1 9 yJ0_checkIndex_df160, Cond.static yJ0_checkIndex_df160, Cond.code yJ0_checkIndex_df160 cJ0_checkIndex_df160 2 none, Cond.fieldLink RJ0 1053 "jdk/internal/util/Preconditions" "SIOOBE_FORMATTER" "Ljava/util/function/BiFunction;", Cond.methodLink RJ0 1059 yJ3_checkIndex_8e157, Cond.static yJ3_checkIndex_8e157, Cond.initialized RJ3, Cond.code yJ3_checkIndex_8e157 cJ3_checkIndex_8e157 3 (some .int), Cond.methodLink RJ0 498 yJ2_charAt_3b067, Cond.static yJ2_charAt_3b067, Cond.initialized RJ2, Cond.code yJ2_charAt_3b067 cJ2_charAt_3b067 2 (some .char), Cond.methodLink RJ2 67 yJ2_checkIndex_2214a, Cond.static yJ2_checkIndex_2214a, Cond.code yJ2_checkIndex_2214a cJ2_checkIndex_2214a 2 none, Cond.methodLink RJ2 48 yJ2_length_9d52b, Cond.static yJ2_length_9d52b, Cond.code yJ2_length_9d52b cJ2_length_9d52b 1 (some .int), Cond.methodLink RJ2 414 yJ0_checkIndex_df160, Cond.methodLink RJ2 71 yJ2_getChar_3b067]
def wsX6_unitsAreWhereReplayed_r3 : List Cond := [Cond.static yJ2_getChar_3b067, Cond.code yJ2_getChar_3b067 cJ2_getChar_3b067 2 (some .char), Cond.fieldLink RJ2 44 "java/lang/StringUTF16" "$assertionsDisabled" "Z", Cond.fieldLink RJ2 59 "java/lang/StringUTF16" "HI_BYTE_SHIFT" "I", Cond.fieldLink RJ2 63 "java/lang/StringUTF16" "LO_BYTE_SHIFT" "I", Cond.methodLink RX6 311 yX5_startLike, Cond.instanceMethod yX5_startLike, Cond.selects RX5 yX5_startLike yX5_startLike, Cond.initialized RX5, Cond.code yX5_startLike cX5_startLike 3 none, Cond.fieldLink RX5 24 "SeedBattle$Units" "count" "I", Cond.fieldLink RX5 9 "SeedBattle$Units" "owners" "[I", Cond.fieldLink RX5 15 "SeedBattle$Units" "kinds" "[I", Cond.fieldLink RX5 18 "SeedBattle$Units" "starts" "[I", Cond.methodLink RX5 28 yX5_put, Cond.instanceMethod yX5_put, Cond.selects RX5 yX5_put yX5_put, Cond.code yX5_put cX5_put 4 (some .int), Cond.fieldLink RX5 21 "SeedBattle$Units" "places" "[I", Cond.methodLink RX6 139 yX1_playTurn, Cond.instanceMethod yX1_playTurn, Cond.selects RX1 yX1_playTurn yX1_playTurn, Cond.initialized RX1, Cond.code yX1_playTurn cX1_playTurn 5 (some .int)]
def wsX6_unitsAreWhereReplayed_r4 : List Cond := [Cond.methodLink RX1 32 yX1_readWants, Cond.instanceMethod yX1_readWants, Cond.selects RX1 yX1_readWants yX1_readWants, Cond.code yX1_readWants cX1_readWants 7 (some .boolean), Cond.fieldLink RX1 21 "SeedBattle$Field" "units" "LSeedBattle$Units;", Cond.fieldLink RX1 25 "SeedBattle$Field" "wants" "[I", Cond.fieldLink RX1 12 "SeedBattle$Field" "land" "LSeedBattle$Land;", Cond.methodLink RX1 50 yX5_place, Cond.instanceMethod yX5_place, Cond.selects RX5 yX5_place yX5_place, Cond.code yX5_place cX5_place 2 (some .int), Cond.methodLink RX1 54 yX4_direction, Cond.instanceMethod yX4_direction, Cond.selects RX4 yX4_direction yX4_direction, Cond.initialized RX4, Cond.code yX4_direction cX4_direction 5 (some .int), Cond.fieldLink RX4 9 "SeedBattle$Orders" "directions" "[I", Cond.methodLink RX4 28 yX4_spotOf, Cond.static yX4_spotOf, Cond.code yX4_spotOf cX4_spotOf 4 (some .int), Cond.methodLink RX1 60 yX3_beside, Cond.instanceMethod yX3_beside, Cond.selects RX3 yX3_beside yX3_beside, Cond.code yX3_beside cX3_beside 6 (some .int)]
def wsX6_unitsAreWhereReplayed_r5 : List Cond := [Cond.methodLink RX3 35 yX3_at, Cond.instanceMethod yX3_at, Cond.selects RX3 yX3_at yX3_at, Cond.code yX3_at cX3_at 2 (some .char), Cond.static yX6_isCell, Cond.initialized RX6, Cond.code yX6_isCell cX6_isCell 1 (some .boolean), Cond.methodLink RX1 64 yX1_isMover, Cond.instanceMethod yX1_isMover, Cond.selects RX1 yX1_isMover yX1_isMover, Cond.code yX1_isMover cX1_isMover 2 (some .boolean), Cond.methodLink RX1 36 yX1_meetPairs, Cond.instanceMethod yX1_meetPairs, Cond.selects RX1 yX1_meetPairs yX1_meetPairs, Cond.code yX1_meetPairs cX1_meetPairs 4 (some .int), Cond.methodLink RX1 68 yX1_facing, Cond.instanceMethod yX1_facing, Cond.selects RX1 yX1_facing yX1_facing, Cond.code yX1_facing cX1_facing 3 (some .int), Cond.methodLink RX1 74 yX5_on, Cond.instanceMethod yX5_on, Cond.selects RX5 yX5_on yX5_on, Cond.code yX5_on cX5_on 3 (some .int), Cond.methodLink RX1 77 yX5_owner]
def wsX6_unitsAreWhereReplayed_r6 : List Cond := [Cond.instanceMethod yX5_owner, Cond.selects RX5 yX5_owner yX5_owner, Cond.code yX5_owner cX5_owner 2 (some .int), Cond.methodLink RX1 71 yX1_meet, Cond.instanceMethod yX1_meet, Cond.selects RX1 yX1_meet yX1_meet, Cond.code yX1_meet cX1_meet 4 (some .int), Cond.methodLink RX1 80 yX5_power, Cond.instanceMethod yX5_power, Cond.selects RX5 yX5_power yX5_power, Cond.code yX5_power cX5_power 2 (some .int), Cond.methodLink RX1 83 yX1_lose, Cond.instanceMethod yX1_lose, Cond.selects RX1 yX1_lose yX1_lose, Cond.code yX1_lose cX1_lose 2 none, Cond.methodLink RX1 87 yX5_move, Cond.instanceMethod yX5_move, Cond.selects RX5 yX5_move yX5_move, Cond.code yX5_move cX5_move 3 none, Cond.methodLink RX1 40 yX1_settleCells, Cond.instanceMethod yX1_settleCells, Cond.selects RX1 yX1_settleCells yX1_settleCells, Cond.code yX1_settleCells cX1_settleCells 4 (some .int), Cond.methodLink RX1 91 yX1_lowestContested]
def wsX6_unitsAreWhereReplayed_r7 : List Cond := [Cond.instanceMethod yX1_lowestContested, Cond.selects RX1 yX1_lowestContested yX1_lowestContested, Cond.code yX1_lowestContested cX1_lowestContested 3 (some .int), Cond.methodLink RX1 97 yX1_isContested, Cond.instanceMethod yX1_isContested, Cond.selects RX1 yX1_isContested yX1_isContested, Cond.code yX1_isContested cX1_isContested 4 (some .boolean), Cond.methodLink RX1 94 yX1_lookAt, Cond.instanceMethod yX1_lookAt, Cond.selects RX1 yX1_lookAt yX1_lookAt, Cond.code yX1_lookAt cX1_lookAt 4 (some .int), Cond.methodLink RX1 100 yX1_strongestFor, Cond.instanceMethod yX1_strongestFor, Cond.selects RX1 yX1_strongestFor yX1_strongestFor, Cond.code yX1_strongestFor cX1_strongestFor 5 (some .int), Cond.fieldLink RX1 29 "SeedBattle$Field" "powers" "[I", Cond.methodLink RX1 109 yJ7_fill_53178, Cond.static yJ7_fill_53178, Cond.initialized RJ7, Cond.code yJ7_fill_53178 cJ7_fill_53178 4 none, Cond.methodLink RX1 103 yX1_firstMover, Cond.instanceMethod yX1_firstMover, Cond.selects RX1 yX1_firstMover yX1_firstMover, Cond.code yX1_firstMover cX1_firstMover 4 (some .int)]
def wsX6_unitsAreWhereReplayed_r8 : List Cond := [Cond.methodLink RX1 106 yX1_turnBack, Cond.instanceMethod yX1_turnBack, Cond.selects RX1 yX1_turnBack yX1_turnBack, Cond.code yX1_turnBack cX1_turnBack 4 none, Cond.methodLink RX1 43 yX1_moveAll, Cond.instanceMethod yX1_moveAll, Cond.selects RX1 yX1_moveAll yX1_moveAll, Cond.code yX1_moveAll cX1_moveAll 2 none, Cond.methodLink RX6 152 yX5_place]
def wsX6_unitsAreWhereReplayed : List Cond := .code yX6_unitsAreWhereReplayed cX6_unitsAreWhereReplayed 2 (some .boolean) :: ((wsX6_unitsAreWhereReplayed_r1 ++ (wsX6_unitsAreWhereReplayed_r2 ++ (wsX6_unitsAreWhereReplayed_r3 ++ (wsX6_unitsAreWhereReplayed_r4 ++ (wsX6_unitsAreWhereReplayed_r5 ++ (wsX6_unitsAreWhereReplayed_r6 ++ (wsX6_unitsAreWhereReplayed_r7 ++ wsX6_unitsAreWhereReplayed_r8))))))) ++ wsX60 ++ wsX10 ++ wsX50 ++ wsX30 ++ wsJ00 ++ wsX40 ++ (vx_atM "java/lang/ArrayIndexOutOfBoundsException" ["java/lang/IndexOutOfBoundsException", "java/lang/RuntimeException", "java/lang/Exception"]).filter goodWord)
def wsX6_savesAreAsTaken : List Cond := .code yX6_savesAreAsTaken cX6_savesAreAsTaken 2 (some .boolean) :: ([.fieldLink RX6 34 "SeedBattle" "copies" "[LSeedBattle$Copy;", .methodLink RX6 315 yX0_isAsTaken, .instanceMethod yX0_isAsTaken, .selects RX0 yX0_isAsTaken yX0_isAsTaken, .initialized RX0, .code yX0_isAsTaken cX0_isAsTaken 2 (some .boolean), .fieldLink RX0 33 "SeedBattle$Copy" "size" "I", .fieldLink RX0 9 "SeedBattle$Copy" "numbers" "[I", .methodLink RX0 84 yX0_isBroken, .instanceMethod yX0_isBroken, .selects RX0 yX0_isBroken yX0_isBroken, .code yX0_isBroken cX0_isBroken 2 (some .boolean), .fieldLink RX0 40 "SeedBattle$Copy" "brokenBits" "I", .methodLink RX0 73 yX0_blockCount, .instanceMethod yX0_blockCount, .selects RX0 yX0_blockCount yX0_blockCount, .code yX0_blockCount cX0_blockCount 1 (some .int), .methodLink RX0 87 yX0_wasTaken, .instanceMethod yX0_wasTaken, .selects RX0 yX0_wasTaken yX0_wasTaken, .code yX0_wasTaken cX0_wasTaken 3 (some .boolean), .fieldLink RX0 18 "SeedBattle$Copy" "original" "[I"] ++ wsX60 ++ wsX00 ++ (vx_atM "java/lang/ArrayIndexOutOfBoundsException" ["java/lang/IndexOutOfBoundsException", "java/lang/RuntimeException", "java/lang/Exception"]).filter goodWord)
def wsX6_noIndexHasOwnUnits : List Cond := .code yX6_noIndexHasOwnUnits cX6_noIndexHasOwnUnits 4 (some .boolean) :: ([.fieldLink RX6 28 "SeedBattle" "indexes" "[LSeedBattle$Index;", .fieldLink RX6 10 "SeedBattle" "field" "LSeedBattle$Field;", .methodLink RX6 176 yX2_at, .instanceMethod yX2_at, .selects RX2 yX2_at yX2_at, .initialized RX2, .code yX2_at cX2_at 2 (some .int), .fieldLink RX2 15 "SeedBattle$Index" "count" "I", .fieldLink RX2 9 "SeedBattle$Index" "numbers" "[I", .methodLink RX6 184 yX6_unitOf, .static yX6_unitOf, .initialized RX6, .code yX6_unitOf cX6_unitOf 1 (some .int), .methodLink RX6 298 yX5_owner, .instanceMethod yX5_owner, .selects RX5 yX5_owner yX5_owner, .initialized RX5, .code yX5_owner cX5_owner 2 (some .int), .fieldLink RX5 24 "SeedBattle$Units" "count" "I", .fieldLink RX5 9 "SeedBattle$Units" "owners" "[I"] ++ wsX60 ++ wsX20 ++ wsX10 ++ wsX50 ++ (vx_atM "java/lang/ArrayIndexOutOfBoundsException" ["java/lang/IndexOutOfBoundsException", "java/lang/RuntimeException", "java/lang/Exception"]).filter goodWord)
def wsX6_isSound_r1 : List Cond := [Cond.methodLink RX6 274 yX6_unitsAreWhereReplayed, Cond.instanceMethod yX6_unitsAreWhereReplayed, Cond.selects RX6 yX6_unitsAreWhereReplayed yX6_unitsAreWhereReplayed, Cond.initialized RX6, Cond.code yX6_unitsAreWhereReplayed cX6_unitsAreWhereReplayed 2 (some .boolean), Cond.fieldLink RX6 16 "SeedBattle" "rehearsal" "LSeedBattle$Field;", Cond.fieldLink RX6 74 "SeedBattle" "seedNow" "I", Cond.fieldLink RX6 10 "SeedBattle" "field" "LSeedBattle$Field;", Cond.fieldLink RX6 108 "SeedBattle" "turnsDone" "I", Cond.fieldLink RX6 22 "SeedBattle" "orders" "LSeedBattle$Orders;", Cond.methodLink RX6 51 yX3_grow, Cond.instanceMethod yX3_grow, Cond.selects RX3 yX3_grow yX3_grow, Cond.initialized RX3, Cond.code yX3_grow cX3_grow 4 none, Cond.constant RX3 15 (1103515245), Cond.fieldLink RX3 9 "SeedBattle$Land" "grounds" "[C", Cond.methodLink RX3 18 yJ0_charAt_5068e, Cond.instanceMethod yJ0_charAt_5068e, Cond.selects RJ0 yJ0_charAt_5068e yJ0_charAt_5068e, Cond.initialized RJ0, Cond.code yJ0_charAt_5068e cJ0_charAt_5068e 2 (some .char), Cond.fieldLink RJ0 9 "java/lang/String" "value" "[B", Cond.methodLink RJ0 492 yJ0_isLatin1_aae02]
def wsX6_isSound_r2 : List Cond := [Cond.instanceMethod yJ0_isLatin1_aae02, Cond.selects RJ0 yJ0_isLatin1_aae02 yJ0_isLatin1_aae02, Cond.code yJ0_isLatin1_aae02 cJ0_isLatin1_aae02 1 (some .boolean), Cond.fieldLink RJ0 38 "java/lang/String" "COMPACT_STRINGS" "Z", Cond.fieldLink RJ0 15 "java/lang/String" "coder" "B", Cond.methodLink RJ0 495 yJ1_charAt_3b067, Cond.static yJ1_charAt_3b067, Cond.initialized RJ1, Cond.code yJ1_charAt_3b067 cJ1_charAt_3b067 2 (some .char), Cond.methodLink RJ1 9 yJ0_checkIndex_df160, Cond.static yJ0_checkIndex_df160, Cond.code yJ0_checkIndex_df160 cJ0_checkIndex_df160 2 none, Cond.fieldLink RJ0 1053 "jdk/internal/util/Preconditions" "SIOOBE_FORMATTER" "Ljava/util/function/BiFunction;", Cond.methodLink RJ0 1059 yJ3_checkIndex_8e157, Cond.static yJ3_checkIndex_8e157, Cond.initialized RJ3, Cond.code yJ3_checkIndex_8e157 cJ3_checkIndex_8e157 3 (some .int), Cond.methodLink RJ0 498 yJ2_charAt_3b067, Cond.static yJ2_charAt_3b067, Cond.initialized RJ2, Cond.code yJ2_charAt_3b067 cJ2_charAt_3b067 2 (some .char), Cond.methodLink RJ2 67 yJ2_checkIndex_2214a, Cond.static yJ2_checkIndex_2214a, Cond.code yJ2_checkIndex_2214a cJ2_checkIndex_2214a 2 none]
def wsX6_isSound_r3 : List Cond := [Cond.methodLink RJ2 48 yJ2_length_9d52b, Cond.static yJ2_length_9d52b, Cond.code yJ2_length_9d52b cJ2_length_9d52b 1 (some .int), Cond.methodLink RJ2 414 yJ0_checkIndex_df160, Cond.methodLink RJ2 71 yJ2_getChar_3b067, Cond.static yJ2_getChar_3b067, Cond.code yJ2_getChar_3b067 cJ2_getChar_3b067 2 (some .char), Cond.fieldLink RJ2 44 "java/lang/StringUTF16" "$assertionsDisabled" "Z", Cond.fieldLink RJ2 59 "java/lang/StringUTF16" "HI_BYTE_SHIFT" "I", Cond.fieldLink RJ2 63 "java/lang/StringUTF16" "LO_BYTE_SHIFT" "I", Cond.methodLink RX6 311 yX5_startLike, Cond.instanceMethod yX5_startLike, Cond.selects RX5 yX5_startLike yX5_startLike, Cond.initialized RX5, Cond.code yX5_startLike cX5_startLike 3 none, Cond.fieldLink RX5 24 "SeedBattle$Units" "count" "I", Cond.fieldLink RX5 9 "SeedBattle$Units" "owners" "[I", Cond.fieldLink RX5 15 "SeedBattle$Units" "kinds" "[I", Cond.fieldLink RX5 18 "SeedBattle$Units" "starts" "[I", Cond.methodLink RX5 28 yX5_put, Cond.instanceMethod yX5_put, Cond.selects RX5 yX5_put yX5_put, Cond.code yX5_put cX5_put 4 (some .int), Cond.fieldLink RX5 21 "SeedBattle$Units" "places" "[I"]
def wsX6_isSound_r4 : List Cond := [Cond.methodLink RX6 139 yX1_playTurn, Cond.instanceMethod yX1_playTurn, Cond.selects RX1 yX1_playTurn yX1_playTurn, Cond.initialized RX1, Cond.code yX1_playTurn cX1_playTurn 5 (some .int), Cond.methodLink RX1 32 yX1_readWants, Cond.instanceMethod yX1_readWants, Cond.selects RX1 yX1_readWants yX1_readWants, Cond.code yX1_readWants cX1_readWants 7 (some .boolean), Cond.fieldLink RX1 21 "SeedBattle$Field" "units" "LSeedBattle$Units;", Cond.fieldLink RX1 25 "SeedBattle$Field" "wants" "[I", Cond.fieldLink RX1 12 "SeedBattle$Field" "land" "LSeedBattle$Land;", Cond.methodLink RX1 50 yX5_place, Cond.instanceMethod yX5_place, Cond.selects RX5 yX5_place yX5_place, Cond.code yX5_place cX5_place 2 (some .int), Cond.methodLink RX1 54 yX4_direction, Cond.instanceMethod yX4_direction, Cond.selects RX4 yX4_direction yX4_direction, Cond.initialized RX4, Cond.code yX4_direction cX4_direction 5 (some .int), Cond.fieldLink RX4 9 "SeedBattle$Orders" "directions" "[I", Cond.methodLink RX4 28 yX4_spotOf, Cond.static yX4_spotOf]
def wsX6_isSound_r5 : List Cond := [Cond.code yX4_spotOf cX4_spotOf 4 (some .int), Cond.methodLink RX1 60 yX3_beside, Cond.instanceMethod yX3_beside, Cond.selects RX3 yX3_beside yX3_beside, Cond.code yX3_beside cX3_beside 6 (some .int), Cond.methodLink RX3 35 yX3_at, Cond.instanceMethod yX3_at, Cond.selects RX3 yX3_at yX3_at, Cond.code yX3_at cX3_at 2 (some .char), Cond.static yX6_isCell, Cond.code yX6_isCell cX6_isCell 1 (some .boolean), Cond.methodLink RX1 64 yX1_isMover, Cond.instanceMethod yX1_isMover, Cond.selects RX1 yX1_isMover yX1_isMover, Cond.code yX1_isMover cX1_isMover 2 (some .boolean), Cond.methodLink RX1 36 yX1_meetPairs, Cond.instanceMethod yX1_meetPairs, Cond.selects RX1 yX1_meetPairs yX1_meetPairs, Cond.code yX1_meetPairs cX1_meetPairs 4 (some .int), Cond.methodLink RX1 68 yX1_facing, Cond.instanceMethod yX1_facing, Cond.selects RX1 yX1_facing yX1_facing, Cond.code yX1_facing cX1_facing 3 (some .int), Cond.methodLink RX1 74 yX5_on]
def wsX6_isSound_r6 : List Cond := [Cond.instanceMethod yX5_on, Cond.selects RX5 yX5_on yX5_on, Cond.code yX5_on cX5_on 3 (some .int), Cond.methodLink RX1 77 yX5_owner, Cond.instanceMethod yX5_owner, Cond.selects RX5 yX5_owner yX5_owner, Cond.code yX5_owner cX5_owner 2 (some .int), Cond.methodLink RX1 71 yX1_meet, Cond.instanceMethod yX1_meet, Cond.selects RX1 yX1_meet yX1_meet, Cond.code yX1_meet cX1_meet 4 (some .int), Cond.methodLink RX1 80 yX5_power, Cond.instanceMethod yX5_power, Cond.selects RX5 yX5_power yX5_power, Cond.code yX5_power cX5_power 2 (some .int), Cond.methodLink RX1 83 yX1_lose, Cond.instanceMethod yX1_lose, Cond.selects RX1 yX1_lose yX1_lose, Cond.code yX1_lose cX1_lose 2 none, Cond.methodLink RX1 87 yX5_move, Cond.instanceMethod yX5_move, Cond.selects RX5 yX5_move yX5_move, Cond.code yX5_move cX5_move 3 none, Cond.methodLink RX1 40 yX1_settleCells]
def wsX6_isSound_r7 : List Cond := [Cond.instanceMethod yX1_settleCells, Cond.selects RX1 yX1_settleCells yX1_settleCells, Cond.code yX1_settleCells cX1_settleCells 4 (some .int), Cond.methodLink RX1 91 yX1_lowestContested, Cond.instanceMethod yX1_lowestContested, Cond.selects RX1 yX1_lowestContested yX1_lowestContested, Cond.code yX1_lowestContested cX1_lowestContested 3 (some .int), Cond.methodLink RX1 97 yX1_isContested, Cond.instanceMethod yX1_isContested, Cond.selects RX1 yX1_isContested yX1_isContested, Cond.code yX1_isContested cX1_isContested 4 (some .boolean), Cond.methodLink RX1 94 yX1_lookAt, Cond.instanceMethod yX1_lookAt, Cond.selects RX1 yX1_lookAt yX1_lookAt, Cond.code yX1_lookAt cX1_lookAt 4 (some .int), Cond.methodLink RX1 100 yX1_strongestFor, Cond.instanceMethod yX1_strongestFor, Cond.selects RX1 yX1_strongestFor yX1_strongestFor, Cond.code yX1_strongestFor cX1_strongestFor 5 (some .int), Cond.fieldLink RX1 29 "SeedBattle$Field" "powers" "[I", Cond.methodLink RX1 109 yJ7_fill_53178, Cond.static yJ7_fill_53178, Cond.initialized RJ7, Cond.code yJ7_fill_53178 cJ7_fill_53178 4 none]
def wsX6_isSound_r8 : List Cond := [Cond.methodLink RX1 103 yX1_firstMover, Cond.instanceMethod yX1_firstMover, Cond.selects RX1 yX1_firstMover yX1_firstMover, Cond.code yX1_firstMover cX1_firstMover 4 (some .int), Cond.methodLink RX1 106 yX1_turnBack, Cond.instanceMethod yX1_turnBack, Cond.selects RX1 yX1_turnBack yX1_turnBack, Cond.code yX1_turnBack cX1_turnBack 4 none, Cond.methodLink RX1 43 yX1_moveAll, Cond.instanceMethod yX1_moveAll, Cond.selects RX1 yX1_moveAll yX1_moveAll, Cond.code yX1_moveAll cX1_moveAll 2 none, Cond.methodLink RX6 152 yX5_place, Cond.methodLink RX6 277 yX6_savesAreAsTaken, Cond.instanceMethod yX6_savesAreAsTaken, Cond.selects RX6 yX6_savesAreAsTaken yX6_savesAreAsTaken, Cond.code yX6_savesAreAsTaken cX6_savesAreAsTaken 2 (some .boolean), Cond.fieldLink RX6 34 "SeedBattle" "copies" "[LSeedBattle$Copy;", Cond.methodLink RX6 315 yX0_isAsTaken, Cond.instanceMethod yX0_isAsTaken, Cond.selects RX0 yX0_isAsTaken yX0_isAsTaken, Cond.initialized RX0, Cond.code yX0_isAsTaken cX0_isAsTaken 2 (some .boolean), Cond.fieldLink RX0 33 "SeedBattle$Copy" "size" "I"]
def wsX6_isSound_r9 : List Cond := [Cond.fieldLink RX0 9 "SeedBattle$Copy" "numbers" "[I", Cond.methodLink RX0 84 yX0_isBroken, Cond.instanceMethod yX0_isBroken, Cond.selects RX0 yX0_isBroken yX0_isBroken, Cond.code yX0_isBroken cX0_isBroken 2 (some .boolean), Cond.fieldLink RX0 40 "SeedBattle$Copy" "brokenBits" "I", Cond.methodLink RX0 73 yX0_blockCount, Cond.instanceMethod yX0_blockCount, Cond.selects RX0 yX0_blockCount yX0_blockCount, Cond.code yX0_blockCount cX0_blockCount 1 (some .int), Cond.methodLink RX0 87 yX0_wasTaken, Cond.instanceMethod yX0_wasTaken, Cond.selects RX0 yX0_wasTaken yX0_wasTaken, Cond.code yX0_wasTaken cX0_wasTaken 3 (some .boolean), Cond.fieldLink RX0 18 "SeedBattle$Copy" "original" "[I", Cond.methodLink RX6 280 yX6_noIndexHasOwnUnits, Cond.instanceMethod yX6_noIndexHasOwnUnits, Cond.selects RX6 yX6_noIndexHasOwnUnits yX6_noIndexHasOwnUnits, Cond.code yX6_noIndexHasOwnUnits cX6_noIndexHasOwnUnits 4 (some .boolean), Cond.fieldLink RX6 28 "SeedBattle" "indexes" "[LSeedBattle$Index;", Cond.methodLink RX6 176 yX2_at, Cond.instanceMethod yX2_at, Cond.selects RX2 yX2_at yX2_at, Cond.initialized RX2]
def wsX6_isSound_r10 : List Cond := [Cond.code yX2_at cX2_at 2 (some .int), Cond.fieldLink RX2 15 "SeedBattle$Index" "count" "I", Cond.fieldLink RX2 9 "SeedBattle$Index" "numbers" "[I", Cond.methodLink RX6 184 yX6_unitOf, Cond.static yX6_unitOf, Cond.code yX6_unitOf cX6_unitOf 1 (some .int), Cond.methodLink RX6 298 yX5_owner]
def wsX6_isSound : List Cond := .code yX6_isSound cX6_isSound 1 (some .boolean) :: ((wsX6_isSound_r1 ++ (wsX6_isSound_r2 ++ (wsX6_isSound_r3 ++ (wsX6_isSound_r4 ++ (wsX6_isSound_r5 ++ (wsX6_isSound_r6 ++ (wsX6_isSound_r7 ++ (wsX6_isSound_r8 ++ (wsX6_isSound_r9 ++ wsX6_isSound_r10))))))))) ++ wsX60 ++ wsX10 ++ wsX50 ++ wsX30 ++ wsJ00 ++ wsX40 ++ wsX00 ++ wsX20 ++ (vx_atM "java/lang/ArrayIndexOutOfBoundsException" ["java/lang/IndexOutOfBoundsException", "java/lang/RuntimeException", "java/lang/Exception"]).filter goodWord)
def wsX7_init : List Cond := .code yX7_init cX7_init 1 none :: ([.methodLink RX7 1 objectInit, .instanceMethod objectInit, .code objectInit ⟨#[0xb1]⟩ 1 none, .arrayClass .int, .fieldLink RX7 7 "SeedBattleModel" "player" "[I", .fieldLink RX7 13 "SeedBattleModel" "cell" "[I", .fieldLink RX7 16 "SeedBattleModel" "wants" "[I", .fieldLink RX7 19 "SeedBattleModel" "many" "[I", .fieldLink RX7 22 "SeedBattleModel" "first" "[I", .fieldLink RX7 25 "SeedBattleModel" "second" "[I", .arrayClass .char, .fieldLink RX7 28 "SeedBattleModel" "kind" "[C", .arrayClass .boolean, .fieldLink RX7 32 "SeedBattleModel" "treaty" "[Z", .fieldLink RX7 36 "SeedBattleModel" "index" "[I", .fieldLink RX7 39 "SeedBattleModel" "size" "[I", .fieldLink RX7 42 "SeedBattleModel" "saved" "[I", .fieldLink RX7 45 "SeedBattleModel" "savedSize" "[I", .fieldLink RX7 48 "SeedBattleModel" "broken" "[Z", .fieldLink RX7 51 "SeedBattleModel" "ally" "[Z", .fieldLink RX7 54 "SeedBattleModel" "ended" "[Z"] ++ wsX70)
def wsX7_thrown : List Cond := .code yX7_thrown cX7_thrown 1 (some .int) :: ([.fieldLink RX7 57 "SeedBattleModel" "thrown" "I"] ++ wsX70)
def wsX7_no : List Cond := .code yX7_no cX7_no 3 (some .boolean) :: ([.fieldLink RX7 57 "SeedBattleModel" "thrown" "I"] ++ wsX70)
def wsX7_noPlayer : List Cond := .code yX7_noPlayer cX7_noPlayer 2 (some .boolean) :: ([.methodLink RX7 61 yX7_no, .instanceMethod yX7_no, .selects RX7 yX7_no yX7_no, .initialized RX7, .code yX7_no cX7_no 3 (some .boolean), .fieldLink RX7 57 "SeedBattleModel" "thrown" "I"] ++ wsX70)
def wsX7_noUnit : List Cond := .code yX7_noUnit cX7_noUnit 2 (some .boolean) :: ([.fieldLink RX7 65 "SeedBattleModel" "units" "I", .methodLink RX7 61 yX7_no, .instanceMethod yX7_no, .selects RX7 yX7_no yX7_no, .initialized RX7, .code yX7_no cX7_no 3 (some .boolean), .fieldLink RX7 57 "SeedBattleModel" "thrown" "I"] ++ wsX70)
def wsX7_isCell : List Cond := .code yX7_isCell cX7_isCell 1 (some .boolean) :: ([])
def wsX7_setSeed : List Cond := .code yX7_setSeed cX7_setSeed 3 (some .int) :: ([.fieldLink RX7 65 "SeedBattleModel" "units" "I", .fieldLink RX7 68 "SeedBattleModel" "seed" "I", .methodLink RX7 61 yX7_no, .instanceMethod yX7_no, .selects RX7 yX7_no yX7_no, .initialized RX7, .code yX7_no cX7_no 3 (some .boolean), .fieldLink RX7 57 "SeedBattleModel" "thrown" "I"] ++ wsX70)
def wsX7_groundOf : List Cond := .code yX7_groundOf cX7_groundOf 4 (some .char) :: ([.fieldLink RX7 68 "SeedBattleModel" "seed" "I", .constant RX7 71 (1103515245)] ++ wsX70)
def wsX7_ground : List Cond := .code yX7_ground cX7_ground 2 (some .char) :: ([.methodLink RX7 72 yX7_isCell, .static yX7_isCell, .initialized RX7, .code yX7_isCell cX7_isCell 1 (some .boolean), .methodLink RX7 61 yX7_no, .instanceMethod yX7_no, .selects RX7 yX7_no yX7_no, .code yX7_no cX7_no 3 (some .boolean), .fieldLink RX7 57 "SeedBattleModel" "thrown" "I", .methodLink RX7 76 yX7_groundOf, .instanceMethod yX7_groundOf, .selects RX7 yX7_groundOf yX7_groundOf, .code yX7_groundOf cX7_groundOf 4 (some .char), .fieldLink RX7 68 "SeedBattleModel" "seed" "I", .constant RX7 71 (1103515245)] ++ wsX70)
def wsX7_steps : List Cond := .code yX7_steps cX7_steps 2 (some .int) :: ([.fieldLink RX7 28 "SeedBattleModel" "kind" "[C"] ++ wsX70 ++ (vx_atM "java/lang/ArrayIndexOutOfBoundsException" ["java/lang/IndexOutOfBoundsException", "java/lang/RuntimeException", "java/lang/Exception"]).filter goodWord)
def wsX7_power : List Cond := .code yX7_power cX7_power 2 (some .int) :: ([.fieldLink RX7 28 "SeedBattleModel" "kind" "[C"] ++ wsX70 ++ (vx_atM "java/lang/ArrayIndexOutOfBoundsException" ["java/lang/IndexOutOfBoundsException", "java/lang/RuntimeException", "java/lang/Exception"]).filter goodWord)
def wsX7_on : List Cond := .code yX7_on cX7_on 3 (some .int) :: ([.fieldLink RX7 65 "SeedBattleModel" "units" "I", .fieldLink RX7 13 "SeedBattleModel" "cell" "[I"] ++ wsX70 ++ (vx_atM "java/lang/ArrayIndexOutOfBoundsException" ["java/lang/IndexOutOfBoundsException", "java/lang/RuntimeException", "java/lang/Exception"]).filter goodWord)
def wsX7_addUnit : List Cond := .code yX7_addUnit cX7_addUnit 4 (some .int) :: ([.fieldLink RX7 65 "SeedBattleModel" "units" "I", .fieldLink RX7 84 "SeedBattleModel" "done" "I", .fieldLink RX7 7 "SeedBattleModel" "player" "[I", .fieldLink RX7 28 "SeedBattleModel" "kind" "[C", .fieldLink RX7 13 "SeedBattleModel" "cell" "[I", .methodLink RX7 72 yX7_isCell, .static yX7_isCell, .initialized RX7, .code yX7_isCell cX7_isCell 1 (some .boolean), .methodLink RX7 61 yX7_no, .instanceMethod yX7_no, .selects RX7 yX7_no yX7_no, .code yX7_no cX7_no 3 (some .boolean), .fieldLink RX7 57 "SeedBattleModel" "thrown" "I", .methodLink RX7 76 yX7_groundOf, .instanceMethod yX7_groundOf, .selects RX7 yX7_groundOf yX7_groundOf, .code yX7_groundOf cX7_groundOf 4 (some .char), .fieldLink RX7 68 "SeedBattleModel" "seed" "I", .constant RX7 71 (1103515245), .methodLink RX7 80 yX7_on, .instanceMethod yX7_on, .selects RX7 yX7_on yX7_on, .code yX7_on cX7_on 3 (some .int)] ++ wsX70 ++ (vx_atM "java/lang/ArrayIndexOutOfBoundsException" ["java/lang/IndexOutOfBoundsException", "java/lang/RuntimeException", "java/lang/Exception"]).filter goodWord)
def wsX7_order : List Cond := .code yX7_order cX7_order 3 (some .int) :: ([.fieldLink RX7 13 "SeedBattleModel" "cell" "[I", .fieldLink RX7 19 "SeedBattleModel" "many" "[I", .fieldLink RX7 22 "SeedBattleModel" "first" "[I", .fieldLink RX7 25 "SeedBattleModel" "second" "[I", .methodLink RX7 87 yX7_noUnit, .instanceMethod yX7_noUnit, .selects RX7 yX7_noUnit yX7_noUnit, .initialized RX7, .code yX7_noUnit cX7_noUnit 2 (some .boolean), .fieldLink RX7 65 "SeedBattleModel" "units" "I", .methodLink RX7 61 yX7_no, .instanceMethod yX7_no, .selects RX7 yX7_no yX7_no, .code yX7_no cX7_no 3 (some .boolean), .fieldLink RX7 57 "SeedBattleModel" "thrown" "I", .methodLink RX7 90 yX7_steps, .instanceMethod yX7_steps, .selects RX7 yX7_steps yX7_steps, .code yX7_steps cX7_steps 2 (some .int), .fieldLink RX7 28 "SeedBattleModel" "kind" "[C"] ++ wsX70 ++ (vx_atM "java/lang/ArrayIndexOutOfBoundsException" ["java/lang/IndexOutOfBoundsException", "java/lang/RuntimeException", "java/lang/Exception"]).filter goodWord)
def wsX7_moved : List Cond := .code yX7_moved cX7_moved 6 (some .int) :: ([])
def wsX7_lose : List Cond := .code yX7_lose cX7_lose 2 none :: ([.fieldLink RX7 13 "SeedBattleModel" "cell" "[I", .fieldLink RX7 16 "SeedBattleModel" "wants" "[I"] ++ wsX70 ++ (vx_atM "java/lang/ArrayIndexOutOfBoundsException" ["java/lang/IndexOutOfBoundsException", "java/lang/RuntimeException", "java/lang/Exception"]).filter goodWord)
def wsX7_meets : List Cond := .code yX7_meets cX7_meets 4 none :: ([.fieldLink RX7 13 "SeedBattleModel" "cell" "[I", .fieldLink RX7 16 "SeedBattleModel" "wants" "[I", .fieldLink RX7 7 "SeedBattleModel" "player" "[I", .methodLink RX7 109 yX7_power, .instanceMethod yX7_power, .selects RX7 yX7_power yX7_power, .initialized RX7, .code yX7_power cX7_power 2 (some .int), .fieldLink RX7 28 "SeedBattleModel" "kind" "[C", .methodLink RX7 112 yX7_lose, .instanceMethod yX7_lose, .selects RX7 yX7_lose yX7_lose, .code yX7_lose cX7_lose 2 none] ++ wsX70 ++ (vx_atM "java/lang/ArrayIndexOutOfBoundsException" ["java/lang/IndexOutOfBoundsException", "java/lang/RuntimeException", "java/lang/Exception"]).filter goodWord)
def wsX7_contested : List Cond := .code yX7_contested cX7_contested 4 (some .int) :: ([.fieldLink RX7 65 "SeedBattleModel" "units" "I", .fieldLink RX7 16 "SeedBattleModel" "wants" "[I"] ++ wsX70 ++ (vx_atM "java/lang/ArrayIndexOutOfBoundsException" ["java/lang/IndexOutOfBoundsException", "java/lang/RuntimeException", "java/lang/Exception"]).filter goodWord)
def wsX7_powerAt : List Cond := .code yX7_powerAt cX7_powerAt 5 (some .int) :: ([.fieldLink RX7 65 "SeedBattleModel" "units" "I", .fieldLink RX7 16 "SeedBattleModel" "wants" "[I", .fieldLink RX7 7 "SeedBattleModel" "player" "[I", .methodLink RX7 109 yX7_power, .instanceMethod yX7_power, .selects RX7 yX7_power yX7_power, .initialized RX7, .code yX7_power cX7_power 2 (some .int), .fieldLink RX7 28 "SeedBattleModel" "kind" "[C"] ++ wsX70 ++ (vx_atM "java/lang/ArrayIndexOutOfBoundsException" ["java/lang/IndexOutOfBoundsException", "java/lang/RuntimeException", "java/lang/Exception"]).filter goodWord)
def wsX7_strongest : List Cond := .code yX7_strongest cX7_strongest 5 (some .int) :: ([.methodLink RX7 115 yX7_powerAt, .instanceMethod yX7_powerAt, .selects RX7 yX7_powerAt yX7_powerAt, .initialized RX7, .code yX7_powerAt cX7_powerAt 5 (some .int), .fieldLink RX7 65 "SeedBattleModel" "units" "I", .fieldLink RX7 16 "SeedBattleModel" "wants" "[I", .fieldLink RX7 7 "SeedBattleModel" "player" "[I", .methodLink RX7 109 yX7_power, .instanceMethod yX7_power, .selects RX7 yX7_power yX7_power, .code yX7_power cX7_power 2 (some .int), .fieldLink RX7 28 "SeedBattleModel" "kind" "[C"] ++ wsX70 ++ (vx_atM "java/lang/ArrayIndexOutOfBoundsException" ["java/lang/IndexOutOfBoundsException", "java/lang/RuntimeException", "java/lang/Exception"]).filter goodWord)
def wsX7_solves : List Cond := .code yX7_solves cX7_solves 6 none :: ([.fieldLink RX7 65 "SeedBattleModel" "units" "I", .fieldLink RX7 13 "SeedBattleModel" "cell" "[I", .fieldLink RX7 16 "SeedBattleModel" "wants" "[I", .fieldLink RX7 7 "SeedBattleModel" "player" "[I", .methodLink RX7 118 yX7_strongest, .instanceMethod yX7_strongest, .selects RX7 yX7_strongest yX7_strongest, .initialized RX7, .code yX7_strongest cX7_strongest 5 (some .int), .methodLink RX7 115 yX7_powerAt, .instanceMethod yX7_powerAt, .selects RX7 yX7_powerAt yX7_powerAt, .code yX7_powerAt cX7_powerAt 5 (some .int), .methodLink RX7 109 yX7_power, .instanceMethod yX7_power, .selects RX7 yX7_power yX7_power, .code yX7_power cX7_power 2 (some .int), .fieldLink RX7 28 "SeedBattleModel" "kind" "[C", .methodLink RX7 112 yX7_lose, .instanceMethod yX7_lose, .selects RX7 yX7_lose yX7_lose, .code yX7_lose cX7_lose 2 none] ++ wsX70 ++ (vx_atM "java/lang/ArrayIndexOutOfBoundsException" ["java/lang/IndexOutOfBoundsException", "java/lang/RuntimeException", "java/lang/Exception"]).filter goodWord)
def wsX7_step_r1 : List Cond := [Cond.fieldLink RX7 65 "SeedBattleModel" "units" "I", Cond.fieldLink RX7 13 "SeedBattleModel" "cell" "[I", Cond.fieldLink RX7 19 "SeedBattleModel" "many" "[I", Cond.fieldLink RX7 22 "SeedBattleModel" "first" "[I", Cond.fieldLink RX7 25 "SeedBattleModel" "second" "[I", Cond.fieldLink RX7 16 "SeedBattleModel" "wants" "[I", Cond.methodLink RX7 93 yX7_moved, Cond.static yX7_moved, Cond.initialized RX7, Cond.code yX7_moved cX7_moved 6 (some .int), Cond.methodLink RX7 76 yX7_groundOf, Cond.instanceMethod yX7_groundOf, Cond.selects RX7 yX7_groundOf yX7_groundOf, Cond.code yX7_groundOf cX7_groundOf 4 (some .char), Cond.fieldLink RX7 68 "SeedBattleModel" "seed" "I", Cond.constant RX7 71 (1103515245), Cond.methodLink RX7 97 yX7_meets, Cond.instanceMethod yX7_meets, Cond.selects RX7 yX7_meets yX7_meets, Cond.code yX7_meets cX7_meets 4 none, Cond.fieldLink RX7 7 "SeedBattleModel" "player" "[I", Cond.methodLink RX7 109 yX7_power, Cond.instanceMethod yX7_power, Cond.selects RX7 yX7_power yX7_power]
def wsX7_step_r2 : List Cond := [Cond.code yX7_power cX7_power 2 (some .int), Cond.fieldLink RX7 28 "SeedBattleModel" "kind" "[C", Cond.methodLink RX7 112 yX7_lose, Cond.instanceMethod yX7_lose, Cond.selects RX7 yX7_lose yX7_lose, Cond.code yX7_lose cX7_lose 2 none, Cond.methodLink RX7 101 yX7_contested, Cond.instanceMethod yX7_contested, Cond.selects RX7 yX7_contested yX7_contested, Cond.code yX7_contested cX7_contested 4 (some .int), Cond.methodLink RX7 105 yX7_solves, Cond.instanceMethod yX7_solves, Cond.selects RX7 yX7_solves yX7_solves, Cond.code yX7_solves cX7_solves 6 none, Cond.methodLink RX7 118 yX7_strongest, Cond.instanceMethod yX7_strongest, Cond.selects RX7 yX7_strongest yX7_strongest, Cond.code yX7_strongest cX7_strongest 5 (some .int), Cond.methodLink RX7 115 yX7_powerAt, Cond.instanceMethod yX7_powerAt, Cond.selects RX7 yX7_powerAt yX7_powerAt, Cond.code yX7_powerAt cX7_powerAt 5 (some .int)]
def wsX7_step : List Cond := .code yX7_step cX7_step 4 none :: ((wsX7_step_r1 ++ wsX7_step_r2) ++ wsX70 ++ (vx_atM "java/lang/ArrayIndexOutOfBoundsException" ["java/lang/IndexOutOfBoundsException", "java/lang/RuntimeException", "java/lang/Exception"]).filter goodWord)
def wsX7_living : List Cond := .code yX7_living cX7_living 3 (some .int) :: ([.fieldLink RX7 65 "SeedBattleModel" "units" "I", .fieldLink RX7 13 "SeedBattleModel" "cell" "[I"] ++ wsX70 ++ (vx_atM "java/lang/ArrayIndexOutOfBoundsException" ["java/lang/IndexOutOfBoundsException", "java/lang/RuntimeException", "java/lang/Exception"]).filter goodWord)
def wsX7_part : List Cond := .code yX7_part cX7_part 5 (some .int) :: ([] ++ (vx_atM "java/lang/ArithmeticException" ["java/lang/RuntimeException", "java/lang/Exception"]).filter goodWord)
def wsX7_looksAt : List Cond := .code yX7_looksAt cX7_looksAt 13 (some .boolean) :: ([.fieldLink RX7 13 "SeedBattleModel" "cell" "[I", .fieldLink RX7 28 "SeedBattleModel" "kind" "[C", .methodLink RX7 130 Lib.Math.abs.name, .static Lib.Math.abs.name, .initialized "java/lang/Math", .code Lib.Math.abs.name Lib.Math.abs.code 1 (some .int), .methodLink RX7 135 Lib.Math.max.name, .static Lib.Math.max.name, .code Lib.Math.max.name Lib.Math.max.code 2 (some .int), .methodLink RX7 76 yX7_groundOf, .instanceMethod yX7_groundOf, .selects RX7 yX7_groundOf yX7_groundOf, .initialized RX7, .code yX7_groundOf cX7_groundOf 4 (some .char), .fieldLink RX7 68 "SeedBattleModel" "seed" "I", .constant RX7 71 (1103515245), .methodLink RX7 138 yX7_part, .static yX7_part, .code yX7_part cX7_part 5 (some .int)] ++ wsX70 ++ (vx_atM "java/lang/ArrayIndexOutOfBoundsException" ["java/lang/IndexOutOfBoundsException", "java/lang/RuntimeException", "java/lang/Exception"]).filter goodWord ++ (vx_atM "java/lang/ArithmeticException" ["java/lang/RuntimeException", "java/lang/Exception"]).filter goodWord)
def wsX7_watches_r1 : List Cond := [Cond.fieldLink RX7 65 "SeedBattleModel" "units" "I", Cond.fieldLink RX7 7 "SeedBattleModel" "player" "[I", Cond.methodLink RX7 142 yX7_looksAt, Cond.instanceMethod yX7_looksAt, Cond.selects RX7 yX7_looksAt yX7_looksAt, Cond.initialized RX7, Cond.code yX7_looksAt cX7_looksAt 13 (some .boolean), Cond.fieldLink RX7 13 "SeedBattleModel" "cell" "[I", Cond.fieldLink RX7 28 "SeedBattleModel" "kind" "[C", Cond.methodLink RX7 130 Lib.Math.abs.name, Cond.static Lib.Math.abs.name, Cond.initialized "java/lang/Math", Cond.code Lib.Math.abs.name Lib.Math.abs.code 1 (some .int), Cond.methodLink RX7 135 Lib.Math.max.name, Cond.static Lib.Math.max.name, Cond.code Lib.Math.max.name Lib.Math.max.code 2 (some .int), Cond.methodLink RX7 76 yX7_groundOf, Cond.instanceMethod yX7_groundOf, Cond.selects RX7 yX7_groundOf yX7_groundOf, Cond.code yX7_groundOf cX7_groundOf 4 (some .char), Cond.fieldLink RX7 68 "SeedBattleModel" "seed" "I", Cond.constant RX7 71 (1103515245), Cond.methodLink RX7 138 yX7_part, Cond.static yX7_part]
def wsX7_watches_r2 : List Cond := [Cond.code yX7_part cX7_part 5 (some .int)]
def wsX7_watches : List Cond := .code yX7_watches cX7_watches 4 (some .boolean) :: ((wsX7_watches_r1 ++ wsX7_watches_r2) ++ wsX70 ++ (vx_atM "java/lang/ArrayIndexOutOfBoundsException" ["java/lang/IndexOutOfBoundsException", "java/lang/RuntimeException", "java/lang/Exception"]).filter goodWord ++ (vx_atM "java/lang/ArithmeticException" ["java/lang/RuntimeException", "java/lang/Exception"]).filter goodWord)
def wsX7_isSighted_r1 : List Cond := [Cond.fieldLink RX7 13 "SeedBattleModel" "cell" "[I", Cond.fieldLink RX7 7 "SeedBattleModel" "player" "[I", Cond.methodLink RX7 149 yX7_watches, Cond.instanceMethod yX7_watches, Cond.selects RX7 yX7_watches yX7_watches, Cond.initialized RX7, Cond.code yX7_watches cX7_watches 4 (some .boolean), Cond.fieldLink RX7 65 "SeedBattleModel" "units" "I", Cond.methodLink RX7 142 yX7_looksAt, Cond.instanceMethod yX7_looksAt, Cond.selects RX7 yX7_looksAt yX7_looksAt, Cond.code yX7_looksAt cX7_looksAt 13 (some .boolean), Cond.fieldLink RX7 28 "SeedBattleModel" "kind" "[C", Cond.methodLink RX7 130 Lib.Math.abs.name, Cond.static Lib.Math.abs.name, Cond.initialized "java/lang/Math", Cond.code Lib.Math.abs.name Lib.Math.abs.code 1 (some .int), Cond.methodLink RX7 135 Lib.Math.max.name, Cond.static Lib.Math.max.name, Cond.code Lib.Math.max.name Lib.Math.max.code 2 (some .int), Cond.methodLink RX7 76 yX7_groundOf, Cond.instanceMethod yX7_groundOf, Cond.selects RX7 yX7_groundOf yX7_groundOf, Cond.code yX7_groundOf cX7_groundOf 4 (some .char)]
def wsX7_isSighted_r2 : List Cond := [Cond.fieldLink RX7 68 "SeedBattleModel" "seed" "I", Cond.constant RX7 71 (1103515245), Cond.methodLink RX7 138 yX7_part, Cond.static yX7_part, Cond.code yX7_part cX7_part 5 (some .int)]
def wsX7_isSighted : List Cond := .code yX7_isSighted cX7_isSighted 3 (some .boolean) :: ((wsX7_isSighted_r1 ++ wsX7_isSighted_r2) ++ wsX70 ++ (vx_atM "java/lang/ArrayIndexOutOfBoundsException" ["java/lang/IndexOutOfBoundsException", "java/lang/RuntimeException", "java/lang/Exception"]).filter goodWord ++ (vx_atM "java/lang/ArithmeticException" ["java/lang/RuntimeException", "java/lang/Exception"]).filter goodWord)
def wsX7_numberOf : List Cond := .code yX7_numberOf cX7_numberOf 2 (some .int) :: ([.constant RX7 152 (100000), .fieldLink RX7 84 "SeedBattleModel" "done" "I", .fieldLink RX7 13 "SeedBattleModel" "cell" "[I"] ++ wsX70 ++ (vx_atM "java/lang/ArrayIndexOutOfBoundsException" ["java/lang/IndexOutOfBoundsException", "java/lang/RuntimeException", "java/lang/Exception"]).filter goodWord)
def wsX7_turnOf : List Cond := .code yX7_turnOf cX7_turnOf 1 (some .int) :: ([.constant RX7 152 (100000)])
def wsX7_unitIn : List Cond := .code yX7_unitIn cX7_unitIn 1 (some .int) :: ([])
def wsX7_isBehind : List Cond := .code yX7_isBehind cX7_isBehind 2 (some .boolean) :: ([.methodLink RX7 153 yX7_turnOf, .static yX7_turnOf, .initialized RX7, .code yX7_turnOf cX7_turnOf 1 (some .int), .constant RX7 152 (100000), .methodLink RX7 156 yX7_unitIn, .static yX7_unitIn, .code yX7_unitIn cX7_unitIn 1 (some .int)])
def wsX7_adds : List Cond := .code yX7_adds cX7_adds 6 none :: ([.fieldLink RX7 39 "SeedBattleModel" "size" "[I", .fieldLink RX7 36 "SeedBattleModel" "index" "[I", .methodLink RX7 153 yX7_turnOf, .static yX7_turnOf, .initialized RX7, .code yX7_turnOf cX7_turnOf 1 (some .int), .constant RX7 152 (100000), .methodLink RX7 156 yX7_unitIn, .static yX7_unitIn, .code yX7_unitIn cX7_unitIn 1 (some .int), .methodLink RX7 159 yX7_isBehind, .static yX7_isBehind, .code yX7_isBehind cX7_isBehind 2 (some .boolean)] ++ wsX70 ++ (vx_atM "java/lang/ArrayIndexOutOfBoundsException" ["java/lang/IndexOutOfBoundsException", "java/lang/RuntimeException", "java/lang/Exception"]).filter goodWord)
def wsX7_sights_r1 : List Cond := [Cond.fieldLink RX7 65 "SeedBattleModel" "units" "I", Cond.fieldLink RX7 32 "SeedBattleModel" "treaty" "[Z", Cond.fieldLink RX7 7 "SeedBattleModel" "player" "[I", Cond.methodLink RX7 162 yX7_isSighted, Cond.instanceMethod yX7_isSighted, Cond.selects RX7 yX7_isSighted yX7_isSighted, Cond.initialized RX7, Cond.code yX7_isSighted cX7_isSighted 3 (some .boolean), Cond.fieldLink RX7 13 "SeedBattleModel" "cell" "[I", Cond.methodLink RX7 149 yX7_watches, Cond.instanceMethod yX7_watches, Cond.selects RX7 yX7_watches yX7_watches, Cond.code yX7_watches cX7_watches 4 (some .boolean), Cond.methodLink RX7 142 yX7_looksAt, Cond.instanceMethod yX7_looksAt, Cond.selects RX7 yX7_looksAt yX7_looksAt, Cond.code yX7_looksAt cX7_looksAt 13 (some .boolean), Cond.fieldLink RX7 28 "SeedBattleModel" "kind" "[C", Cond.methodLink RX7 130 Lib.Math.abs.name, Cond.static Lib.Math.abs.name, Cond.initialized "java/lang/Math", Cond.code Lib.Math.abs.name Lib.Math.abs.code 1 (some .int), Cond.methodLink RX7 135 Lib.Math.max.name, Cond.static Lib.Math.max.name]
def wsX7_sights_r2 : List Cond := [Cond.code Lib.Math.max.name Lib.Math.max.code 2 (some .int), Cond.methodLink RX7 76 yX7_groundOf, Cond.instanceMethod yX7_groundOf, Cond.selects RX7 yX7_groundOf yX7_groundOf, Cond.code yX7_groundOf cX7_groundOf 4 (some .char), Cond.fieldLink RX7 68 "SeedBattleModel" "seed" "I", Cond.constant RX7 71 (1103515245), Cond.methodLink RX7 138 yX7_part, Cond.static yX7_part, Cond.code yX7_part cX7_part 5 (some .int), Cond.methodLink RX7 165 yX7_numberOf, Cond.instanceMethod yX7_numberOf, Cond.selects RX7 yX7_numberOf yX7_numberOf, Cond.code yX7_numberOf cX7_numberOf 2 (some .int), Cond.constant RX7 152 (100000), Cond.fieldLink RX7 84 "SeedBattleModel" "done" "I", Cond.methodLink RX7 168 yX7_adds, Cond.instanceMethod yX7_adds, Cond.selects RX7 yX7_adds yX7_adds, Cond.code yX7_adds cX7_adds 6 none, Cond.fieldLink RX7 39 "SeedBattleModel" "size" "[I", Cond.fieldLink RX7 36 "SeedBattleModel" "index" "[I", Cond.methodLink RX7 153 yX7_turnOf, Cond.static yX7_turnOf]
def wsX7_sights_r3 : List Cond := [Cond.code yX7_turnOf cX7_turnOf 1 (some .int), Cond.methodLink RX7 156 yX7_unitIn, Cond.static yX7_unitIn, Cond.code yX7_unitIn cX7_unitIn 1 (some .int), Cond.methodLink RX7 159 yX7_isBehind, Cond.static yX7_isBehind, Cond.code yX7_isBehind cX7_isBehind 2 (some .boolean)]
def wsX7_sights : List Cond := .code yX7_sights cX7_sights 4 none :: ((wsX7_sights_r1 ++ (wsX7_sights_r2 ++ wsX7_sights_r3)) ++ wsX70 ++ (vx_atM "java/lang/ArrayIndexOutOfBoundsException" ["java/lang/IndexOutOfBoundsException", "java/lang/RuntimeException", "java/lang/Exception"]).filter goodWord ++ (vx_atM "java/lang/ArithmeticException" ["java/lang/RuntimeException", "java/lang/Exception"]).filter goodWord)
def wsX7_turn_r1 : List Cond := [Cond.fieldLink RX7 84 "SeedBattleModel" "done" "I", Cond.fieldLink RX7 65 "SeedBattleModel" "units" "I", Cond.fieldLink RX7 19 "SeedBattleModel" "many" "[I", Cond.methodLink RX7 61 yX7_no, Cond.instanceMethod yX7_no, Cond.selects RX7 yX7_no yX7_no, Cond.initialized RX7, Cond.code yX7_no cX7_no 3 (some .boolean), Cond.fieldLink RX7 57 "SeedBattleModel" "thrown" "I", Cond.methodLink RX7 121 yX7_living, Cond.instanceMethod yX7_living, Cond.selects RX7 yX7_living yX7_living, Cond.code yX7_living cX7_living 3 (some .int), Cond.fieldLink RX7 13 "SeedBattleModel" "cell" "[I", Cond.methodLink RX7 124 yX7_step, Cond.instanceMethod yX7_step, Cond.selects RX7 yX7_step yX7_step, Cond.code yX7_step cX7_step 4 none, Cond.fieldLink RX7 22 "SeedBattleModel" "first" "[I", Cond.fieldLink RX7 25 "SeedBattleModel" "second" "[I", Cond.fieldLink RX7 16 "SeedBattleModel" "wants" "[I", Cond.methodLink RX7 93 yX7_moved, Cond.static yX7_moved, Cond.code yX7_moved cX7_moved 6 (some .int)]
def wsX7_turn_r2 : List Cond := [Cond.methodLink RX7 76 yX7_groundOf, Cond.instanceMethod yX7_groundOf, Cond.selects RX7 yX7_groundOf yX7_groundOf, Cond.code yX7_groundOf cX7_groundOf 4 (some .char), Cond.fieldLink RX7 68 "SeedBattleModel" "seed" "I", Cond.constant RX7 71 (1103515245), Cond.methodLink RX7 97 yX7_meets, Cond.instanceMethod yX7_meets, Cond.selects RX7 yX7_meets yX7_meets, Cond.code yX7_meets cX7_meets 4 none, Cond.fieldLink RX7 7 "SeedBattleModel" "player" "[I", Cond.methodLink RX7 109 yX7_power, Cond.instanceMethod yX7_power, Cond.selects RX7 yX7_power yX7_power, Cond.code yX7_power cX7_power 2 (some .int), Cond.fieldLink RX7 28 "SeedBattleModel" "kind" "[C", Cond.methodLink RX7 112 yX7_lose, Cond.instanceMethod yX7_lose, Cond.selects RX7 yX7_lose yX7_lose, Cond.code yX7_lose cX7_lose 2 none, Cond.methodLink RX7 101 yX7_contested, Cond.instanceMethod yX7_contested, Cond.selects RX7 yX7_contested yX7_contested, Cond.code yX7_contested cX7_contested 4 (some .int)]
def wsX7_turn_r3 : List Cond := [Cond.methodLink RX7 105 yX7_solves, Cond.instanceMethod yX7_solves, Cond.selects RX7 yX7_solves yX7_solves, Cond.code yX7_solves cX7_solves 6 none, Cond.methodLink RX7 118 yX7_strongest, Cond.instanceMethod yX7_strongest, Cond.selects RX7 yX7_strongest yX7_strongest, Cond.code yX7_strongest cX7_strongest 5 (some .int), Cond.methodLink RX7 115 yX7_powerAt, Cond.instanceMethod yX7_powerAt, Cond.selects RX7 yX7_powerAt yX7_powerAt, Cond.code yX7_powerAt cX7_powerAt 5 (some .int), Cond.methodLink RX7 127 yX7_sights, Cond.instanceMethod yX7_sights, Cond.selects RX7 yX7_sights yX7_sights, Cond.code yX7_sights cX7_sights 4 none, Cond.fieldLink RX7 32 "SeedBattleModel" "treaty" "[Z", Cond.methodLink RX7 162 yX7_isSighted, Cond.instanceMethod yX7_isSighted, Cond.selects RX7 yX7_isSighted yX7_isSighted, Cond.code yX7_isSighted cX7_isSighted 3 (some .boolean), Cond.methodLink RX7 149 yX7_watches, Cond.instanceMethod yX7_watches, Cond.selects RX7 yX7_watches yX7_watches]
def wsX7_turn_r4 : List Cond := [Cond.code yX7_watches cX7_watches 4 (some .boolean), Cond.methodLink RX7 142 yX7_looksAt, Cond.instanceMethod yX7_looksAt, Cond.selects RX7 yX7_looksAt yX7_looksAt, Cond.code yX7_looksAt cX7_looksAt 13 (some .boolean), Cond.methodLink RX7 130 Lib.Math.abs.name, Cond.static Lib.Math.abs.name, Cond.initialized "java/lang/Math", Cond.code Lib.Math.abs.name Lib.Math.abs.code 1 (some .int), Cond.methodLink RX7 135 Lib.Math.max.name, Cond.static Lib.Math.max.name, Cond.code Lib.Math.max.name Lib.Math.max.code 2 (some .int), Cond.methodLink RX7 138 yX7_part, Cond.static yX7_part, Cond.code yX7_part cX7_part 5 (some .int), Cond.methodLink RX7 165 yX7_numberOf, Cond.instanceMethod yX7_numberOf, Cond.selects RX7 yX7_numberOf yX7_numberOf, Cond.code yX7_numberOf cX7_numberOf 2 (some .int), Cond.constant RX7 152 (100000), Cond.methodLink RX7 168 yX7_adds, Cond.instanceMethod yX7_adds, Cond.selects RX7 yX7_adds yX7_adds, Cond.code yX7_adds cX7_adds 6 none]
def wsX7_turn_r5 : List Cond := [Cond.fieldLink RX7 39 "SeedBattleModel" "size" "[I", Cond.fieldLink RX7 36 "SeedBattleModel" "index" "[I", Cond.methodLink RX7 153 yX7_turnOf, Cond.static yX7_turnOf, Cond.code yX7_turnOf cX7_turnOf 1 (some .int), Cond.methodLink RX7 156 yX7_unitIn, Cond.static yX7_unitIn, Cond.code yX7_unitIn cX7_unitIn 1 (some .int), Cond.methodLink RX7 159 yX7_isBehind, Cond.static yX7_isBehind, Cond.code yX7_isBehind cX7_isBehind 2 (some .boolean)]
def wsX7_turn : List Cond := .code yX7_turn cX7_turn 3 (some .int) :: ((wsX7_turn_r1 ++ (wsX7_turn_r2 ++ (wsX7_turn_r3 ++ (wsX7_turn_r4 ++ wsX7_turn_r5)))) ++ wsX70 ++ (vx_atM "java/lang/ArrayIndexOutOfBoundsException" ["java/lang/IndexOutOfBoundsException", "java/lang/RuntimeException", "java/lang/Exception"]).filter goodWord ++ (vx_atM "java/lang/ArithmeticException" ["java/lang/RuntimeException", "java/lang/Exception"]).filter goodWord)
def wsX7_done : List Cond := .code yX7_done cX7_done 1 (some .int) :: ([.fieldLink RX7 84 "SeedBattleModel" "done" "I"] ++ wsX70)
def wsX7_cellOf : List Cond := .code yX7_cellOf cX7_cellOf 2 (some .int) :: ([.fieldLink RX7 13 "SeedBattleModel" "cell" "[I", .methodLink RX7 87 yX7_noUnit, .instanceMethod yX7_noUnit, .selects RX7 yX7_noUnit yX7_noUnit, .initialized RX7, .code yX7_noUnit cX7_noUnit 2 (some .boolean), .fieldLink RX7 65 "SeedBattleModel" "units" "I", .methodLink RX7 61 yX7_no, .instanceMethod yX7_no, .selects RX7 yX7_no yX7_no, .code yX7_no cX7_no 3 (some .boolean), .fieldLink RX7 57 "SeedBattleModel" "thrown" "I"] ++ wsX70 ++ (vx_atM "java/lang/ArrayIndexOutOfBoundsException" ["java/lang/IndexOutOfBoundsException", "java/lang/RuntimeException", "java/lang/Exception"]).filter goodWord)
def wsX7_unitOn : List Cond := .code yX7_unitOn cX7_unitOn 2 (some .int) :: ([.methodLink RX7 72 yX7_isCell, .static yX7_isCell, .initialized RX7, .code yX7_isCell cX7_isCell 1 (some .boolean), .methodLink RX7 61 yX7_no, .instanceMethod yX7_no, .selects RX7 yX7_no yX7_no, .code yX7_no cX7_no 3 (some .boolean), .fieldLink RX7 57 "SeedBattleModel" "thrown" "I", .methodLink RX7 80 yX7_on, .instanceMethod yX7_on, .selects RX7 yX7_on yX7_on, .code yX7_on cX7_on 3 (some .int), .fieldLink RX7 65 "SeedBattleModel" "units" "I", .fieldLink RX7 13 "SeedBattleModel" "cell" "[I"] ++ wsX70 ++ (vx_atM "java/lang/ArrayIndexOutOfBoundsException" ["java/lang/IndexOutOfBoundsException", "java/lang/RuntimeException", "java/lang/Exception"]).filter goodWord)
def wsX7_sees_r1 : List Cond := [Cond.fieldLink RX7 65 "SeedBattleModel" "units" "I", Cond.methodLink RX7 72 yX7_isCell, Cond.static yX7_isCell, Cond.initialized RX7, Cond.code yX7_isCell cX7_isCell 1 (some .boolean), Cond.methodLink RX7 61 yX7_no, Cond.instanceMethod yX7_no, Cond.selects RX7 yX7_no yX7_no, Cond.code yX7_no cX7_no 3 (some .boolean), Cond.fieldLink RX7 57 "SeedBattleModel" "thrown" "I", Cond.methodLink RX7 142 yX7_looksAt, Cond.instanceMethod yX7_looksAt, Cond.selects RX7 yX7_looksAt yX7_looksAt, Cond.code yX7_looksAt cX7_looksAt 13 (some .boolean), Cond.fieldLink RX7 13 "SeedBattleModel" "cell" "[I", Cond.fieldLink RX7 28 "SeedBattleModel" "kind" "[C", Cond.methodLink RX7 130 Lib.Math.abs.name, Cond.static Lib.Math.abs.name, Cond.initialized "java/lang/Math", Cond.code Lib.Math.abs.name Lib.Math.abs.code 1 (some .int), Cond.methodLink RX7 135 Lib.Math.max.name, Cond.static Lib.Math.max.name, Cond.code Lib.Math.max.name Lib.Math.max.code 2 (some .int), Cond.methodLink RX7 76 yX7_groundOf]
def wsX7_sees_r2 : List Cond := [Cond.instanceMethod yX7_groundOf, Cond.selects RX7 yX7_groundOf yX7_groundOf, Cond.code yX7_groundOf cX7_groundOf 4 (some .char), Cond.fieldLink RX7 68 "SeedBattleModel" "seed" "I", Cond.constant RX7 71 (1103515245), Cond.methodLink RX7 138 yX7_part, Cond.static yX7_part, Cond.code yX7_part cX7_part 5 (some .int)]
def wsX7_sees : List Cond := .code yX7_sees cX7_sees 3 (some .boolean) :: ((wsX7_sees_r1 ++ wsX7_sees_r2) ++ wsX70 ++ (vx_atM "java/lang/ArrayIndexOutOfBoundsException" ["java/lang/IndexOutOfBoundsException", "java/lang/RuntimeException", "java/lang/Exception"]).filter goodWord ++ (vx_atM "java/lang/ArithmeticException" ["java/lang/RuntimeException", "java/lang/Exception"]).filter goodWord)
def wsX7_seen_r1 : List Cond := [Cond.methodLink RX7 146 yX7_noPlayer, Cond.instanceMethod yX7_noPlayer, Cond.selects RX7 yX7_noPlayer yX7_noPlayer, Cond.initialized RX7, Cond.code yX7_noPlayer cX7_noPlayer 2 (some .boolean), Cond.methodLink RX7 61 yX7_no, Cond.instanceMethod yX7_no, Cond.selects RX7 yX7_no yX7_no, Cond.code yX7_no cX7_no 3 (some .boolean), Cond.fieldLink RX7 57 "SeedBattleModel" "thrown" "I", Cond.methodLink RX7 149 yX7_watches, Cond.instanceMethod yX7_watches, Cond.selects RX7 yX7_watches yX7_watches, Cond.code yX7_watches cX7_watches 4 (some .boolean), Cond.fieldLink RX7 65 "SeedBattleModel" "units" "I", Cond.fieldLink RX7 7 "SeedBattleModel" "player" "[I", Cond.methodLink RX7 142 yX7_looksAt, Cond.instanceMethod yX7_looksAt, Cond.selects RX7 yX7_looksAt yX7_looksAt, Cond.code yX7_looksAt cX7_looksAt 13 (some .boolean), Cond.fieldLink RX7 13 "SeedBattleModel" "cell" "[I", Cond.fieldLink RX7 28 "SeedBattleModel" "kind" "[C", Cond.methodLink RX7 130 Lib.Math.abs.name, Cond.static Lib.Math.abs.name]
def wsX7_seen_r2 : List Cond := [Cond.initialized "java/lang/Math", Cond.code Lib.Math.abs.name Lib.Math.abs.code 1 (some .int), Cond.methodLink RX7 135 Lib.Math.max.name, Cond.static Lib.Math.max.name, Cond.code Lib.Math.max.name Lib.Math.max.code 2 (some .int), Cond.methodLink RX7 76 yX7_groundOf, Cond.instanceMethod yX7_groundOf, Cond.selects RX7 yX7_groundOf yX7_groundOf, Cond.code yX7_groundOf cX7_groundOf 4 (some .char), Cond.fieldLink RX7 68 "SeedBattleModel" "seed" "I", Cond.constant RX7 71 (1103515245), Cond.methodLink RX7 138 yX7_part, Cond.static yX7_part, Cond.code yX7_part cX7_part 5 (some .int)]
def wsX7_seen : List Cond := .code yX7_seen cX7_seen 4 (some .int) :: ((wsX7_seen_r1 ++ wsX7_seen_r2) ++ wsX70 ++ (vx_atM "java/lang/ArrayIndexOutOfBoundsException" ["java/lang/IndexOutOfBoundsException", "java/lang/RuntimeException", "java/lang/Exception"]).filter goodWord ++ (vx_atM "java/lang/ArithmeticException" ["java/lang/RuntimeException", "java/lang/Exception"]).filter goodWord)
def wsX7_cellIn : List Cond := .code yX7_cellIn cX7_cellIn 1 (some .int) :: ([])
def wsX7_setTreaty : List Cond := .code yX7_setTreaty cX7_setTreaty 5 (some .boolean) :: ([.fieldLink RX7 32 "SeedBattleModel" "treaty" "[Z", .fieldLink RX7 54 "SeedBattleModel" "ended" "[Z", .methodLink RX7 61 yX7_no, .instanceMethod yX7_no, .selects RX7 yX7_no yX7_no, .initialized RX7, .code yX7_no cX7_no 3 (some .boolean), .fieldLink RX7 57 "SeedBattleModel" "thrown" "I"] ++ wsX70 ++ (vx_atM "java/lang/ArrayIndexOutOfBoundsException" ["java/lang/IndexOutOfBoundsException", "java/lang/RuntimeException", "java/lang/Exception"]).filter goodWord)
def wsX7_sightings : List Cond := .code yX7_sightings cX7_sightings 2 (some .int) :: ([.fieldLink RX7 39 "SeedBattleModel" "size" "[I", .methodLink RX7 146 yX7_noPlayer, .instanceMethod yX7_noPlayer, .selects RX7 yX7_noPlayer yX7_noPlayer, .initialized RX7, .code yX7_noPlayer cX7_noPlayer 2 (some .boolean), .methodLink RX7 61 yX7_no, .instanceMethod yX7_no, .selects RX7 yX7_no yX7_no, .code yX7_no cX7_no 3 (some .boolean), .fieldLink RX7 57 "SeedBattleModel" "thrown" "I"] ++ wsX70 ++ (vx_atM "java/lang/ArrayIndexOutOfBoundsException" ["java/lang/IndexOutOfBoundsException", "java/lang/RuntimeException", "java/lang/Exception"]).filter goodWord)
def wsX7_sighting : List Cond := .code yX7_sighting cX7_sighting 5 (some .int) :: ([.fieldLink RX7 39 "SeedBattleModel" "size" "[I", .fieldLink RX7 36 "SeedBattleModel" "index" "[I", .methodLink RX7 61 yX7_no, .instanceMethod yX7_no, .selects RX7 yX7_no yX7_no, .initialized RX7, .code yX7_no cX7_no 3 (some .boolean), .fieldLink RX7 57 "SeedBattleModel" "thrown" "I", .methodLink RX7 153 yX7_turnOf, .static yX7_turnOf, .code yX7_turnOf cX7_turnOf 1 (some .int), .constant RX7 152 (100000), .methodLink RX7 171 yX7_cellIn, .static yX7_cellIn, .code yX7_cellIn cX7_cellIn 1 (some .int), .methodLink RX7 156 yX7_unitIn, .static yX7_unitIn, .code yX7_unitIn cX7_unitIn 1 (some .int)] ++ wsX70 ++ (vx_atM "java/lang/ArrayIndexOutOfBoundsException" ["java/lang/IndexOutOfBoundsException", "java/lang/RuntimeException", "java/lang/Exception"]).filter goodWord)
def wsX7_age : List Cond := .code yX7_age cX7_age 5 (some .int) :: ([.fieldLink RX7 39 "SeedBattleModel" "size" "[I", .fieldLink RX7 36 "SeedBattleModel" "index" "[I", .fieldLink RX7 84 "SeedBattleModel" "done" "I", .methodLink RX7 72 yX7_isCell, .static yX7_isCell, .initialized RX7, .code yX7_isCell cX7_isCell 1 (some .boolean), .methodLink RX7 61 yX7_no, .instanceMethod yX7_no, .selects RX7 yX7_no yX7_no, .code yX7_no cX7_no 3 (some .boolean), .fieldLink RX7 57 "SeedBattleModel" "thrown" "I", .methodLink RX7 171 yX7_cellIn, .static yX7_cellIn, .code yX7_cellIn cX7_cellIn 1 (some .int), .methodLink RX7 153 yX7_turnOf, .static yX7_turnOf, .code yX7_turnOf cX7_turnOf 1 (some .int), .constant RX7 152 (100000)] ++ wsX70 ++ (vx_atM "java/lang/ArrayIndexOutOfBoundsException" ["java/lang/IndexOutOfBoundsException", "java/lang/RuntimeException", "java/lang/Exception"]).filter goodWord)
def wsX7_lastSeen : List Cond := .code yX7_lastSeen cX7_lastSeen 5 (some .int) :: ([.fieldLink RX7 65 "SeedBattleModel" "units" "I", .fieldLink RX7 39 "SeedBattleModel" "size" "[I", .fieldLink RX7 36 "SeedBattleModel" "index" "[I", .methodLink RX7 61 yX7_no, .instanceMethod yX7_no, .selects RX7 yX7_no yX7_no, .initialized RX7, .code yX7_no cX7_no 3 (some .boolean), .fieldLink RX7 57 "SeedBattleModel" "thrown" "I", .methodLink RX7 156 yX7_unitIn, .static yX7_unitIn, .code yX7_unitIn cX7_unitIn 1 (some .int), .methodLink RX7 171 yX7_cellIn, .static yX7_cellIn, .code yX7_cellIn cX7_cellIn 1 (some .int)] ++ wsX70 ++ (vx_atM "java/lang/ArrayIndexOutOfBoundsException" ["java/lang/IndexOutOfBoundsException", "java/lang/RuntimeException", "java/lang/Exception"]).filter goodWord)
def wsX7_save : List Cond := .code yX7_save cX7_save 3 (some .int) :: ([.fieldLink RX7 174 "SeedBattleModel" "isSaved" "Z", .fieldLink RX7 42 "SeedBattleModel" "saved" "[I", .fieldLink RX7 36 "SeedBattleModel" "index" "[I", .fieldLink RX7 48 "SeedBattleModel" "broken" "[Z", .fieldLink RX7 51 "SeedBattleModel" "ally" "[Z", .fieldLink RX7 32 "SeedBattleModel" "treaty" "[Z", .fieldLink RX7 54 "SeedBattleModel" "ended" "[Z", .fieldLink RX7 45 "SeedBattleModel" "savedSize" "[I", .fieldLink RX7 39 "SeedBattleModel" "size" "[I"] ++ wsX70 ++ (vx_atM "java/lang/ArrayIndexOutOfBoundsException" ["java/lang/IndexOutOfBoundsException", "java/lang/RuntimeException", "java/lang/Exception"]).filter goodWord)
def wsX7_blocksOf : List Cond := .code yX7_blocksOf cX7_blocksOf 2 (some .int) :: ([.fieldLink RX7 45 "SeedBattleModel" "savedSize" "[I"] ++ wsX70 ++ (vx_atM "java/lang/ArrayIndexOutOfBoundsException" ["java/lang/IndexOutOfBoundsException", "java/lang/RuntimeException", "java/lang/Exception"]).filter goodWord)
def wsX7_noSave : List Cond := .code yX7_noSave cX7_noSave 2 (some .boolean) :: ([.fieldLink RX7 174 "SeedBattleModel" "isSaved" "Z", .methodLink RX7 146 yX7_noPlayer, .instanceMethod yX7_noPlayer, .selects RX7 yX7_noPlayer yX7_noPlayer, .initialized RX7, .code yX7_noPlayer cX7_noPlayer 2 (some .boolean), .methodLink RX7 61 yX7_no, .instanceMethod yX7_no, .selects RX7 yX7_no yX7_no, .code yX7_no cX7_no 3 (some .boolean), .fieldLink RX7 57 "SeedBattleModel" "thrown" "I"] ++ wsX70)
def wsX7_blocks : List Cond := .code yX7_blocks cX7_blocks 2 (some .int) :: ([.methodLink RX7 178 yX7_noSave, .instanceMethod yX7_noSave, .selects RX7 yX7_noSave yX7_noSave, .initialized RX7, .code yX7_noSave cX7_noSave 2 (some .boolean), .fieldLink RX7 174 "SeedBattleModel" "isSaved" "Z", .methodLink RX7 146 yX7_noPlayer, .instanceMethod yX7_noPlayer, .selects RX7 yX7_noPlayer yX7_noPlayer, .code yX7_noPlayer cX7_noPlayer 2 (some .boolean), .methodLink RX7 61 yX7_no, .instanceMethod yX7_no, .selects RX7 yX7_no yX7_no, .code yX7_no cX7_no 3 (some .boolean), .fieldLink RX7 57 "SeedBattleModel" "thrown" "I", .methodLink RX7 181 yX7_blocksOf, .instanceMethod yX7_blocksOf, .selects RX7 yX7_blocksOf yX7_blocksOf, .code yX7_blocksOf cX7_blocksOf 2 (some .int), .fieldLink RX7 45 "SeedBattleModel" "savedSize" "[I"] ++ wsX70 ++ (vx_atM "java/lang/ArrayIndexOutOfBoundsException" ["java/lang/IndexOutOfBoundsException", "java/lang/RuntimeException", "java/lang/Exception"]).filter goodWord)
def wsX7_breakBlock : List Cond := .code yX7_breakBlock cX7_breakBlock 4 (some .boolean) :: ([.fieldLink RX7 48 "SeedBattleModel" "broken" "[Z", .methodLink RX7 178 yX7_noSave, .instanceMethod yX7_noSave, .selects RX7 yX7_noSave yX7_noSave, .initialized RX7, .code yX7_noSave cX7_noSave 2 (some .boolean), .fieldLink RX7 174 "SeedBattleModel" "isSaved" "Z", .methodLink RX7 146 yX7_noPlayer, .instanceMethod yX7_noPlayer, .selects RX7 yX7_noPlayer yX7_noPlayer, .code yX7_noPlayer cX7_noPlayer 2 (some .boolean), .methodLink RX7 61 yX7_no, .instanceMethod yX7_no, .selects RX7 yX7_no yX7_no, .code yX7_no cX7_no 3 (some .boolean), .fieldLink RX7 57 "SeedBattleModel" "thrown" "I", .methodLink RX7 181 yX7_blocksOf, .instanceMethod yX7_blocksOf, .selects RX7 yX7_blocksOf yX7_blocksOf, .code yX7_blocksOf cX7_blocksOf 2 (some .int), .fieldLink RX7 45 "SeedBattleModel" "savedSize" "[I"] ++ wsX70 ++ (vx_atM "java/lang/ArrayIndexOutOfBoundsException" ["java/lang/IndexOutOfBoundsException", "java/lang/RuntimeException", "java/lang/Exception"]).filter goodWord)
def wsX7_savedAt : List Cond := .code yX7_savedAt cX7_savedAt 3 (some .int) :: ([.fieldLink RX7 45 "SeedBattleModel" "savedSize" "[I", .fieldLink RX7 48 "SeedBattleModel" "broken" "[Z", .fieldLink RX7 42 "SeedBattleModel" "saved" "[I", .methodLink RX7 178 yX7_noSave, .instanceMethod yX7_noSave, .selects RX7 yX7_noSave yX7_noSave, .initialized RX7, .code yX7_noSave cX7_noSave 2 (some .boolean), .fieldLink RX7 174 "SeedBattleModel" "isSaved" "Z", .methodLink RX7 146 yX7_noPlayer, .instanceMethod yX7_noPlayer, .selects RX7 yX7_noPlayer yX7_noPlayer, .code yX7_noPlayer cX7_noPlayer 2 (some .boolean), .methodLink RX7 61 yX7_no, .instanceMethod yX7_no, .selects RX7 yX7_no yX7_no, .code yX7_no cX7_no 3 (some .boolean), .fieldLink RX7 57 "SeedBattleModel" "thrown" "I"] ++ wsX70 ++ (vx_atM "java/lang/ArrayIndexOutOfBoundsException" ["java/lang/IndexOutOfBoundsException", "java/lang/RuntimeException", "java/lang/Exception"]).filter goodWord)
def wsX7_canRebuild : List Cond := .code yX7_canRebuild cX7_canRebuild 6 (some .boolean) :: ([.fieldLink RX7 51 "SeedBattleModel" "ally" "[Z", .fieldLink RX7 54 "SeedBattleModel" "ended" "[Z", .fieldLink RX7 48 "SeedBattleModel" "broken" "[Z"] ++ wsX70 ++ (vx_atM "java/lang/ArrayIndexOutOfBoundsException" ["java/lang/IndexOutOfBoundsException", "java/lang/RuntimeException", "java/lang/Exception"]).filter goodWord)
def wsX7_repair_r1 : List Cond := [Cond.fieldLink RX7 48 "SeedBattleModel" "broken" "[Z", Cond.methodLink RX7 178 yX7_noSave, Cond.instanceMethod yX7_noSave, Cond.selects RX7 yX7_noSave yX7_noSave, Cond.initialized RX7, Cond.code yX7_noSave cX7_noSave 2 (some .boolean), Cond.fieldLink RX7 174 "SeedBattleModel" "isSaved" "Z", Cond.methodLink RX7 146 yX7_noPlayer, Cond.instanceMethod yX7_noPlayer, Cond.selects RX7 yX7_noPlayer yX7_noPlayer, Cond.code yX7_noPlayer cX7_noPlayer 2 (some .boolean), Cond.methodLink RX7 61 yX7_no, Cond.instanceMethod yX7_no, Cond.selects RX7 yX7_no yX7_no, Cond.code yX7_no cX7_no 3 (some .boolean), Cond.fieldLink RX7 57 "SeedBattleModel" "thrown" "I", Cond.methodLink RX7 181 yX7_blocksOf, Cond.instanceMethod yX7_blocksOf, Cond.selects RX7 yX7_blocksOf yX7_blocksOf, Cond.code yX7_blocksOf cX7_blocksOf 2 (some .int), Cond.fieldLink RX7 45 "SeedBattleModel" "savedSize" "[I", Cond.methodLink RX7 184 yX7_canRebuild, Cond.instanceMethod yX7_canRebuild, Cond.selects RX7 yX7_canRebuild yX7_canRebuild]
def wsX7_repair_r2 : List Cond := [Cond.code yX7_canRebuild cX7_canRebuild 6 (some .boolean), Cond.fieldLink RX7 51 "SeedBattleModel" "ally" "[Z", Cond.fieldLink RX7 54 "SeedBattleModel" "ended" "[Z"]
def wsX7_repair : List Cond := .code yX7_repair cX7_repair 4 (some .int) :: ((wsX7_repair_r1 ++ wsX7_repair_r2) ++ wsX70 ++ (vx_atM "java/lang/ArrayIndexOutOfBoundsException" ["java/lang/IndexOutOfBoundsException", "java/lang/RuntimeException", "java/lang/Exception"]).filter goodWord)
def wsX7_load : List Cond := .code yX7_load cX7_load 4 (some .int) :: ([.fieldLink RX7 48 "SeedBattleModel" "broken" "[Z", .fieldLink RX7 36 "SeedBattleModel" "index" "[I", .fieldLink RX7 42 "SeedBattleModel" "saved" "[I", .fieldLink RX7 39 "SeedBattleModel" "size" "[I", .fieldLink RX7 45 "SeedBattleModel" "savedSize" "[I", .methodLink RX7 178 yX7_noSave, .instanceMethod yX7_noSave, .selects RX7 yX7_noSave yX7_noSave, .initialized RX7, .code yX7_noSave cX7_noSave 2 (some .boolean), .fieldLink RX7 174 "SeedBattleModel" "isSaved" "Z", .methodLink RX7 146 yX7_noPlayer, .instanceMethod yX7_noPlayer, .selects RX7 yX7_noPlayer yX7_noPlayer, .code yX7_noPlayer cX7_noPlayer 2 (some .boolean), .methodLink RX7 61 yX7_no, .instanceMethod yX7_no, .selects RX7 yX7_no yX7_no, .code yX7_no cX7_no 3 (some .boolean), .fieldLink RX7 57 "SeedBattleModel" "thrown" "I", .methodLink RX7 181 yX7_blocksOf, .instanceMethod yX7_blocksOf, .selects RX7 yX7_blocksOf yX7_blocksOf, .code yX7_blocksOf cX7_blocksOf 2 (some .int)] ++ wsX70 ++ (vx_atM "java/lang/ArrayIndexOutOfBoundsException" ["java/lang/IndexOutOfBoundsException", "java/lang/RuntimeException", "java/lang/Exception"]).filter goodWord)
def wsX7_allies : List Cond := .code yX7_allies cX7_allies 4 (some .int) :: ([.fieldLink RX7 51 "SeedBattleModel" "ally" "[Z", .methodLink RX7 178 yX7_noSave, .instanceMethod yX7_noSave, .selects RX7 yX7_noSave yX7_noSave, .initialized RX7, .code yX7_noSave cX7_noSave 2 (some .boolean), .fieldLink RX7 174 "SeedBattleModel" "isSaved" "Z", .methodLink RX7 146 yX7_noPlayer, .instanceMethod yX7_noPlayer, .selects RX7 yX7_noPlayer yX7_noPlayer, .code yX7_noPlayer cX7_noPlayer 2 (some .boolean), .methodLink RX7 61 yX7_no, .instanceMethod yX7_no, .selects RX7 yX7_no yX7_no, .code yX7_no cX7_no 3 (some .boolean), .fieldLink RX7 57 "SeedBattleModel" "thrown" "I"] ++ wsX70 ++ (vx_atM "java/lang/ArrayIndexOutOfBoundsException" ["java/lang/IndexOutOfBoundsException", "java/lang/RuntimeException", "java/lang/Exception"]).filter goodWord)
def wsX7_checksum : List Cond := .code yX7_checksum cX7_checksum 4 (some .long) :: ([.fieldLink RX7 65 "SeedBattleModel" "units" "I", .constantLong RX7 187 (31), .fieldLink RX7 13 "SeedBattleModel" "cell" "[I"] ++ wsX70 ++ (vx_atM "java/lang/ArrayIndexOutOfBoundsException" ["java/lang/IndexOutOfBoundsException", "java/lang/RuntimeException", "java/lang/Exception"]).filter goodWord)
def wsX7_livingShare : List Cond := .code yX7_livingShare cX7_livingShare 1 (some .float) :: ([.fieldLink RX7 65 "SeedBattleModel" "units" "I", .methodLink RX7 61 yX7_no, .instanceMethod yX7_no, .selects RX7 yX7_no yX7_no, .initialized RX7, .code yX7_no cX7_no 3 (some .boolean), .fieldLink RX7 57 "SeedBattleModel" "thrown" "I", .methodLink RX7 121 yX7_living, .instanceMethod yX7_living, .selects RX7 yX7_living yX7_living, .code yX7_living cX7_living 3 (some .int), .fieldLink RX7 13 "SeedBattleModel" "cell" "[I"] ++ wsX70 ++ (vx_atM "java/lang/ArrayIndexOutOfBoundsException" ["java/lang/IndexOutOfBoundsException", "java/lang/RuntimeException", "java/lang/Exception"]).filter goodWord)
def wsX7_meanAge : List Cond := .code yX7_meanAge cX7_meanAge 5 (some .double) :: ([.fieldLink RX7 39 "SeedBattleModel" "size" "[I", .fieldLink RX7 84 "SeedBattleModel" "done" "I", .fieldLink RX7 36 "SeedBattleModel" "index" "[I", .methodLink RX7 153 yX7_turnOf, .static yX7_turnOf, .initialized RX7, .code yX7_turnOf cX7_turnOf 1 (some .int), .constant RX7 152 (100000), .methodLink RX7 61 yX7_no, .instanceMethod yX7_no, .selects RX7 yX7_no yX7_no, .code yX7_no cX7_no 3 (some .boolean), .fieldLink RX7 57 "SeedBattleModel" "thrown" "I"] ++ wsX70 ++ (vx_atM "java/lang/ArrayIndexOutOfBoundsException" ["java/lang/IndexOutOfBoundsException", "java/lang/RuntimeException", "java/lang/Exception"]).filter goodWord)
def wsX7_isSound : List Cond := .code yX7_isSound cX7_isSound 1 (some .boolean) :: ([])
def wsJx00060_init_a7421 : List Cond := .code yJx00060_init_a7421 cJx00060_init_a7421 2 none :: ([])
def wsJ9_abs_0f7a4 : List Cond := .code yJ9_abs_0f7a4 cJ9_abs_0f7a4 1 (some .int) :: ([])
def wsJ9_max_7cf53 : List Cond := .code yJ9_max_7cf53 cJ9_max_7cf53 2 (some .int) :: ([])
def wsJ9_min_7cf53 : List Cond := .code yJ9_min_7cf53 cJ9_min_7cf53 2 (some .int) :: ([])
def wsL_setSeed_r1 : List Cond := [Cond.classLink RL 13 "java/lang/IllegalStateException", Cond.methodLink RL 7 yX6_setSeed, Cond.instanceMethod yX6_setSeed, Cond.selects RX6 yX6_setSeed yX6_setSeed, Cond.initialized RX6, Cond.code yX6_setSeed cX6_setSeed 3 (some .int), Cond.classLink RX6 67 "java/lang/IllegalStateException", Cond.initialized "java/lang/IllegalStateException", Cond.fieldLink RX6 10 "SeedBattle" "field" "LSeedBattle$Field;", Cond.fieldLink RX6 74 "SeedBattle" "seedNow" "I", Cond.methodLink RX6 51 yX3_grow, Cond.instanceMethod yX3_grow, Cond.selects RX3 yX3_grow yX3_grow, Cond.initialized RX3, Cond.code yX3_grow cX3_grow 4 none, Cond.constant RX3 15 (1103515245), Cond.fieldLink RX3 9 "SeedBattle$Land" "grounds" "[C", Cond.methodLink RX3 18 yJ0_charAt_5068e, Cond.instanceMethod yJ0_charAt_5068e, Cond.selects RJ0 yJ0_charAt_5068e yJ0_charAt_5068e, Cond.initialized RJ0, Cond.code yJ0_charAt_5068e cJ0_charAt_5068e 2 (some .char), Cond.fieldLink RJ0 9 "java/lang/String" "value" "[B", Cond.methodLink RJ0 492 yJ0_isLatin1_aae02]
def wsL_setSeed_r2 : List Cond := [Cond.instanceMethod yJ0_isLatin1_aae02, Cond.selects RJ0 yJ0_isLatin1_aae02 yJ0_isLatin1_aae02, Cond.code yJ0_isLatin1_aae02 cJ0_isLatin1_aae02 1 (some .boolean), Cond.fieldLink RJ0 38 "java/lang/String" "COMPACT_STRINGS" "Z", Cond.fieldLink RJ0 15 "java/lang/String" "coder" "B", Cond.methodLink RJ0 495 yJ1_charAt_3b067, Cond.static yJ1_charAt_3b067, Cond.initialized RJ1, Cond.code yJ1_charAt_3b067 cJ1_charAt_3b067 2 (some .char), Cond.methodLink RJ1 9 yJ0_checkIndex_df160, Cond.static yJ0_checkIndex_df160, Cond.code yJ0_checkIndex_df160 cJ0_checkIndex_df160 2 none, Cond.fieldLink RJ0 1053 "jdk/internal/util/Preconditions" "SIOOBE_FORMATTER" "Ljava/util/function/BiFunction;", Cond.methodLink RJ0 1059 yJ3_checkIndex_8e157, Cond.static yJ3_checkIndex_8e157, Cond.initialized RJ3, Cond.code yJ3_checkIndex_8e157 cJ3_checkIndex_8e157 3 (some .int), Cond.methodLink RJ0 498 yJ2_charAt_3b067, Cond.static yJ2_charAt_3b067, Cond.initialized RJ2, Cond.code yJ2_charAt_3b067 cJ2_charAt_3b067 2 (some .char), Cond.methodLink RJ2 67 yJ2_checkIndex_2214a, Cond.static yJ2_checkIndex_2214a, Cond.code yJ2_checkIndex_2214a cJ2_checkIndex_2214a 2 none]
def wsL_setSeed_r3 : List Cond := [Cond.methodLink RJ2 48 yJ2_length_9d52b, Cond.static yJ2_length_9d52b, Cond.code yJ2_length_9d52b cJ2_length_9d52b 1 (some .int), Cond.methodLink RJ2 414 yJ0_checkIndex_df160, Cond.methodLink RJ2 71 yJ2_getChar_3b067, Cond.static yJ2_getChar_3b067, Cond.code yJ2_getChar_3b067 cJ2_getChar_3b067 2 (some .char), Cond.fieldLink RJ2 44 "java/lang/StringUTF16" "$assertionsDisabled" "Z", Cond.fieldLink RJ2 59 "java/lang/StringUTF16" "HI_BYTE_SHIFT" "I", Cond.fieldLink RJ2 63 "java/lang/StringUTF16" "LO_BYTE_SHIFT" "I"]
def wsL_setSeed : List Cond := .codeWith yL_setSeed cL_setSeed 4 (some .int) [(0, 9, 12, 13)] :: ((wsL_setSeed_r1 ++ (wsL_setSeed_r2 ++ wsL_setSeed_r3)) ++ wsX60 ++ wsX10 ++ wsX50 ++ wsX30 ++ wsJ00 ++ (vx_atM "java/lang/ArrayIndexOutOfBoundsException" ["java/lang/IndexOutOfBoundsException", "java/lang/RuntimeException", "java/lang/Exception"]).filter goodWord ++ (vx_atS RX6 71 "java/lang/IllegalStateException" ["java/lang/RuntimeException", "java/lang/Exception"]).filter goodWord)
def wsL_ground : List Cond := .codeWith yL_ground cL_ground 4 (some .int) [(0, 9, 12, 19)] :: ([.classLink RL 19 "java/lang/IndexOutOfBoundsException", .methodLink RL 15 yX6_ground, .instanceMethod yX6_ground, .selects RX6 yX6_ground yX6_ground, .initialized RX6, .code yX6_ground cX6_ground 2 (some .char), .fieldLink RX6 10 "SeedBattle" "field" "LSeedBattle$Field;", .methodLink RX6 77 yX6_requireCell, .static yX6_requireCell, .code yX6_requireCell cX6_requireCell 1 none, .classLink RX6 171 "java/lang/IndexOutOfBoundsException", .initialized "java/lang/IndexOutOfBoundsException", .methodLink RX6 285 yX6_isCell, .static yX6_isCell, .code yX6_isCell cX6_isCell 1 (some .boolean), .methodLink RX6 80 yX3_at, .instanceMethod yX3_at, .selects RX3 yX3_at yX3_at, .initialized RX3, .code yX3_at cX3_at 2 (some .char), .fieldLink RX3 9 "SeedBattle$Land" "grounds" "[C"] ++ wsX60 ++ wsX10 ++ wsX30 ++ (vx_atM "java/lang/ArrayIndexOutOfBoundsException" ["java/lang/IndexOutOfBoundsException", "java/lang/RuntimeException", "java/lang/Exception"]).filter goodWord ++ (vx_atS RX6 175 "java/lang/IndexOutOfBoundsException" ["java/lang/RuntimeException", "java/lang/Exception"]).filter goodWord)
def wsL_addUnit_r1 : List Cond := [Cond.classLink RL 19 "java/lang/IndexOutOfBoundsException", Cond.classLink RL 25 "java/lang/IllegalArgumentException", Cond.classLink RL 27 "java/lang/UnsupportedOperationException", Cond.classLink RL 13 "java/lang/IllegalStateException", Cond.methodLink RL 21 yX6_addUnit, Cond.instanceMethod yX6_addUnit, Cond.selects RX6 yX6_addUnit yX6_addUnit, Cond.initialized RX6, Cond.code yX6_addUnit cX6_addUnit 5 (some .int), Cond.classLink RX6 95 "java/lang/IllegalArgumentException", Cond.initialized "java/lang/IllegalArgumentException", Cond.classLink RX6 103 "java/lang/UnsupportedOperationException", Cond.initialized "java/lang/UnsupportedOperationException", Cond.classLink RX6 67 "java/lang/IllegalStateException", Cond.initialized "java/lang/IllegalStateException", Cond.fieldLink RX6 10 "SeedBattle" "field" "LSeedBattle$Field;", Cond.fieldLink RX6 108 "SeedBattle" "turnsDone" "I", Cond.methodLink RX6 84 yX6_requirePlayer, Cond.static yX6_requirePlayer, Cond.code yX6_requirePlayer cX6_requirePlayer 1 none, Cond.classLink RX6 171 "java/lang/IndexOutOfBoundsException", Cond.initialized "java/lang/IndexOutOfBoundsException", Cond.methodLink RX6 77 yX6_requireCell, Cond.static yX6_requireCell]
def wsL_addUnit_r2 : List Cond := [Cond.code yX6_requireCell cX6_requireCell 1 none, Cond.methodLink RX6 285 yX6_isCell, Cond.static yX6_isCell, Cond.code yX6_isCell cX6_isCell 1 (some .boolean), Cond.methodLink RX6 89 yJ0_indexOf_0f7a4, Cond.instanceMethod yJ0_indexOf_0f7a4, Cond.selects RJ0 yJ0_indexOf_0f7a4 yJ0_indexOf_0f7a4, Cond.initialized RJ0, Cond.code yJ0_indexOf_0f7a4 cJ0_indexOf_0f7a4 2 (some .int), Cond.methodLink RJ0 633 yJ0_indexOf_7cf53, Cond.instanceMethod yJ0_indexOf_7cf53, Cond.selects RJ0 yJ0_indexOf_7cf53 yJ0_indexOf_7cf53, Cond.code yJ0_indexOf_7cf53 cJ0_indexOf_7cf53 3 (some .int), Cond.fieldLink RJ0 9 "java/lang/String" "value" "[B", Cond.methodLink RJ0 492 yJ0_isLatin1_aae02, Cond.instanceMethod yJ0_isLatin1_aae02, Cond.selects RJ0 yJ0_isLatin1_aae02 yJ0_isLatin1_aae02, Cond.code yJ0_isLatin1_aae02 cJ0_isLatin1_aae02 1 (some .boolean), Cond.fieldLink RJ0 38 "java/lang/String" "COMPACT_STRINGS" "Z", Cond.fieldLink RJ0 15 "java/lang/String" "coder" "B", Cond.methodLink RJ0 505 yJ0_length_8abf5, Cond.instanceMethod yJ0_length_8abf5, Cond.selects RJ0 yJ0_length_8abf5 yJ0_length_8abf5, Cond.code yJ0_length_8abf5 cJ0_length_8abf5 1 (some .int)]
def wsL_addUnit_r3 : List Cond := [Cond.methodLink RJ0 335 yJ0_coder_7d493, Cond.instanceMethod yJ0_coder_7d493, Cond.selects RJ0 yJ0_coder_7d493 yJ0_coder_7d493, Cond.code yJ0_coder_7d493 cJ0_coder_7d493 1 (some .byte), Cond.methodLink RJ0 637 yJ1_indexOf_4cfef, Cond.static yJ1_indexOf_4cfef, Cond.initialized RJ1, Cond.code yJ1_indexOf_4cfef cJ1_indexOf_4cfef 4 (some .int), Cond.methodLink RJ1 92 Lib.Math.max.name, Cond.static Lib.Math.max.name, Cond.initialized "java/lang/Math", Cond.code Lib.Math.max.name Lib.Math.max.code 2 (some .int), Cond.methodLink RJ1 38 Lib.Math.min.name, Cond.static Lib.Math.min.name, Cond.code Lib.Math.min.name Lib.Math.min.code 2 (some .int), Cond.methodLink RJ1 88 yJ1_canEncode_9a6ad, Cond.static yJ1_canEncode_9a6ad, Cond.code yJ1_canEncode_9a6ad cJ1_canEncode_9a6ad 1 (some .boolean), Cond.methodLink RJ1 95 yJ1_indexOfChar_4cfef, Cond.static yJ1_indexOfChar_4cfef, Cond.code yJ1_indexOfChar_4cfef cJ1_indexOfChar_4cfef 6 (some .int), Cond.methodLink RJ0 640 yJ2_indexOf_4cfef, Cond.static yJ2_indexOf_4cfef, Cond.initialized RJ2]
def wsL_addUnit_r4 : List Cond := [Cond.code yJ2_indexOf_4cfef cJ2_indexOf_4cfef 4 (some .int), Cond.methodLink RJ2 224 Lib.Math.max.name, Cond.methodLink RJ2 183 Lib.Math.min.name, Cond.constant RJ2 227 (65536), Cond.methodLink RJ2 228 yJ2_indexOfChar_4cfef, Cond.static yJ2_indexOfChar_4cfef, Cond.code yJ2_indexOfChar_4cfef cJ2_indexOfChar_4cfef 4 (some .int), Cond.methodLink RJ2 96 yJ2_checkBoundsBeginEnd_d044e, Cond.static yJ2_checkBoundsBeginEnd_d044e, Cond.code yJ2_checkBoundsBeginEnd_d044e cJ2_checkBoundsBeginEnd_d044e 3 none, Cond.methodLink RJ2 48 yJ2_length_9d52b, Cond.static yJ2_length_9d52b, Cond.code yJ2_length_9d52b cJ2_length_9d52b 1 (some .int), Cond.methodLink RJ2 241 yJ0_checkBoundsBeginEnd_23922, Cond.static yJ0_checkBoundsBeginEnd_23922, Cond.code yJ0_checkBoundsBeginEnd_23922 cJ0_checkBoundsBeginEnd_23922 3 none, Cond.fieldLink RJ0 1053 "jdk/internal/util/Preconditions" "SIOOBE_FORMATTER" "Ljava/util/function/BiFunction;", Cond.methodLink RJ0 1062 yJ3_checkFromToIndex_8c36e, Cond.static yJ3_checkFromToIndex_8c36e, Cond.initialized RJ3, Cond.code yJ3_checkFromToIndex_8c36e cJ3_checkFromToIndex_8c36e 4 (some .int), Cond.methodLink RJ2 244 yJ2_indexOfCharUnsafe_4cfef, Cond.static yJ2_indexOfCharUnsafe_4cfef, Cond.code yJ2_indexOfCharUnsafe_4cfef cJ2_indexOfCharUnsafe_4cfef 5 (some .int)]
def wsL_addUnit_r5 : List Cond := [Cond.methodLink RJ2 71 yJ2_getChar_3b067, Cond.static yJ2_getChar_3b067, Cond.code yJ2_getChar_3b067 cJ2_getChar_3b067 2 (some .char), Cond.fieldLink RJ2 44 "java/lang/StringUTF16" "$assertionsDisabled" "Z", Cond.fieldLink RJ2 59 "java/lang/StringUTF16" "HI_BYTE_SHIFT" "I", Cond.fieldLink RJ2 63 "java/lang/StringUTF16" "LO_BYTE_SHIFT" "I", Cond.methodLink RJ2 232 yJ2_indexOfSupplementary_4cfef, Cond.static yJ2_indexOfSupplementary_4cfef, Cond.code yJ2_indexOfSupplementary_4cfef cJ2_indexOfSupplementary_4cfef 7 (some .int), Cond.methodLink RJ2 164 yJ11_isValidCodePoint_9a6ad, Cond.static yJ11_isValidCodePoint_9a6ad, Cond.initialized RJ11, Cond.code yJ11_isValidCodePoint_9a6ad cJ11_isValidCodePoint_9a6ad 2 (some .boolean), Cond.methodLink RJ2 157 yJ11_highSurrogate_5068e, Cond.static yJ11_highSurrogate_5068e, Cond.code yJ11_highSurrogate_5068e cJ11_highSurrogate_5068e 1 (some .char), Cond.constant RJ11 110 (55232), Cond.methodLink RJ2 161 yJ11_lowSurrogate_5068e, Cond.static yJ11_lowSurrogate_5068e, Cond.code yJ11_lowSurrogate_5068e cJ11_lowSurrogate_5068e 1 (some .char), Cond.constant RJ11 76 (56320), Cond.methodLink RX6 80 yX3_at, Cond.instanceMethod yX3_at, Cond.selects RX3 yX3_at yX3_at]
def wsL_addUnit_r6 : List Cond := [Cond.initialized RX3, Cond.code yX3_at cX3_at 2 (some .char), Cond.fieldLink RX3 9 "SeedBattle$Land" "grounds" "[C", Cond.methodLink RX6 100 yX5_on, Cond.instanceMethod yX5_on, Cond.selects RX5 yX5_on yX5_on, Cond.initialized RX5, Cond.code yX5_on cX5_on 3 (some .int), Cond.fieldLink RX5 24 "SeedBattle$Units" "count" "I", Cond.fieldLink RX5 21 "SeedBattle$Units" "places" "[I", Cond.methodLink RX6 113 yX5_put, Cond.instanceMethod yX5_put, Cond.selects RX5 yX5_put yX5_put, Cond.code yX5_put cX5_put 4 (some .int), Cond.fieldLink RX5 9 "SeedBattle$Units" "owners" "[I", Cond.fieldLink RX5 15 "SeedBattle$Units" "kinds" "[I", Cond.fieldLink RX5 18 "SeedBattle$Units" "starts" "[I"]
def wsL_addUnit : List Cond := .codeWith yL_addUnit cL_addUnit 6 (some .int) [(0, 12, 15, 19), (0, 12, 19, 25), (0, 12, 23, 27), (0, 12, 27, 13)] :: ((wsL_addUnit_r1 ++ (wsL_addUnit_r2 ++ (wsL_addUnit_r3 ++ (wsL_addUnit_r4 ++ (wsL_addUnit_r5 ++ wsL_addUnit_r6))))) ++ wsX60 ++ wsX10 ++ wsX50 ++ wsJ00 ++ wsX30 ++ (vx_atM "java/lang/ArrayIndexOutOfBoundsException" ["java/lang/IndexOutOfBoundsException", "java/lang/RuntimeException", "java/lang/Exception"]).filter goodWord ++ (vx_atS RX6 99 "java/lang/IllegalArgumentException" ["java/lang/RuntimeException", "java/lang/Exception"]).filter goodWord ++ (vx_atS RX6 107 "java/lang/UnsupportedOperationException" ["java/lang/RuntimeException", "java/lang/Exception"]).filter goodWord ++ (vx_atS RX6 71 "java/lang/IllegalStateException" ["java/lang/RuntimeException", "java/lang/Exception"]).filter goodWord ++ (vx_atS RX6 175 "java/lang/IndexOutOfBoundsException" ["java/lang/RuntimeException", "java/lang/Exception"]).filter goodWord)
def wsL_order_r1 : List Cond := [Cond.classLink RL 19 "java/lang/IndexOutOfBoundsException", Cond.classLink RL 25 "java/lang/IllegalArgumentException", Cond.classLink RL 27 "java/lang/UnsupportedOperationException", Cond.methodLink RL 29 yX6_order, Cond.instanceMethod yX6_order, Cond.selects RX6 yX6_order yX6_order, Cond.initialized RX6, Cond.code yX6_order cX6_order 3 (some .int), Cond.classLink RX6 95 "java/lang/IllegalArgumentException", Cond.initialized "java/lang/IllegalArgumentException", Cond.classLink RX6 103 "java/lang/UnsupportedOperationException", Cond.initialized "java/lang/UnsupportedOperationException", Cond.fieldLink RX6 10 "SeedBattle" "field" "LSeedBattle$Field;", Cond.fieldLink RX6 22 "SeedBattle" "orders" "LSeedBattle$Orders;", Cond.fieldLink RX6 108 "SeedBattle" "turnsDone" "I", Cond.methodLink RX6 117 yX6_requireUnit, Cond.instanceMethod yX6_requireUnit, Cond.selects RX6 yX6_requireUnit yX6_requireUnit, Cond.code yX6_requireUnit cX6_requireUnit 2 none, Cond.classLink RX6 171 "java/lang/IndexOutOfBoundsException", Cond.initialized "java/lang/IndexOutOfBoundsException", Cond.methodLink RX6 290 yX5_has, Cond.instanceMethod yX5_has, Cond.selects RX5 yX5_has yX5_has]
def wsL_order_r2 : List Cond := [Cond.initialized RX5, Cond.code yX5_has cX5_has 2 (some .boolean), Cond.fieldLink RX5 24 "SeedBattle$Units" "count" "I", Cond.methodLink RX6 122 yX5_lives, Cond.instanceMethod yX5_lives, Cond.selects RX5 yX5_lives yX5_lives, Cond.code yX5_lives cX5_lives 2 (some .boolean), Cond.methodLink RX5 32 yX5_place, Cond.instanceMethod yX5_place, Cond.selects RX5 yX5_place yX5_place, Cond.code yX5_place cX5_place 2 (some .int), Cond.fieldLink RX5 21 "SeedBattle$Units" "places" "[I", Cond.methodLink RX6 126 yX4_givenTo, Cond.instanceMethod yX4_givenTo, Cond.selects RX4 yX4_givenTo yX4_givenTo, Cond.initialized RX4, Cond.code yX4_givenTo cX4_givenTo 2 (some .int), Cond.fieldLink RX4 15 "SeedBattle$Orders" "given" "[I", Cond.methodLink RX6 129 yX5_steps, Cond.instanceMethod yX5_steps, Cond.selects RX5 yX5_steps yX5_steps, Cond.code yX5_steps cX5_steps 2 (some .int), Cond.fieldLink RX5 15 "SeedBattle$Units" "kinds" "[I", Cond.methodLink RX6 134 yX4_give]
def wsL_order_r3 : List Cond := [Cond.instanceMethod yX4_give, Cond.selects RX4 yX4_give yX4_give, Cond.code yX4_give cX4_give 5 (some .int), Cond.fieldLink RX4 9 "SeedBattle$Orders" "directions" "[I", Cond.methodLink RX4 24 yX4_givenTo, Cond.methodLink RX4 28 yX4_spotOf, Cond.static yX4_spotOf, Cond.code yX4_spotOf cX4_spotOf 4 (some .int)]
def wsL_order : List Cond := .codeWith yL_order cL_order 5 (some .int) [(0, 10, 13, 19), (0, 10, 17, 25), (0, 10, 21, 27)] :: ((wsL_order_r1 ++ (wsL_order_r2 ++ wsL_order_r3)) ++ wsX60 ++ wsX10 ++ wsX50 ++ wsX40 ++ (vx_atM "java/lang/ArrayIndexOutOfBoundsException" ["java/lang/IndexOutOfBoundsException", "java/lang/RuntimeException", "java/lang/Exception"]).filter goodWord ++ (vx_atS RX6 99 "java/lang/IllegalArgumentException" ["java/lang/RuntimeException", "java/lang/Exception"]).filter goodWord ++ (vx_atS RX6 107 "java/lang/UnsupportedOperationException" ["java/lang/RuntimeException", "java/lang/Exception"]).filter goodWord ++ (vx_atS RX6 175 "java/lang/IndexOutOfBoundsException" ["java/lang/RuntimeException", "java/lang/Exception"]).filter goodWord)
def wsL_turn_r1 : List Cond := [Cond.classLink RL 13 "java/lang/IllegalStateException", Cond.methodLink RL 33 yX6_turn, Cond.instanceMethod yX6_turn, Cond.selects RX6 yX6_turn yX6_turn, Cond.initialized RX6, Cond.code yX6_turn cX6_turn 3 (some .int), Cond.classLink RX6 67 "java/lang/IllegalStateException", Cond.initialized "java/lang/IllegalStateException", Cond.fieldLink RX6 108 "SeedBattle" "turnsDone" "I", Cond.fieldLink RX6 10 "SeedBattle" "field" "LSeedBattle$Field;", Cond.fieldLink RX6 22 "SeedBattle" "orders" "LSeedBattle$Orders;", Cond.methodLink RX6 139 yX1_playTurn, Cond.instanceMethod yX1_playTurn, Cond.selects RX1 yX1_playTurn yX1_playTurn, Cond.initialized RX1, Cond.code yX1_playTurn cX1_playTurn 5 (some .int), Cond.methodLink RX1 32 yX1_readWants, Cond.instanceMethod yX1_readWants, Cond.selects RX1 yX1_readWants yX1_readWants, Cond.code yX1_readWants cX1_readWants 7 (some .boolean), Cond.fieldLink RX1 21 "SeedBattle$Field" "units" "LSeedBattle$Units;", Cond.fieldLink RX1 25 "SeedBattle$Field" "wants" "[I", Cond.fieldLink RX1 12 "SeedBattle$Field" "land" "LSeedBattle$Land;", Cond.methodLink RX1 50 yX5_place]
def wsL_turn_r2 : List Cond := [Cond.instanceMethod yX5_place, Cond.selects RX5 yX5_place yX5_place, Cond.initialized RX5, Cond.code yX5_place cX5_place 2 (some .int), Cond.fieldLink RX5 24 "SeedBattle$Units" "count" "I", Cond.fieldLink RX5 21 "SeedBattle$Units" "places" "[I", Cond.methodLink RX1 54 yX4_direction, Cond.instanceMethod yX4_direction, Cond.selects RX4 yX4_direction yX4_direction, Cond.initialized RX4, Cond.code yX4_direction cX4_direction 5 (some .int), Cond.fieldLink RX4 9 "SeedBattle$Orders" "directions" "[I", Cond.methodLink RX4 28 yX4_spotOf, Cond.static yX4_spotOf, Cond.code yX4_spotOf cX4_spotOf 4 (some .int), Cond.methodLink RX1 60 yX3_beside, Cond.instanceMethod yX3_beside, Cond.selects RX3 yX3_beside yX3_beside, Cond.initialized RX3, Cond.code yX3_beside cX3_beside 6 (some .int), Cond.methodLink RX3 35 yX3_at, Cond.instanceMethod yX3_at, Cond.selects RX3 yX3_at yX3_at, Cond.code yX3_at cX3_at 2 (some .char)]
def wsL_turn_r3 : List Cond := [Cond.fieldLink RX3 9 "SeedBattle$Land" "grounds" "[C", Cond.static yX6_isCell, Cond.code yX6_isCell cX6_isCell 1 (some .boolean), Cond.methodLink RX1 64 yX1_isMover, Cond.instanceMethod yX1_isMover, Cond.selects RX1 yX1_isMover yX1_isMover, Cond.code yX1_isMover cX1_isMover 2 (some .boolean), Cond.methodLink RX1 36 yX1_meetPairs, Cond.instanceMethod yX1_meetPairs, Cond.selects RX1 yX1_meetPairs yX1_meetPairs, Cond.code yX1_meetPairs cX1_meetPairs 4 (some .int), Cond.methodLink RX1 68 yX1_facing, Cond.instanceMethod yX1_facing, Cond.selects RX1 yX1_facing yX1_facing, Cond.code yX1_facing cX1_facing 3 (some .int), Cond.methodLink RX1 74 yX5_on, Cond.instanceMethod yX5_on, Cond.selects RX5 yX5_on yX5_on, Cond.code yX5_on cX5_on 3 (some .int), Cond.methodLink RX1 77 yX5_owner, Cond.instanceMethod yX5_owner, Cond.selects RX5 yX5_owner yX5_owner, Cond.code yX5_owner cX5_owner 2 (some .int), Cond.fieldLink RX5 9 "SeedBattle$Units" "owners" "[I"]
def wsL_turn_r4 : List Cond := [Cond.methodLink RX1 71 yX1_meet, Cond.instanceMethod yX1_meet, Cond.selects RX1 yX1_meet yX1_meet, Cond.code yX1_meet cX1_meet 4 (some .int), Cond.methodLink RX1 80 yX5_power, Cond.instanceMethod yX5_power, Cond.selects RX5 yX5_power yX5_power, Cond.code yX5_power cX5_power 2 (some .int), Cond.fieldLink RX5 15 "SeedBattle$Units" "kinds" "[I", Cond.methodLink RX1 83 yX1_lose, Cond.instanceMethod yX1_lose, Cond.selects RX1 yX1_lose yX1_lose, Cond.code yX1_lose cX1_lose 2 none, Cond.methodLink RX1 87 yX5_move, Cond.instanceMethod yX5_move, Cond.selects RX5 yX5_move yX5_move, Cond.code yX5_move cX5_move 3 none, Cond.methodLink RX1 40 yX1_settleCells, Cond.instanceMethod yX1_settleCells, Cond.selects RX1 yX1_settleCells yX1_settleCells, Cond.code yX1_settleCells cX1_settleCells 4 (some .int), Cond.methodLink RX1 91 yX1_lowestContested, Cond.instanceMethod yX1_lowestContested, Cond.selects RX1 yX1_lowestContested yX1_lowestContested]
def wsL_turn_r5 : List Cond := [Cond.code yX1_lowestContested cX1_lowestContested 3 (some .int), Cond.methodLink RX1 97 yX1_isContested, Cond.instanceMethod yX1_isContested, Cond.selects RX1 yX1_isContested yX1_isContested, Cond.code yX1_isContested cX1_isContested 4 (some .boolean), Cond.methodLink RX1 94 yX1_lookAt, Cond.instanceMethod yX1_lookAt, Cond.selects RX1 yX1_lookAt yX1_lookAt, Cond.code yX1_lookAt cX1_lookAt 4 (some .int), Cond.methodLink RX1 100 yX1_strongestFor, Cond.instanceMethod yX1_strongestFor, Cond.selects RX1 yX1_strongestFor yX1_strongestFor, Cond.code yX1_strongestFor cX1_strongestFor 5 (some .int), Cond.fieldLink RX1 29 "SeedBattle$Field" "powers" "[I", Cond.methodLink RX1 109 yJ7_fill_53178, Cond.static yJ7_fill_53178, Cond.initialized RJ7, Cond.code yJ7_fill_53178 cJ7_fill_53178 4 none, Cond.methodLink RX1 103 yX1_firstMover, Cond.instanceMethod yX1_firstMover, Cond.selects RX1 yX1_firstMover yX1_firstMover, Cond.code yX1_firstMover cX1_firstMover 4 (some .int), Cond.methodLink RX1 106 yX1_turnBack, Cond.instanceMethod yX1_turnBack]
def wsL_turn_r6 : List Cond := [Cond.selects RX1 yX1_turnBack yX1_turnBack, Cond.code yX1_turnBack cX1_turnBack 4 none, Cond.methodLink RX1 43 yX1_moveAll, Cond.instanceMethod yX1_moveAll, Cond.selects RX1 yX1_moveAll yX1_moveAll, Cond.code yX1_moveAll cX1_moveAll 2 none, Cond.methodLink RX6 143 yX4_startTurn, Cond.instanceMethod yX4_startTurn, Cond.selects RX4 yX4_startTurn yX4_startTurn, Cond.code yX4_startTurn cX4_startTurn 1 none, Cond.fieldLink RX4 15 "SeedBattle$Orders" "given" "[I", Cond.methodLink RX4 18 yJ7_fill_53178, Cond.methodLink RX6 146 yX6_watch, Cond.instanceMethod yX6_watch, Cond.selects RX6 yX6_watch yX6_watch, Cond.code yX6_watch cX6_watch 6 none, Cond.fieldLink RX6 28 "SeedBattle" "indexes" "[LSeedBattle$Index;", Cond.fieldLink RX6 42 "SeedBattle" "ownSights" "[I", Cond.methodLink RX6 152 yX5_place, Cond.methodLink RX6 298 yX5_owner, Cond.methodLink RX6 159 yX1_playerSpots, Cond.instanceMethod yX1_playerSpots, Cond.selects RX1 yX1_playerSpots yX1_playerSpots, Cond.code yX1_playerSpots cX1_playerSpots 4 (some .boolean)]
def wsL_turn_r7 : List Cond := [Cond.methodLink RX1 129 yX1_unitSpots, Cond.instanceMethod yX1_unitSpots, Cond.selects RX1 yX1_unitSpots yX1_unitSpots, Cond.code yX1_unitSpots cX1_unitSpots 5 (some .boolean), Cond.methodLink RX1 115 yX5_sight, Cond.instanceMethod yX5_sight, Cond.selects RX5 yX5_sight yX5_sight, Cond.code yX5_sight cX5_sight 2 (some .int), Cond.methodLink RX1 118 yX3_at, Cond.methodLink RX1 122 yX3_distance, Cond.static yX3_distance, Cond.code yX3_distance cX3_distance 4 (some .int), Cond.methodLink RX3 45 Lib.Math.abs.name, Cond.static Lib.Math.abs.name, Cond.initialized "java/lang/Math", Cond.code Lib.Math.abs.name Lib.Math.abs.code 1 (some .int), Cond.methodLink RX3 51 Lib.Math.max.name, Cond.static Lib.Math.max.name, Cond.code Lib.Math.max.name Lib.Math.max.code 2 (some .int), Cond.methodLink RX1 125 yX3_isClear, Cond.instanceMethod yX3_isClear, Cond.selects RX3 yX3_isClear yX3_isClear, Cond.code yX3_isClear cX3_isClear 11 (some .boolean), Cond.methodLink RX3 38 yX3_distance]
def wsL_turn_r8 : List Cond := [Cond.methodLink RX3 42 yX3_share, Cond.static yX3_share, Cond.code yX3_share cX3_share 3 (some .int), Cond.methodLink RX6 301 yX2_add, Cond.instanceMethod yX2_add, Cond.selects RX2 yX2_add yX2_add, Cond.initialized RX2, Cond.code yX2_add cX2_add 5 none, Cond.fieldLink RX2 15 "SeedBattle$Index" "count" "I", Cond.fieldLink RX2 9 "SeedBattle$Index" "numbers" "[I", Cond.methodLink RX2 19 yX2_isBehind, Cond.static yX2_isBehind, Cond.code yX2_isBehind cX2_isBehind 3 (some .boolean), Cond.static yX6_turnOf, Cond.code yX6_turnOf cX6_turnOf 1 (some .int), Cond.constant RX6 297 (100000), Cond.static yX6_unitOf, Cond.code yX6_unitOf cX6_unitOf 1 (some .int), Cond.static yX6_numberFor, Cond.code yX6_numberFor cX6_numberFor 3 (some .int), Cond.methodLink RX2 27 yX2_dropFirst, Cond.instanceMethod yX2_dropFirst, Cond.selects RX2 yX2_dropFirst yX2_dropFirst, Cond.code yX2_dropFirst cX2_dropFirst 2 none]
def wsL_turn_r9 : List Cond := [Cond.methodLink RX6 149 yX6_hearAll, Cond.instanceMethod yX6_hearAll, Cond.selects RX6 yX6_hearAll yX6_hearAll, Cond.code yX6_hearAll cX6_hearAll 3 none, Cond.methodLink RX6 164 yX6_hasTreaty, Cond.instanceMethod yX6_hasTreaty, Cond.selects RX6 yX6_hasTreaty yX6_hasTreaty, Cond.code yX6_hasTreaty cX6_hasTreaty 3 (some .boolean), Cond.fieldLink RX6 38 "SeedBattle" "treaties" "[I", Cond.methodLink RX6 305 yX6_hear, Cond.instanceMethod yX6_hear, Cond.selects RX6 yX6_hear yX6_hear, Cond.code yX6_hear cX6_hear 6 none, Cond.methodLink RX6 309 yX2_has, Cond.instanceMethod yX2_has, Cond.selects RX2 yX2_has yX2_has, Cond.code yX2_has cX2_has 4 (some .boolean)]
def wsL_turn : List Cond := .codeWith yL_turn cL_turn 3 (some .int) [(0, 8, 11, 13)] :: ((wsL_turn_r1 ++ (wsL_turn_r2 ++ (wsL_turn_r3 ++ (wsL_turn_r4 ++ (wsL_turn_r5 ++ (wsL_turn_r6 ++ (wsL_turn_r7 ++ (wsL_turn_r8 ++ wsL_turn_r9)))))))) ++ wsX60 ++ wsX10 ++ wsX50 ++ wsX40 ++ wsX30 ++ wsX20 ++ (vx_atM "java/lang/ArrayIndexOutOfBoundsException" ["java/lang/IndexOutOfBoundsException", "java/lang/RuntimeException", "java/lang/Exception"]).filter goodWord ++ (vx_atS RX6 71 "java/lang/IllegalStateException" ["java/lang/RuntimeException", "java/lang/Exception"]).filter goodWord ++ (vx_atM "java/lang/ArithmeticException" ["java/lang/RuntimeException", "java/lang/Exception"]).filter goodWord)
def wsL_cellOf : List Cond := .codeWith yL_cellOf cL_cellOf 4 (some .int) [(0, 9, 12, 19)] :: ([.classLink RL 19 "java/lang/IndexOutOfBoundsException", .methodLink RL 37 yX6_cellOf, .instanceMethod yX6_cellOf, .selects RX6 yX6_cellOf yX6_cellOf, .initialized RX6, .code yX6_cellOf cX6_cellOf 2 (some .int), .fieldLink RX6 10 "SeedBattle" "field" "LSeedBattle$Field;", .methodLink RX6 117 yX6_requireUnit, .instanceMethod yX6_requireUnit, .selects RX6 yX6_requireUnit yX6_requireUnit, .code yX6_requireUnit cX6_requireUnit 2 none, .classLink RX6 171 "java/lang/IndexOutOfBoundsException", .initialized "java/lang/IndexOutOfBoundsException", .methodLink RX6 290 yX5_has, .instanceMethod yX5_has, .selects RX5 yX5_has yX5_has, .initialized RX5, .code yX5_has cX5_has 2 (some .boolean), .fieldLink RX5 24 "SeedBattle$Units" "count" "I", .methodLink RX6 152 yX5_place, .instanceMethod yX5_place, .selects RX5 yX5_place yX5_place, .code yX5_place cX5_place 2 (some .int), .fieldLink RX5 21 "SeedBattle$Units" "places" "[I"] ++ wsX60 ++ wsX10 ++ wsX50 ++ (vx_atM "java/lang/ArrayIndexOutOfBoundsException" ["java/lang/IndexOutOfBoundsException", "java/lang/RuntimeException", "java/lang/Exception"]).filter goodWord ++ (vx_atS RX6 175 "java/lang/IndexOutOfBoundsException" ["java/lang/RuntimeException", "java/lang/Exception"]).filter goodWord)
def wsL_unitOn : List Cond := .codeWith yL_unitOn cL_unitOn 4 (some .int) [(0, 9, 12, 19)] :: ([.classLink RL 19 "java/lang/IndexOutOfBoundsException", .methodLink RL 40 yX6_unitOn, .instanceMethod yX6_unitOn, .selects RX6 yX6_unitOn yX6_unitOn, .initialized RX6, .code yX6_unitOn cX6_unitOn 2 (some .int), .fieldLink RX6 10 "SeedBattle" "field" "LSeedBattle$Field;", .methodLink RX6 77 yX6_requireCell, .static yX6_requireCell, .code yX6_requireCell cX6_requireCell 1 none, .classLink RX6 171 "java/lang/IndexOutOfBoundsException", .initialized "java/lang/IndexOutOfBoundsException", .methodLink RX6 285 yX6_isCell, .static yX6_isCell, .code yX6_isCell cX6_isCell 1 (some .boolean), .methodLink RX6 100 yX5_on, .instanceMethod yX5_on, .selects RX5 yX5_on yX5_on, .initialized RX5, .code yX5_on cX5_on 3 (some .int), .fieldLink RX5 24 "SeedBattle$Units" "count" "I", .fieldLink RX5 21 "SeedBattle$Units" "places" "[I"] ++ wsX60 ++ wsX10 ++ wsX50 ++ (vx_atM "java/lang/ArrayIndexOutOfBoundsException" ["java/lang/IndexOutOfBoundsException", "java/lang/RuntimeException", "java/lang/Exception"]).filter goodWord ++ (vx_atS RX6 175 "java/lang/IndexOutOfBoundsException" ["java/lang/RuntimeException", "java/lang/Exception"]).filter goodWord)
def wsL_sees_r1 : List Cond := [Cond.classLink RL 19 "java/lang/IndexOutOfBoundsException", Cond.methodLink RL 43 yX6_sees, Cond.instanceMethod yX6_sees, Cond.selects RX6 yX6_sees yX6_sees, Cond.initialized RX6, Cond.code yX6_sees cX6_sees 3 (some .boolean), Cond.fieldLink RX6 10 "SeedBattle" "field" "LSeedBattle$Field;", Cond.methodLink RX6 117 yX6_requireUnit, Cond.instanceMethod yX6_requireUnit, Cond.selects RX6 yX6_requireUnit yX6_requireUnit, Cond.code yX6_requireUnit cX6_requireUnit 2 none, Cond.classLink RX6 171 "java/lang/IndexOutOfBoundsException", Cond.initialized "java/lang/IndexOutOfBoundsException", Cond.methodLink RX6 290 yX5_has, Cond.instanceMethod yX5_has, Cond.selects RX5 yX5_has yX5_has, Cond.initialized RX5, Cond.code yX5_has cX5_has 2 (some .boolean), Cond.fieldLink RX5 24 "SeedBattle$Units" "count" "I", Cond.methodLink RX6 77 yX6_requireCell, Cond.static yX6_requireCell, Cond.code yX6_requireCell cX6_requireCell 1 none, Cond.methodLink RX6 285 yX6_isCell, Cond.static yX6_isCell]
def wsL_sees_r2 : List Cond := [Cond.code yX6_isCell cX6_isCell 1 (some .boolean), Cond.methodLink RX6 155 yX1_unitSpots, Cond.instanceMethod yX1_unitSpots, Cond.selects RX1 yX1_unitSpots yX1_unitSpots, Cond.initialized RX1, Cond.code yX1_unitSpots cX1_unitSpots 5 (some .boolean), Cond.fieldLink RX1 21 "SeedBattle$Field" "units" "LSeedBattle$Units;", Cond.fieldLink RX1 12 "SeedBattle$Field" "land" "LSeedBattle$Land;", Cond.methodLink RX1 50 yX5_place, Cond.instanceMethod yX5_place, Cond.selects RX5 yX5_place yX5_place, Cond.code yX5_place cX5_place 2 (some .int), Cond.fieldLink RX5 21 "SeedBattle$Units" "places" "[I", Cond.methodLink RX1 115 yX5_sight, Cond.instanceMethod yX5_sight, Cond.selects RX5 yX5_sight yX5_sight, Cond.code yX5_sight cX5_sight 2 (some .int), Cond.fieldLink RX5 15 "SeedBattle$Units" "kinds" "[I", Cond.methodLink RX1 118 yX3_at, Cond.instanceMethod yX3_at, Cond.selects RX3 yX3_at yX3_at, Cond.initialized RX3, Cond.code yX3_at cX3_at 2 (some .char), Cond.fieldLink RX3 9 "SeedBattle$Land" "grounds" "[C"]
def wsL_sees_r3 : List Cond := [Cond.methodLink RX1 122 yX3_distance, Cond.static yX3_distance, Cond.code yX3_distance cX3_distance 4 (some .int), Cond.methodLink RX3 45 Lib.Math.abs.name, Cond.static Lib.Math.abs.name, Cond.initialized "java/lang/Math", Cond.code Lib.Math.abs.name Lib.Math.abs.code 1 (some .int), Cond.methodLink RX3 51 Lib.Math.max.name, Cond.static Lib.Math.max.name, Cond.code Lib.Math.max.name Lib.Math.max.code 2 (some .int), Cond.methodLink RX1 125 yX3_isClear, Cond.instanceMethod yX3_isClear, Cond.selects RX3 yX3_isClear yX3_isClear, Cond.code yX3_isClear cX3_isClear 11 (some .boolean), Cond.methodLink RX3 38 yX3_distance, Cond.methodLink RX3 35 yX3_at, Cond.methodLink RX3 42 yX3_share, Cond.static yX3_share, Cond.code yX3_share cX3_share 3 (some .int)]
def wsL_sees : List Cond := .codeWith yL_sees cL_sees 5 (some .int) [(0, 17, 20, 19)] :: ((wsL_sees_r1 ++ (wsL_sees_r2 ++ wsL_sees_r3)) ++ wsX60 ++ wsX10 ++ wsX50 ++ wsX30 ++ (vx_atM "java/lang/ArrayIndexOutOfBoundsException" ["java/lang/IndexOutOfBoundsException", "java/lang/RuntimeException", "java/lang/Exception"]).filter goodWord ++ (vx_atS RX6 175 "java/lang/IndexOutOfBoundsException" ["java/lang/RuntimeException", "java/lang/Exception"]).filter goodWord ++ (vx_atM "java/lang/ArithmeticException" ["java/lang/RuntimeException", "java/lang/Exception"]).filter goodWord)
def wsL_seen_r1 : List Cond := [Cond.classLink RL 19 "java/lang/IndexOutOfBoundsException", Cond.methodLink RL 47 yX6_seen, Cond.instanceMethod yX6_seen, Cond.selects RX6 yX6_seen yX6_seen, Cond.initialized RX6, Cond.code yX6_seen cX6_seen 4 (some .int), Cond.fieldLink RX6 10 "SeedBattle" "field" "LSeedBattle$Field;", Cond.methodLink RX6 84 yX6_requirePlayer, Cond.static yX6_requirePlayer, Cond.code yX6_requirePlayer cX6_requirePlayer 1 none, Cond.classLink RX6 171 "java/lang/IndexOutOfBoundsException", Cond.initialized "java/lang/IndexOutOfBoundsException", Cond.methodLink RX6 159 yX1_playerSpots, Cond.instanceMethod yX1_playerSpots, Cond.selects RX1 yX1_playerSpots yX1_playerSpots, Cond.initialized RX1, Cond.code yX1_playerSpots cX1_playerSpots 4 (some .boolean), Cond.fieldLink RX1 21 "SeedBattle$Field" "units" "LSeedBattle$Units;", Cond.methodLink RX1 77 yX5_owner, Cond.instanceMethod yX5_owner, Cond.selects RX5 yX5_owner yX5_owner, Cond.initialized RX5, Cond.code yX5_owner cX5_owner 2 (some .int), Cond.fieldLink RX5 24 "SeedBattle$Units" "count" "I"]
def wsL_seen_r2 : List Cond := [Cond.fieldLink RX5 9 "SeedBattle$Units" "owners" "[I", Cond.methodLink RX1 129 yX1_unitSpots, Cond.instanceMethod yX1_unitSpots, Cond.selects RX1 yX1_unitSpots yX1_unitSpots, Cond.code yX1_unitSpots cX1_unitSpots 5 (some .boolean), Cond.fieldLink RX1 12 "SeedBattle$Field" "land" "LSeedBattle$Land;", Cond.methodLink RX1 50 yX5_place, Cond.instanceMethod yX5_place, Cond.selects RX5 yX5_place yX5_place, Cond.code yX5_place cX5_place 2 (some .int), Cond.fieldLink RX5 21 "SeedBattle$Units" "places" "[I", Cond.methodLink RX1 115 yX5_sight, Cond.instanceMethod yX5_sight, Cond.selects RX5 yX5_sight yX5_sight, Cond.code yX5_sight cX5_sight 2 (some .int), Cond.fieldLink RX5 15 "SeedBattle$Units" "kinds" "[I", Cond.methodLink RX1 118 yX3_at, Cond.instanceMethod yX3_at, Cond.selects RX3 yX3_at yX3_at, Cond.initialized RX3, Cond.code yX3_at cX3_at 2 (some .char), Cond.fieldLink RX3 9 "SeedBattle$Land" "grounds" "[C", Cond.static yX6_isCell, Cond.code yX6_isCell cX6_isCell 1 (some .boolean)]
def wsL_seen_r3 : List Cond := [Cond.methodLink RX1 122 yX3_distance, Cond.static yX3_distance, Cond.code yX3_distance cX3_distance 4 (some .int), Cond.methodLink RX3 45 Lib.Math.abs.name, Cond.static Lib.Math.abs.name, Cond.initialized "java/lang/Math", Cond.code Lib.Math.abs.name Lib.Math.abs.code 1 (some .int), Cond.methodLink RX3 51 Lib.Math.max.name, Cond.static Lib.Math.max.name, Cond.code Lib.Math.max.name Lib.Math.max.code 2 (some .int), Cond.methodLink RX1 125 yX3_isClear, Cond.instanceMethod yX3_isClear, Cond.selects RX3 yX3_isClear yX3_isClear, Cond.code yX3_isClear cX3_isClear 11 (some .boolean), Cond.methodLink RX3 38 yX3_distance, Cond.methodLink RX3 35 yX3_at, Cond.methodLink RX3 42 yX3_share, Cond.static yX3_share, Cond.code yX3_share cX3_share 3 (some .int)]
def wsL_seen : List Cond := .codeWith yL_seen cL_seen 4 (some .int) [(0, 9, 12, 19)] :: ((wsL_seen_r1 ++ (wsL_seen_r2 ++ wsL_seen_r3)) ++ wsX60 ++ wsX10 ++ wsX50 ++ wsX30 ++ (vx_atM "java/lang/ArrayIndexOutOfBoundsException" ["java/lang/IndexOutOfBoundsException", "java/lang/RuntimeException", "java/lang/Exception"]).filter goodWord ++ (vx_atS RX6 175 "java/lang/IndexOutOfBoundsException" ["java/lang/RuntimeException", "java/lang/Exception"]).filter goodWord ++ (vx_atM "java/lang/ArithmeticException" ["java/lang/RuntimeException", "java/lang/Exception"]).filter goodWord)
def wsL_setTreaty_r1 : List Cond := [Cond.classLink RL 19 "java/lang/IndexOutOfBoundsException", Cond.classLink RL 25 "java/lang/IllegalArgumentException", Cond.methodLink RL 50 yX6_setTreaty, Cond.instanceMethod yX6_setTreaty, Cond.selects RX6 yX6_setTreaty yX6_setTreaty, Cond.initialized RX6, Cond.code yX6_setTreaty cX6_setTreaty 5 (some .boolean), Cond.classLink RX6 95 "java/lang/IllegalArgumentException", Cond.initialized "java/lang/IllegalArgumentException", Cond.fieldLink RX6 38 "SeedBattle" "treaties" "[I", Cond.fieldLink RX6 34 "SeedBattle" "copies" "[LSeedBattle$Copy;", Cond.methodLink RX6 84 yX6_requirePlayer, Cond.static yX6_requirePlayer, Cond.code yX6_requirePlayer cX6_requirePlayer 1 none, Cond.classLink RX6 171 "java/lang/IndexOutOfBoundsException", Cond.initialized "java/lang/IndexOutOfBoundsException", Cond.methodLink RX6 164 yX6_hasTreaty, Cond.instanceMethod yX6_hasTreaty, Cond.selects RX6 yX6_hasTreaty yX6_hasTreaty, Cond.code yX6_hasTreaty cX6_hasTreaty 3 (some .boolean), Cond.methodLink RX6 167 yX0_endTreaty, Cond.instanceMethod yX0_endTreaty, Cond.selects RX0 yX0_endTreaty yX0_endTreaty, Cond.initialized RX0]
def wsL_setTreaty_r2 : List Cond := [Cond.code yX0_endTreaty cX0_endTreaty 2 none, Cond.fieldLink RX0 46 "SeedBattle$Copy" "allyGone" "Z", Cond.methodLink RX0 80 yX0_isAlly, Cond.instanceMethod yX0_isAlly, Cond.selects RX0 yX0_isAlly yX0_isAlly, Cond.code yX0_isAlly cX0_isAlly 2 (some .boolean), Cond.fieldLink RX0 43 "SeedBattle$Copy" "allyBits" "I"]
def wsL_setTreaty : List Cond := .codeWith yL_setTreaty cL_setTreaty 6 (some .int) [(0, 19, 22, 19), (0, 19, 26, 25)] :: ((wsL_setTreaty_r1 ++ wsL_setTreaty_r2) ++ wsX60 ++ wsX00 ++ (vx_atM "java/lang/ArrayIndexOutOfBoundsException" ["java/lang/IndexOutOfBoundsException", "java/lang/RuntimeException", "java/lang/Exception"]).filter goodWord ++ (vx_atS RX6 99 "java/lang/IllegalArgumentException" ["java/lang/RuntimeException", "java/lang/Exception"]).filter goodWord ++ (vx_atS RX6 175 "java/lang/IndexOutOfBoundsException" ["java/lang/RuntimeException", "java/lang/Exception"]).filter goodWord)
def wsL_sightings : List Cond := .codeWith yL_sightings cL_sightings 4 (some .int) [(0, 9, 12, 19)] :: ([.classLink RL 19 "java/lang/IndexOutOfBoundsException", .methodLink RL 54 yX6_sightings, .instanceMethod yX6_sightings, .selects RX6 yX6_sightings yX6_sightings, .initialized RX6, .code yX6_sightings cX6_sightings 2 (some .int), .fieldLink RX6 28 "SeedBattle" "indexes" "[LSeedBattle$Index;", .methodLink RX6 84 yX6_requirePlayer, .static yX6_requirePlayer, .code yX6_requirePlayer cX6_requirePlayer 1 none, .classLink RX6 171 "java/lang/IndexOutOfBoundsException", .initialized "java/lang/IndexOutOfBoundsException"] ++ wsX60 ++ wsX20 ++ (vx_atM "java/lang/ArrayIndexOutOfBoundsException" ["java/lang/IndexOutOfBoundsException", "java/lang/RuntimeException", "java/lang/Exception"]).filter goodWord ++ (vx_atS RX6 175 "java/lang/IndexOutOfBoundsException" ["java/lang/RuntimeException", "java/lang/Exception"]).filter goodWord)
def wsL_sighting_r1 : List Cond := [Cond.classLink RL 19 "java/lang/IndexOutOfBoundsException", Cond.classLink RL 25 "java/lang/IllegalArgumentException", Cond.methodLink RL 57 yX6_sighting, Cond.instanceMethod yX6_sighting, Cond.selects RX6 yX6_sighting yX6_sighting, Cond.initialized RX6, Cond.code yX6_sighting cX6_sighting 5 (some .int), Cond.classLink RX6 171 "java/lang/IndexOutOfBoundsException", Cond.initialized "java/lang/IndexOutOfBoundsException", Cond.classLink RX6 95 "java/lang/IllegalArgumentException", Cond.initialized "java/lang/IllegalArgumentException", Cond.fieldLink RX6 28 "SeedBattle" "indexes" "[LSeedBattle$Index;", Cond.methodLink RX6 84 yX6_requirePlayer, Cond.static yX6_requirePlayer, Cond.code yX6_requirePlayer cX6_requirePlayer 1 none, Cond.methodLink RX6 176 yX2_at, Cond.instanceMethod yX2_at, Cond.selects RX2 yX2_at yX2_at, Cond.initialized RX2, Cond.code yX2_at cX2_at 2 (some .int), Cond.fieldLink RX2 15 "SeedBattle$Index" "count" "I", Cond.fieldLink RX2 9 "SeedBattle$Index" "numbers" "[I", Cond.methodLink RX6 178 yX6_turnOf, Cond.static yX6_turnOf]
def wsL_sighting_r2 : List Cond := [Cond.code yX6_turnOf cX6_turnOf 1 (some .int), Cond.constant RX6 297 (100000), Cond.methodLink RX6 181 yX6_placeOf, Cond.static yX6_placeOf, Cond.code yX6_placeOf cX6_placeOf 1 (some .int), Cond.methodLink RX6 184 yX6_unitOf, Cond.static yX6_unitOf, Cond.code yX6_unitOf cX6_unitOf 1 (some .int)]
def wsL_sighting : List Cond := .codeWith yL_sighting cL_sighting 6 (some .int) [(0, 12, 15, 19), (0, 12, 19, 25)] :: ((wsL_sighting_r1 ++ wsL_sighting_r2) ++ wsX60 ++ wsX20 ++ (vx_atM "java/lang/ArrayIndexOutOfBoundsException" ["java/lang/IndexOutOfBoundsException", "java/lang/RuntimeException", "java/lang/Exception"]).filter goodWord ++ (vx_atS RX6 175 "java/lang/IndexOutOfBoundsException" ["java/lang/RuntimeException", "java/lang/Exception"]).filter goodWord ++ (vx_atS RX6 99 "java/lang/IllegalArgumentException" ["java/lang/RuntimeException", "java/lang/Exception"]).filter goodWord)
def wsL_age_r1 : List Cond := [Cond.classLink RL 19 "java/lang/IndexOutOfBoundsException", Cond.classLink RL 64 "java/util/NoSuchElementException", Cond.methodLink RL 61 yX6_age, Cond.instanceMethod yX6_age, Cond.selects RX6 yX6_age yX6_age, Cond.initialized RX6, Cond.code yX6_age cX6_age 4 (some .int), Cond.classLink RX6 192 "java/util/NoSuchElementException", Cond.initialized "java/util/NoSuchElementException", Cond.fieldLink RX6 28 "SeedBattle" "indexes" "[LSeedBattle$Index;", Cond.fieldLink RX6 108 "SeedBattle" "turnsDone" "I", Cond.methodLink RX6 84 yX6_requirePlayer, Cond.static yX6_requirePlayer, Cond.code yX6_requirePlayer cX6_requirePlayer 1 none, Cond.classLink RX6 171 "java/lang/IndexOutOfBoundsException", Cond.initialized "java/lang/IndexOutOfBoundsException", Cond.methodLink RX6 77 yX6_requireCell, Cond.static yX6_requireCell, Cond.code yX6_requireCell cX6_requireCell 1 none, Cond.methodLink RX6 285 yX6_isCell, Cond.static yX6_isCell, Cond.code yX6_isCell cX6_isCell 1 (some .boolean), Cond.methodLink RX6 189 yX2_latestOnCell, Cond.instanceMethod yX2_latestOnCell]
def wsL_age_r2 : List Cond := [Cond.selects RX2 yX2_latestOnCell yX2_latestOnCell, Cond.initialized RX2, Cond.code yX2_latestOnCell cX2_latestOnCell 3 (some .int), Cond.fieldLink RX2 15 "SeedBattle$Index" "count" "I", Cond.fieldLink RX2 9 "SeedBattle$Index" "numbers" "[I", Cond.static yX6_placeOf, Cond.code yX6_placeOf cX6_placeOf 1 (some .int), Cond.constant RX6 297 (100000), Cond.methodLink RX6 178 yX6_turnOf, Cond.static yX6_turnOf, Cond.code yX6_turnOf cX6_turnOf 1 (some .int)]
def wsL_age : List Cond := .codeWith yL_age cL_age 5 (some .int) [(0, 10, 13, 19), (0, 10, 17, 64)] :: ((wsL_age_r1 ++ wsL_age_r2) ++ wsX60 ++ wsX20 ++ (vx_atM "java/lang/ArrayIndexOutOfBoundsException" ["java/lang/IndexOutOfBoundsException", "java/lang/RuntimeException", "java/lang/Exception"]).filter goodWord ++ (vx_atS RX6 196 "java/util/NoSuchElementException" ["java/lang/RuntimeException", "java/lang/Exception"]).filter goodWord ++ (vx_atS RX6 175 "java/lang/IndexOutOfBoundsException" ["java/lang/RuntimeException", "java/lang/Exception"]).filter goodWord)
def wsL_lastSeen_r1 : List Cond := [Cond.classLink RL 19 "java/lang/IndexOutOfBoundsException", Cond.classLink RL 64 "java/util/NoSuchElementException", Cond.methodLink RL 66 yX6_lastSeen, Cond.instanceMethod yX6_lastSeen, Cond.selects RX6 yX6_lastSeen yX6_lastSeen, Cond.initialized RX6, Cond.code yX6_lastSeen cX6_lastSeen 4 (some .int), Cond.classLink RX6 192 "java/util/NoSuchElementException", Cond.initialized "java/util/NoSuchElementException", Cond.fieldLink RX6 28 "SeedBattle" "indexes" "[LSeedBattle$Index;", Cond.methodLink RX6 84 yX6_requirePlayer, Cond.static yX6_requirePlayer, Cond.code yX6_requirePlayer cX6_requirePlayer 1 none, Cond.classLink RX6 171 "java/lang/IndexOutOfBoundsException", Cond.initialized "java/lang/IndexOutOfBoundsException", Cond.methodLink RX6 117 yX6_requireUnit, Cond.instanceMethod yX6_requireUnit, Cond.selects RX6 yX6_requireUnit yX6_requireUnit, Cond.code yX6_requireUnit cX6_requireUnit 2 none, Cond.fieldLink RX6 10 "SeedBattle" "field" "LSeedBattle$Field;", Cond.methodLink RX6 290 yX5_has, Cond.instanceMethod yX5_has, Cond.selects RX5 yX5_has yX5_has, Cond.initialized RX5]
def wsL_lastSeen_r2 : List Cond := [Cond.code yX5_has cX5_has 2 (some .boolean), Cond.fieldLink RX5 24 "SeedBattle$Units" "count" "I", Cond.methodLink RX6 197 yX2_latestOfUnit, Cond.instanceMethod yX2_latestOfUnit, Cond.selects RX2 yX2_latestOfUnit yX2_latestOfUnit, Cond.initialized RX2, Cond.code yX2_latestOfUnit cX2_latestOfUnit 3 (some .int), Cond.fieldLink RX2 15 "SeedBattle$Index" "count" "I", Cond.fieldLink RX2 9 "SeedBattle$Index" "numbers" "[I", Cond.static yX6_unitOf, Cond.code yX6_unitOf cX6_unitOf 1 (some .int), Cond.methodLink RX6 181 yX6_placeOf, Cond.static yX6_placeOf, Cond.code yX6_placeOf cX6_placeOf 1 (some .int), Cond.constant RX6 297 (100000)]
def wsL_lastSeen : List Cond := .codeWith yL_lastSeen cL_lastSeen 5 (some .int) [(0, 10, 13, 19), (0, 10, 17, 64)] :: ((wsL_lastSeen_r1 ++ wsL_lastSeen_r2) ++ wsX60 ++ wsX10 ++ wsX50 ++ wsX20 ++ (vx_atM "java/lang/ArrayIndexOutOfBoundsException" ["java/lang/IndexOutOfBoundsException", "java/lang/RuntimeException", "java/lang/Exception"]).filter goodWord ++ (vx_atS RX6 196 "java/util/NoSuchElementException" ["java/lang/RuntimeException", "java/lang/Exception"]).filter goodWord ++ (vx_atS RX6 175 "java/lang/IndexOutOfBoundsException" ["java/lang/RuntimeException", "java/lang/Exception"]).filter goodWord)
def wsL_blocks_r1 : List Cond := [Cond.classLink RL 19 "java/lang/IndexOutOfBoundsException", Cond.classLink RL 64 "java/util/NoSuchElementException", Cond.methodLink RL 69 yX6_blocks, Cond.instanceMethod yX6_blocks, Cond.selects RX6 yX6_blocks yX6_blocks, Cond.initialized RX6, Cond.code yX6_blocks cX6_blocks 2 (some .int), Cond.fieldLink RX6 34 "SeedBattle" "copies" "[LSeedBattle$Copy;", Cond.methodLink RX6 84 yX6_requirePlayer, Cond.static yX6_requirePlayer, Cond.code yX6_requirePlayer cX6_requirePlayer 1 none, Cond.classLink RX6 171 "java/lang/IndexOutOfBoundsException", Cond.initialized "java/lang/IndexOutOfBoundsException", Cond.methodLink RX6 217 yX6_requireSave, Cond.instanceMethod yX6_requireSave, Cond.selects RX6 yX6_requireSave yX6_requireSave, Cond.code yX6_requireSave cX6_requireSave 1 none, Cond.classLink RX6 192 "java/util/NoSuchElementException", Cond.initialized "java/util/NoSuchElementException", Cond.fieldLink RX6 213 "SeedBattle" "saved" "Z", Cond.methodLink RX6 220 yX0_blockCount, Cond.instanceMethod yX0_blockCount, Cond.selects RX0 yX0_blockCount yX0_blockCount, Cond.initialized RX0]
def wsL_blocks_r2 : List Cond := [Cond.code yX0_blockCount cX0_blockCount 1 (some .int), Cond.fieldLink RX0 33 "SeedBattle$Copy" "size" "I"]
def wsL_blocks : List Cond := .codeWith yL_blocks cL_blocks 4 (some .int) [(0, 9, 12, 19), (0, 9, 15, 64)] :: ((wsL_blocks_r1 ++ wsL_blocks_r2) ++ wsX60 ++ wsX00 ++ (vx_atM "java/lang/ArrayIndexOutOfBoundsException" ["java/lang/IndexOutOfBoundsException", "java/lang/RuntimeException", "java/lang/Exception"]).filter goodWord ++ (vx_atS RX6 175 "java/lang/IndexOutOfBoundsException" ["java/lang/RuntimeException", "java/lang/Exception"]).filter goodWord ++ (vx_atS RX6 196 "java/util/NoSuchElementException" ["java/lang/RuntimeException", "java/lang/Exception"]).filter goodWord)
def wsL_breakBlock_r1 : List Cond := [Cond.classLink RL 19 "java/lang/IndexOutOfBoundsException", Cond.classLink RL 64 "java/util/NoSuchElementException", Cond.methodLink RL 72 yX6_breakBlock, Cond.instanceMethod yX6_breakBlock, Cond.selects RX6 yX6_breakBlock yX6_breakBlock, Cond.initialized RX6, Cond.code yX6_breakBlock cX6_breakBlock 4 (some .boolean), Cond.classLink RX6 192 "java/util/NoSuchElementException", Cond.initialized "java/util/NoSuchElementException", Cond.fieldLink RX6 34 "SeedBattle" "copies" "[LSeedBattle$Copy;", Cond.methodLink RX6 84 yX6_requirePlayer, Cond.static yX6_requirePlayer, Cond.code yX6_requirePlayer cX6_requirePlayer 1 none, Cond.classLink RX6 171 "java/lang/IndexOutOfBoundsException", Cond.initialized "java/lang/IndexOutOfBoundsException", Cond.methodLink RX6 217 yX6_requireSave, Cond.instanceMethod yX6_requireSave, Cond.selects RX6 yX6_requireSave yX6_requireSave, Cond.code yX6_requireSave cX6_requireSave 1 none, Cond.fieldLink RX6 213 "SeedBattle" "saved" "Z", Cond.methodLink RX6 220 yX0_blockCount, Cond.instanceMethod yX0_blockCount, Cond.selects RX0 yX0_blockCount yX0_blockCount, Cond.initialized RX0]
def wsL_breakBlock_r2 : List Cond := [Cond.code yX0_blockCount cX0_blockCount 1 (some .int), Cond.fieldLink RX0 33 "SeedBattle$Copy" "size" "I", Cond.methodLink RX6 226 yX0_isBroken, Cond.instanceMethod yX0_isBroken, Cond.selects RX0 yX0_isBroken yX0_isBroken, Cond.code yX0_isBroken cX0_isBroken 2 (some .boolean), Cond.fieldLink RX0 40 "SeedBattle$Copy" "brokenBits" "I", Cond.methodLink RX0 73 yX0_blockCount, Cond.methodLink RX6 229 yX0_breakOne, Cond.instanceMethod yX0_breakOne, Cond.selects RX0 yX0_breakOne yX0_breakOne, Cond.code yX0_breakOne cX0_breakOne 3 none, Cond.fieldLink RX0 9 "SeedBattle$Copy" "numbers" "[I", Cond.methodLink RX0 77 yX0_blockEnd, Cond.instanceMethod yX0_blockEnd, Cond.selects RX0 yX0_blockEnd yX0_blockEnd, Cond.code yX0_blockEnd cX0_blockEnd 2 (some .int), Cond.methodLink RX0 27 Lib.Math.min.name, Cond.static Lib.Math.min.name, Cond.initialized "java/lang/Math", Cond.code Lib.Math.min.name Lib.Math.min.code 2 (some .int)]
def wsL_breakBlock : List Cond := .codeWith yL_breakBlock cL_breakBlock 5 (some .int) [(0, 17, 20, 19), (0, 17, 24, 64)] :: ((wsL_breakBlock_r1 ++ wsL_breakBlock_r2) ++ wsX60 ++ wsX00 ++ (vx_atM "java/lang/ArrayIndexOutOfBoundsException" ["java/lang/IndexOutOfBoundsException", "java/lang/RuntimeException", "java/lang/Exception"]).filter goodWord ++ (vx_atS RX6 196 "java/util/NoSuchElementException" ["java/lang/RuntimeException", "java/lang/Exception"]).filter goodWord ++ (vx_atS RX6 175 "java/lang/IndexOutOfBoundsException" ["java/lang/RuntimeException", "java/lang/Exception"]).filter goodWord)
def wsL_savedAt_r1 : List Cond := [Cond.classLink RL 19 "java/lang/IndexOutOfBoundsException", Cond.classLink RL 64 "java/util/NoSuchElementException", Cond.classLink RL 27 "java/lang/UnsupportedOperationException", Cond.methodLink RL 75 yX6_savedAt, Cond.instanceMethod yX6_savedAt, Cond.selects RX6 yX6_savedAt yX6_savedAt, Cond.initialized RX6, Cond.code yX6_savedAt cX6_savedAt 3 (some .int), Cond.classLink RX6 192 "java/util/NoSuchElementException", Cond.initialized "java/util/NoSuchElementException", Cond.classLink RX6 103 "java/lang/UnsupportedOperationException", Cond.initialized "java/lang/UnsupportedOperationException", Cond.fieldLink RX6 34 "SeedBattle" "copies" "[LSeedBattle$Copy;", Cond.methodLink RX6 84 yX6_requirePlayer, Cond.static yX6_requirePlayer, Cond.code yX6_requirePlayer cX6_requirePlayer 1 none, Cond.classLink RX6 171 "java/lang/IndexOutOfBoundsException", Cond.initialized "java/lang/IndexOutOfBoundsException", Cond.methodLink RX6 217 yX6_requireSave, Cond.instanceMethod yX6_requireSave, Cond.selects RX6 yX6_requireSave yX6_requireSave, Cond.code yX6_requireSave cX6_requireSave 1 none, Cond.fieldLink RX6 213 "SeedBattle" "saved" "Z", Cond.methodLink RX6 226 yX0_isBroken]
def wsL_savedAt_r2 : List Cond := [Cond.instanceMethod yX0_isBroken, Cond.selects RX0 yX0_isBroken yX0_isBroken, Cond.initialized RX0, Cond.code yX0_isBroken cX0_isBroken 2 (some .boolean), Cond.fieldLink RX0 40 "SeedBattle$Copy" "brokenBits" "I", Cond.methodLink RX0 73 yX0_blockCount, Cond.instanceMethod yX0_blockCount, Cond.selects RX0 yX0_blockCount yX0_blockCount, Cond.code yX0_blockCount cX0_blockCount 1 (some .int), Cond.fieldLink RX0 33 "SeedBattle$Copy" "size" "I", Cond.methodLink RX6 236 yX0_numberAt, Cond.instanceMethod yX0_numberAt, Cond.selects RX0 yX0_numberAt yX0_numberAt, Cond.code yX0_numberAt cX0_numberAt 2 (some .int), Cond.fieldLink RX0 9 "SeedBattle$Copy" "numbers" "[I"]
def wsL_savedAt : List Cond := .codeWith yL_savedAt cL_savedAt 5 (some .int) [(0, 10, 13, 19), (0, 10, 17, 64), (0, 10, 21, 27)] :: ((wsL_savedAt_r1 ++ wsL_savedAt_r2) ++ wsX60 ++ wsX00 ++ (vx_atM "java/lang/ArrayIndexOutOfBoundsException" ["java/lang/IndexOutOfBoundsException", "java/lang/RuntimeException", "java/lang/Exception"]).filter goodWord ++ (vx_atS RX6 196 "java/util/NoSuchElementException" ["java/lang/RuntimeException", "java/lang/Exception"]).filter goodWord ++ (vx_atS RX6 107 "java/lang/UnsupportedOperationException" ["java/lang/RuntimeException", "java/lang/Exception"]).filter goodWord ++ (vx_atS RX6 175 "java/lang/IndexOutOfBoundsException" ["java/lang/RuntimeException", "java/lang/Exception"]).filter goodWord)
def wsL_repair_r1 : List Cond := [Cond.classLink RL 19 "java/lang/IndexOutOfBoundsException", Cond.classLink RL 64 "java/util/NoSuchElementException", Cond.methodLink RL 78 yX6_repair, Cond.instanceMethod yX6_repair, Cond.selects RX6 yX6_repair yX6_repair, Cond.initialized RX6, Cond.code yX6_repair cX6_repair 4 (some .int), Cond.fieldLink RX6 34 "SeedBattle" "copies" "[LSeedBattle$Copy;", Cond.methodLink RX6 84 yX6_requirePlayer, Cond.static yX6_requirePlayer, Cond.code yX6_requirePlayer cX6_requirePlayer 1 none, Cond.classLink RX6 171 "java/lang/IndexOutOfBoundsException", Cond.initialized "java/lang/IndexOutOfBoundsException", Cond.methodLink RX6 217 yX6_requireSave, Cond.instanceMethod yX6_requireSave, Cond.selects RX6 yX6_requireSave yX6_requireSave, Cond.code yX6_requireSave cX6_requireSave 1 none, Cond.classLink RX6 192 "java/util/NoSuchElementException", Cond.initialized "java/util/NoSuchElementException", Cond.fieldLink RX6 213 "SeedBattle" "saved" "Z", Cond.methodLink RX6 220 yX0_blockCount, Cond.instanceMethod yX0_blockCount, Cond.selects RX0 yX0_blockCount yX0_blockCount, Cond.initialized RX0]
def wsL_repair_r2 : List Cond := [Cond.code yX0_blockCount cX0_blockCount 1 (some .int), Cond.fieldLink RX0 33 "SeedBattle$Copy" "size" "I", Cond.methodLink RX6 226 yX0_isBroken, Cond.instanceMethod yX0_isBroken, Cond.selects RX0 yX0_isBroken yX0_isBroken, Cond.code yX0_isBroken cX0_isBroken 2 (some .boolean), Cond.fieldLink RX0 40 "SeedBattle$Copy" "brokenBits" "I", Cond.methodLink RX0 73 yX0_blockCount, Cond.methodLink RX6 239 yX0_canRebuild, Cond.instanceMethod yX0_canRebuild, Cond.selects RX0 yX0_canRebuild yX0_canRebuild, Cond.code yX0_canRebuild cX0_canRebuild 4 (some .boolean), Cond.fieldLink RX0 43 "SeedBattle$Copy" "allyBits" "I", Cond.fieldLink RX0 46 "SeedBattle$Copy" "allyGone" "Z", Cond.methodLink RX0 80 yX0_isAlly, Cond.instanceMethod yX0_isAlly, Cond.selects RX0 yX0_isAlly yX0_isAlly, Cond.code yX0_isAlly cX0_isAlly 2 (some .boolean), Cond.methodLink RX0 84 yX0_isBroken, Cond.methodLink RX6 243 yX0_rebuild, Cond.instanceMethod yX0_rebuild, Cond.selects RX0 yX0_rebuild yX0_rebuild, Cond.code yX0_rebuild cX0_rebuild 4 none, Cond.fieldLink RX0 9 "SeedBattle$Copy" "numbers" "[I"]
def wsL_repair_r3 : List Cond := [Cond.fieldLink RX0 15 "SeedBattle$Copy" "parity" "[I", Cond.methodLink RX0 77 yX0_blockEnd, Cond.instanceMethod yX0_blockEnd, Cond.selects RX0 yX0_blockEnd yX0_blockEnd, Cond.code yX0_blockEnd cX0_blockEnd 2 (some .int), Cond.methodLink RX0 27 Lib.Math.min.name, Cond.static Lib.Math.min.name, Cond.initialized "java/lang/Math", Cond.code Lib.Math.min.name Lib.Math.min.code 2 (some .int), Cond.methodLink RX0 53 yX0_alliesAt, Cond.instanceMethod yX0_alliesAt, Cond.selects RX0 yX0_alliesAt yX0_alliesAt, Cond.code yX0_alliesAt cX0_alliesAt 5 (some .int), Cond.methodLink RX0 50 yX0_numberAt, Cond.instanceMethod yX0_numberAt, Cond.selects RX0 yX0_numberAt yX0_numberAt, Cond.code yX0_numberAt cX0_numberAt 2 (some .int)]
def wsL_repair : List Cond := .codeWith yL_repair cL_repair 4 (some .int) [(0, 9, 12, 19), (0, 9, 15, 64)] :: ((wsL_repair_r1 ++ (wsL_repair_r2 ++ wsL_repair_r3)) ++ wsX60 ++ wsX00 ++ (vx_atM "java/lang/ArrayIndexOutOfBoundsException" ["java/lang/IndexOutOfBoundsException", "java/lang/RuntimeException", "java/lang/Exception"]).filter goodWord ++ (vx_atS RX6 175 "java/lang/IndexOutOfBoundsException" ["java/lang/RuntimeException", "java/lang/Exception"]).filter goodWord ++ (vx_atS RX6 196 "java/util/NoSuchElementException" ["java/lang/RuntimeException", "java/lang/Exception"]).filter goodWord)
def wsL_load_r1 : List Cond := [Cond.classLink RL 19 "java/lang/IndexOutOfBoundsException", Cond.classLink RL 64 "java/util/NoSuchElementException", Cond.classLink RL 27 "java/lang/UnsupportedOperationException", Cond.methodLink RL 81 yX6_load, Cond.instanceMethod yX6_load, Cond.selects RX6 yX6_load yX6_load, Cond.initialized RX6, Cond.code yX6_load cX6_load 2 (some .int), Cond.classLink RX6 103 "java/lang/UnsupportedOperationException", Cond.initialized "java/lang/UnsupportedOperationException", Cond.fieldLink RX6 34 "SeedBattle" "copies" "[LSeedBattle$Copy;", Cond.fieldLink RX6 28 "SeedBattle" "indexes" "[LSeedBattle$Index;", Cond.methodLink RX6 84 yX6_requirePlayer, Cond.static yX6_requirePlayer, Cond.code yX6_requirePlayer cX6_requirePlayer 1 none, Cond.classLink RX6 171 "java/lang/IndexOutOfBoundsException", Cond.initialized "java/lang/IndexOutOfBoundsException", Cond.methodLink RX6 217 yX6_requireSave, Cond.instanceMethod yX6_requireSave, Cond.selects RX6 yX6_requireSave yX6_requireSave, Cond.code yX6_requireSave cX6_requireSave 1 none, Cond.classLink RX6 192 "java/util/NoSuchElementException", Cond.initialized "java/util/NoSuchElementException", Cond.fieldLink RX6 213 "SeedBattle" "saved" "Z"]
def wsL_load_r2 : List Cond := [Cond.methodLink RX6 247 yX0_anyBroken, Cond.instanceMethod yX0_anyBroken, Cond.selects RX0 yX0_anyBroken yX0_anyBroken, Cond.initialized RX0, Cond.code yX0_anyBroken cX0_anyBroken 1 (some .boolean), Cond.fieldLink RX0 40 "SeedBattle$Copy" "brokenBits" "I", Cond.methodLink RX6 253 yX0_writeTo, Cond.instanceMethod yX0_writeTo, Cond.selects RX0 yX0_writeTo yX0_writeTo, Cond.code yX0_writeTo cX0_writeTo 3 none, Cond.fieldLink RX0 33 "SeedBattle$Copy" "size" "I", Cond.fieldLink RX0 9 "SeedBattle$Copy" "numbers" "[I", Cond.methodLink RX0 57 yX2_clear, Cond.instanceMethod yX2_clear, Cond.selects RX2 yX2_clear yX2_clear, Cond.initialized RX2, Cond.code yX2_clear cX2_clear 1 none, Cond.fieldLink RX2 15 "SeedBattle$Index" "count" "I", Cond.static yX6_turnOf, Cond.code yX6_turnOf cX6_turnOf 1 (some .int), Cond.constant RX6 297 (100000), Cond.static yX6_placeOf, Cond.code yX6_placeOf cX6_placeOf 1 (some .int), Cond.static yX6_unitOf]
def wsL_load_r3 : List Cond := [Cond.code yX6_unitOf cX6_unitOf 1 (some .int), Cond.methodLink RX0 69 yX2_add, Cond.instanceMethod yX2_add, Cond.selects RX2 yX2_add yX2_add, Cond.code yX2_add cX2_add 5 none, Cond.fieldLink RX2 9 "SeedBattle$Index" "numbers" "[I", Cond.methodLink RX2 19 yX2_isBehind, Cond.static yX2_isBehind, Cond.code yX2_isBehind cX2_isBehind 3 (some .boolean), Cond.static yX6_numberFor, Cond.code yX6_numberFor cX6_numberFor 3 (some .int), Cond.methodLink RX2 27 yX2_dropFirst, Cond.instanceMethod yX2_dropFirst, Cond.selects RX2 yX2_dropFirst yX2_dropFirst, Cond.code yX2_dropFirst cX2_dropFirst 2 none]
def wsL_load : List Cond := .codeWith yL_load cL_load 4 (some .int) [(0, 9, 12, 19), (0, 9, 15, 64), (0, 9, 18, 27)] :: ((wsL_load_r1 ++ (wsL_load_r2 ++ wsL_load_r3)) ++ wsX60 ++ wsX20 ++ wsX00 ++ (vx_atM "java/lang/ArrayIndexOutOfBoundsException" ["java/lang/IndexOutOfBoundsException", "java/lang/RuntimeException", "java/lang/Exception"]).filter goodWord ++ (vx_atS RX6 107 "java/lang/UnsupportedOperationException" ["java/lang/RuntimeException", "java/lang/Exception"]).filter goodWord ++ (vx_atS RX6 175 "java/lang/IndexOutOfBoundsException" ["java/lang/RuntimeException", "java/lang/Exception"]).filter goodWord ++ (vx_atS RX6 196 "java/util/NoSuchElementException" ["java/lang/RuntimeException", "java/lang/Exception"]).filter goodWord)
def wsL_allies_r1 : List Cond := [Cond.classLink RL 19 "java/lang/IndexOutOfBoundsException", Cond.classLink RL 64 "java/util/NoSuchElementException", Cond.methodLink RL 84 yX6_allies, Cond.instanceMethod yX6_allies, Cond.selects RX6 yX6_allies yX6_allies, Cond.initialized RX6, Cond.code yX6_allies cX6_allies 2 (some .int), Cond.fieldLink RX6 34 "SeedBattle" "copies" "[LSeedBattle$Copy;", Cond.methodLink RX6 84 yX6_requirePlayer, Cond.static yX6_requirePlayer, Cond.code yX6_requirePlayer cX6_requirePlayer 1 none, Cond.classLink RX6 171 "java/lang/IndexOutOfBoundsException", Cond.initialized "java/lang/IndexOutOfBoundsException", Cond.methodLink RX6 217 yX6_requireSave, Cond.instanceMethod yX6_requireSave, Cond.selects RX6 yX6_requireSave yX6_requireSave, Cond.code yX6_requireSave cX6_requireSave 1 none, Cond.classLink RX6 192 "java/util/NoSuchElementException", Cond.initialized "java/util/NoSuchElementException", Cond.fieldLink RX6 213 "SeedBattle" "saved" "Z", Cond.methodLink RX6 260 yJ6_bitCount_0f7a4, Cond.static yJ6_bitCount_0f7a4, Cond.initialized RJ6, Cond.code yJ6_bitCount_0f7a4 cJ6_bitCount_0f7a4 1 (some .int)]
def wsL_allies_r2 : List Cond := [Cond.constant RJ6 265 (1431655765), Cond.constant RJ6 266 (858993459), Cond.constant RJ6 267 (252645135)]
def wsL_allies : List Cond := .codeWith yL_allies cL_allies 4 (some .int) [(0, 9, 12, 19), (0, 9, 15, 64)] :: ((wsL_allies_r1 ++ wsL_allies_r2) ++ wsX60 ++ wsX00 ++ (vx_atM "java/lang/ArrayIndexOutOfBoundsException" ["java/lang/IndexOutOfBoundsException", "java/lang/RuntimeException", "java/lang/Exception"]).filter goodWord ++ (vx_atS RX6 175 "java/lang/IndexOutOfBoundsException" ["java/lang/RuntimeException", "java/lang/Exception"]).filter goodWord ++ (vx_atS RX6 196 "java/util/NoSuchElementException" ["java/lang/RuntimeException", "java/lang/Exception"]).filter goodWord)
def wsL_livingShare : List Cond := .codeWith yL_livingShare cL_livingShare 3 (some .int) [(0, 8, 11, 91)] :: ([.classLink RL 91 "java/lang/ArithmeticException", .methodLink RL 87 yX6_livingShare, .instanceMethod yX6_livingShare, .selects RX6 yX6_livingShare yX6_livingShare, .initialized RX6, .code yX6_livingShare cX6_livingShare 4 (some .float), .classLink RX6 267 "java/lang/ArithmeticException", .initialized "java/lang/ArithmeticException", .fieldLink RX6 10 "SeedBattle" "field" "LSeedBattle$Field;", .methodLink RX6 122 yX5_lives, .instanceMethod yX5_lives, .selects RX5 yX5_lives yX5_lives, .initialized RX5, .code yX5_lives cX5_lives 2 (some .boolean), .methodLink RX5 32 yX5_place, .instanceMethod yX5_place, .selects RX5 yX5_place yX5_place, .code yX5_place cX5_place 2 (some .int), .fieldLink RX5 24 "SeedBattle$Units" "count" "I", .fieldLink RX5 21 "SeedBattle$Units" "places" "[I"] ++ wsX60 ++ wsX10 ++ wsX50 ++ (vx_atM "java/lang/ArrayIndexOutOfBoundsException" ["java/lang/IndexOutOfBoundsException", "java/lang/RuntimeException", "java/lang/Exception"]).filter goodWord ++ (vx_atS RX6 271 "java/lang/ArithmeticException" ["java/lang/RuntimeException", "java/lang/Exception"]).filter goodWord)
def wsL_meanAge : List Cond := .codeWith yL_meanAge cL_meanAge 3 (some .int) [(0, 7, 10, 91)] :: ([.classLink RL 91 "java/lang/ArithmeticException", .methodLink RL 93 yX6_meanAge, .instanceMethod yX6_meanAge, .selects RX6 yX6_meanAge yX6_meanAge, .initialized RX6, .code yX6_meanAge cX6_meanAge 7 (some .double), .classLink RX6 267 "java/lang/ArithmeticException", .initialized "java/lang/ArithmeticException", .fieldLink RX6 28 "SeedBattle" "indexes" "[LSeedBattle$Index;", .fieldLink RX6 108 "SeedBattle" "turnsDone" "I", .methodLink RX6 176 yX2_at, .instanceMethod yX2_at, .selects RX2 yX2_at yX2_at, .initialized RX2, .code yX2_at cX2_at 2 (some .int), .fieldLink RX2 15 "SeedBattle$Index" "count" "I", .fieldLink RX2 9 "SeedBattle$Index" "numbers" "[I", .methodLink RX6 178 yX6_turnOf, .static yX6_turnOf, .code yX6_turnOf cX6_turnOf 1 (some .int), .constant RX6 297 (100000)] ++ wsX60 ++ wsX20 ++ (vx_atM "java/lang/ArrayIndexOutOfBoundsException" ["java/lang/IndexOutOfBoundsException", "java/lang/RuntimeException", "java/lang/Exception"]).filter goodWord ++ (vx_atS RX6 271 "java/lang/ArithmeticException" ["java/lang/RuntimeException", "java/lang/Exception"]).filter goodWord)
def wsL_law0_r1 : List Cond := [Cond.classLink RL 8 RX6, Cond.instantiable RX6 10, Cond.initialized RX6, Cond.classLink RL 98 RX7, Cond.instantiable RX7 20, Cond.initialized RX7, Cond.arrayClass .long, Cond.arrayClass .double, Cond.methodLink RL 97 yX6_init, Cond.instanceMethod yX6_init, Cond.code yX6_init cX6_init 2 none, Cond.methodLink RX6 1 objectInit, Cond.instanceMethod objectInit, Cond.code objectInit ⟨#[0xb1]⟩ 1 none, Cond.classLink RX6 7 RX1, Cond.instantiable RX1 4, Cond.initialized RX1, Cond.fieldLink RX6 10 "SeedBattle" "field" "LSeedBattle$Field;", Cond.fieldLink RX6 16 "SeedBattle" "rehearsal" "LSeedBattle$Field;", Cond.classLink RX6 19 RX4, Cond.instantiable RX4 2, Cond.initialized RX4, Cond.fieldLink RX6 22 "SeedBattle" "orders" "LSeedBattle$Orders;", Cond.classLink RX6 26 RX2]
def wsL_law0_r2 : List Cond := [Cond.fieldLink RX6 28 "SeedBattle" "indexes" "[LSeedBattle$Index;", Cond.classLink RX6 32 RX0, Cond.fieldLink RX6 34 "SeedBattle" "copies" "[LSeedBattle$Copy;", Cond.arrayClass .int, Cond.fieldLink RX6 38 "SeedBattle" "treaties" "[I", Cond.fieldLink RX6 42 "SeedBattle" "ownSights" "[I", Cond.instantiable RX2 2, Cond.initialized RX2, Cond.instantiable RX0 7, Cond.initialized RX0, Cond.instanceMethod yX1_init, Cond.code yX1_init cX1_init 1 none, Cond.methodLink RX1 3 objectInit, Cond.classLink RX1 9 RX3, Cond.instantiable RX3 1, Cond.initialized RX3, Cond.fieldLink RX1 12 "SeedBattle$Field" "land" "LSeedBattle$Land;", Cond.classLink RX1 18 RX5, Cond.instantiable RX5 5, Cond.initialized RX5, Cond.fieldLink RX1 21 "SeedBattle$Field" "units" "LSeedBattle$Units;", Cond.fieldLink RX1 25 "SeedBattle$Field" "wants" "[I", Cond.fieldLink RX1 29 "SeedBattle$Field" "powers" "[I", Cond.instanceMethod yX3_init]
def wsL_law0_r3 : List Cond := [Cond.code yX3_init cX3_init 1 none, Cond.methodLink RX3 3 objectInit, Cond.arrayClass .char, Cond.fieldLink RX3 9 "SeedBattle$Land" "grounds" "[C", Cond.instanceMethod yX5_init, Cond.code yX5_init cX5_init 1 none, Cond.methodLink RX5 3 objectInit, Cond.fieldLink RX5 9 "SeedBattle$Units" "owners" "[I", Cond.fieldLink RX5 15 "SeedBattle$Units" "kinds" "[I", Cond.fieldLink RX5 18 "SeedBattle$Units" "starts" "[I", Cond.fieldLink RX5 21 "SeedBattle$Units" "places" "[I", Cond.methodLink RX6 21 yX4_init, Cond.instanceMethod yX4_init, Cond.code yX4_init cX4_init 1 none, Cond.methodLink RX4 3 objectInit, Cond.fieldLink RX4 9 "SeedBattle$Orders" "directions" "[I", Cond.fieldLink RX4 15 "SeedBattle$Orders" "given" "[I", Cond.methodLink RX4 18 yJ7_fill_53178, Cond.static yJ7_fill_53178, Cond.initialized RJ7, Cond.code yJ7_fill_53178 cJ7_fill_53178 4 none, Cond.instanceMethod yX2_init, Cond.code yX2_init cX2_init 1 none, Cond.methodLink RX2 3 objectInit]
def wsL_law0_r4 : List Cond := [Cond.fieldLink RX2 9 "SeedBattle$Index" "numbers" "[I", Cond.instanceMethod yX0_init, Cond.code yX0_init cX0_init 1 none, Cond.methodLink RX0 3 objectInit, Cond.fieldLink RX0 9 "SeedBattle$Copy" "numbers" "[I", Cond.fieldLink RX0 15 "SeedBattle$Copy" "parity" "[I", Cond.fieldLink RX0 18 "SeedBattle$Copy" "original" "[I", Cond.methodLink RX6 51 yX3_grow, Cond.instanceMethod yX3_grow, Cond.selects RX3 yX3_grow yX3_grow, Cond.code yX3_grow cX3_grow 4 none, Cond.constant RX3 15 (1103515245), Cond.methodLink RX3 18 yJ0_charAt_5068e, Cond.instanceMethod yJ0_charAt_5068e, Cond.selects RJ0 yJ0_charAt_5068e yJ0_charAt_5068e, Cond.initialized RJ0, Cond.code yJ0_charAt_5068e cJ0_charAt_5068e 2 (some .char), Cond.fieldLink RJ0 9 "java/lang/String" "value" "[B", Cond.methodLink RJ0 492 yJ0_isLatin1_aae02, Cond.instanceMethod yJ0_isLatin1_aae02, Cond.selects RJ0 yJ0_isLatin1_aae02 yJ0_isLatin1_aae02, Cond.code yJ0_isLatin1_aae02 cJ0_isLatin1_aae02 1 (some .boolean), Cond.fieldLink RJ0 38 "java/lang/String" "COMPACT_STRINGS" "Z", Cond.fieldLink RJ0 15 "java/lang/String" "coder" "B"]
def wsL_law0_r5 : List Cond := [Cond.methodLink RJ0 495 yJ1_charAt_3b067, Cond.static yJ1_charAt_3b067, Cond.initialized RJ1, Cond.code yJ1_charAt_3b067 cJ1_charAt_3b067 2 (some .char), Cond.methodLink RJ1 9 yJ0_checkIndex_df160, Cond.static yJ0_checkIndex_df160, Cond.code yJ0_checkIndex_df160 cJ0_checkIndex_df160 2 none, Cond.fieldLink RJ0 1053 "jdk/internal/util/Preconditions" "SIOOBE_FORMATTER" "Ljava/util/function/BiFunction;", Cond.methodLink RJ0 1059 yJ3_checkIndex_8e157, Cond.static yJ3_checkIndex_8e157, Cond.initialized RJ3, Cond.code yJ3_checkIndex_8e157 cJ3_checkIndex_8e157 3 (some .int), Cond.methodLink RJ0 498 yJ2_charAt_3b067, Cond.static yJ2_charAt_3b067, Cond.initialized RJ2, Cond.code yJ2_charAt_3b067 cJ2_charAt_3b067 2 (some .char), Cond.methodLink RJ2 67 yJ2_checkIndex_2214a, Cond.static yJ2_checkIndex_2214a, Cond.code yJ2_checkIndex_2214a cJ2_checkIndex_2214a 2 none, Cond.methodLink RJ2 48 yJ2_length_9d52b, Cond.static yJ2_length_9d52b, Cond.code yJ2_length_9d52b cJ2_length_9d52b 1 (some .int), Cond.methodLink RJ2 414 yJ0_checkIndex_df160, Cond.methodLink RJ2 71 yJ2_getChar_3b067]
def wsL_law0_r6 : List Cond := [Cond.static yJ2_getChar_3b067, Cond.code yJ2_getChar_3b067 cJ2_getChar_3b067 2 (some .char), Cond.fieldLink RJ2 44 "java/lang/StringUTF16" "$assertionsDisabled" "Z", Cond.fieldLink RJ2 59 "java/lang/StringUTF16" "HI_BYTE_SHIFT" "I", Cond.fieldLink RJ2 63 "java/lang/StringUTF16" "LO_BYTE_SHIFT" "I", Cond.methodLink RL 100 yX7_init, Cond.instanceMethod yX7_init, Cond.code yX7_init cX7_init 1 none, Cond.methodLink RX7 1 objectInit, Cond.fieldLink RX7 7 "SeedBattleModel" "player" "[I", Cond.fieldLink RX7 13 "SeedBattleModel" "cell" "[I", Cond.fieldLink RX7 16 "SeedBattleModel" "wants" "[I", Cond.fieldLink RX7 19 "SeedBattleModel" "many" "[I", Cond.fieldLink RX7 22 "SeedBattleModel" "first" "[I", Cond.fieldLink RX7 25 "SeedBattleModel" "second" "[I", Cond.fieldLink RX7 28 "SeedBattleModel" "kind" "[C", Cond.arrayClass .boolean, Cond.fieldLink RX7 32 "SeedBattleModel" "treaty" "[Z", Cond.fieldLink RX7 36 "SeedBattleModel" "index" "[I", Cond.fieldLink RX7 39 "SeedBattleModel" "size" "[I", Cond.fieldLink RX7 42 "SeedBattleModel" "saved" "[I", Cond.fieldLink RX7 45 "SeedBattleModel" "savedSize" "[I", Cond.fieldLink RX7 48 "SeedBattleModel" "broken" "[Z", Cond.fieldLink RX7 51 "SeedBattleModel" "ally" "[Z"]
def wsL_law0_r7 : List Cond := [Cond.fieldLink RX7 54 "SeedBattleModel" "ended" "[Z", Cond.methodLink RL 101 yL_setSeed, Cond.static yL_setSeed, Cond.initialized RL, Cond.codeWith yL_setSeed cL_setSeed 4 (some .int) [(0, 9, 12, 13)], Cond.classLink RL 13 "java/lang/IllegalStateException", Cond.methodLink RL 7 yX6_setSeed, Cond.instanceMethod yX6_setSeed, Cond.selects RX6 yX6_setSeed yX6_setSeed, Cond.code yX6_setSeed cX6_setSeed 3 (some .int), Cond.classLink RX6 67 "java/lang/IllegalStateException", Cond.initialized "java/lang/IllegalStateException", Cond.fieldLink RX6 74 "SeedBattle" "seedNow" "I", Cond.methodLink RL 106 yX7_setSeed, Cond.instanceMethod yX7_setSeed, Cond.selects RX7 yX7_setSeed yX7_setSeed, Cond.code yX7_setSeed cX7_setSeed 3 (some .int), Cond.fieldLink RX7 65 "SeedBattleModel" "units" "I", Cond.fieldLink RX7 68 "SeedBattleModel" "seed" "I", Cond.methodLink RX7 61 yX7_no, Cond.instanceMethod yX7_no, Cond.selects RX7 yX7_no yX7_no, Cond.code yX7_no cX7_no 3 (some .boolean), Cond.fieldLink RX7 57 "SeedBattleModel" "thrown" "I"]
def wsL_law0_r8 : List Cond := [Cond.methodLink RL 107 yX7_thrown, Cond.instanceMethod yX7_thrown, Cond.selects RX7 yX7_thrown yX7_thrown, Cond.code yX7_thrown cX7_thrown 1 (some .int), Cond.methodLink RL 110 yL_ground, Cond.static yL_ground, Cond.codeWith yL_ground cL_ground 4 (some .int) [(0, 9, 12, 19)], Cond.classLink RL 19 "java/lang/IndexOutOfBoundsException", Cond.methodLink RL 15 yX6_ground, Cond.instanceMethod yX6_ground, Cond.selects RX6 yX6_ground yX6_ground, Cond.code yX6_ground cX6_ground 2 (some .char), Cond.methodLink RX6 77 yX6_requireCell, Cond.static yX6_requireCell, Cond.code yX6_requireCell cX6_requireCell 1 none, Cond.classLink RX6 171 "java/lang/IndexOutOfBoundsException", Cond.initialized "java/lang/IndexOutOfBoundsException", Cond.methodLink RX6 285 yX6_isCell, Cond.static yX6_isCell, Cond.code yX6_isCell cX6_isCell 1 (some .boolean), Cond.methodLink RX6 80 yX3_at, Cond.instanceMethod yX3_at, Cond.selects RX3 yX3_at yX3_at, Cond.code yX3_at cX3_at 2 (some .char)]
def wsL_law0_r9 : List Cond := [Cond.methodLink RL 112 yX7_ground, Cond.instanceMethod yX7_ground, Cond.selects RX7 yX7_ground yX7_ground, Cond.code yX7_ground cX7_ground 2 (some .char), Cond.methodLink RX7 72 yX7_isCell, Cond.static yX7_isCell, Cond.code yX7_isCell cX7_isCell 1 (some .boolean), Cond.methodLink RX7 76 yX7_groundOf, Cond.instanceMethod yX7_groundOf, Cond.selects RX7 yX7_groundOf yX7_groundOf, Cond.code yX7_groundOf cX7_groundOf 4 (some .char), Cond.constant RX7 71 (1103515245), Cond.methodLink RL 113 yL_addUnit, Cond.static yL_addUnit, Cond.codeWith yL_addUnit cL_addUnit 6 (some .int) [(0, 12, 15, 19), (0, 12, 19, 25), (0, 12, 23, 27), (0, 12, 27, 13)], Cond.classLink RL 25 "java/lang/IllegalArgumentException", Cond.classLink RL 27 "java/lang/UnsupportedOperationException", Cond.methodLink RL 21 yX6_addUnit, Cond.instanceMethod yX6_addUnit, Cond.selects RX6 yX6_addUnit yX6_addUnit, Cond.code yX6_addUnit cX6_addUnit 5 (some .int), Cond.classLink RX6 95 "java/lang/IllegalArgumentException", Cond.initialized "java/lang/IllegalArgumentException", Cond.classLink RX6 103 "java/lang/UnsupportedOperationException"]
def wsL_law0_r10 : List Cond := [Cond.initialized "java/lang/UnsupportedOperationException", Cond.fieldLink RX6 108 "SeedBattle" "turnsDone" "I", Cond.methodLink RX6 84 yX6_requirePlayer, Cond.static yX6_requirePlayer, Cond.code yX6_requirePlayer cX6_requirePlayer 1 none, Cond.methodLink RX6 89 yJ0_indexOf_0f7a4, Cond.instanceMethod yJ0_indexOf_0f7a4, Cond.selects RJ0 yJ0_indexOf_0f7a4 yJ0_indexOf_0f7a4, Cond.code yJ0_indexOf_0f7a4 cJ0_indexOf_0f7a4 2 (some .int), Cond.methodLink RJ0 633 yJ0_indexOf_7cf53, Cond.instanceMethod yJ0_indexOf_7cf53, Cond.selects RJ0 yJ0_indexOf_7cf53 yJ0_indexOf_7cf53, Cond.code yJ0_indexOf_7cf53 cJ0_indexOf_7cf53 3 (some .int), Cond.methodLink RJ0 505 yJ0_length_8abf5, Cond.instanceMethod yJ0_length_8abf5, Cond.selects RJ0 yJ0_length_8abf5 yJ0_length_8abf5, Cond.code yJ0_length_8abf5 cJ0_length_8abf5 1 (some .int), Cond.methodLink RJ0 335 yJ0_coder_7d493, Cond.instanceMethod yJ0_coder_7d493, Cond.selects RJ0 yJ0_coder_7d493 yJ0_coder_7d493, Cond.code yJ0_coder_7d493 cJ0_coder_7d493 1 (some .byte), Cond.methodLink RJ0 637 yJ1_indexOf_4cfef, Cond.static yJ1_indexOf_4cfef, Cond.code yJ1_indexOf_4cfef cJ1_indexOf_4cfef 4 (some .int)]
def wsL_law0_r11 : List Cond := [Cond.methodLink RJ1 92 Lib.Math.max.name, Cond.static Lib.Math.max.name, Cond.initialized "java/lang/Math", Cond.code Lib.Math.max.name Lib.Math.max.code 2 (some .int), Cond.methodLink RJ1 38 Lib.Math.min.name, Cond.static Lib.Math.min.name, Cond.code Lib.Math.min.name Lib.Math.min.code 2 (some .int), Cond.methodLink RJ1 88 yJ1_canEncode_9a6ad, Cond.static yJ1_canEncode_9a6ad, Cond.code yJ1_canEncode_9a6ad cJ1_canEncode_9a6ad 1 (some .boolean), Cond.methodLink RJ1 95 yJ1_indexOfChar_4cfef, Cond.static yJ1_indexOfChar_4cfef, Cond.code yJ1_indexOfChar_4cfef cJ1_indexOfChar_4cfef 6 (some .int), Cond.methodLink RJ0 640 yJ2_indexOf_4cfef, Cond.static yJ2_indexOf_4cfef, Cond.code yJ2_indexOf_4cfef cJ2_indexOf_4cfef 4 (some .int), Cond.methodLink RJ2 224 Lib.Math.max.name, Cond.methodLink RJ2 183 Lib.Math.min.name, Cond.constant RJ2 227 (65536), Cond.methodLink RJ2 228 yJ2_indexOfChar_4cfef, Cond.static yJ2_indexOfChar_4cfef, Cond.code yJ2_indexOfChar_4cfef cJ2_indexOfChar_4cfef 4 (some .int), Cond.methodLink RJ2 96 yJ2_checkBoundsBeginEnd_d044e, Cond.static yJ2_checkBoundsBeginEnd_d044e]
def wsL_law0_r12 : List Cond := [Cond.code yJ2_checkBoundsBeginEnd_d044e cJ2_checkBoundsBeginEnd_d044e 3 none, Cond.methodLink RJ2 241 yJ0_checkBoundsBeginEnd_23922, Cond.static yJ0_checkBoundsBeginEnd_23922, Cond.code yJ0_checkBoundsBeginEnd_23922 cJ0_checkBoundsBeginEnd_23922 3 none, Cond.methodLink RJ0 1062 yJ3_checkFromToIndex_8c36e, Cond.static yJ3_checkFromToIndex_8c36e, Cond.code yJ3_checkFromToIndex_8c36e cJ3_checkFromToIndex_8c36e 4 (some .int), Cond.methodLink RJ2 244 yJ2_indexOfCharUnsafe_4cfef, Cond.static yJ2_indexOfCharUnsafe_4cfef, Cond.code yJ2_indexOfCharUnsafe_4cfef cJ2_indexOfCharUnsafe_4cfef 5 (some .int), Cond.methodLink RJ2 232 yJ2_indexOfSupplementary_4cfef, Cond.static yJ2_indexOfSupplementary_4cfef, Cond.code yJ2_indexOfSupplementary_4cfef cJ2_indexOfSupplementary_4cfef 7 (some .int), Cond.methodLink RJ2 164 yJ11_isValidCodePoint_9a6ad, Cond.static yJ11_isValidCodePoint_9a6ad, Cond.initialized RJ11, Cond.code yJ11_isValidCodePoint_9a6ad cJ11_isValidCodePoint_9a6ad 2 (some .boolean), Cond.methodLink RJ2 157 yJ11_highSurrogate_5068e, Cond.static yJ11_highSurrogate_5068e, Cond.code yJ11_highSurrogate_5068e cJ11_highSurrogate_5068e 1 (some .char), Cond.constant RJ11 110 (55232), Cond.methodLink RJ2 161 yJ11_lowSurrogate_5068e, Cond.static yJ11_lowSurrogate_5068e, Cond.code yJ11_lowSurrogate_5068e cJ11_lowSurrogate_5068e 1 (some .char)]
def wsL_law0_r13 : List Cond := [Cond.constant RJ11 76 (56320), Cond.methodLink RX6 100 yX5_on, Cond.instanceMethod yX5_on, Cond.selects RX5 yX5_on yX5_on, Cond.code yX5_on cX5_on 3 (some .int), Cond.fieldLink RX5 24 "SeedBattle$Units" "count" "I", Cond.methodLink RX6 113 yX5_put, Cond.instanceMethod yX5_put, Cond.selects RX5 yX5_put yX5_put, Cond.code yX5_put cX5_put 4 (some .int), Cond.methodLink RL 116 yX7_addUnit, Cond.instanceMethod yX7_addUnit, Cond.selects RX7 yX7_addUnit yX7_addUnit, Cond.code yX7_addUnit cX7_addUnit 4 (some .int), Cond.fieldLink RX7 84 "SeedBattleModel" "done" "I", Cond.methodLink RX7 80 yX7_on, Cond.instanceMethod yX7_on, Cond.selects RX7 yX7_on yX7_on, Cond.code yX7_on cX7_on 3 (some .int), Cond.methodLink RL 117 yL_order, Cond.static yL_order, Cond.codeWith yL_order cL_order 5 (some .int) [(0, 10, 13, 19), (0, 10, 17, 25), (0, 10, 21, 27)], Cond.methodLink RL 29 yX6_order, Cond.instanceMethod yX6_order]
def wsL_law0_r14 : List Cond := [Cond.selects RX6 yX6_order yX6_order, Cond.code yX6_order cX6_order 3 (some .int), Cond.methodLink RX6 117 yX6_requireUnit, Cond.instanceMethod yX6_requireUnit, Cond.selects RX6 yX6_requireUnit yX6_requireUnit, Cond.code yX6_requireUnit cX6_requireUnit 2 none, Cond.methodLink RX6 290 yX5_has, Cond.instanceMethod yX5_has, Cond.selects RX5 yX5_has yX5_has, Cond.code yX5_has cX5_has 2 (some .boolean), Cond.methodLink RX6 122 yX5_lives, Cond.instanceMethod yX5_lives, Cond.selects RX5 yX5_lives yX5_lives, Cond.code yX5_lives cX5_lives 2 (some .boolean), Cond.methodLink RX5 32 yX5_place, Cond.instanceMethod yX5_place, Cond.selects RX5 yX5_place yX5_place, Cond.code yX5_place cX5_place 2 (some .int), Cond.methodLink RX6 126 yX4_givenTo, Cond.instanceMethod yX4_givenTo, Cond.selects RX4 yX4_givenTo yX4_givenTo, Cond.code yX4_givenTo cX4_givenTo 2 (some .int), Cond.methodLink RX6 129 yX5_steps, Cond.instanceMethod yX5_steps]
def wsL_law0_r15 : List Cond := [Cond.selects RX5 yX5_steps yX5_steps, Cond.code yX5_steps cX5_steps 2 (some .int), Cond.methodLink RX6 134 yX4_give, Cond.instanceMethod yX4_give, Cond.selects RX4 yX4_give yX4_give, Cond.code yX4_give cX4_give 5 (some .int), Cond.methodLink RX4 24 yX4_givenTo, Cond.methodLink RX4 28 yX4_spotOf, Cond.static yX4_spotOf, Cond.code yX4_spotOf cX4_spotOf 4 (some .int), Cond.methodLink RL 120 yX7_order, Cond.instanceMethod yX7_order, Cond.selects RX7 yX7_order yX7_order, Cond.code yX7_order cX7_order 3 (some .int), Cond.methodLink RX7 87 yX7_noUnit, Cond.instanceMethod yX7_noUnit, Cond.selects RX7 yX7_noUnit yX7_noUnit, Cond.code yX7_noUnit cX7_noUnit 2 (some .boolean), Cond.methodLink RX7 90 yX7_steps, Cond.instanceMethod yX7_steps, Cond.selects RX7 yX7_steps yX7_steps, Cond.code yX7_steps cX7_steps 2 (some .int), Cond.methodLink RL 121 yL_turn, Cond.static yL_turn]
def wsL_law0_r16 : List Cond := [Cond.codeWith yL_turn cL_turn 3 (some .int) [(0, 8, 11, 13)], Cond.methodLink RL 33 yX6_turn, Cond.instanceMethod yX6_turn, Cond.selects RX6 yX6_turn yX6_turn, Cond.code yX6_turn cX6_turn 3 (some .int), Cond.methodLink RX6 139 yX1_playTurn, Cond.instanceMethod yX1_playTurn, Cond.selects RX1 yX1_playTurn yX1_playTurn, Cond.code yX1_playTurn cX1_playTurn 5 (some .int), Cond.methodLink RX1 32 yX1_readWants, Cond.instanceMethod yX1_readWants, Cond.selects RX1 yX1_readWants yX1_readWants, Cond.code yX1_readWants cX1_readWants 7 (some .boolean), Cond.methodLink RX1 50 yX5_place, Cond.methodLink RX1 54 yX4_direction, Cond.instanceMethod yX4_direction, Cond.selects RX4 yX4_direction yX4_direction, Cond.code yX4_direction cX4_direction 5 (some .int), Cond.methodLink RX1 60 yX3_beside, Cond.instanceMethod yX3_beside, Cond.selects RX3 yX3_beside yX3_beside, Cond.code yX3_beside cX3_beside 6 (some .int), Cond.methodLink RX3 35 yX3_at, Cond.methodLink RX1 64 yX1_isMover]
def wsL_law0_r17 : List Cond := [Cond.instanceMethod yX1_isMover, Cond.selects RX1 yX1_isMover yX1_isMover, Cond.code yX1_isMover cX1_isMover 2 (some .boolean), Cond.methodLink RX1 36 yX1_meetPairs, Cond.instanceMethod yX1_meetPairs, Cond.selects RX1 yX1_meetPairs yX1_meetPairs, Cond.code yX1_meetPairs cX1_meetPairs 4 (some .int), Cond.methodLink RX1 68 yX1_facing, Cond.instanceMethod yX1_facing, Cond.selects RX1 yX1_facing yX1_facing, Cond.code yX1_facing cX1_facing 3 (some .int), Cond.methodLink RX1 74 yX5_on, Cond.methodLink RX1 77 yX5_owner, Cond.instanceMethod yX5_owner, Cond.selects RX5 yX5_owner yX5_owner, Cond.code yX5_owner cX5_owner 2 (some .int), Cond.methodLink RX1 71 yX1_meet, Cond.instanceMethod yX1_meet, Cond.selects RX1 yX1_meet yX1_meet, Cond.code yX1_meet cX1_meet 4 (some .int), Cond.methodLink RX1 80 yX5_power, Cond.instanceMethod yX5_power, Cond.selects RX5 yX5_power yX5_power, Cond.code yX5_power cX5_power 2 (some .int)]
def wsL_law0_r18 : List Cond := [Cond.methodLink RX1 83 yX1_lose, Cond.instanceMethod yX1_lose, Cond.selects RX1 yX1_lose yX1_lose, Cond.code yX1_lose cX1_lose 2 none, Cond.methodLink RX1 87 yX5_move, Cond.instanceMethod yX5_move, Cond.selects RX5 yX5_move yX5_move, Cond.code yX5_move cX5_move 3 none, Cond.methodLink RX1 40 yX1_settleCells, Cond.instanceMethod yX1_settleCells, Cond.selects RX1 yX1_settleCells yX1_settleCells, Cond.code yX1_settleCells cX1_settleCells 4 (some .int), Cond.methodLink RX1 91 yX1_lowestContested, Cond.instanceMethod yX1_lowestContested, Cond.selects RX1 yX1_lowestContested yX1_lowestContested, Cond.code yX1_lowestContested cX1_lowestContested 3 (some .int), Cond.methodLink RX1 97 yX1_isContested, Cond.instanceMethod yX1_isContested, Cond.selects RX1 yX1_isContested yX1_isContested, Cond.code yX1_isContested cX1_isContested 4 (some .boolean), Cond.methodLink RX1 94 yX1_lookAt, Cond.instanceMethod yX1_lookAt, Cond.selects RX1 yX1_lookAt yX1_lookAt, Cond.code yX1_lookAt cX1_lookAt 4 (some .int)]
def wsL_law0_r19 : List Cond := [Cond.methodLink RX1 100 yX1_strongestFor, Cond.instanceMethod yX1_strongestFor, Cond.selects RX1 yX1_strongestFor yX1_strongestFor, Cond.code yX1_strongestFor cX1_strongestFor 5 (some .int), Cond.methodLink RX1 109 yJ7_fill_53178, Cond.methodLink RX1 103 yX1_firstMover, Cond.instanceMethod yX1_firstMover, Cond.selects RX1 yX1_firstMover yX1_firstMover, Cond.code yX1_firstMover cX1_firstMover 4 (some .int), Cond.methodLink RX1 106 yX1_turnBack, Cond.instanceMethod yX1_turnBack, Cond.selects RX1 yX1_turnBack yX1_turnBack, Cond.code yX1_turnBack cX1_turnBack 4 none, Cond.methodLink RX1 43 yX1_moveAll, Cond.instanceMethod yX1_moveAll, Cond.selects RX1 yX1_moveAll yX1_moveAll, Cond.code yX1_moveAll cX1_moveAll 2 none, Cond.methodLink RX6 143 yX4_startTurn, Cond.instanceMethod yX4_startTurn, Cond.selects RX4 yX4_startTurn yX4_startTurn, Cond.code yX4_startTurn cX4_startTurn 1 none, Cond.methodLink RX6 146 yX6_watch, Cond.instanceMethod yX6_watch, Cond.selects RX6 yX6_watch yX6_watch]
def wsL_law0_r20 : List Cond := [Cond.code yX6_watch cX6_watch 6 none, Cond.methodLink RX6 152 yX5_place, Cond.methodLink RX6 298 yX5_owner, Cond.methodLink RX6 159 yX1_playerSpots, Cond.instanceMethod yX1_playerSpots, Cond.selects RX1 yX1_playerSpots yX1_playerSpots, Cond.code yX1_playerSpots cX1_playerSpots 4 (some .boolean), Cond.methodLink RX1 129 yX1_unitSpots, Cond.instanceMethod yX1_unitSpots, Cond.selects RX1 yX1_unitSpots yX1_unitSpots, Cond.code yX1_unitSpots cX1_unitSpots 5 (some .boolean), Cond.methodLink RX1 115 yX5_sight, Cond.instanceMethod yX5_sight, Cond.selects RX5 yX5_sight yX5_sight, Cond.code yX5_sight cX5_sight 2 (some .int), Cond.methodLink RX1 118 yX3_at, Cond.methodLink RX1 122 yX3_distance, Cond.static yX3_distance, Cond.code yX3_distance cX3_distance 4 (some .int), Cond.methodLink RX3 45 Lib.Math.abs.name, Cond.static Lib.Math.abs.name, Cond.code Lib.Math.abs.name Lib.Math.abs.code 1 (some .int), Cond.methodLink RX3 51 Lib.Math.max.name, Cond.methodLink RX1 125 yX3_isClear]
def wsL_law0_r21 : List Cond := [Cond.instanceMethod yX3_isClear, Cond.selects RX3 yX3_isClear yX3_isClear, Cond.code yX3_isClear cX3_isClear 11 (some .boolean), Cond.methodLink RX3 38 yX3_distance, Cond.methodLink RX3 42 yX3_share, Cond.static yX3_share, Cond.code yX3_share cX3_share 3 (some .int), Cond.methodLink RX6 301 yX2_add, Cond.instanceMethod yX2_add, Cond.selects RX2 yX2_add yX2_add, Cond.code yX2_add cX2_add 5 none, Cond.fieldLink RX2 15 "SeedBattle$Index" "count" "I", Cond.methodLink RX2 19 yX2_isBehind, Cond.static yX2_isBehind, Cond.code yX2_isBehind cX2_isBehind 3 (some .boolean), Cond.static yX6_turnOf, Cond.code yX6_turnOf cX6_turnOf 1 (some .int), Cond.constant RX6 297 (100000), Cond.static yX6_unitOf, Cond.code yX6_unitOf cX6_unitOf 1 (some .int), Cond.static yX6_numberFor, Cond.code yX6_numberFor cX6_numberFor 3 (some .int), Cond.methodLink RX2 27 yX2_dropFirst, Cond.instanceMethod yX2_dropFirst]
def wsL_law0_r22 : List Cond := [Cond.selects RX2 yX2_dropFirst yX2_dropFirst, Cond.code yX2_dropFirst cX2_dropFirst 2 none, Cond.methodLink RX6 149 yX6_hearAll, Cond.instanceMethod yX6_hearAll, Cond.selects RX6 yX6_hearAll yX6_hearAll, Cond.code yX6_hearAll cX6_hearAll 3 none, Cond.methodLink RX6 164 yX6_hasTreaty, Cond.instanceMethod yX6_hasTreaty, Cond.selects RX6 yX6_hasTreaty yX6_hasTreaty, Cond.code yX6_hasTreaty cX6_hasTreaty 3 (some .boolean), Cond.methodLink RX6 305 yX6_hear, Cond.instanceMethod yX6_hear, Cond.selects RX6 yX6_hear yX6_hear, Cond.code yX6_hear cX6_hear 6 none, Cond.methodLink RX6 309 yX2_has, Cond.instanceMethod yX2_has, Cond.selects RX2 yX2_has yX2_has, Cond.code yX2_has cX2_has 4 (some .boolean), Cond.methodLink RL 124 yX7_turn, Cond.instanceMethod yX7_turn, Cond.selects RX7 yX7_turn yX7_turn, Cond.code yX7_turn cX7_turn 3 (some .int), Cond.methodLink RX7 121 yX7_living, Cond.instanceMethod yX7_living]
def wsL_law0_r23 : List Cond := [Cond.selects RX7 yX7_living yX7_living, Cond.code yX7_living cX7_living 3 (some .int), Cond.methodLink RX7 124 yX7_step, Cond.instanceMethod yX7_step, Cond.selects RX7 yX7_step yX7_step, Cond.code yX7_step cX7_step 4 none, Cond.methodLink RX7 93 yX7_moved, Cond.static yX7_moved, Cond.code yX7_moved cX7_moved 6 (some .int), Cond.methodLink RX7 97 yX7_meets, Cond.instanceMethod yX7_meets, Cond.selects RX7 yX7_meets yX7_meets, Cond.code yX7_meets cX7_meets 4 none, Cond.methodLink RX7 109 yX7_power, Cond.instanceMethod yX7_power, Cond.selects RX7 yX7_power yX7_power, Cond.code yX7_power cX7_power 2 (some .int), Cond.methodLink RX7 112 yX7_lose, Cond.instanceMethod yX7_lose, Cond.selects RX7 yX7_lose yX7_lose, Cond.code yX7_lose cX7_lose 2 none, Cond.methodLink RX7 101 yX7_contested, Cond.instanceMethod yX7_contested, Cond.selects RX7 yX7_contested yX7_contested]
def wsL_law0_r24 : List Cond := [Cond.code yX7_contested cX7_contested 4 (some .int), Cond.methodLink RX7 105 yX7_solves, Cond.instanceMethod yX7_solves, Cond.selects RX7 yX7_solves yX7_solves, Cond.code yX7_solves cX7_solves 6 none, Cond.methodLink RX7 118 yX7_strongest, Cond.instanceMethod yX7_strongest, Cond.selects RX7 yX7_strongest yX7_strongest, Cond.code yX7_strongest cX7_strongest 5 (some .int), Cond.methodLink RX7 115 yX7_powerAt, Cond.instanceMethod yX7_powerAt, Cond.selects RX7 yX7_powerAt yX7_powerAt, Cond.code yX7_powerAt cX7_powerAt 5 (some .int), Cond.methodLink RX7 127 yX7_sights, Cond.instanceMethod yX7_sights, Cond.selects RX7 yX7_sights yX7_sights, Cond.code yX7_sights cX7_sights 4 none, Cond.methodLink RX7 162 yX7_isSighted, Cond.instanceMethod yX7_isSighted, Cond.selects RX7 yX7_isSighted yX7_isSighted, Cond.code yX7_isSighted cX7_isSighted 3 (some .boolean), Cond.methodLink RX7 149 yX7_watches, Cond.instanceMethod yX7_watches, Cond.selects RX7 yX7_watches yX7_watches]
def wsL_law0_r25 : List Cond := [Cond.code yX7_watches cX7_watches 4 (some .boolean), Cond.methodLink RX7 142 yX7_looksAt, Cond.instanceMethod yX7_looksAt, Cond.selects RX7 yX7_looksAt yX7_looksAt, Cond.code yX7_looksAt cX7_looksAt 13 (some .boolean), Cond.methodLink RX7 130 Lib.Math.abs.name, Cond.methodLink RX7 135 Lib.Math.max.name, Cond.methodLink RX7 138 yX7_part, Cond.static yX7_part, Cond.code yX7_part cX7_part 5 (some .int), Cond.methodLink RX7 165 yX7_numberOf, Cond.instanceMethod yX7_numberOf, Cond.selects RX7 yX7_numberOf yX7_numberOf, Cond.code yX7_numberOf cX7_numberOf 2 (some .int), Cond.constant RX7 152 (100000), Cond.methodLink RX7 168 yX7_adds, Cond.instanceMethod yX7_adds, Cond.selects RX7 yX7_adds yX7_adds, Cond.code yX7_adds cX7_adds 6 none, Cond.methodLink RX7 153 yX7_turnOf, Cond.static yX7_turnOf, Cond.code yX7_turnOf cX7_turnOf 1 (some .int), Cond.methodLink RX7 156 yX7_unitIn, Cond.static yX7_unitIn]
def wsL_law0_r26 : List Cond := [Cond.code yX7_unitIn cX7_unitIn 1 (some .int), Cond.methodLink RX7 159 yX7_isBehind, Cond.static yX7_isBehind, Cond.code yX7_isBehind cX7_isBehind 2 (some .boolean), Cond.methodLink RL 125 yX6_done, Cond.instanceMethod yX6_done, Cond.selects RX6 yX6_done yX6_done, Cond.code yX6_done cX6_done 1 (some .int), Cond.methodLink RL 128 yX7_done, Cond.instanceMethod yX7_done, Cond.selects RX7 yX7_done yX7_done, Cond.code yX7_done cX7_done 1 (some .int), Cond.methodLink RL 129 yL_cellOf, Cond.static yL_cellOf, Cond.codeWith yL_cellOf cL_cellOf 4 (some .int) [(0, 9, 12, 19)], Cond.methodLink RL 37 yX6_cellOf, Cond.instanceMethod yX6_cellOf, Cond.selects RX6 yX6_cellOf yX6_cellOf, Cond.code yX6_cellOf cX6_cellOf 2 (some .int), Cond.methodLink RL 131 yX7_cellOf, Cond.instanceMethod yX7_cellOf, Cond.selects RX7 yX7_cellOf yX7_cellOf, Cond.code yX7_cellOf cX7_cellOf 2 (some .int), Cond.methodLink RL 132 yL_unitOn]
def wsL_law0_r27 : List Cond := [Cond.static yL_unitOn, Cond.codeWith yL_unitOn cL_unitOn 4 (some .int) [(0, 9, 12, 19)], Cond.methodLink RL 40 yX6_unitOn, Cond.instanceMethod yX6_unitOn, Cond.selects RX6 yX6_unitOn yX6_unitOn, Cond.code yX6_unitOn cX6_unitOn 2 (some .int), Cond.methodLink RL 134 yX7_unitOn, Cond.instanceMethod yX7_unitOn, Cond.selects RX7 yX7_unitOn yX7_unitOn, Cond.code yX7_unitOn cX7_unitOn 2 (some .int), Cond.methodLink RL 135 yL_sees, Cond.static yL_sees, Cond.codeWith yL_sees cL_sees 5 (some .int) [(0, 17, 20, 19)], Cond.methodLink RL 43 yX6_sees, Cond.instanceMethod yX6_sees, Cond.selects RX6 yX6_sees yX6_sees, Cond.code yX6_sees cX6_sees 3 (some .boolean), Cond.methodLink RX6 155 yX1_unitSpots, Cond.methodLink RL 137 yX7_sees, Cond.instanceMethod yX7_sees, Cond.selects RX7 yX7_sees yX7_sees, Cond.code yX7_sees cX7_sees 3 (some .boolean), Cond.methodLink RL 138 yL_seen, Cond.static yL_seen]
def wsL_law0_r28 : List Cond := [Cond.codeWith yL_seen cL_seen 4 (some .int) [(0, 9, 12, 19)], Cond.methodLink RL 47 yX6_seen, Cond.instanceMethod yX6_seen, Cond.selects RX6 yX6_seen yX6_seen, Cond.code yX6_seen cX6_seen 4 (some .int), Cond.methodLink RL 140 yX7_seen, Cond.instanceMethod yX7_seen, Cond.selects RX7 yX7_seen yX7_seen, Cond.code yX7_seen cX7_seen 4 (some .int), Cond.methodLink RX7 146 yX7_noPlayer, Cond.instanceMethod yX7_noPlayer, Cond.selects RX7 yX7_noPlayer yX7_noPlayer, Cond.code yX7_noPlayer cX7_noPlayer 2 (some .boolean), Cond.methodLink RL 141 yL_setTreaty, Cond.static yL_setTreaty, Cond.codeWith yL_setTreaty cL_setTreaty 6 (some .int) [(0, 19, 22, 19), (0, 19, 26, 25)], Cond.methodLink RL 50 yX6_setTreaty, Cond.instanceMethod yX6_setTreaty, Cond.selects RX6 yX6_setTreaty yX6_setTreaty, Cond.code yX6_setTreaty cX6_setTreaty 5 (some .boolean), Cond.methodLink RX6 167 yX0_endTreaty, Cond.instanceMethod yX0_endTreaty, Cond.selects RX0 yX0_endTreaty yX0_endTreaty, Cond.code yX0_endTreaty cX0_endTreaty 2 none]
def wsL_law0_r29 : List Cond := [Cond.fieldLink RX0 46 "SeedBattle$Copy" "allyGone" "Z", Cond.methodLink RX0 80 yX0_isAlly, Cond.instanceMethod yX0_isAlly, Cond.selects RX0 yX0_isAlly yX0_isAlly, Cond.code yX0_isAlly cX0_isAlly 2 (some .boolean), Cond.fieldLink RX0 43 "SeedBattle$Copy" "allyBits" "I", Cond.methodLink RL 144 yX7_setTreaty, Cond.instanceMethod yX7_setTreaty, Cond.selects RX7 yX7_setTreaty yX7_setTreaty, Cond.code yX7_setTreaty cX7_setTreaty 5 (some .boolean), Cond.methodLink RL 145 yL_sightings, Cond.static yL_sightings, Cond.codeWith yL_sightings cL_sightings 4 (some .int) [(0, 9, 12, 19)], Cond.methodLink RL 54 yX6_sightings, Cond.instanceMethod yX6_sightings, Cond.selects RX6 yX6_sightings yX6_sightings, Cond.code yX6_sightings cX6_sightings 2 (some .int), Cond.methodLink RL 147 yX7_sightings, Cond.instanceMethod yX7_sightings, Cond.selects RX7 yX7_sightings yX7_sightings, Cond.code yX7_sightings cX7_sightings 2 (some .int), Cond.methodLink RL 148 yL_sighting, Cond.static yL_sighting, Cond.codeWith yL_sighting cL_sighting 6 (some .int) [(0, 12, 15, 19), (0, 12, 19, 25)]]
def wsL_law0_r30 : List Cond := [Cond.methodLink RL 57 yX6_sighting, Cond.instanceMethod yX6_sighting, Cond.selects RX6 yX6_sighting yX6_sighting, Cond.code yX6_sighting cX6_sighting 5 (some .int), Cond.methodLink RX6 176 yX2_at, Cond.instanceMethod yX2_at, Cond.selects RX2 yX2_at yX2_at, Cond.code yX2_at cX2_at 2 (some .int), Cond.methodLink RX6 178 yX6_turnOf, Cond.methodLink RX6 181 yX6_placeOf, Cond.static yX6_placeOf, Cond.code yX6_placeOf cX6_placeOf 1 (some .int), Cond.methodLink RX6 184 yX6_unitOf, Cond.methodLink RL 151 yX7_sighting, Cond.instanceMethod yX7_sighting, Cond.selects RX7 yX7_sighting yX7_sighting, Cond.code yX7_sighting cX7_sighting 5 (some .int), Cond.methodLink RX7 171 yX7_cellIn, Cond.static yX7_cellIn, Cond.code yX7_cellIn cX7_cellIn 1 (some .int), Cond.methodLink RL 152 yL_age, Cond.static yL_age, Cond.codeWith yL_age cL_age 5 (some .int) [(0, 10, 13, 19), (0, 10, 17, 64)], Cond.classLink RL 64 "java/util/NoSuchElementException"]
def wsL_law0_r31 : List Cond := [Cond.methodLink RL 61 yX6_age, Cond.instanceMethod yX6_age, Cond.selects RX6 yX6_age yX6_age, Cond.code yX6_age cX6_age 4 (some .int), Cond.classLink RX6 192 "java/util/NoSuchElementException", Cond.initialized "java/util/NoSuchElementException", Cond.methodLink RX6 189 yX2_latestOnCell, Cond.instanceMethod yX2_latestOnCell, Cond.selects RX2 yX2_latestOnCell yX2_latestOnCell, Cond.code yX2_latestOnCell cX2_latestOnCell 3 (some .int), Cond.methodLink RL 154 yX7_age, Cond.instanceMethod yX7_age, Cond.selects RX7 yX7_age yX7_age, Cond.code yX7_age cX7_age 5 (some .int), Cond.methodLink RL 155 yL_lastSeen, Cond.static yL_lastSeen, Cond.codeWith yL_lastSeen cL_lastSeen 5 (some .int) [(0, 10, 13, 19), (0, 10, 17, 64)], Cond.methodLink RL 66 yX6_lastSeen, Cond.instanceMethod yX6_lastSeen, Cond.selects RX6 yX6_lastSeen yX6_lastSeen, Cond.code yX6_lastSeen cX6_lastSeen 4 (some .int), Cond.methodLink RX6 197 yX2_latestOfUnit, Cond.instanceMethod yX2_latestOfUnit, Cond.selects RX2 yX2_latestOfUnit yX2_latestOfUnit]
def wsL_law0_r32 : List Cond := [Cond.code yX2_latestOfUnit cX2_latestOfUnit 3 (some .int), Cond.methodLink RL 157 yX7_lastSeen, Cond.instanceMethod yX7_lastSeen, Cond.selects RX7 yX7_lastSeen yX7_lastSeen, Cond.code yX7_lastSeen cX7_lastSeen 5 (some .int), Cond.methodLink RL 158 yX6_save, Cond.instanceMethod yX6_save, Cond.selects RX6 yX6_save yX6_save, Cond.code yX6_save cX6_save 3 (some .int), Cond.fieldLink RX6 213 "SeedBattle" "saved" "Z", Cond.methodLink RX6 202 yX0_take, Cond.instanceMethod yX0_take, Cond.selects RX0 yX0_take yX0_take, Cond.code yX0_take cX0_take 4 none, Cond.methodLink RX0 27 Lib.Math.min.name, Cond.fieldLink RX0 33 "SeedBattle$Copy" "size" "I", Cond.fieldLink RX0 40 "SeedBattle$Copy" "brokenBits" "I", Cond.methodLink RX0 36 yX2_at, Cond.methodLink RX6 209 yX0_keepParity, Cond.instanceMethod yX0_keepParity, Cond.selects RX0 yX0_keepParity yX0_keepParity, Cond.code yX0_keepParity cX0_keepParity 3 none, Cond.methodLink RX0 50 yX0_numberAt, Cond.instanceMethod yX0_numberAt]
def wsL_law0_r33 : List Cond := [Cond.selects RX0 yX0_numberAt yX0_numberAt, Cond.code yX0_numberAt cX0_numberAt 2 (some .int), Cond.methodLink RX0 53 yX0_alliesAt, Cond.instanceMethod yX0_alliesAt, Cond.selects RX0 yX0_alliesAt yX0_alliesAt, Cond.code yX0_alliesAt cX0_alliesAt 5 (some .int), Cond.methodLink RL 161 yX7_save, Cond.instanceMethod yX7_save, Cond.selects RX7 yX7_save yX7_save, Cond.code yX7_save cX7_save 3 (some .int), Cond.fieldLink RX7 174 "SeedBattleModel" "isSaved" "Z", Cond.methodLink RL 162 yL_blocks, Cond.static yL_blocks, Cond.codeWith yL_blocks cL_blocks 4 (some .int) [(0, 9, 12, 19), (0, 9, 15, 64)], Cond.methodLink RL 69 yX6_blocks, Cond.instanceMethod yX6_blocks, Cond.selects RX6 yX6_blocks yX6_blocks, Cond.code yX6_blocks cX6_blocks 2 (some .int), Cond.methodLink RX6 217 yX6_requireSave, Cond.instanceMethod yX6_requireSave, Cond.selects RX6 yX6_requireSave yX6_requireSave, Cond.code yX6_requireSave cX6_requireSave 1 none, Cond.methodLink RX6 220 yX0_blockCount, Cond.instanceMethod yX0_blockCount]
def wsL_law0_r34 : List Cond := [Cond.selects RX0 yX0_blockCount yX0_blockCount, Cond.code yX0_blockCount cX0_blockCount 1 (some .int), Cond.methodLink RL 164 yX7_blocks, Cond.instanceMethod yX7_blocks, Cond.selects RX7 yX7_blocks yX7_blocks, Cond.code yX7_blocks cX7_blocks 2 (some .int), Cond.methodLink RX7 178 yX7_noSave, Cond.instanceMethod yX7_noSave, Cond.selects RX7 yX7_noSave yX7_noSave, Cond.code yX7_noSave cX7_noSave 2 (some .boolean), Cond.methodLink RX7 181 yX7_blocksOf, Cond.instanceMethod yX7_blocksOf, Cond.selects RX7 yX7_blocksOf yX7_blocksOf, Cond.code yX7_blocksOf cX7_blocksOf 2 (some .int), Cond.methodLink RL 165 yL_breakBlock, Cond.static yL_breakBlock, Cond.codeWith yL_breakBlock cL_breakBlock 5 (some .int) [(0, 17, 20, 19), (0, 17, 24, 64)], Cond.methodLink RL 72 yX6_breakBlock, Cond.instanceMethod yX6_breakBlock, Cond.selects RX6 yX6_breakBlock yX6_breakBlock, Cond.code yX6_breakBlock cX6_breakBlock 4 (some .boolean), Cond.methodLink RX6 226 yX0_isBroken, Cond.instanceMethod yX0_isBroken, Cond.selects RX0 yX0_isBroken yX0_isBroken]
def wsL_law0_r35 : List Cond := [Cond.code yX0_isBroken cX0_isBroken 2 (some .boolean), Cond.methodLink RX0 73 yX0_blockCount, Cond.methodLink RX6 229 yX0_breakOne, Cond.instanceMethod yX0_breakOne, Cond.selects RX0 yX0_breakOne yX0_breakOne, Cond.code yX0_breakOne cX0_breakOne 3 none, Cond.methodLink RX0 77 yX0_blockEnd, Cond.instanceMethod yX0_blockEnd, Cond.selects RX0 yX0_blockEnd yX0_blockEnd, Cond.code yX0_blockEnd cX0_blockEnd 2 (some .int), Cond.methodLink RL 167 yX7_breakBlock, Cond.instanceMethod yX7_breakBlock, Cond.selects RX7 yX7_breakBlock yX7_breakBlock, Cond.code yX7_breakBlock cX7_breakBlock 4 (some .boolean), Cond.methodLink RL 168 yL_savedAt, Cond.static yL_savedAt, Cond.codeWith yL_savedAt cL_savedAt 5 (some .int) [(0, 10, 13, 19), (0, 10, 17, 64), (0, 10, 21, 27)], Cond.methodLink RL 75 yX6_savedAt, Cond.instanceMethod yX6_savedAt, Cond.selects RX6 yX6_savedAt yX6_savedAt, Cond.code yX6_savedAt cX6_savedAt 3 (some .int), Cond.methodLink RX6 236 yX0_numberAt, Cond.methodLink RL 170 yX7_savedAt, Cond.instanceMethod yX7_savedAt]
def wsL_law0_r36 : List Cond := [Cond.selects RX7 yX7_savedAt yX7_savedAt, Cond.code yX7_savedAt cX7_savedAt 3 (some .int), Cond.methodLink RL 171 yL_repair, Cond.static yL_repair, Cond.codeWith yL_repair cL_repair 4 (some .int) [(0, 9, 12, 19), (0, 9, 15, 64)], Cond.methodLink RL 78 yX6_repair, Cond.instanceMethod yX6_repair, Cond.selects RX6 yX6_repair yX6_repair, Cond.code yX6_repair cX6_repair 4 (some .int), Cond.methodLink RX6 239 yX0_canRebuild, Cond.instanceMethod yX0_canRebuild, Cond.selects RX0 yX0_canRebuild yX0_canRebuild, Cond.code yX0_canRebuild cX0_canRebuild 4 (some .boolean), Cond.methodLink RX0 84 yX0_isBroken, Cond.methodLink RX6 243 yX0_rebuild, Cond.instanceMethod yX0_rebuild, Cond.selects RX0 yX0_rebuild yX0_rebuild, Cond.code yX0_rebuild cX0_rebuild 4 none, Cond.methodLink RL 173 yX7_repair, Cond.instanceMethod yX7_repair, Cond.selects RX7 yX7_repair yX7_repair, Cond.code yX7_repair cX7_repair 4 (some .int), Cond.methodLink RX7 184 yX7_canRebuild, Cond.instanceMethod yX7_canRebuild]
def wsL_law0_r37 : List Cond := [Cond.selects RX7 yX7_canRebuild yX7_canRebuild, Cond.code yX7_canRebuild cX7_canRebuild 6 (some .boolean), Cond.methodLink RL 174 yL_load, Cond.static yL_load, Cond.codeWith yL_load cL_load 4 (some .int) [(0, 9, 12, 19), (0, 9, 15, 64), (0, 9, 18, 27)], Cond.methodLink RL 81 yX6_load, Cond.instanceMethod yX6_load, Cond.selects RX6 yX6_load yX6_load, Cond.code yX6_load cX6_load 2 (some .int), Cond.methodLink RX6 247 yX0_anyBroken, Cond.instanceMethod yX0_anyBroken, Cond.selects RX0 yX0_anyBroken yX0_anyBroken, Cond.code yX0_anyBroken cX0_anyBroken 1 (some .boolean), Cond.methodLink RX6 253 yX0_writeTo, Cond.instanceMethod yX0_writeTo, Cond.selects RX0 yX0_writeTo yX0_writeTo, Cond.code yX0_writeTo cX0_writeTo 3 none, Cond.methodLink RX0 57 yX2_clear, Cond.instanceMethod yX2_clear, Cond.selects RX2 yX2_clear yX2_clear, Cond.code yX2_clear cX2_clear 1 none, Cond.methodLink RX0 69 yX2_add, Cond.methodLink RL 176 yX7_load, Cond.instanceMethod yX7_load]
def wsL_law0_r38 : List Cond := [Cond.selects RX7 yX7_load yX7_load, Cond.code yX7_load cX7_load 4 (some .int), Cond.methodLink RL 177 yL_allies, Cond.static yL_allies, Cond.codeWith yL_allies cL_allies 4 (some .int) [(0, 9, 12, 19), (0, 9, 15, 64)], Cond.methodLink RL 84 yX6_allies, Cond.instanceMethod yX6_allies, Cond.selects RX6 yX6_allies yX6_allies, Cond.code yX6_allies cX6_allies 2 (some .int), Cond.methodLink RX6 260 yJ6_bitCount_0f7a4, Cond.static yJ6_bitCount_0f7a4, Cond.initialized RJ6, Cond.code yJ6_bitCount_0f7a4 cJ6_bitCount_0f7a4 1 (some .int), Cond.constant RJ6 265 (1431655765), Cond.constant RJ6 266 (858993459), Cond.constant RJ6 267 (252645135), Cond.methodLink RL 179 yX7_allies, Cond.instanceMethod yX7_allies, Cond.selects RX7 yX7_allies yX7_allies, Cond.code yX7_allies cX7_allies 4 (some .int), Cond.methodLink RL 180 yX6_checksum, Cond.instanceMethod yX6_checksum, Cond.selects RX6 yX6_checksum yX6_checksum, Cond.code yX6_checksum cX6_checksum 4 (some .long)]
def wsL_law0_r39 : List Cond := [Cond.constantLong RX6 265 (31), Cond.methodLink RL 184 yX7_checksum, Cond.instanceMethod yX7_checksum, Cond.selects RX7 yX7_checksum yX7_checksum, Cond.code yX7_checksum cX7_checksum 4 (some .long), Cond.constantLong RX7 187 (31), Cond.methodLink RL 185 yL_livingShare, Cond.static yL_livingShare, Cond.codeWith yL_livingShare cL_livingShare 3 (some .int) [(0, 8, 11, 91)], Cond.classLink RL 91 "java/lang/ArithmeticException", Cond.methodLink RL 87 yX6_livingShare, Cond.instanceMethod yX6_livingShare, Cond.selects RX6 yX6_livingShare yX6_livingShare, Cond.code yX6_livingShare cX6_livingShare 4 (some .float), Cond.classLink RX6 267 "java/lang/ArithmeticException", Cond.initialized "java/lang/ArithmeticException", Cond.methodLink RL 188 yX7_livingShare, Cond.instanceMethod yX7_livingShare, Cond.selects RX7 yX7_livingShare yX7_livingShare, Cond.code yX7_livingShare cX7_livingShare 1 (some .float), Cond.methodLink RL 189 yL_meanAge, Cond.static yL_meanAge, Cond.codeWith yL_meanAge cL_meanAge 3 (some .int) [(0, 7, 10, 91)], Cond.methodLink RL 93 yX6_meanAge]
def wsL_law0_r40 : List Cond := [Cond.instanceMethod yX6_meanAge, Cond.selects RX6 yX6_meanAge yX6_meanAge, Cond.code yX6_meanAge cX6_meanAge 7 (some .double), Cond.methodLink RL 191 yX7_meanAge, Cond.instanceMethod yX7_meanAge, Cond.selects RX7 yX7_meanAge yX7_meanAge, Cond.code yX7_meanAge cX7_meanAge 5 (some .double), Cond.methodLink RL 192 yX6_isSound, Cond.instanceMethod yX6_isSound, Cond.selects RX6 yX6_isSound yX6_isSound, Cond.code yX6_isSound cX6_isSound 1 (some .boolean), Cond.methodLink RX6 274 yX6_unitsAreWhereReplayed, Cond.instanceMethod yX6_unitsAreWhereReplayed, Cond.selects RX6 yX6_unitsAreWhereReplayed yX6_unitsAreWhereReplayed, Cond.code yX6_unitsAreWhereReplayed cX6_unitsAreWhereReplayed 2 (some .boolean), Cond.methodLink RX6 311 yX5_startLike, Cond.instanceMethod yX5_startLike, Cond.selects RX5 yX5_startLike yX5_startLike, Cond.code yX5_startLike cX5_startLike 3 none, Cond.methodLink RX5 28 yX5_put, Cond.methodLink RX6 277 yX6_savesAreAsTaken, Cond.instanceMethod yX6_savesAreAsTaken, Cond.selects RX6 yX6_savesAreAsTaken yX6_savesAreAsTaken, Cond.code yX6_savesAreAsTaken cX6_savesAreAsTaken 2 (some .boolean)]
def wsL_law0_r41 : List Cond := [Cond.methodLink RX6 315 yX0_isAsTaken, Cond.instanceMethod yX0_isAsTaken, Cond.selects RX0 yX0_isAsTaken yX0_isAsTaken, Cond.code yX0_isAsTaken cX0_isAsTaken 2 (some .boolean), Cond.methodLink RX0 87 yX0_wasTaken, Cond.instanceMethod yX0_wasTaken, Cond.selects RX0 yX0_wasTaken yX0_wasTaken, Cond.code yX0_wasTaken cX0_wasTaken 3 (some .boolean), Cond.methodLink RX6 280 yX6_noIndexHasOwnUnits, Cond.instanceMethod yX6_noIndexHasOwnUnits, Cond.selects RX6 yX6_noIndexHasOwnUnits yX6_noIndexHasOwnUnits, Cond.code yX6_noIndexHasOwnUnits cX6_noIndexHasOwnUnits 4 (some .boolean), Cond.methodLink RL 196 yX7_isSound, Cond.instanceMethod yX7_isSound, Cond.selects RX7 yX7_isSound yX7_isSound, Cond.code yX7_isSound cX7_isSound 1 (some .boolean)]
def wsL_law0 : List Cond := (wsL_law0_r1 ++ (wsL_law0_r2 ++ (wsL_law0_r3 ++ (wsL_law0_r4 ++ (wsL_law0_r5 ++ (wsL_law0_r6 ++ (wsL_law0_r7 ++ (wsL_law0_r8 ++ (wsL_law0_r9 ++ (wsL_law0_r10 ++ (wsL_law0_r11 ++ (wsL_law0_r12 ++ (wsL_law0_r13 ++ (wsL_law0_r14 ++ (wsL_law0_r15 ++ (wsL_law0_r16 ++ (wsL_law0_r17 ++ (wsL_law0_r18 ++ (wsL_law0_r19 ++ (wsL_law0_r20 ++ (wsL_law0_r21 ++ (wsL_law0_r22 ++ (wsL_law0_r23 ++ (wsL_law0_r24 ++ (wsL_law0_r25 ++ (wsL_law0_r26 ++ (wsL_law0_r27 ++ (wsL_law0_r28 ++ (wsL_law0_r29 ++ (wsL_law0_r30 ++ (wsL_law0_r31 ++ (wsL_law0_r32 ++ (wsL_law0_r33 ++ (wsL_law0_r34 ++ (wsL_law0_r35 ++ (wsL_law0_r36 ++ (wsL_law0_r37 ++ (wsL_law0_r38 ++ (wsL_law0_r39 ++ (wsL_law0_r40 ++ wsL_law0_r41)))))))))))))))))))))))))))))))))))))))) ++ wsX60 ++ wsX70 ++ wsX10 ++ wsX40 ++ wsX20 ++ wsX00 ++ wsX30 ++ wsX50 ++ wsJ00 ++ ([] : List Cond)
def wsL_law : List Cond := wsL_law0 ++ (vx_atM "java/lang/ArrayIndexOutOfBoundsException" ["java/lang/IndexOutOfBoundsException", "java/lang/RuntimeException", "java/lang/Exception"]).filter goodWord ++ (vx_atS RX6 71 "java/lang/IllegalStateException" ["java/lang/RuntimeException", "java/lang/Exception"]).filter goodWord ++ (vx_atS RX6 175 "java/lang/IndexOutOfBoundsException" ["java/lang/RuntimeException", "java/lang/Exception"]).filter goodWord ++ (vx_atS RX6 99 "java/lang/IllegalArgumentException" ["java/lang/RuntimeException", "java/lang/Exception"]).filter goodWord ++ (vx_atS RX6 107 "java/lang/UnsupportedOperationException" ["java/lang/RuntimeException", "java/lang/Exception"]).filter goodWord ++ (vx_atM "java/lang/ArithmeticException" ["java/lang/RuntimeException", "java/lang/Exception"]).filter goodWord ++ (vx_atS RX6 196 "java/util/NoSuchElementException" ["java/lang/RuntimeException", "java/lang/Exception"]).filter goodWord ++ (vx_atS RX6 271 "java/lang/ArithmeticException" ["java/lang/RuntimeException", "java/lang/Exception"]).filter goodWord
abbrev vwCl : List vw_C := [(RJ0, TJ0, 2), (RJx00060, TJx00060, 6), (RX0, TX0, 7), (RX1, TX1, 4), (RX2, TX2, 2), (RX3, TX3, 1), (RX4, TX4, 2), (RX5, TX5, 5), (RX6, TX6, 10), (RX7, TX7, 20)]
end
section
/-! PART 02: the state of a system as rows of numbers; its cells; rows of the kit said of it -/
abbrev St : Type := (Nat → Nat → Int32) × (Nat → Int32)
def sA (g : St) (j : Nat) (f : Nat → Int32) : St := (fun k => if k = j then f else g.1 k, g.2)
def sS (g : St) (j : Nat) (v : Int32) : St := (g.1, fun k => if k = j then v else g.2 k)
/-- the cells: n of them; A says which are arrays (which class of cs, how long), O what the others are -/
def uX (A : Nat → Option (Nat × Nat)) (O : (Nat → Int32) → Nat → va_E) (cs : Nat → ClassId) (g : St) (k : Nat) : va_E := match A k with
  | some (t, n) => .inl (cs t, n, .inl (g.1 k))
  | none => O g.2 k
def uW (n : Nat) (A : Nat → Option (Nat × Nat)) (O : (Nat → Int32) → Nat → va_E) (cs : Nat → ClassId) (a : Nat → Nat) (g : St) : va_W := (List.range n).map fun k => (a k, uX A O cs g k)
section UW
variable {n : Nat} {A : Nat → Option (Nat × Nat)} {O : (Nat → Int32) → Nat → va_E} {cs : Nat → ClassId} {a : Nat → Nat} {g : St}
theorem uW_at {k : Nat} (hk : k < n) : (uW n A O cs a g)[k]? = some (a k, uX A O cs g k) := by
  simp [uW, hk]
theorem uW_arr {k t N : Nat} (h : k < n ∧ A k = some (t, N)) : (uW n A O cs a g)[k]? = some (a k, .inl (cs t, N, .inl (g.1 k))) := by
  rw [uW_at h.1, uX, h.2]
theorem uW_obj {k : Nat} {e : va_E} (h : k < n ∧ A k = none) (ho : O g.2 k = e) : (uW n A O cs a g)[k]? = some (a k, e) := by
  rw [uW_at h.1, uX, h.2, ← ho]
theorem uW_set {k : Nat} {e : va_E} {g' : St} (h1 : uX A O cs g' k = e) (h2 : ∀ i, i < n → i ≠ k → uX A O cs g' i = uX A O cs g i) : (uW n A O cs a g).set k (a k, e) = uW n A O cs a g' := by
  apply List.ext_getElem?
  intro i
  rw [List.getElem?_set]
  by_cases hk : k = i
  · subst hk
    simp only [↓reduceIte]
    by_cases hn : k < n
    · simp [uW, hn, h1]
    · simp [uW, hn]
  · rw [if_neg hk]
    by_cases hn : i < n
    · rw [uW_at hn, uW_at hn, h2 i hn (fun h => hk h.symm)]
    · simp [uW, hn]
theorem uW_setA {k t N : Nat} {f : Nat → Int32} (h : k < n ∧ A k = some (t, N)) : (uW n A O cs a g).set k (a k, .inl (cs t, N, .inl f)) = uW n A O cs a (sA g k f) := by
  apply uW_set
  · simp [uX, h.2, sA]
  · intro i _ hik
    simp only [uX, sA, if_neg hik]
theorem uW_setS {k j : Nat} {v : Int32} {e : va_E} (h : k < n ∧ A k = none) (he : O (sS g j v).2 k = e) (hn : ∀ i, i < n → i ≠ k → O (sS g j v).2 i = O g.2 i) : (uW n A O cs a g).set k (a k, e) = uW n A O cs a (sS g j v) := by
  apply uW_set
  · rw [uX, h.2, ← he]
  · intro i hi hik
    simp only [uX]
    cases A i with
    | none => exact hn i hi hik
    | some q => rfl
theorem uW_adr {g' : St} : (uW n A O cs a g).map Prod.fst = (uW n A O cs a g').map Prod.fst := by
  simp [uW, Function.comp_def]
theorem uW_dis {F : Nat → Prop} {g' : St} (h : va_D F (uW n A O cs a g)) : va_D F (uW n A O cs a g') := by
  have key : ∀ (i : Nat) (q : Nat × va_E), (uW n A O cs a g')[i]? = some q → ∃ q' : Nat × va_E, (uW n A O cs a g)[i]? = some q' ∧ q'.1 = q.1 := by
    intro i q hq
    by_cases hi : i < n
    · rw [uW_at hi] at hq
      cases hq
      exact ⟨_, uW_at hi, rfl⟩
    · simp [uW, hi] at hq
  refine ⟨fun i j p q hp hq e => ?_, fun k q hq => ?_⟩
  · obtain ⟨p', h1, e1⟩ := key i p hp
    obtain ⟨q', h2, e2⟩ := key j q hq
    exact h.1 i j p' q' h1 h2 (by rw [e1, e2, e])
  · obtain ⟨q', h1, e1⟩ := key k q hq
    rw [← e1]
    exact h.2 k q' h1
theorem uW_A {sz : Nat} {g' : St} {q : Nat} (h : va_A (uW n A O cs a g) sz q) : va_A (uW n A O cs a g') sz q := by
  rcases h with ⟨k, e, h⟩ | h
  · by_cases hk : k < n
    · rw [uW_at hk] at h
      cases h
      exact Or.inl ⟨k, _, uW_at hk⟩
    · simp [uW, hk] at h
  · exact Or.inr h
end UW
/-- the array classes that the worlds know -/
abbrev gT (cs : Nat → ClassId) : List (ClassId × FieldType) := [(cs 0, .int), (cs 1, .char), (cs 2, .boolean), (cs 3, .object "SeedBattle$Index"), (cs 4, .object "SeedBattle$Copy"), (cs 5, .long), (cs 6, .double)]

def gA : Nat → Option (Nat × Nat) := fun k => match k with
  | 3 => some (1, 64)
  | 5 => some (0, 24)
  | 6 => some (0, 24)
  | 7 => some (0, 24)
  | 8 => some (0, 24)
  | 9 => some (0, 24)
  | 10 => some (0, 4)
  | 13 => some (1, 64)
  | 15 => some (0, 24)
  | 16 => some (0, 24)
  | 17 => some (0, 24)
  | 18 => some (0, 24)
  | 19 => some (0, 24)
  | 20 => some (0, 4)
  | 22 => some (0, 4800)
  | 23 => some (0, 24)
  | 26 => some (0, 4)
  | 27 => some (0, 4)
  | 29 => some (0, 61)
  | 31 => some (0, 61)
  | 33 => some (0, 61)
  | 35 => some (0, 61)
  | 37 => some (0, 60)
  | 38 => some (0, 60)
  | 39 => some (0, 60)
  | 41 => some (0, 60)
  | 42 => some (0, 60)
  | 43 => some (0, 60)
  | 45 => some (0, 60)
  | 46 => some (0, 60)
  | 47 => some (0, 60)
  | 49 => some (0, 60)
  | 50 => some (0, 60)
  | 51 => some (0, 60)
  | _ => none
def gO (cs : Nat → ClassId) (a : Nat → Nat) (sc : Nat → Int32) : Nat → va_E := fun k => match k with
  | 0 => .inr (8, [.ref (a 1), .ref (a 11), .ref (a 21), .ref (a 24), .ref (a 25), .ref (a 26), .ref (a 27), .int (sc 0), .int (sc 1), .int (sc 2)])
  | 1 => .inr (3, [.ref (a 2), .ref (a 4), .ref (a 9), .ref (a 10)])
  | 2 => .inr (5, [.ref (a 3)])
  | 4 => .inr (7, [.ref (a 5), .ref (a 6), .ref (a 7), .ref (a 8), .int (sc 3)])
  | 11 => .inr (3, [.ref (a 12), .ref (a 14), .ref (a 19), .ref (a 20)])
  | 12 => .inr (5, [.ref (a 13)])
  | 14 => .inr (7, [.ref (a 15), .ref (a 16), .ref (a 17), .ref (a 18), .int (sc 4)])
  | 21 => .inr (6, [.ref (a 22), .ref (a 23)])
  | 24 => .inl (cs 3, 4, .inr (.inr (.inr (.inr (fun i => some (a (28 + 2 * i)))))))
  | 25 => .inl (cs 4, 4, .inr (.inr (.inr (.inr (fun i => some (a (36 + 4 * i)))))))
  | 28 => .inr (4, [.ref (a 29), .int (sc 10)])
  | 30 => .inr (4, [.ref (a 31), .int (sc 11)])
  | 32 => .inr (4, [.ref (a 33), .int (sc 12)])
  | 34 => .inr (4, [.ref (a 35), .int (sc 13)])
  | 36 => .inr (2, [.ref (a 37), .ref (a 38), .ref (a 39), .int (sc 20), .int (sc 24), .int (sc 28), .int (sc 32)])
  | 40 => .inr (2, [.ref (a 41), .ref (a 42), .ref (a 43), .int (sc 21), .int (sc 25), .int (sc 29), .int (sc 33)])
  | 44 => .inr (2, [.ref (a 45), .ref (a 46), .ref (a 47), .int (sc 22), .int (sc 26), .int (sc 30), .int (sc 34)])
  | 48 => .inr (2, [.ref (a 49), .ref (a 50), .ref (a 51), .int (sc 23), .int (sc 27), .int (sc 31), .int (sc 35)])
  | _ => .inr (0, [])
abbrev gW (cs : Nat → ClassId) (a : Nat → Nat) (g : St) : va_W := uW 52 gA (gO cs a) cs a g
def mA : Nat → Option (Nat × Nat) := fun k => match k with
  | 1 => some (0, 24)
  | 2 => some (0, 24)
  | 3 => some (0, 24)
  | 4 => some (0, 24)
  | 5 => some (0, 24)
  | 6 => some (0, 24)
  | 7 => some (1, 24)
  | 8 => some (2, 16)
  | 9 => some (0, 244)
  | 10 => some (0, 4)
  | 11 => some (0, 244)
  | 12 => some (0, 4)
  | 13 => some (2, 64)
  | 14 => some (2, 16)
  | 15 => some (2, 16)
  | _ => none
def mO (a : Nat → Nat) (sc : Nat → Int32) : Nat → va_E := fun k => match k with
  | 0 => .inr (9, [.ref (a 1), .ref (a 2), .ref (a 3), .ref (a 4), .ref (a 5), .ref (a 6), .ref (a 7), .ref (a 8), .ref (a 9), .ref (a 10), .ref (a 11), .ref (a 12), .ref (a 13), .ref (a 14), .ref (a 15), .int (sc 0), .int (sc 1), .int (sc 2), .int (sc 3), .int (sc 4)])
  | _ => .inr (0, [])
abbrev mW (cs : Nat → ClassId) (a : Nat → Nat) (g : St) : va_W := uW 16 mA (mO a) cs a g
theorem f_game {cs : Nat → ClassId} {a : Nat → Nat} : (0 < 52 ∧ gA 0 = none) ∧ ∀ sc, gO cs a sc 0 = .inr (8, [.ref (a 1), .ref (a 11), .ref (a 21), .ref (a 24), .ref (a 25), .ref (a 26), .ref (a 27), .int (sc 0), .int (sc 1), .int (sc 2)]) := ⟨⟨by decide, rfl⟩, fun _ => rfl⟩
theorem f_field {cs : Nat → ClassId} {a : Nat → Nat} {w : Nat} (h : w < 2) : (1 + 10 * w < 52 ∧ gA (1 + 10 * w) = none) ∧ ∀ sc, gO cs a sc (1 + 10 * w) = .inr (3, [.ref (a (2 + 10 * w)), .ref (a (4 + 10 * w)), .ref (a (9 + 10 * w)), .ref (a (10 + 10 * w))]) := by
  match w, h with
  | 0, _ => exact ⟨⟨by decide, rfl⟩, fun _ => rfl⟩
  | 1, _ => exact ⟨⟨by decide, rfl⟩, fun _ => rfl⟩
theorem f_land {cs : Nat → ClassId} {a : Nat → Nat} {w : Nat} (h : w < 2) : (2 + 10 * w < 52 ∧ gA (2 + 10 * w) = none) ∧ ∀ sc, gO cs a sc (2 + 10 * w) = .inr (5, [.ref (a (3 + 10 * w))]) := by
  match w, h with
  | 0, _ => exact ⟨⟨by decide, rfl⟩, fun _ => rfl⟩
  | 1, _ => exact ⟨⟨by decide, rfl⟩, fun _ => rfl⟩
theorem f_grounds {w : Nat} (h : w < 2) : 3 + 10 * w < 52 ∧ gA (3 + 10 * w) = some (1, 64) := by
  match w, h with
  | 0, _ => exact ⟨by decide, rfl⟩
  | 1, _ => exact ⟨by decide, rfl⟩
theorem f_units {cs : Nat → ClassId} {a : Nat → Nat} {w : Nat} (h : w < 2) : (4 + 10 * w < 52 ∧ gA (4 + 10 * w) = none) ∧ ∀ sc, gO cs a sc (4 + 10 * w) = .inr (7, [.ref (a (5 + 10 * w)), .ref (a (6 + 10 * w)), .ref (a (7 + 10 * w)), .ref (a (8 + 10 * w)), .int (sc (3 + w))]) := by
  match w, h with
  | 0, _ => exact ⟨⟨by decide, rfl⟩, fun _ => rfl⟩
  | 1, _ => exact ⟨⟨by decide, rfl⟩, fun _ => rfl⟩
theorem f_owners {w : Nat} (h : w < 2) : 5 + 10 * w < 52 ∧ gA (5 + 10 * w) = some (0, 24) := by
  match w, h with
  | 0, _ => exact ⟨by decide, rfl⟩
  | 1, _ => exact ⟨by decide, rfl⟩
theorem f_kinds {w : Nat} (h : w < 2) : 6 + 10 * w < 52 ∧ gA (6 + 10 * w) = some (0, 24) := by
  match w, h with
  | 0, _ => exact ⟨by decide, rfl⟩
  | 1, _ => exact ⟨by decide, rfl⟩
theorem f_starts {w : Nat} (h : w < 2) : 7 + 10 * w < 52 ∧ gA (7 + 10 * w) = some (0, 24) := by
  match w, h with
  | 0, _ => exact ⟨by decide, rfl⟩
  | 1, _ => exact ⟨by decide, rfl⟩
theorem f_places {w : Nat} (h : w < 2) : 8 + 10 * w < 52 ∧ gA (8 + 10 * w) = some (0, 24) := by
  match w, h with
  | 0, _ => exact ⟨by decide, rfl⟩
  | 1, _ => exact ⟨by decide, rfl⟩
theorem f_wants {w : Nat} (h : w < 2) : 9 + 10 * w < 52 ∧ gA (9 + 10 * w) = some (0, 24) := by
  match w, h with
  | 0, _ => exact ⟨by decide, rfl⟩
  | 1, _ => exact ⟨by decide, rfl⟩
theorem f_powers {w : Nat} (h : w < 2) : 10 + 10 * w < 52 ∧ gA (10 + 10 * w) = some (0, 4) := by
  match w, h with
  | 0, _ => exact ⟨by decide, rfl⟩
  | 1, _ => exact ⟨by decide, rfl⟩
theorem f_orders {cs : Nat → ClassId} {a : Nat → Nat} : (21 < 52 ∧ gA 21 = none) ∧ ∀ sc, gO cs a sc 21 = .inr (6, [.ref (a 22), .ref (a 23)]) := ⟨⟨by decide, rfl⟩, fun _ => rfl⟩
theorem f_dirs : 22 < 52 ∧ gA 22 = some (0, 4800) := ⟨by decide, rfl⟩
theorem f_given : 23 < 52 ∧ gA 23 = some (0, 24) := ⟨by decide, rfl⟩
theorem f_treaties : 26 < 52 ∧ gA 26 = some (0, 4) := ⟨by decide, rfl⟩
theorem f_sights : 27 < 52 ∧ gA 27 = some (0, 4) := ⟨by decide, rfl⟩
theorem f_index {cs : Nat → ClassId} {a : Nat → Nat} {p : Nat} (h : p < 4) : (28 + 2 * p < 52 ∧ gA (28 + 2 * p) = none) ∧ ∀ sc, gO cs a sc (28 + 2 * p) = .inr (4, [.ref (a (29 + 2 * p)), .int (sc (10 + p))]) := by
  match p, h with
  | 0, _ => exact ⟨⟨by decide, rfl⟩, fun _ => rfl⟩
  | 1, _ => exact ⟨⟨by decide, rfl⟩, fun _ => rfl⟩
  | 2, _ => exact ⟨⟨by decide, rfl⟩, fun _ => rfl⟩
  | 3, _ => exact ⟨⟨by decide, rfl⟩, fun _ => rfl⟩
theorem f_numbers {p : Nat} (h : p < 4) : 29 + 2 * p < 52 ∧ gA (29 + 2 * p) = some (0, 61) := by
  match p, h with
  | 0, _ => exact ⟨by decide, rfl⟩
  | 1, _ => exact ⟨by decide, rfl⟩
  | 2, _ => exact ⟨by decide, rfl⟩
  | 3, _ => exact ⟨by decide, rfl⟩
theorem f_copy {cs : Nat → ClassId} {a : Nat → Nat} {p : Nat} (h : p < 4) : (36 + 4 * p < 52 ∧ gA (36 + 4 * p) = none) ∧ ∀ sc, gO cs a sc (36 + 4 * p) = .inr (2, [.ref (a (37 + 4 * p)), .ref (a (38 + 4 * p)), .ref (a (39 + 4 * p)), .int (sc (20 + p)), .int (sc (24 + p)), .int (sc (28 + p)), .int (sc (32 + p))]) := by
  match p, h with
  | 0, _ => exact ⟨⟨by decide, rfl⟩, fun _ => rfl⟩
  | 1, _ => exact ⟨⟨by decide, rfl⟩, fun _ => rfl⟩
  | 2, _ => exact ⟨⟨by decide, rfl⟩, fun _ => rfl⟩
  | 3, _ => exact ⟨⟨by decide, rfl⟩, fun _ => rfl⟩
theorem f_cnums {p : Nat} (h : p < 4) : 37 + 4 * p < 52 ∧ gA (37 + 4 * p) = some (0, 60) := by
  match p, h with
  | 0, _ => exact ⟨by decide, rfl⟩
  | 1, _ => exact ⟨by decide, rfl⟩
  | 2, _ => exact ⟨by decide, rfl⟩
  | 3, _ => exact ⟨by decide, rfl⟩
theorem f_cpar {p : Nat} (h : p < 4) : 38 + 4 * p < 52 ∧ gA (38 + 4 * p) = some (0, 60) := by
  match p, h with
  | 0, _ => exact ⟨by decide, rfl⟩
  | 1, _ => exact ⟨by decide, rfl⟩
  | 2, _ => exact ⟨by decide, rfl⟩
  | 3, _ => exact ⟨by decide, rfl⟩
theorem f_corig {p : Nat} (h : p < 4) : 39 + 4 * p < 52 ∧ gA (39 + 4 * p) = some (0, 60) := by
  match p, h with
  | 0, _ => exact ⟨by decide, rfl⟩
  | 1, _ => exact ⟨by decide, rfl⟩
  | 2, _ => exact ⟨by decide, rfl⟩
  | 3, _ => exact ⟨by decide, rfl⟩
theorem f_idxs {cs : Nat → ClassId} {a : Nat → Nat} : (24 < 52 ∧ gA 24 = none) ∧ ∀ sc, gO cs a sc 24 = .inl (cs 3, 4, .inr (.inr (.inr (.inr (fun i => some (a (28 + 2 * i))))))) := ⟨⟨by decide, rfl⟩, fun _ => rfl⟩
theorem f_cpys {cs : Nat → ClassId} {a : Nat → Nat} : (25 < 52 ∧ gA 25 = none) ∧ ∀ sc, gO cs a sc 25 = .inl (cs 4, 4, .inr (.inr (.inr (.inr (fun i => some (a (36 + 4 * i))))))) := ⟨⟨by decide, rfl⟩, fun _ => rfl⟩
theorem f_model {a : Nat → Nat} : (0 < 16 ∧ mA 0 = none) ∧ ∀ sc, mO a sc 0 = .inr (9, [.ref (a 1), .ref (a 2), .ref (a 3), .ref (a 4), .ref (a 5), .ref (a 6), .ref (a 7), .ref (a 8), .ref (a 9), .ref (a 10), .ref (a 11), .ref (a 12), .ref (a 13), .ref (a 14), .ref (a 15), .int (sc 0), .int (sc 1), .int (sc 2), .int (sc 3), .int (sc 4)]) := ⟨⟨by decide, rfl⟩, fun _ => rfl⟩
theorem f_m_player : 1 < 16 ∧ mA 1 = some (0, 24) := ⟨by decide, rfl⟩
theorem f_m_cell : 2 < 16 ∧ mA 2 = some (0, 24) := ⟨by decide, rfl⟩
theorem f_m_wants : 3 < 16 ∧ mA 3 = some (0, 24) := ⟨by decide, rfl⟩
theorem f_m_many : 4 < 16 ∧ mA 4 = some (0, 24) := ⟨by decide, rfl⟩
theorem f_m_first : 5 < 16 ∧ mA 5 = some (0, 24) := ⟨by decide, rfl⟩
theorem f_m_second : 6 < 16 ∧ mA 6 = some (0, 24) := ⟨by decide, rfl⟩
theorem f_m_kind : 7 < 16 ∧ mA 7 = some (1, 24) := ⟨by decide, rfl⟩
theorem f_m_treaty : 8 < 16 ∧ mA 8 = some (2, 16) := ⟨by decide, rfl⟩
theorem f_m_index : 9 < 16 ∧ mA 9 = some (0, 244) := ⟨by decide, rfl⟩
theorem f_m_size : 10 < 16 ∧ mA 10 = some (0, 4) := ⟨by decide, rfl⟩
theorem f_m_saved : 11 < 16 ∧ mA 11 = some (0, 244) := ⟨by decide, rfl⟩
theorem f_m_savedSize : 12 < 16 ∧ mA 12 = some (0, 4) := ⟨by decide, rfl⟩
theorem f_m_broken : 13 < 16 ∧ mA 13 = some (2, 64) := ⟨by decide, rfl⟩
theorem f_m_ally : 14 < 16 ∧ mA 14 = some (2, 16) := ⟨by decide, rfl⟩
theorem f_m_ended : 15 < 16 ∧ mA 15 = some (2, 16) := ⟨by decide, rfl⟩
theorem gO_off {cs : Nat → ClassId} {a : Nat → Nat} {sc sc2 : Nat → Int32} {k : Nat} (h : match k with
  | 0 => sc 0 = sc2 0 ∧ sc 1 = sc2 1 ∧ sc 2 = sc2 2
  | 4 => sc 3 = sc2 3
  | 14 => sc 4 = sc2 4
  | 28 => sc 10 = sc2 10
  | 30 => sc 11 = sc2 11
  | 32 => sc 12 = sc2 12
  | 34 => sc 13 = sc2 13
  | 36 => sc 20 = sc2 20 ∧ sc 24 = sc2 24 ∧ sc 28 = sc2 28 ∧ sc 32 = sc2 32
  | 40 => sc 21 = sc2 21 ∧ sc 25 = sc2 25 ∧ sc 29 = sc2 29 ∧ sc 33 = sc2 33
  | 44 => sc 22 = sc2 22 ∧ sc 26 = sc2 26 ∧ sc 30 = sc2 30 ∧ sc 34 = sc2 34
  | 48 => sc 23 = sc2 23 ∧ sc 27 = sc2 27 ∧ sc 31 = sc2 31 ∧ sc 35 = sc2 35
  | _ => True) : gO cs a sc k = gO cs a sc2 k := by
  unfold gO
  split <;> simp_all
end
section
/-! PART 03: what holds of every start: statics, strings, links of the nest; and the rows of the kit over worlds of this form -/
def nestW : List Cond := [
  .fieldLinkNest "SeedBattle" 170 "SeedBattle$Index" "count" "I" "SeedBattle",
  .fieldLinkNest "SeedBattle" 206 "SeedBattle$Copy" "size" "I" "SeedBattle",
  .fieldLinkNest "SeedBattle" 257 "SeedBattle$Copy" "allyBits" "I" "SeedBattle",
  .fieldLinkNest "SeedBattle" 47 "SeedBattle$Field" "land" "LSeedBattle$Land;" "SeedBattle",
  .fieldLinkNest "SeedBattle" 57 "SeedBattle$Field" "units" "LSeedBattle$Units;" "SeedBattle",
  .fieldLinkNest "SeedBattle" 61 "SeedBattle$Units" "count" "I" "SeedBattle",
  .fieldLinkNest "SeedBattle$Field" 46 "SeedBattle$Units" "count" "I" "SeedBattle",
  .fieldLinkNest "SeedBattle$Copy" 21 "SeedBattle$Index" "count" "I" "SeedBattle",
  .fieldLinkNest "SeedBattle$Land" 28 "SeedBattle" "COLUMN_MOVES" "[I" "SeedBattle",
  .fieldLinkNest "SeedBattle$Land" 32 "SeedBattle" "ROW_MOVES" "[I" "SeedBattle",
  .fieldLinkNest "SeedBattle$Units" 36 "SeedBattle" "KIND_SIGHTS" "[I" "SeedBattle",
  .fieldLinkNest "SeedBattle$Units" 39 "SeedBattle" "KIND_STEPS" "[I" "SeedBattle",
  .fieldLinkNest "SeedBattle$Units" 42 "SeedBattle" "KIND_POWERS" "[I" "SeedBattle",
  .methodLinkNest "SeedBattle" 45 ⟨"SeedBattle$Index", "<init>", "()V"⟩ "SeedBattle",
  .methodLinkNest "SeedBattle" 46 ⟨"SeedBattle$Copy", "<init>", "()V"⟩ "SeedBattle",
  .methodLinkNest "SeedBattle" 9 ⟨"SeedBattle$Field", "<init>", "()V"⟩ "SeedBattle",
  .methodLinkNest "SeedBattle$Copy" 60 ⟨"SeedBattle", "turnOf", "(I)I"⟩ "SeedBattle",
  .methodLinkNest "SeedBattle$Copy" 63 ⟨"SeedBattle", "placeOf", "(I)I"⟩ "SeedBattle",
  .methodLinkNest "SeedBattle$Copy" 66 ⟨"SeedBattle", "unitOf", "(I)I"⟩ "SeedBattle",
  .methodLinkNest "SeedBattle$Field" 11 ⟨"SeedBattle$Land", "<init>", "()V"⟩ "SeedBattle",
  .methodLinkNest "SeedBattle$Field" 20 ⟨"SeedBattle$Units", "<init>", "()V"⟩ "SeedBattle",
  .methodLinkNest "SeedBattle$Index" 23 ⟨"SeedBattle", "numberFor", "(III)I"⟩ "SeedBattle",
  .methodLinkNest "SeedBattle$Index" 30 ⟨"SeedBattle", "turnOf", "(I)I"⟩ "SeedBattle",
  .methodLinkNest "SeedBattle$Index" 34 ⟨"SeedBattle", "unitOf", "(I)I"⟩ "SeedBattle",
  .methodLinkNest "SeedBattle$Index" 37 ⟨"SeedBattle", "placeOf", "(I)I"⟩ "SeedBattle",
  .methodLinkNest "SeedBattle$Land" 24 ⟨"SeedBattle", "isCell", "(I)Z"⟩ "SeedBattle"]
theorem nestW_warm {s U : State} (hW : s.WarmedH U.vm) (h : ∀ w ∈ nestW, va_Nw w s) : ∀ w ∈ nestW, va_Nw w U := by
  intro w hw
  have h1 := h w hw
  simp only [nestW, List.mem_cons, List.not_mem_nil, or_false] at hw
  rcases hw with rfl | rfl | rfl | rfl | rfl | rfl | rfl | rfl | rfl | rfl | rfl | rfl | rfl | rfl | rfl | rfl | rfl | rfl | rfl | rfl | rfl | rfl | rfl | rfl | rfl | rfl <;> first | exact va_Nw.warmF hW h1 | exact va_Nw.warmM hW h1
theorem nestW_same {u U : State} (hv : U.vm = u.vm) (h : ∀ w ∈ nestW, va_Nw w u) : ∀ w ∈ nestW, va_Nw w U := by
  intro w hw
  have h1 := h w hw
  simp only [nestW, List.mem_cons, List.not_mem_nil, or_false] at hw
  rcases hw with rfl | rfl | rfl | rfl | rfl | rfl | rfl | rfl | rfl | rfl | rfl | rfl | rfl | rfl | rfl | rfl | rfl | rfl | rfl | rfl | rfl | rfl | rfl | rfl | rfl | rfl <;> exact va_Nw.same rfl hv.symm h1
/-- the texts of what is thrown -/
def strW : List (Nat × String) := [(105, "the cell is water or taken"), (111, "no more units, or a turn was done"), (120, "no such direction"), (132, "the unit is lost or has all its orders"), (137, "99 turns were done"), (162, "both players are the same"), (173, "no such index"), (187, "no such thing"), (194, "no sighting on this cell"), (200, "no sighting of this unit"), (224, "no such block"), (232, "no such number"), (234, "its block is broken"), (251, "a block is broken"), (269, "there are no units"), (272, "there are no sightings"), (283, "no such player"), (288, "no such cell"), (293, "no such unit"), (295, "there is no save"), (69, "there is a unit"), (97, "no such kind")]
/-- rows of numbers that the class keeps for good -/
def kSights : Nat → Int32 := fun j => match j with | 0 => 3 | 1 => 2 | _ => 4
def kSteps : Nat → Int32 := fun j => match j with | 0 => 2 | 1 => 1 | _ => 0
def kPowers : Nat → Int32 := fun j => match j with | 0 => 1 | 1 => 3 | _ => 2
def kCols : Nat → Int32 := fun j => match j with | 0 => 0 | 1 => 1 | 2 => 1 | 3 => 1 | 4 => 0 | 5 => -1 | 6 => -1 | _ => -1
def kRows : Nat → Int32 := fun j => match j with | 0 => -1 | 1 => -1 | 2 => 0 | 3 => 1 | 4 => 1 | 5 => 1 | 6 => 0 | _ => -1
/-- the two texts that are read: GROUNDS, KINDS -/
def kLen : List Nat := [8, 3]
def kByt : List (List Int32) := [[112, 112, 112, 112, 119, 119, 104, 120], [115, 97, 116]]
def zT (nm : String) (N : Nat) (f : Nat → Int32) (t : Nat) (F : Nat → Prop) (U : State) (H : Heap) : Prop := va_Z "SeedBattle" nm "[I" (.ref t) F U H ∧ va_T .int t N (fun j => .int (f j)) F U H
def zF (az : Nat → Nat) (F : Nat → Prop) (U : State) (H : Heap) : Prop :=
  (vx_Zq Bundle.tN "UNASSIGNED_STACK" Bundle.steD F U H ∧ vx_Zq Bundle.tN "SUPPRESSED_SENTINEL" Bundle.listD F U H) ∧
  (∀ w ∈ nestW, va_Nw w U) ∧ (∀ q ∈ strW, ∃ sa, vk_R "SeedBattle" q.1 q.2 sa U) ∧
  (zT "KIND_SIGHTS" 3 kSights (az 0) F U H ∧ zT "KIND_STEPS" 3 kSteps (az 1) F U H ∧ zT "KIND_POWERS" 3 kPowers (az 2) F U H ∧ zT "COLUMN_MOVES" 8 kCols (az 3) F U H ∧ zT "ROW_MOVES" 8 kRows (az 4) F U H) ∧
  (vk_S 2 kLen kByt (fun i => az (5 + i)) (fun i => az (7 + i)) F U H ∧ vk_R "SeedBattle$Land" 16 "ppppwwhx" (az 5) U ∧ vk_R "SeedBattle" 87 "sat" (az 6) U) ∧
  va_Z "java/lang/String" "COMPACT_STRINGS" "Z" (.int 1) F U H
theorem zT.warm {nm : String} {N : Nat} {f : Nat → Int32} {t : Nat} {F : Nat → Prop} {s U : State} {H : Heap} (hW : s.vm.Alike U.vm) (h : zT nm N f t F s H) : zT nm N f t F U H := ⟨va_Z.moved hW h.1, va_T.moved hW h.2⟩
theorem zT.kept {nm : String} {N : Nat} {f : Nat → Int32} {t : Nat} {F : Nat → Prop} {U : State} {H H1 : Heap} (h : zT nm N f t F U H) (hq : ∀ a : Nat, a < H.size → ¬ F a → H1[a]? = H[a]?) : zT nm N f t F U H1 := ⟨va_Z.kept h.1 hq, va_T.kept h.2 hq⟩
theorem zT.narrow {nm : String} {N : Nat} {f : Nat → Int32} {t : Nat} {F B : Nat → Prop} {U : State} {H : Heap} (h : zT nm N f t F U H) (hq : ∀ q, B q → F q) : zT nm N f t B U H := ⟨va_Z.narrow h.1 hq, va_T.narrow h.2 hq⟩
theorem zF.warm {az : Nat → Nat} {F : Nat → Prop} {s U : State} {H : Heap} (hW : s.WarmedH U.vm) (h : zF az F s H) : zF az F U H := by
  obtain ⟨⟨a1, a2⟩, b, c, ⟨d1, d2, d3, d4, d5⟩, ⟨e1, e2, e3⟩, f1⟩ := h
  have hA := hW.alike
  exact ⟨⟨vx_Zq.moved hA a1, vx_Zq.moved hA a2⟩, nestW_warm hW b, fun q hq => (c q hq).imp fun sa h => vk_R.warm hW h, ⟨d1.warm hA, d2.warm hA, d3.warm hA, d4.warm hA, d5.warm hA⟩, ⟨vk_S.moved hA e1, vk_R.warm hW e2, vk_R.warm hW e3⟩, va_Z.moved hA f1⟩
theorem zF.same {az : Nat → Nat} {F : Nat → Prop} {u U : State} {H : Heap} (hv : U.vm = u.vm) (h : zF az F u H) : zF az F U H := by
  obtain ⟨⟨a1, a2⟩, b, c, ⟨d1, d2, d3, d4, d5⟩, ⟨e1, e2, e3⟩, f1⟩ := h
  have hA : u.vm.Alike U.vm := by rw [hv]; exact Vm.Alike.refl _
  exact ⟨⟨vx_Zq.moved hA a1, vx_Zq.moved hA a2⟩, nestW_same hv b, fun q hq => (c q hq).imp fun sa h => vk_R.same hv h, ⟨d1.warm hA, d2.warm hA, d3.warm hA, d4.warm hA, d5.warm hA⟩, ⟨vk_S.moved hA e1, vk_R.same hv e2, vk_R.same hv e3⟩, va_Z.moved hA f1⟩
theorem zF.kept {az : Nat → Nat} {F : Nat → Prop} {U : State} {H H1 : Heap} (h : zF az F U H) (hq : ∀ a : Nat, a < H.size → ¬ F a → H1[a]? = H[a]?) : zF az F U H1 := by
  obtain ⟨⟨a1, a2⟩, b, c, ⟨d1, d2, d3, d4, d5⟩, ⟨e1, e2, e3⟩, f1⟩ := h
  exact ⟨⟨vx_Zq.kept a1 hq, vx_Zq.kept a2 hq⟩, b, c, ⟨d1.kept hq, d2.kept hq, d3.kept hq, d4.kept hq, d5.kept hq⟩, ⟨vk_S.kept e1 hq, e2, e3⟩, va_Z.kept f1 hq⟩
theorem zF.narrow {az : Nat → Nat} {F B : Nat → Prop} {U : State} {H : Heap} (h : zF az F U H) (hq : ∀ q, B q → F q) : zF az B U H := by
  obtain ⟨⟨a1, a2⟩, b, c, ⟨d1, d2, d3, d4, d5⟩, ⟨e1, e2, e3⟩, f1⟩ := h
  exact ⟨⟨vx_Zq.narrow a1 hq, vx_Zq.narrow a2 hq⟩, b, c, ⟨d1.narrow hq, d2.narrow hq, d3.narrow hq, d4.narrow hq, d5.narrow hq⟩, ⟨vk_S.narrow e1 hq, e2, e3⟩, va_Z.narrow f1 hq⟩
/-- a method's world: the cells, apart and in the region F; the frame since the start -/
def uE (D : va_G) (n : Nat) (A : Nat → Option (Nat × Nat)) (O : (Nat → Int32) → Nat → va_E) (cs : Nat → ClassId) (a : Nat → Nat) (F : Nat → Prop) (s : State) (g : St) (H : Heap) (locs : List Loc) : Prop :=
  va_P D vwCl (uW n A O cs a g) H ∧ va_D F (uW n A O cs a g) ∧ va_S F s.heap H locs
/-- what stays while a method runs -/
def uC (p : Program) (m : MethodId) (c : Code) (cc : ByteArray) (nL : Nat) (s : State) (args : Array Value) (Ts : List Cond) (own : String) (D : va_G) (cs az : Nat → Nat) (F : Nat → Prop) : Prop :=
  CallFix p m c cc nL s args Ts own ∧ va_K D vwCl (gT cs) s ∧ (∀ q : Nat, s.heap.size ≤ q → F q) ∧ zF az F s s.heap
section GR
variable {p : Program} {l : Launch} {e : Env} {R : Room} {s : State} {m : MethodId} {args : Array Value} {below : List Frame} {meth : Method} {c : Code} {H : Heap} {locs : List Loc} {cells slots : Nat} {Q : State → Prop}
variable {pc : Nat} {ls : Array Slot} {rest : List Value} {cc : ByteArray} {nL : Nat} {Ts : List Cond} {own : String} {D : va_G} {cs a az : Nat → Nat} {F : Nat → Prop} {n : Nat} {A : Nat → Option (Nat × Nat)} {O : (Nat → Int32) → Nat → va_E} {g : St}
theorem G_iald (hC : uC p m c cc nL s args Ts own D cs az F) (hE : uE D n A O cs a F s g H locs) {k N : Nat} (hf : k < n ∧ A k = some (0, N)) {i : Int32} (hin : vp_in i N) (hdg : decode cc pc = .ok (.iaload, 1))
    (kk : W p l e R s m args below meth c H locs cells slots Q (F0 m (pc + 1) ls (.int (g.1 k i.toNatClampNeg) :: rest))) : W p l e R s m args below meth c H locs cells slots Q (F0 m pc ls (.int i :: .ref (a k) :: rest)) :=
  va_iald hC.1.1 hC.1.2.1 hC.2.1 hE.1 k 0 (uW_arr hf) rfl hin hdg kk
theorem G_cald (hC : uC p m c cc nL s args Ts own D cs az F) (hE : uE D n A O cs a F s g H locs) {k N : Nat} (hf : k < n ∧ A k = some (1, N)) {i : Int32} (hin : vp_in i N) (hdg : decode cc pc = .ok (.caload, 1))
    (kk : W p l e R s m args below meth c H locs cells slots Q (F0 m (pc + 1) ls (.int (g.1 k i.toNatClampNeg) :: rest))) : W p l e R s m args below meth c H locs cells slots Q (F0 m pc ls (.int i :: .ref (a k) :: rest)) :=
  va_cald hC.1.1 hC.1.2.1 hC.2.1 hE.1 k 1 (uW_arr hf) rfl hin hdg kk
theorem G_zald (hC : uC p m c cc nL s args Ts own D cs az F) (hE : uE D n A O cs a F s g H locs) {k N : Nat} (hf : k < n ∧ A k = some (2, N)) {i : Int32} (hin : vp_in i N) (hdg : decode cc pc = .ok (.baload, 1))
    (kk : W p l e R s m args below meth c H locs cells slots Q (F0 m (pc + 1) ls (.int (g.1 k i.toNatClampNeg) :: rest))) : W p l e R s m args below meth c H locs cells slots Q (F0 m pc ls (.int i :: .ref (a k) :: rest)) :=
  va_zald hC.1.1 hC.1.2.1 hC.2.1 hE.1 k 2 (uW_arr hf) rfl hin hdg kk
theorem G_aald (hC : uC p m c cc nL s args Ts own D cs az F) (hE : uE D n A O cs a F s g H locs) {k t N : Nat} {C : String} {f : Nat → Nat} (hf : (k < n ∧ A k = none) ∧ ∀ sc, O sc k = .inl (cs t, N, .inr (.inr (.inr (.inr (fun i => some (f i))))))) (ht : (gT cs)[t]? = some (cs t, .object C)) {i : Int32} (hin : vp_in i N) (hdg : decode cc pc = .ok (.aaload, 1))
    (kk : W p l e R s m args below meth c H locs cells slots Q (F0 m (pc + 1) ls (.ref (f i.toNatClampNeg) :: rest))) : W p l e R s m args below meth c H locs cells slots Q (F0 m pc ls (.int i :: .ref (a k) :: rest)) :=
  va_aldq hC.1.1 hC.1.2.1 hC.2.1 hE.1 k t (uW_obj hf.1 (hf.2 _)) ht hin hdg kk
theorem G_iast (hC : uC p m c cc nL s args Ts own D cs az F) (hE : uE D n A O cs a F s g H locs) {k N : Nat} (hf : k < n ∧ A k = some (0, N)) {i x : Int32} (hin : vp_in i N) (hdg : decode cc pc = .ok (.iastore, 1))
    (kk : ∀ (H : Heap) (locs : List Loc), uE D n A O cs a F s (sA g k (upd (g.1 k) i.toNatClampNeg x)) H locs → W p l e R s m args below meth c H locs cells slots Q (F0 m (pc + 1) ls rest)) : W p l e R s m args below meth c H locs cells slots Q (F0 m pc ls (.int x :: .int i :: .ref (a k) :: rest)) :=
  va_iast hC.1.1 hC.1.2.1 hC.2.1 hE.1 hE.2.1 hE.2.2 k 0 (uW_arr hf) rfl hin hdg (fun H1 l1 h1 h2 h3 => kk H1 l1 ⟨by rw [← uW_setA hf]; exact h1, by rw [← uW_setA hf]; exact h2, h3⟩)
theorem G_cast (hC : uC p m c cc nL s args Ts own D cs az F) (hE : uE D n A O cs a F s g H locs) {k N : Nat} (hf : k < n ∧ A k = some (1, N)) {i x : Int32} (hin : vp_in i N) (hdg : decode cc pc = .ok (.castore, 1))
    (kk : ∀ (H : Heap) (locs : List Loc), uE D n A O cs a F s (sA g k (upd (g.1 k) i.toNatClampNeg (vp_nar .char x))) H locs → W p l e R s m args below meth c H locs cells slots Q (F0 m (pc + 1) ls rest)) : W p l e R s m args below meth c H locs cells slots Q (F0 m pc ls (.int x :: .int i :: .ref (a k) :: rest)) :=
  va_cast hC.1.1 hC.1.2.1 hC.2.1 hE.1 hE.2.1 hE.2.2 k 1 (uW_arr hf) rfl hin hdg (fun H1 l1 h1 h2 h3 => kk H1 l1 ⟨by rw [← uW_setA hf]; exact h1, by rw [← uW_setA hf]; exact h2, h3⟩)
theorem G_zast (hC : uC p m c cc nL s args Ts own D cs az F) (hE : uE D n A O cs a F s g H locs) {k N : Nat} (hf : k < n ∧ A k = some (2, N)) {i x : Int32} (hin : vp_in i N) (hdg : decode cc pc = .ok (.bastore, 1))
    (kk : ∀ (H : Heap) (locs : List Loc), uE D n A O cs a F s (sA g k (upd (g.1 k) i.toNatClampNeg (vp_nar .boolean x))) H locs → W p l e R s m args below meth c H locs cells slots Q (F0 m (pc + 1) ls rest)) : W p l e R s m args below meth c H locs cells slots Q (F0 m pc ls (.int x :: .int i :: .ref (a k) :: rest)) :=
  va_zast hC.1.1 hC.1.2.1 hC.2.1 hE.1 hE.2.1 hE.2.2 k 2 (uW_arr hf) rfl hin hdg (fun H1 l1 h1 h2 h3 => kk H1 l1 ⟨by rw [← uW_setA hf]; exact h1, by rw [← uW_setA hf]; exact h2, h3⟩)
theorem G_get (hC : uC p m c cc nL s args Ts own D cs az F) (hE : uE D n A O cs a F s g H locs) {C : String} {T : u_T} {Nf ci index : Nat} (hin : ∀ w ∈ u_ws C T Nf, w ∈ Ts) {k : Nat} {fs : (Nat → Int32) → List Value} (hf : (k < n ∧ A k = none) ∧ ∀ sc, O sc k = .inr (ci, fs sc)) (hc : vwCl[ci]? = some (C, T, Nf)) (j : Nat) (hj : j < Nf)
    (hlink : (Cond.fieldLink own index (T j).1 (T j).2.1 (T j).2.2.1).before args s = true) {v : Value} (hv : (fs g.2)[j]? = some v) (hdg : decode cc pc = .ok (.getfield index, 3))
    (kk : W p l e R s m args below meth c H locs cells slots Q (F0 m (pc + 3) ls (v :: rest))) : W p l e R s m args below meth c H locs cells slots Q (F0 m pc ls (.ref (a k) :: rest)) :=
  va_get hC.1.1 hC.1.2.1 hC.1.2.2.2.2 hin hC.1.2.2.2.1 hC.2.1 hE.1 k (uW_obj hf.1 (hf.2 _)) hc j hj hlink (fun _ h => h) hv hdg kk
theorem G_getN (hC : uC p m c cc nL s args Ts own D cs az F) (hE : uE D n A O cs a F s g H locs) {C : String} {T : u_T} {Nf ci index : Nat} (hin : ∀ w ∈ u_ws C T Nf, w ∈ Ts) {k : Nat} {fs : (Nat → Int32) → List Value} (hf : (k < n ∧ A k = none) ∧ ∀ sc, O sc k = .inr (ci, fs sc)) (hc : vwCl[ci]? = some (C, T, Nf)) (j : Nat) (hj : j < Nf)
    (hlink : Cond.fieldLinkNest own index (T j).1 (T j).2.1 (T j).2.2.1 "SeedBattle" ∈ nestW) {v : Value} (hv : (fs g.2)[j]? = some v) (hdg : decode cc pc = .ok (.getfield index, 3))
    (kk : W p l e R s m args below meth c H locs cells slots Q (F0 m (pc + 3) ls (v :: rest))) : W p l e R s m args below meth c H locs cells slots Q (F0 m pc ls (.ref (a k) :: rest)) :=
  va_getN hC.1.1 hC.1.2.1 hC.1.2.2.2.2 hin hC.1.2.2.2.1 hC.2.1 hE.1 k (uW_obj hf.1 (hf.2 _)) hc j hj (va_Nw.use rfl (hC.2.2.2.2.1 _ hlink)) (fun _ h => h) hv hdg kk
theorem G_put (hC : uC p m c cc nL s args Ts own D cs az F) (hE : uE D n A O cs a F s g H locs) {C : String} {T : u_T} {Nf ci index : Nat} (hin : ∀ w ∈ u_ws C T Nf, w ∈ Ts) (ty0 : Nat → FieldType) (hty : ∀ k, k < Nf → parseFieldDescriptor (T k).2.2.1 = some (ty0 k)) (hnm : ∀ a, a < Nf → ∀ b, b < Nf → a ≠ b → (T a).2.1 ≠ (T b).2.1)
    {k : Nat} {fs : (Nat → Int32) → List Value} (hf : (k < n ∧ A k = none) ∧ ∀ sc, O sc k = .inr (ci, fs sc)) (hc : vwCl[ci]? = some (C, T, Nf)) (j i : Nat) (hj : j < Nf)
    (hlink : (Cond.fieldLink own index (T j).1 (T j).2.1 (T j).2.2.1).before args s = true) (hfin : (T j).2.2.2 = false) {ty : FieldType} {v : Int32} (hd : parseFieldDescriptor (T j).2.2.1 = some ty) (hn : narrow ty (.int v) = .int v) (hfit : fits ty (.int v) = true)
    (hl : j < (fs g.2).length) (hset : (fs g.2).set j (.int v) = fs (sS g i v).2) (hoff : ∀ q, q < n → q ≠ k → O (sS g i v).2 q = O g.2 q) (hdg : decode cc pc = .ok (.putfield index, 3))
    (kk : ∀ (H : Heap) (locs : List Loc), uE D n A O cs a F s (sS g i v) H locs → W p l e R s m args below meth c H locs cells slots Q (F0 m (pc + 3) ls rest)) : W p l e R s m args below meth c H locs cells slots Q (F0 m pc ls (.int v :: .ref (a k) :: rest)) :=
  have hs : (uW n A O cs a g).set k (a k, .inr (ci, (fs g.2).set j (.int v))) = uW n A O cs a (sS g i v) := uW_setS hf.1 (by rw [hf.2, hset]) hoff
  va_put hC.1.1 hC.1.2.1 hC.1.2.2.2.2 hin ty0 hty hnm hC.1.2.2.2.1 hC.2.1 hE.1 hE.2.1 hE.2.2 k (uW_obj hf.1 (hf.2 _)) hc j hj hlink (fun _ h => h) hfin hd hn hfit hl hdg (fun H1 l1 h1 h2 h3 => kk H1 l1 ⟨by rw [← hs]; exact h1, by rw [← hs]; exact h2, h3⟩)
end GR
/-! contracts over such a world -/
def uP (D : va_G) (cs az : Nat → Nat) (Wl : St → va_W) (sz : Nat) (av : List Value) (g : St) : Array Value → State → Prop :=
  va_Pc av (fun U => U.heap.size = sz ∧ va_P D vwCl (Wl g) U.heap ∧ va_K D vwCl (gT cs) U ∧ va_D (fun _ => True) (Wl g) ∧ zF az (va_A (Wl g) sz) U U.heap)
theorem uP_blind {D : va_G} {cs az : Nat → Nat} {Wl : St → va_W} {sz : Nat} {av : List Value} {g : St} : FrameBlind (uP D cs az Wl sz av g) := by
  intro a U j mk h
  obtain ⟨h0, h1, h2, h3, h4, h5⟩ := h
  exact ⟨h0, h1, h2, va_K.moved (u := U) (U := U.calling j mk a) (Vm.Alike.refl U.vm) h3, h4, zF.same (u := U) (U := U.calling j mk a) rfl h5⟩
theorem uP_at {D : va_G} {cs az : Nat → Nat} {n : Nat} {A : Nat → Option (Nat × Nat)} {O : (Nat → Int32) → Nat → va_E} {a : Nat → Nat} {F : Nat → Prop} {s U : State} {H : Heap} {locs : List Loc} {g : St} {av : List Value}
    (hK : va_K D vwCl (gT cs) s) (hA : ∀ q : Nat, s.heap.size ≤ q → F q) (hZ : zF az F s s.heap) (hE : uE D n A O cs a F s g H locs) (hU : U.heap = H) (hW : s.WarmedH U.vm) : uP D cs az (uW n A O cs a) H.size av g av.toArray U := by
  refine ⟨rfl, by rw [hU], by rw [hU]; exact hE.1, va_K.moved hW.alike hK, hE.2.1.weaken (fun _ _ _ _ => trivial), ?_⟩
  rw [hU]
  refine zF.narrow ((zF.warm hW hZ).kept hE.2.2.2.1) ?_
  intro q h
  rcases h with ⟨k, e, h⟩ | h
  · exact hE.2.1.2 k (q, e) h
  · exact hA q (Nat.le_trans hE.2.2.1 h)
theorem uE_free {D : va_G} {cs : Nat → Nat} {n : Nat} {A : Nat → Option (Nat × Nat)} {O : (Nat → Int32) → Nat → va_E} {a : Nat → Nat} {F : Nat → Prop} {s : State} {H : Heap} {locs : List Loc} {g : St} (hA : ∀ q : Nat, s.heap.size ≤ q → F q) (hE : uE D n A O cs a F s g H locs) : ∀ q, va_A (uW n A O cs a g) H.size q → F q := by
  intro q h
  rcases h with ⟨k, e, h⟩ | h
  · exact hE.2.1.2 k (q, e) h
  · exact hA q (Nat.le_trans hE.2.2.1 h)
def uB (D : va_G) (Wl : St → va_W) (g : St) (t : State) : Prop := va_P D vwCl (Wl g) t.heap
/-- an answer of 32 bits / of 64 / none: from this state g, for these arguments, post holds of the answer and of the state behind -/
def uMi (l : Launch) (y : MethodName) (ws : List Cond) (rm : Room) (D : va_G) (cs az : Nat → Nat) (Wl : St → va_W) (av : List Value) (g : St) (post : Int32 → St → Prop) : Prop :=
  ∀ sz, Met l y ws rm (uP D cs az Wl sz av g) (va_Qi post (uB D Wl) (va_A (Wl g) sz)) 0 0 (va_A (Wl g) sz)
def uMl (l : Launch) (y : MethodName) (ws : List Cond) (rm : Room) (D : va_G) (cs az : Nat → Nat) (Wl : St → va_W) (av : List Value) (g : St) (post : Int64 → St → Prop) : Prop :=
  ∀ sz, Met l y ws rm (uP D cs az Wl sz av g) (va_Ql post (uB D Wl) (va_A (Wl g) sz)) 0 0 (va_A (Wl g) sz)
def uMv (l : Launch) (y : MethodName) (ws : List Cond) (rm : Room) (D : va_G) (cs az : Nat → Nat) (Wl : St → va_W) (av : List Value) (g : St) (post : St → Prop) : Prop :=
  ∀ sz, Met l y ws rm (uP D cs az Wl sz av g) (va_Qv post (uB D Wl) (va_A (Wl g) sz)) 0 0 (va_A (Wl g) sz)
/-- a method that needs no world -/
def uMs (l : Launch) (y : MethodName) (ws : List Cond) (rm : Room) (av : List Value) (post : Int32 → Prop) : Prop :=
  Met l y ws rm (va_Pc av (fun U => ∀ w ∈ nestW, va_Nw w U)) (vp_Si post) 0 0 (fun _ => False)
section GM
variable {l : Launch} {D : va_G} {cs a az : Nat → Nat} {n : Nat} {A : Nat → Option (Nat × Nat)} {O : (Nat → Int32) → Nat → va_E} {g : St} {y : MethodName} {ws ws' : List Cond} {rm : Room} {maxL : Nat} {av : List Value} {cc : ByteArray}
theorem u_pre {p : Program} {ret : Option FieldType} {e : Env} {s s₁ : State} {m : MethodId} {args : Array Value} {below : List Frame} {meth : Method} {c : Code} {sz : Nat}
    (B : BodyLoose p l y (headSpec ws rm) cc maxL ret e s m args below meth c s₁) (hml : c.maxLocals = maxL) (hv : uP D cs az (uW n A O cs a) sz av g args s) :
    args = av.toArray ∧ sz = s.heap.size ∧ uC p m c cc maxL s args ws y.cls D cs az (va_A (uW n A O cs a g) s.heap.size) ∧ uE D n A O cs a (va_A (uW n A O cs a g) s.heap.size) s g s.heap [] ∧ meth.sig.returnType = ret ∧ meth.locks = false := by
  obtain ⟨h0, h1, h2, h3, h4, h5⟩ := hv
  subst h1
  exact ⟨h0, rfl, ⟨⟨B.exec, B.bytes, hml, findClass_of_methodNamed B.named, atoms_spec (ws := ws) B.pre⟩, h3, fun q h => Or.inr h, h5⟩, ⟨h2, h4.self, va_S.rf⟩, B.returns, B.notSynchronized⟩
theorem u_ofI {post : Int32 → St → Prop} {rt : FieldType} (hy : plainName y.cls = true) (hw : ws = Cond.code y cc maxL (some rt) :: ws') (hav : (lg_sl av).length ≤ maxL)
    (body : ∀ p e s m args below meth c F ls, uC p m c cc maxL s args ws y.cls D cs az F → meth.sig.returnType = some rt → meth.locks = false → lv_has ls maxL (lv_args 0 av) → uE D n A O cs a F s g s.heap [] →
      W p l e rm s m args below meth c s.heap [] 0 0 (MQ below (va_Qi post (uB D (uW n A O cs a)) F) args s 0 0 F) (F0 m 0 ls [])) : uMi l y ws rm D cs az (uW n A O cs a) av g post := by
  intro sz
  refine Met.ofW (cc := cc) (maxL := maxL) (ret := some rt) hy hw ?_
  intro p e s m args below meth c s₁ B hml hv
  obtain ⟨h0, h1, hC, hE, hr, hk⟩ := u_pre B hml hv
  subst h1
  rw [h0, lg_entry_eq]
  rw [h0] at hC
  exact body p e s m av.toArray below meth c _ _ hC hr hk (lv_entry av hav) hE
theorem u_ofL {post : Int64 → St → Prop} {rt : FieldType} (hy : plainName y.cls = true) (hw : ws = Cond.code y cc maxL (some rt) :: ws') (hav : (lg_sl av).length ≤ maxL)
    (body : ∀ p e s m args below meth c F ls, uC p m c cc maxL s args ws y.cls D cs az F → meth.sig.returnType = some rt → meth.locks = false → lv_has ls maxL (lv_args 0 av) → uE D n A O cs a F s g s.heap [] →
      W p l e rm s m args below meth c s.heap [] 0 0 (MQ below (va_Ql post (uB D (uW n A O cs a)) F) args s 0 0 F) (F0 m 0 ls [])) : uMl l y ws rm D cs az (uW n A O cs a) av g post := by
  intro sz
  refine Met.ofW (cc := cc) (maxL := maxL) (ret := some rt) hy hw ?_
  intro p e s m args below meth c s₁ B hml hv
  obtain ⟨h0, h1, hC, hE, hr, hk⟩ := u_pre B hml hv
  subst h1
  rw [h0, lg_entry_eq]
  rw [h0] at hC
  exact body p e s m av.toArray below meth c _ _ hC hr hk (lv_entry av hav) hE
theorem u_ofV {post : St → Prop} (hy : plainName y.cls = true) (hw : ws = Cond.code y cc maxL none :: ws') (hav : (lg_sl av).length ≤ maxL)
    (body : ∀ p e s m args below meth c F ls, uC p m c cc maxL s args ws y.cls D cs az F → meth.sig.returnType = none → meth.locks = false → lv_has ls maxL (lv_args 0 av) → uE D n A O cs a F s g s.heap [] →
      W p l e rm s m args below meth c s.heap [] 0 0 (MQ below (va_Qv post (uB D (uW n A O cs a)) F) args s 0 0 F) (F0 m 0 ls [])) : uMv l y ws rm D cs az (uW n A O cs a) av g post := by
  intro sz
  refine Met.ofW (cc := cc) (maxL := maxL) (ret := none) hy hw ?_
  intro p e s m args below meth c s₁ B hml hv
  obtain ⟨h0, h1, hC, hE, hr, hk⟩ := u_pre B hml hv
  subst h1
  rw [h0, lg_entry_eq]
  rw [h0] at hC
  exact body p e s m av.toArray below meth c _ _ hC hr hk (lv_entry av hav) hE
theorem u_ofS {post : Int32 → Prop} {rt : FieldType} (hy : plainName y.cls = true) (hw : ws = Cond.code y cc maxL (some rt) :: ws') (hav : (lg_sl av).length ≤ maxL)
    (body : ∀ p e s m args below meth c ls, CallFix p m c cc maxL s args ws y.cls → (∀ w ∈ nestW, va_Nw w s) → meth.sig.returnType = some rt → meth.locks = false → lv_has ls maxL (lv_args 0 av) →
      W p l e rm s m args below meth c s.heap [] 0 0 (MQ below (vp_Si post) args s 0 0 (fun _ => False)) (F0 m 0 ls [])) : uMs l y ws rm av post := by
  refine Met.ofW (cc := cc) (maxL := maxL) (ret := some rt) hy hw ?_
  intro p e s m args below meth c s₁ B hml hv
  obtain ⟨h0, h1⟩ := hv
  rw [h0, lg_entry_eq]
  have hts := atoms_spec (ws := ws) B.pre
  rw [h0] at hts
  exact body p e s m av.toArray below meth c _ ⟨B.exec, B.bytes, hml, findClass_of_methodNamed B.named, hts⟩ h1 B.returns B.notSynchronized (lv_entry av hav)
end GM
section GC
variable {p : Program} {l : Launch} {e : Env} {R : Room} {s : State} {m : MethodId} {args : Array Value} {below : List Frame} {meth : Method} {c : Code} {H : Heap} {locs : List Loc} {cells slots : Nat} {Q : State → Prop}
variable {pc : Nat} {ls : Array Slot} {rest st0 : List Value} {cc : ByteArray} {nL : Nat} {Ts : List Cond} {own : String} {D : va_G} {cs a az : Nat → Nat} {F : Nat → Prop} {n : Nat} {A : Nat → Option (Nat × Nat)} {O : (Nat → Int32) → Nat → va_E} {g : St}
theorem G_iret {post : Int32 → St → Prop} {v : Int32} (hC : uC p m c cc nL s args Ts own D cs az F) (hr : meth.sig.returnType = some .int) (hk : meth.locks = false) (hE : uE D n A O cs a F s g H locs) (hp : post v g) (hdg : decode cc pc = .ok (.ireturn, 1)) :
    W p l e R s m args below meth c H locs 0 0 (MQ below (va_Qi post (uB D (uW n A O cs a)) F) args s 0 0 F) (F0 m pc ls [.int v]) :=
  W.iret hC.1.1 hC.1.2.1 hr (fun t ht _ => ⟨⟨v, g, rfl, hp, by unfold uB; rw [ht]; exact hE.1⟩, hE.2.2.F ht⟩) hE.2.2.2.2 hdg hk
theorem G_zret {post : Int32 → St → Prop} {v : Int32} {ty : FieldType} (hC : uC p m c cc nL s args Ts own D cs az F) (hr : meth.sig.returnType = some ty) (hk : meth.locks = false) (hE : uE D n A O cs a F s g H locs) (hn : narrow ty (.int v) = .int v) (hp : post v g) (hdg : decode cc pc = .ok (.ireturn, 1)) :
    W p l e R s m args below meth c H locs 0 0 (MQ below (va_Qi post (uB D (uW n A O cs a)) F) args s 0 0 F) (F0 m pc ls [.int v]) :=
  W.zret hC.1.1 hC.1.2.1 hr hn (fun t ht _ => ⟨⟨v, g, rfl, hp, by unfold uB; rw [ht]; exact hE.1⟩, hE.2.2.F ht⟩) hE.2.2.2.2 hdg hk
theorem G_lret {post : Int64 → St → Prop} {v : Int64} (hC : uC p m c cc nL s args Ts own D cs az F) (hr : meth.sig.returnType = some .long) (hk : meth.locks = false) (hE : uE D n A O cs a F s g H locs) (hp : post v g) (hdg : decode cc pc = .ok (.lreturn, 1)) :
    W p l e R s m args below meth c H locs 0 0 (MQ below (va_Ql post (uB D (uW n A O cs a)) F) args s 0 0 F) (F0 m pc ls [.long v]) :=
  W.lret hC.1.1 hC.1.2.1 hr (fun t ht _ => ⟨⟨v, g, rfl, hp, by unfold uB; rw [ht]; exact hE.1⟩, hE.2.2.F ht⟩) hE.2.2.2.2 hdg hk
theorem G_vret {post : St → Prop} (hC : uC p m c cc nL s args Ts own D cs az F) (hr : meth.sig.returnType = none) (hk : meth.locks = false) (hE : uE D n A O cs a F s g H locs) (hp : post g) (hdg : decode cc pc = .ok (.return_, 1)) :
    W p l e R s m args below meth c H locs 0 0 (MQ below (va_Qv post (uB D (uW n A O cs a)) F) args s 0 0 F) (F0 m pc ls []) :=
  W.vret hC.1.1 hC.1.2.1 hr (fun t ht _ => ⟨⟨g, rfl, hp, by unfold uB; rw [ht]; exact hE.1⟩, hE.2.2.F ht⟩) hE.2.2.2.2 hdg hk
theorem S_iret {post : Int32 → Prop} {v : Int32} {ty : FieldType} (hC : CallFix p m c cc nL s args Ts own) (hr : meth.sig.returnType = some ty) (hk : meth.locks = false) (hn : narrow ty (.int v) = .int v) (hp : post v) (hdg : decode cc pc = .ok (.ireturn, 1)) :
    W p l e R s m args below meth c s.heap [] 0 0 (MQ below (vp_Si post) args s 0 0 (fun _ => False)) (F0 m pc ls [.int v]) :=
  W.zret hC.1 hC.2.1 hr hn (fun t ht _ => ⟨v, rfl, hp, ht⟩) (fun _ h => by cases h) hdg hk
variable {y : MethodName} {bytes : ByteArray} {maxL k index q0 ci : Nat} {ws : List Cond} {rm : Room} {C host : String} {T : u_T} {Nf : Nat} {fs : List Value} {As : List Value} {rt : FieldType} {lv : List (Nat × Value)}
theorem uE_call {post : St → Prop} {g' : St} {t : State} {H1 : Heap} {l1 : List Loc} (hE : uE D n A O cs a F s g H locs) (ht : t.heap = H1) (hB : uB D (uW n A O cs a) g' t) (hS : va_S F s.heap H1 l1) : uE D n A O cs a F s g' H1 l1 := ⟨by rw [← ht]; exact hB, uW_dis hE.2.1, hS⟩
theorem G_callVi {post : Int32 → St → Prop} (hC : uC p m c cc nL s args Ts own D cs az F) (hM : uMi l y ws rm D cs az (uW n A O cs a) (.ref (a q0) :: As) g post) (cw : CallW R s args own C index y bytes maxL (some rt) ws rm 0 0 k) {fs : (Nat → Int32) → List Value} (hf : (q0 < n ∧ A q0 = none) ∧ ∀ sc, O sc q0 = .inr (ci, fs sc)) (hc : vwCl[ci]? = some (C, T, Nf))
    (hn : As.length = k) (hl : lv_has ls nL lv) (hst : st0 = As.reverse ++ .ref (a q0) :: rest) (hW : (rest.map fun v => v.category).sum ≤ 8) (hdg : decode cc pc = .ok (.invokevirtual index, 3)) (hE : uE D n A O cs a F s g H locs)
    (kk : ∀ (r : Int32) (g' : St) (H : Heap) (locs : List Loc), post r g' → uE D n A O cs a F s g' H locs → W p l e R s m args below meth c H locs 0 0 Q (F0 m (pc + 3) ls (.int r :: rest))) : W p l e R s m args below meth c H locs 0 0 Q (F0 m pc ls st0) := by
  subst hst
  exact va_calli (va_runV (As := As) (rest := rest) hC.1 (hM H.size) cw ⟨uP_blind, va_recv hC.2.1 hE.1 hc (uW_obj hf.1 (hf.2 _)), fun U hU hW => uP_at hC.2.1 hC.2.2.1 hC.2.2.2 hE hU hW⟩ rfl hn hl.1 rfl (lv_room hW) hdg ⟨Nat.zero_le _, Nat.zero_le _⟩) hE.2.2 (fun q _ h => uE_free hC.2.2.1 hE q h) (uE_free hC.2.2.1 hE)
    (fun r u t H1 l1 ht _ hp hB _ _ hS => kk r u H1 l1 hp (uE_call (post := fun _ => True) hE ht hB hS))
theorem G_callVv {post : St → Prop} (hC : uC p m c cc nL s args Ts own D cs az F) (hM : uMv l y ws rm D cs az (uW n A O cs a) (.ref (a q0) :: As) g post) (cw : CallW R s args own C index y bytes maxL none ws rm 0 0 k) {fs : (Nat → Int32) → List Value} (hf : (q0 < n ∧ A q0 = none) ∧ ∀ sc, O sc q0 = .inr (ci, fs sc)) (hc : vwCl[ci]? = some (C, T, Nf))
    (hn : As.length = k) (hl : lv_has ls nL lv) (hst : st0 = As.reverse ++ .ref (a q0) :: rest) (hW : (rest.map fun v => v.category).sum ≤ 8) (hdg : decode cc pc = .ok (.invokevirtual index, 3)) (hE : uE D n A O cs a F s g H locs)
    (kk : ∀ (g' : St) (H : Heap) (locs : List Loc), post g' → uE D n A O cs a F s g' H locs → W p l e R s m args below meth c H locs 0 0 Q (F0 m (pc + 3) ls rest)) : W p l e R s m args below meth c H locs 0 0 Q (F0 m pc ls st0) := by
  subst hst
  exact va_callv (va_runV (As := As) (rest := rest) hC.1 (hM H.size) cw ⟨uP_blind, va_recv hC.2.1 hE.1 hc (uW_obj hf.1 (hf.2 _)), fun U hU hW => uP_at hC.2.1 hC.2.2.1 hC.2.2.2 hE hU hW⟩ rfl hn hl.1 rfl (lv_room hW) hdg ⟨Nat.zero_le _, Nat.zero_le _⟩) hE.2.2 (fun q _ h => uE_free hC.2.2.1 hE q h) (uE_free hC.2.2.1 hE)
    (fun u t H1 l1 ht _ hp hB _ _ hS => kk u H1 l1 hp (uE_call (post := fun _ => True) hE ht hB hS))
theorem G_callVl {post : Int64 → St → Prop} (hC : uC p m c cc nL s args Ts own D cs az F) (hM : uMl l y ws rm D cs az (uW n A O cs a) (.ref (a q0) :: As) g post) (cw : CallW R s args own C index y bytes maxL (some rt) ws rm 0 0 k) {fs : (Nat → Int32) → List Value} (hf : (q0 < n ∧ A q0 = none) ∧ ∀ sc, O sc q0 = .inr (ci, fs sc)) (hc : vwCl[ci]? = some (C, T, Nf))
    (hn : As.length = k) (hl : lv_has ls nL lv) (hst : st0 = As.reverse ++ .ref (a q0) :: rest) (hW : (rest.map fun v => v.category).sum ≤ 8) (hdg : decode cc pc = .ok (.invokevirtual index, 3)) (hE : uE D n A O cs a F s g H locs)
    (kk : ∀ (r : Int64) (g' : St) (H : Heap) (locs : List Loc), post r g' → uE D n A O cs a F s g' H locs → W p l e R s m args below meth c H locs 0 0 Q (F0 m (pc + 3) ls (.long r :: rest))) : W p l e R s m args below meth c H locs 0 0 Q (F0 m pc ls st0) := by
  subst hst
  exact va_calll (va_runV (As := As) (rest := rest) hC.1 (hM H.size) cw ⟨uP_blind, va_recv hC.2.1 hE.1 hc (uW_obj hf.1 (hf.2 _)), fun U hU hW => uP_at hC.2.1 hC.2.2.1 hC.2.2.2 hE hU hW⟩ rfl hn hl.1 rfl (lv_room hW) hdg ⟨Nat.zero_le _, Nat.zero_le _⟩) hE.2.2 (fun q _ h => uE_free hC.2.2.1 hE q h) (uE_free hC.2.2.1 hE)
    (fun r u t H1 l1 ht _ hp hB _ _ hS => kk r u H1 l1 hp (uE_call (post := fun _ => True) hE ht hB hS))
end GC
section GS
variable {p : Program} {l : Launch} {e : Env} {R : Room} {s : State} {m : MethodId} {args : Array Value} {below : List Frame} {meth : Method} {c : Code} {H : Heap} {locs : List Loc} {cells slots : Nat} {Q : State → Prop}
variable {pc : Nat} {ls : Array Slot} {rest st0 : List Value} {cc : ByteArray} {nL : Nat} {Ts : List Cond} {own : String} {a : Array Value}
theorem G_runSs {post : Int32 → Prop} (hr : va_Run p l e R s m args below meth c H locs cells slots 0 0 (F0 m pc ls st0) rest (vp_Si post a) (fun _ => False))
    (kk : ∀ r : Int32, post r → W p l e R s m args below meth c H locs cells slots Q (F0 m (pc + 3) ls (.int r :: rest))) : W p l e R s m args below meth c H locs cells slots Q (F0 m pc ls st0) := by
  intro T hT X
  obtain ⟨v, st₀, t, T', L, h0, X', hL, e1, e2, ⟨r, hv, hp, hh⟩, st⟩ := hr T hT X
  cases hv
  have hL0 : L = [] := by
    cases L with
    | nil => rfl
    | cons q _ => exact (hL q List.mem_cons_self).elim
  subst hL0
  rw [List.append_nil] at X'
  obtain ⟨t2, a1, b1⟩ := kk r hp T' (by rw [e1, hh, h0]) X'
  exact ⟨t2, st t2 a1, b1⟩
variable {y : MethodName} {bytes : ByteArray} {maxL k index : Nat} {ws : List Cond} {rm : Room} {As : List Value} {rt : FieldType} {lv : List (Nat × Value)}
/-- a static method of the class itself, that needs no world -/
theorem G_callSs {post : Int32 → Prop} (hC : CallFix p m c cc nL s args Ts own) (hN : ∀ w ∈ nestW, va_Nw w s) (hM : uMs l y ws rm As post) (cw : CallB R s args own index y bytes maxL (some rt) ws rm 0 0 k ∧ (Cond.static y).before args s = true)
    (hn : As.length = k) (hl : lv_has ls nL lv) (hst : st0 = As.reverse ++ rest) (hW : (rest.map fun v => v.category).sum ≤ 8) (hdg : decode cc pc = .ok (.invokestatic index, 3)) (hc : cells ≤ R.cells) (hs : slots ≤ R.slots)
    (kk : ∀ r : Int32, post r → W p l e R s m args below meth c H locs cells slots Q (F0 m (pc + 3) ls (.int r :: rest))) : W p l e R s m args below meth c H locs cells slots Q (F0 m pc ls st0) := by
  subst hst
  exact G_runSs (va_runS (As := As) (rest := rest) hC hM cw ⟨fun b U j mk h => ⟨h.1, nestW_same (u := U) (U := U.calling j mk b) rfl h.2⟩, fun U _ hW => ⟨rfl, nestW_warm hW hN⟩⟩ rfl hn hl.1 rfl (lv_room hW) hdg ⟨hc, hs⟩) kk
/-- one of another class of the nest -/
theorem G_callNs {post : Int32 → Prop} (hC : CallFix p m c cc nL s args Ts own) (hN : ∀ w ∈ nestW, va_Nw w s) (hM : uMs l y ws rm As post) (cw : va_CN R s args own index y "SeedBattle" bytes maxL (some rt) ws rm 0 0 k ∧ (Cond.static y).before args s = true ∧ True)
    (hn : As.length = k) (hl : lv_has ls nL lv) (hst : st0 = As.reverse ++ rest) (hW : (rest.map fun v => v.category).sum ≤ 8) (hdg : decode cc pc = .ok (.invokestatic index, 3)) (hc : cells ≤ R.cells) (hs : slots ≤ R.slots)
    (kk : ∀ r : Int32, post r → W p l e R s m args below meth c H locs cells slots Q (F0 m (pc + 3) ls (.int r :: rest))) : W p l e R s m args below meth c H locs cells slots Q (F0 m pc ls st0) := by
  subst hst
  exact G_runSs (va_runSN (As := As) (rest := rest) hC hM cw ⟨fun b U j mk h => ⟨h.1, nestW_same (u := U) (U := U.calling j mk b) rfl h.2⟩, fun U _ hW => ⟨rfl, nestW_warm hW hN⟩⟩ rfl hn hl.1 rfl (lv_room hW) hdg ⟨hc, hs⟩) kk
end GS
/-- loops: some number of rounds brings it to the end -/
def itP {σ : Type} (F : (σ → Prop) → σ → Prop) : Nat → σ → Prop
  | 0, _ => False
  | n + 1, x => F (itP F n) x
def lpP {σ : Type} (F : (σ → Prop) → σ → Prop) (x : σ) : Prop := ∃ n, itP F n x
theorem lp_by {σ : Type} {F : (σ → Prop) → σ → Prop} (I : σ → Prop) (μ : σ → Nat) (h : ∀ (K : σ → Prop) (x : σ), I x → (∀ y, I y → μ y < μ x → K y) → F K x) {x : σ} (hx : I x) : lpP F x := by
  have key : ∀ n x, μ x < n → I x → itP F n x := by
    intro n
    induction n with
    | zero => intro x hm; exact absurd hm (Nat.not_lt_zero _)
    | succ n ih => intro x hm hx; exact h _ x hx (fun y hy hlt => ih y (by omega) hy)
  exact ⟨μ x + 1, key _ x (Nat.lt_succ_self _) hx⟩
end
section
theorem dX0_init_0 : decode cX0_init 0 = .ok (.aload_n 0, 1) := by decide +kernel
theorem dX0_init_1 : decode cX0_init 1 = .ok (.invokespecial 3, 3) := by decide +kernel
theorem dX0_init_4 : decode cX0_init 4 = .ok (.aload_n 0, 1) := by decide +kernel
theorem dX0_init_5 : decode cX0_init 5 = .ok (.bipush 60, 2) := by decide +kernel
theorem dX0_init_7 : decode cX0_init 7 = .ok (.newarray .int, 2) := by decide +kernel
theorem dX0_init_9 : decode cX0_init 9 = .ok (.putfield 9, 3) := by decide +kernel
theorem dX0_init_12 : decode cX0_init 12 = .ok (.aload_n 0, 1) := by decide +kernel
theorem dX0_init_13 : decode cX0_init 13 = .ok (.bipush 60, 2) := by decide +kernel
theorem dX0_init_15 : decode cX0_init 15 = .ok (.newarray .int, 2) := by decide +kernel
theorem dX0_init_17 : decode cX0_init 17 = .ok (.putfield 15, 3) := by decide +kernel
theorem dX0_init_20 : decode cX0_init 20 = .ok (.aload_n 0, 1) := by decide +kernel
theorem dX0_init_21 : decode cX0_init 21 = .ok (.bipush 60, 2) := by decide +kernel
theorem dX0_init_23 : decode cX0_init 23 = .ok (.newarray .int, 2) := by decide +kernel
theorem dX0_init_25 : decode cX0_init 25 = .ok (.putfield 18, 3) := by decide +kernel
theorem dX0_init_28 : decode cX0_init 28 = .ok (.return_, 1) := by decide +kernel
theorem dX0_take_0 : decode cX0_take 0 = .ok (.aload_n 0, 1) := by decide +kernel
theorem dX0_take_1 : decode cX0_take 1 = .ok (.aload_n 1, 1) := by decide +kernel
theorem dX0_take_2 : decode cX0_take 2 = .ok (.getfield 21, 3) := by decide +kernel
theorem dX0_take_5 : decode cX0_take 5 = .ok (.bipush 60, 2) := by decide +kernel
theorem dX0_take_7 : decode cX0_take 7 = .ok (.invokestatic 27, 3) := by decide +kernel
theorem dX0_take_10 : decode cX0_take 10 = .ok (.putfield 33, 3) := by decide +kernel
theorem dX0_take_13 : decode cX0_take 13 = .ok (.iconst 0, 1) := by decide +kernel
theorem dX0_take_14 : decode cX0_take 14 = .ok (.istore_n 3, 1) := by decide +kernel
theorem dX0_take_15 : decode cX0_take 15 = .ok (.iload_n 3, 1) := by decide +kernel
theorem dX0_take_16 : decode cX0_take 16 = .ok (.aload_n 0, 1) := by decide +kernel
theorem dX0_take_17 : decode cX0_take 17 = .ok (.getfield 33, 3) := by decide +kernel
theorem dX0_take_20 : decode cX0_take 20 = .ok (.if_icmp .ge 31, 3) := by decide +kernel
theorem dX0_take_23 : decode cX0_take 23 = .ok (.aload_n 0, 1) := by decide +kernel
theorem dX0_take_24 : decode cX0_take 24 = .ok (.getfield 9, 3) := by decide +kernel
theorem dX0_take_27 : decode cX0_take 27 = .ok (.iload_n 3, 1) := by decide +kernel
theorem dX0_take_28 : decode cX0_take 28 = .ok (.aload_n 1, 1) := by decide +kernel
theorem dX0_take_29 : decode cX0_take 29 = .ok (.iload_n 3, 1) := by decide +kernel
theorem dX0_take_30 : decode cX0_take 30 = .ok (.invokevirtual 36, 3) := by decide +kernel
theorem dX0_take_33 : decode cX0_take 33 = .ok (.iastore, 1) := by decide +kernel
theorem dX0_take_34 : decode cX0_take 34 = .ok (.aload_n 0, 1) := by decide +kernel
theorem dX0_take_35 : decode cX0_take 35 = .ok (.getfield 18, 3) := by decide +kernel
theorem dX0_take_38 : decode cX0_take 38 = .ok (.iload_n 3, 1) := by decide +kernel
theorem dX0_take_39 : decode cX0_take 39 = .ok (.aload_n 1, 1) := by decide +kernel
theorem dX0_take_40 : decode cX0_take 40 = .ok (.iload_n 3, 1) := by decide +kernel
theorem dX0_take_41 : decode cX0_take 41 = .ok (.invokevirtual 36, 3) := by decide +kernel
theorem dX0_take_44 : decode cX0_take 44 = .ok (.iastore, 1) := by decide +kernel
theorem dX0_take_45 : decode cX0_take 45 = .ok (.iinc 3 1, 3) := by decide +kernel
theorem dX0_take_48 : decode cX0_take 48 = .ok (.goto (-33), 3) := by decide +kernel
theorem dX0_take_51 : decode cX0_take 51 = .ok (.aload_n 0, 1) := by decide +kernel
theorem dX0_take_52 : decode cX0_take 52 = .ok (.iconst 0, 1) := by decide +kernel
theorem dX0_take_53 : decode cX0_take 53 = .ok (.putfield 40, 3) := by decide +kernel
theorem dX0_take_56 : decode cX0_take 56 = .ok (.aload_n 0, 1) := by decide +kernel
theorem dX0_take_57 : decode cX0_take 57 = .ok (.iload_n 2, 1) := by decide +kernel
theorem dX0_take_58 : decode cX0_take 58 = .ok (.putfield 43, 3) := by decide +kernel
theorem dX0_take_61 : decode cX0_take 61 = .ok (.aload_n 0, 1) := by decide +kernel
theorem dX0_take_62 : decode cX0_take 62 = .ok (.iconst 0, 1) := by decide +kernel
theorem dX0_take_63 : decode cX0_take 63 = .ok (.putfield 46, 3) := by decide +kernel
theorem dX0_take_66 : decode cX0_take 66 = .ok (.return_, 1) := by decide +kernel
theorem dX0_keepParity_0 : decode cX0_keepParity 0 = .ok (.iconst 0, 1) := by decide +kernel
theorem dX0_keepParity_1 : decode cX0_keepParity 1 = .ok (.istore_n 2, 1) := by decide +kernel
theorem dX0_keepParity_2 : decode cX0_keepParity 2 = .ok (.iload_n 2, 1) := by decide +kernel
theorem dX0_keepParity_3 : decode cX0_keepParity 3 = .ok (.bipush 60, 2) := by decide +kernel
theorem dX0_keepParity_5 : decode cX0_keepParity 5 = .ok (.if_icmp .ge 27, 3) := by decide +kernel
theorem dX0_keepParity_8 : decode cX0_keepParity 8 = .ok (.aload_n 0, 1) := by decide +kernel
theorem dX0_keepParity_9 : decode cX0_keepParity 9 = .ok (.getfield 15, 3) := by decide +kernel
theorem dX0_keepParity_12 : decode cX0_keepParity 12 = .ok (.iload_n 2, 1) := by decide +kernel
theorem dX0_keepParity_13 : decode cX0_keepParity 13 = .ok (.aload_n 0, 1) := by decide +kernel
theorem dX0_keepParity_14 : decode cX0_keepParity 14 = .ok (.iload_n 2, 1) := by decide +kernel
theorem dX0_keepParity_15 : decode cX0_keepParity 15 = .ok (.invokevirtual 50, 3) := by decide +kernel
theorem dX0_keepParity_18 : decode cX0_keepParity 18 = .ok (.aload_n 0, 1) := by decide +kernel
theorem dX0_keepParity_19 : decode cX0_keepParity 19 = .ok (.iload_n 2, 1) := by decide +kernel
theorem dX0_keepParity_20 : decode cX0_keepParity 20 = .ok (.aload_n 1, 1) := by decide +kernel
theorem dX0_keepParity_21 : decode cX0_keepParity 21 = .ok (.invokevirtual 53, 3) := by decide +kernel
theorem dX0_keepParity_24 : decode cX0_keepParity 24 = .ok (.ixor, 1) := by decide +kernel
theorem dX0_keepParity_25 : decode cX0_keepParity 25 = .ok (.iastore, 1) := by decide +kernel
theorem dX0_keepParity_26 : decode cX0_keepParity 26 = .ok (.iinc 2 1, 3) := by decide +kernel
theorem dX0_keepParity_29 : decode cX0_keepParity 29 = .ok (.goto (-27), 3) := by decide +kernel
theorem dX0_keepParity_32 : decode cX0_keepParity 32 = .ok (.return_, 1) := by decide +kernel
theorem dX0_writeTo_0 : decode cX0_writeTo 0 = .ok (.aload_n 1, 1) := by decide +kernel
theorem dX0_writeTo_1 : decode cX0_writeTo 1 = .ok (.invokevirtual 57, 3) := by decide +kernel
theorem dX0_writeTo_4 : decode cX0_writeTo 4 = .ok (.iconst 0, 1) := by decide +kernel
theorem dX0_writeTo_5 : decode cX0_writeTo 5 = .ok (.istore_n 2, 1) := by decide +kernel
theorem dX0_writeTo_6 : decode cX0_writeTo 6 = .ok (.iload_n 2, 1) := by decide +kernel
theorem dX0_writeTo_7 : decode cX0_writeTo 7 = .ok (.aload_n 0, 1) := by decide +kernel
theorem dX0_writeTo_8 : decode cX0_writeTo 8 = .ok (.getfield 33, 3) := by decide +kernel
theorem dX0_writeTo_11 : decode cX0_writeTo 11 = .ok (.if_icmp .ge 40, 3) := by decide +kernel
theorem dX0_writeTo_14 : decode cX0_writeTo 14 = .ok (.aload_n 1, 1) := by decide +kernel
theorem dX0_writeTo_15 : decode cX0_writeTo 15 = .ok (.aload_n 0, 1) := by decide +kernel
theorem dX0_writeTo_16 : decode cX0_writeTo 16 = .ok (.getfield 9, 3) := by decide +kernel
theorem dX0_writeTo_19 : decode cX0_writeTo 19 = .ok (.iload_n 2, 1) := by decide +kernel
theorem dX0_writeTo_20 : decode cX0_writeTo 20 = .ok (.iaload, 1) := by decide +kernel
theorem dX0_writeTo_21 : decode cX0_writeTo 21 = .ok (.invokestatic 60, 3) := by decide +kernel
theorem dX0_writeTo_24 : decode cX0_writeTo 24 = .ok (.aload_n 0, 1) := by decide +kernel
theorem dX0_writeTo_25 : decode cX0_writeTo 25 = .ok (.getfield 9, 3) := by decide +kernel
theorem dX0_writeTo_28 : decode cX0_writeTo 28 = .ok (.iload_n 2, 1) := by decide +kernel
theorem dX0_writeTo_29 : decode cX0_writeTo 29 = .ok (.iaload, 1) := by decide +kernel
theorem dX0_writeTo_30 : decode cX0_writeTo 30 = .ok (.invokestatic 63, 3) := by decide +kernel
theorem dX0_writeTo_33 : decode cX0_writeTo 33 = .ok (.aload_n 0, 1) := by decide +kernel
theorem dX0_writeTo_34 : decode cX0_writeTo 34 = .ok (.getfield 9, 3) := by decide +kernel
theorem dX0_writeTo_37 : decode cX0_writeTo 37 = .ok (.iload_n 2, 1) := by decide +kernel
theorem dX0_writeTo_38 : decode cX0_writeTo 38 = .ok (.iaload, 1) := by decide +kernel
theorem dX0_writeTo_39 : decode cX0_writeTo 39 = .ok (.invokestatic 66, 3) := by decide +kernel
theorem dX0_writeTo_42 : decode cX0_writeTo 42 = .ok (.invokevirtual 69, 3) := by decide +kernel
theorem dX0_writeTo_45 : decode cX0_writeTo 45 = .ok (.iinc 2 1, 3) := by decide +kernel
theorem dX0_writeTo_48 : decode cX0_writeTo 48 = .ok (.goto (-42), 3) := by decide +kernel
theorem dX0_writeTo_51 : decode cX0_writeTo 51 = .ok (.return_, 1) := by decide +kernel
theorem dX0_blockCount_0 : decode cX0_blockCount 0 = .ok (.aload_n 0, 1) := by decide +kernel
theorem dX0_blockCount_1 : decode cX0_blockCount 1 = .ok (.getfield 33, 3) := by decide +kernel
theorem dX0_blockCount_4 : decode cX0_blockCount 4 = .ok (.iconst 4, 1) := by decide +kernel
theorem dX0_blockCount_5 : decode cX0_blockCount 5 = .ok (.iadd, 1) := by decide +kernel
theorem dX0_blockCount_6 : decode cX0_blockCount 6 = .ok (.iconst 1, 1) := by decide +kernel
theorem dX0_blockCount_7 : decode cX0_blockCount 7 = .ok (.isub, 1) := by decide +kernel
theorem dX0_blockCount_8 : decode cX0_blockCount 8 = .ok (.iconst 4, 1) := by decide +kernel
theorem dX0_blockCount_9 : decode cX0_blockCount 9 = .ok (.idiv, 1) := by decide +kernel
theorem dX0_blockCount_10 : decode cX0_blockCount 10 = .ok (.ireturn, 1) := by decide +kernel
theorem dX0_numberAt_0 : decode cX0_numberAt 0 = .ok (.iload_n 1, 1) := by decide +kernel
theorem dX0_numberAt_1 : decode cX0_numberAt 1 = .ok (.ifCond .lt 20, 3) := by decide +kernel
theorem dX0_numberAt_4 : decode cX0_numberAt 4 = .ok (.iload_n 1, 1) := by decide +kernel
theorem dX0_numberAt_5 : decode cX0_numberAt 5 = .ok (.aload_n 0, 1) := by decide +kernel
theorem dX0_numberAt_6 : decode cX0_numberAt 6 = .ok (.getfield 33, 3) := by decide +kernel
theorem dX0_numberAt_9 : decode cX0_numberAt 9 = .ok (.if_icmp .ge 12, 3) := by decide +kernel
theorem dX0_numberAt_12 : decode cX0_numberAt 12 = .ok (.aload_n 0, 1) := by decide +kernel
theorem dX0_numberAt_13 : decode cX0_numberAt 13 = .ok (.getfield 9, 3) := by decide +kernel
theorem dX0_numberAt_16 : decode cX0_numberAt 16 = .ok (.iload_n 1, 1) := by decide +kernel
theorem dX0_numberAt_17 : decode cX0_numberAt 17 = .ok (.iaload, 1) := by decide +kernel
theorem dX0_numberAt_18 : decode cX0_numberAt 18 = .ok (.goto 4, 3) := by decide +kernel
theorem dX0_numberAt_21 : decode cX0_numberAt 21 = .ok (.iconst 0, 1) := by decide +kernel
theorem dX0_numberAt_22 : decode cX0_numberAt 22 = .ok (.ireturn, 1) := by decide +kernel
theorem dX0_isBroken_0 : decode cX0_isBroken 0 = .ok (.iload_n 1, 1) := by decide +kernel
theorem dX0_isBroken_1 : decode cX0_isBroken 1 = .ok (.ifCond .lt 26, 3) := by decide +kernel
theorem dX0_isBroken_4 : decode cX0_isBroken 4 = .ok (.iload_n 1, 1) := by decide +kernel
theorem dX0_isBroken_5 : decode cX0_isBroken 5 = .ok (.aload_n 0, 1) := by decide +kernel
theorem dX0_isBroken_6 : decode cX0_isBroken 6 = .ok (.invokevirtual 73, 3) := by decide +kernel
theorem dX0_isBroken_9 : decode cX0_isBroken 9 = .ok (.if_icmp .ge 18, 3) := by decide +kernel
theorem dX0_isBroken_12 : decode cX0_isBroken 12 = .ok (.aload_n 0, 1) := by decide +kernel
theorem dX0_isBroken_13 : decode cX0_isBroken 13 = .ok (.getfield 40, 3) := by decide +kernel
theorem dX0_isBroken_16 : decode cX0_isBroken 16 = .ok (.iload_n 1, 1) := by decide +kernel
theorem dX0_isBroken_17 : decode cX0_isBroken 17 = .ok (.ishr, 1) := by decide +kernel
theorem dX0_isBroken_18 : decode cX0_isBroken 18 = .ok (.iconst 1, 1) := by decide +kernel
theorem dX0_isBroken_19 : decode cX0_isBroken 19 = .ok (.iand, 1) := by decide +kernel
theorem dX0_isBroken_20 : decode cX0_isBroken 20 = .ok (.ifCond .eq 7, 3) := by decide +kernel
theorem dX0_isBroken_23 : decode cX0_isBroken 23 = .ok (.iconst 1, 1) := by decide +kernel
theorem dX0_isBroken_24 : decode cX0_isBroken 24 = .ok (.goto 4, 3) := by decide +kernel
theorem dX0_isBroken_27 : decode cX0_isBroken 27 = .ok (.iconst 0, 1) := by decide +kernel
theorem dX0_isBroken_28 : decode cX0_isBroken 28 = .ok (.ireturn, 1) := by decide +kernel
theorem dX0_anyBroken_0 : decode cX0_anyBroken 0 = .ok (.aload_n 0, 1) := by decide +kernel
theorem dX0_anyBroken_1 : decode cX0_anyBroken 1 = .ok (.getfield 40, 3) := by decide +kernel
theorem dX0_anyBroken_4 : decode cX0_anyBroken 4 = .ok (.ifCond .eq 7, 3) := by decide +kernel
theorem dX0_anyBroken_7 : decode cX0_anyBroken 7 = .ok (.iconst 1, 1) := by decide +kernel
theorem dX0_anyBroken_8 : decode cX0_anyBroken 8 = .ok (.goto 4, 3) := by decide +kernel
theorem dX0_anyBroken_11 : decode cX0_anyBroken 11 = .ok (.iconst 0, 1) := by decide +kernel
theorem dX0_anyBroken_12 : decode cX0_anyBroken 12 = .ok (.ireturn, 1) := by decide +kernel
theorem dX0_breakOne_0 : decode cX0_breakOne 0 = .ok (.iload_n 1, 1) := by decide +kernel
theorem dX0_breakOne_1 : decode cX0_breakOne 1 = .ok (.ifCond .lt 11, 3) := by decide +kernel
theorem dX0_breakOne_4 : decode cX0_breakOne 4 = .ok (.iload_n 1, 1) := by decide +kernel
theorem dX0_breakOne_5 : decode cX0_breakOne 5 = .ok (.aload_n 0, 1) := by decide +kernel
theorem dX0_breakOne_6 : decode cX0_breakOne 6 = .ok (.invokevirtual 73, 3) := by decide +kernel
theorem dX0_breakOne_9 : decode cX0_breakOne 9 = .ok (.if_icmp .lt 4, 3) := by decide +kernel
theorem dX0_breakOne_12 : decode cX0_breakOne 12 = .ok (.return_, 1) := by decide +kernel
theorem dX0_breakOne_13 : decode cX0_breakOne 13 = .ok (.aload_n 0, 1) := by decide +kernel
theorem dX0_breakOne_14 : decode cX0_breakOne 14 = .ok (.dup, 1) := by decide +kernel
theorem dX0_breakOne_15 : decode cX0_breakOne 15 = .ok (.getfield 40, 3) := by decide +kernel
theorem dX0_breakOne_18 : decode cX0_breakOne 18 = .ok (.iconst 1, 1) := by decide +kernel
theorem dX0_breakOne_19 : decode cX0_breakOne 19 = .ok (.iload_n 1, 1) := by decide +kernel
theorem dX0_breakOne_20 : decode cX0_breakOne 20 = .ok (.ishl, 1) := by decide +kernel
theorem dX0_breakOne_21 : decode cX0_breakOne 21 = .ok (.ior, 1) := by decide +kernel
theorem dX0_breakOne_22 : decode cX0_breakOne 22 = .ok (.putfield 40, 3) := by decide +kernel
theorem dX0_breakOne_25 : decode cX0_breakOne 25 = .ok (.iconst 4, 1) := by decide +kernel
theorem dX0_breakOne_26 : decode cX0_breakOne 26 = .ok (.iload_n 1, 1) := by decide +kernel
theorem dX0_breakOne_27 : decode cX0_breakOne 27 = .ok (.imul, 1) := by decide +kernel
theorem dX0_breakOne_28 : decode cX0_breakOne 28 = .ok (.istore_n 2, 1) := by decide +kernel
theorem dX0_breakOne_29 : decode cX0_breakOne 29 = .ok (.iload_n 2, 1) := by decide +kernel
theorem dX0_breakOne_30 : decode cX0_breakOne 30 = .ok (.aload_n 0, 1) := by decide +kernel
theorem dX0_breakOne_31 : decode cX0_breakOne 31 = .ok (.iload_n 1, 1) := by decide +kernel
theorem dX0_breakOne_32 : decode cX0_breakOne 32 = .ok (.invokevirtual 77, 3) := by decide +kernel
theorem dX0_breakOne_35 : decode cX0_breakOne 35 = .ok (.if_icmp .ge 16, 3) := by decide +kernel
theorem dX0_breakOne_38 : decode cX0_breakOne 38 = .ok (.aload_n 0, 1) := by decide +kernel
theorem dX0_breakOne_39 : decode cX0_breakOne 39 = .ok (.getfield 9, 3) := by decide +kernel
theorem dX0_breakOne_42 : decode cX0_breakOne 42 = .ok (.iload_n 2, 1) := by decide +kernel
theorem dX0_breakOne_43 : decode cX0_breakOne 43 = .ok (.iconst 0, 1) := by decide +kernel
theorem dX0_breakOne_44 : decode cX0_breakOne 44 = .ok (.iastore, 1) := by decide +kernel
theorem dX0_breakOne_45 : decode cX0_breakOne 45 = .ok (.iinc 2 1, 3) := by decide +kernel
theorem dX0_breakOne_48 : decode cX0_breakOne 48 = .ok (.goto (-19), 3) := by decide +kernel
theorem dX0_breakOne_51 : decode cX0_breakOne 51 = .ok (.return_, 1) := by decide +kernel
theorem dX0_endTreaty_0 : decode cX0_endTreaty 0 = .ok (.aload_n 0, 1) := by decide +kernel
theorem dX0_endTreaty_1 : decode cX0_endTreaty 1 = .ok (.iload_n 1, 1) := by decide +kernel
theorem dX0_endTreaty_2 : decode cX0_endTreaty 2 = .ok (.invokevirtual 80, 3) := by decide +kernel
theorem dX0_endTreaty_5 : decode cX0_endTreaty 5 = .ok (.ifCond .eq 8, 3) := by decide +kernel
theorem dX0_endTreaty_8 : decode cX0_endTreaty 8 = .ok (.aload_n 0, 1) := by decide +kernel
theorem dX0_endTreaty_9 : decode cX0_endTreaty 9 = .ok (.iconst 1, 1) := by decide +kernel
theorem dX0_endTreaty_10 : decode cX0_endTreaty 10 = .ok (.putfield 46, 3) := by decide +kernel
theorem dX0_endTreaty_13 : decode cX0_endTreaty 13 = .ok (.return_, 1) := by decide +kernel
theorem dX0_canRebuild_0 : decode cX0_canRebuild 0 = .ok (.aload_n 0, 1) := by decide +kernel
theorem dX0_canRebuild_1 : decode cX0_canRebuild 1 = .ok (.getfield 43, 3) := by decide +kernel
theorem dX0_canRebuild_4 : decode cX0_canRebuild 4 = .ok (.ifCond .eq 10, 3) := by decide +kernel
theorem dX0_canRebuild_7 : decode cX0_canRebuild 7 = .ok (.aload_n 0, 1) := by decide +kernel
theorem dX0_canRebuild_8 : decode cX0_canRebuild 8 = .ok (.getfield 46, 3) := by decide +kernel
theorem dX0_canRebuild_11 : decode cX0_canRebuild 11 = .ok (.ifCond .eq 5, 3) := by decide +kernel
theorem dX0_canRebuild_14 : decode cX0_canRebuild 14 = .ok (.iconst 0, 1) := by decide +kernel
theorem dX0_canRebuild_15 : decode cX0_canRebuild 15 = .ok (.ireturn, 1) := by decide +kernel
theorem dX0_canRebuild_16 : decode cX0_canRebuild 16 = .ok (.iconst 0, 1) := by decide +kernel
theorem dX0_canRebuild_17 : decode cX0_canRebuild 17 = .ok (.istore_n 3, 1) := by decide +kernel
theorem dX0_canRebuild_18 : decode cX0_canRebuild 18 = .ok (.iload_n 3, 1) := by decide +kernel
theorem dX0_canRebuild_19 : decode cX0_canRebuild 19 = .ok (.iconst 4, 1) := by decide +kernel
theorem dX0_canRebuild_20 : decode cX0_canRebuild 20 = .ok (.if_icmp .ge 29, 3) := by decide +kernel
theorem dX0_canRebuild_23 : decode cX0_canRebuild 23 = .ok (.aload_n 0, 1) := by decide +kernel
theorem dX0_canRebuild_24 : decode cX0_canRebuild 24 = .ok (.iload_n 3, 1) := by decide +kernel
theorem dX0_canRebuild_25 : decode cX0_canRebuild 25 = .ok (.invokevirtual 80, 3) := by decide +kernel
theorem dX0_canRebuild_28 : decode cX0_canRebuild 28 = .ok (.ifCond .eq 15, 3) := by decide +kernel
theorem dX0_canRebuild_31 : decode cX0_canRebuild 31 = .ok (.aload_n 2, 1) := by decide +kernel
theorem dX0_canRebuild_32 : decode cX0_canRebuild 32 = .ok (.iload_n 3, 1) := by decide +kernel
theorem dX0_canRebuild_33 : decode cX0_canRebuild 33 = .ok (.aaload, 1) := by decide +kernel
theorem dX0_canRebuild_34 : decode cX0_canRebuild 34 = .ok (.iload_n 1, 1) := by decide +kernel
theorem dX0_canRebuild_35 : decode cX0_canRebuild 35 = .ok (.invokevirtual 84, 3) := by decide +kernel
theorem dX0_canRebuild_38 : decode cX0_canRebuild 38 = .ok (.ifCond .eq 5, 3) := by decide +kernel
theorem dX0_canRebuild_41 : decode cX0_canRebuild 41 = .ok (.iconst 0, 1) := by decide +kernel
theorem dX0_canRebuild_42 : decode cX0_canRebuild 42 = .ok (.ireturn, 1) := by decide +kernel
theorem dX0_canRebuild_43 : decode cX0_canRebuild 43 = .ok (.iinc 3 1, 3) := by decide +kernel
theorem dX0_canRebuild_46 : decode cX0_canRebuild 46 = .ok (.goto (-28), 3) := by decide +kernel
theorem dX0_canRebuild_49 : decode cX0_canRebuild 49 = .ok (.iconst 1, 1) := by decide +kernel
theorem dX0_canRebuild_50 : decode cX0_canRebuild 50 = .ok (.ireturn, 1) := by decide +kernel
theorem dX0_rebuild_0 : decode cX0_rebuild 0 = .ok (.iload_n 1, 1) := by decide +kernel
theorem dX0_rebuild_1 : decode cX0_rebuild 1 = .ok (.ifCond .lt 11, 3) := by decide +kernel
theorem dX0_rebuild_4 : decode cX0_rebuild 4 = .ok (.iload_n 1, 1) := by decide +kernel
theorem dX0_rebuild_5 : decode cX0_rebuild 5 = .ok (.aload_n 0, 1) := by decide +kernel
theorem dX0_rebuild_6 : decode cX0_rebuild 6 = .ok (.invokevirtual 73, 3) := by decide +kernel
theorem dX0_rebuild_9 : decode cX0_rebuild 9 = .ok (.if_icmp .lt 4, 3) := by decide +kernel
theorem dX0_rebuild_12 : decode cX0_rebuild 12 = .ok (.return_, 1) := by decide +kernel
theorem dX0_rebuild_13 : decode cX0_rebuild 13 = .ok (.iconst 4, 1) := by decide +kernel
theorem dX0_rebuild_14 : decode cX0_rebuild 14 = .ok (.iload_n 1, 1) := by decide +kernel
theorem dX0_rebuild_15 : decode cX0_rebuild 15 = .ok (.imul, 1) := by decide +kernel
theorem dX0_rebuild_16 : decode cX0_rebuild 16 = .ok (.istore_n 3, 1) := by decide +kernel
theorem dX0_rebuild_17 : decode cX0_rebuild 17 = .ok (.iload_n 3, 1) := by decide +kernel
theorem dX0_rebuild_18 : decode cX0_rebuild 18 = .ok (.aload_n 0, 1) := by decide +kernel
theorem dX0_rebuild_19 : decode cX0_rebuild 19 = .ok (.iload_n 1, 1) := by decide +kernel
theorem dX0_rebuild_20 : decode cX0_rebuild 20 = .ok (.invokevirtual 77, 3) := by decide +kernel
theorem dX0_rebuild_23 : decode cX0_rebuild 23 = .ok (.if_icmp .ge 28, 3) := by decide +kernel
theorem dX0_rebuild_26 : decode cX0_rebuild 26 = .ok (.aload_n 0, 1) := by decide +kernel
theorem dX0_rebuild_27 : decode cX0_rebuild 27 = .ok (.getfield 9, 3) := by decide +kernel
theorem dX0_rebuild_30 : decode cX0_rebuild 30 = .ok (.iload_n 3, 1) := by decide +kernel
theorem dX0_rebuild_31 : decode cX0_rebuild 31 = .ok (.aload_n 0, 1) := by decide +kernel
theorem dX0_rebuild_32 : decode cX0_rebuild 32 = .ok (.getfield 15, 3) := by decide +kernel
theorem dX0_rebuild_35 : decode cX0_rebuild 35 = .ok (.iload_n 3, 1) := by decide +kernel
theorem dX0_rebuild_36 : decode cX0_rebuild 36 = .ok (.iaload, 1) := by decide +kernel
theorem dX0_rebuild_37 : decode cX0_rebuild 37 = .ok (.aload_n 0, 1) := by decide +kernel
theorem dX0_rebuild_38 : decode cX0_rebuild 38 = .ok (.iload_n 3, 1) := by decide +kernel
theorem dX0_rebuild_39 : decode cX0_rebuild 39 = .ok (.aload_n 2, 1) := by decide +kernel
theorem dX0_rebuild_40 : decode cX0_rebuild 40 = .ok (.invokevirtual 53, 3) := by decide +kernel
theorem dX0_rebuild_43 : decode cX0_rebuild 43 = .ok (.ixor, 1) := by decide +kernel
theorem dX0_rebuild_44 : decode cX0_rebuild 44 = .ok (.iastore, 1) := by decide +kernel
theorem dX0_rebuild_45 : decode cX0_rebuild 45 = .ok (.iinc 3 1, 3) := by decide +kernel
theorem dX0_rebuild_48 : decode cX0_rebuild 48 = .ok (.goto (-31), 3) := by decide +kernel
theorem dX0_rebuild_51 : decode cX0_rebuild 51 = .ok (.aload_n 0, 1) := by decide +kernel
theorem dX0_rebuild_52 : decode cX0_rebuild 52 = .ok (.dup, 1) := by decide +kernel
theorem dX0_rebuild_53 : decode cX0_rebuild 53 = .ok (.getfield 40, 3) := by decide +kernel
theorem dX0_rebuild_56 : decode cX0_rebuild 56 = .ok (.iconst 1, 1) := by decide +kernel
theorem dX0_rebuild_57 : decode cX0_rebuild 57 = .ok (.iload_n 1, 1) := by decide +kernel
theorem dX0_rebuild_58 : decode cX0_rebuild 58 = .ok (.ishl, 1) := by decide +kernel
theorem dX0_rebuild_59 : decode cX0_rebuild 59 = .ok (.iconst (-1), 1) := by decide +kernel
theorem dX0_rebuild_60 : decode cX0_rebuild 60 = .ok (.ixor, 1) := by decide +kernel
theorem dX0_rebuild_61 : decode cX0_rebuild 61 = .ok (.iand, 1) := by decide +kernel
theorem dX0_rebuild_62 : decode cX0_rebuild 62 = .ok (.putfield 40, 3) := by decide +kernel
theorem dX0_rebuild_65 : decode cX0_rebuild 65 = .ok (.return_, 1) := by decide +kernel
theorem dX0_isAsTaken_0 : decode cX0_isAsTaken 0 = .ok (.iconst 0, 1) := by decide +kernel
theorem dX0_isAsTaken_1 : decode cX0_isAsTaken 1 = .ok (.istore_n 1, 1) := by decide +kernel
theorem dX0_isAsTaken_2 : decode cX0_isAsTaken 2 = .ok (.iload_n 1, 1) := by decide +kernel
theorem dX0_isAsTaken_3 : decode cX0_isAsTaken 3 = .ok (.aload_n 0, 1) := by decide +kernel
theorem dX0_isAsTaken_4 : decode cX0_isAsTaken 4 = .ok (.getfield 33, 3) := by decide +kernel
theorem dX0_isAsTaken_7 : decode cX0_isAsTaken 7 = .ok (.if_icmp .ge 34, 3) := by decide +kernel
theorem dX0_isAsTaken_10 : decode cX0_isAsTaken 10 = .ok (.aload_n 0, 1) := by decide +kernel
theorem dX0_isAsTaken_11 : decode cX0_isAsTaken 11 = .ok (.iload_n 1, 1) := by decide +kernel
theorem dX0_isAsTaken_12 : decode cX0_isAsTaken 12 = .ok (.iconst 4, 1) := by decide +kernel
theorem dX0_isAsTaken_13 : decode cX0_isAsTaken 13 = .ok (.idiv, 1) := by decide +kernel
theorem dX0_isAsTaken_14 : decode cX0_isAsTaken 14 = .ok (.invokevirtual 84, 3) := by decide +kernel
theorem dX0_isAsTaken_17 : decode cX0_isAsTaken 17 = .ok (.ifCond .ne 18, 3) := by decide +kernel
theorem dX0_isAsTaken_20 : decode cX0_isAsTaken 20 = .ok (.aload_n 0, 1) := by decide +kernel
theorem dX0_isAsTaken_21 : decode cX0_isAsTaken 21 = .ok (.aload_n 0, 1) := by decide +kernel
theorem dX0_isAsTaken_22 : decode cX0_isAsTaken 22 = .ok (.getfield 9, 3) := by decide +kernel
theorem dX0_isAsTaken_25 : decode cX0_isAsTaken 25 = .ok (.iload_n 1, 1) := by decide +kernel
theorem dX0_isAsTaken_26 : decode cX0_isAsTaken 26 = .ok (.iaload, 1) := by decide +kernel
theorem dX0_isAsTaken_27 : decode cX0_isAsTaken 27 = .ok (.invokevirtual 87, 3) := by decide +kernel
theorem dX0_isAsTaken_30 : decode cX0_isAsTaken 30 = .ok (.ifCond .ne 5, 3) := by decide +kernel
theorem dX0_isAsTaken_33 : decode cX0_isAsTaken 33 = .ok (.iconst 0, 1) := by decide +kernel
theorem dX0_isAsTaken_34 : decode cX0_isAsTaken 34 = .ok (.ireturn, 1) := by decide +kernel
theorem dX0_isAsTaken_35 : decode cX0_isAsTaken 35 = .ok (.iinc 1 1, 3) := by decide +kernel
theorem dX0_isAsTaken_38 : decode cX0_isAsTaken 38 = .ok (.goto (-36), 3) := by decide +kernel
theorem dX0_isAsTaken_41 : decode cX0_isAsTaken 41 = .ok (.iconst 1, 1) := by decide +kernel
theorem dX0_isAsTaken_42 : decode cX0_isAsTaken 42 = .ok (.ireturn, 1) := by decide +kernel
theorem dX0_wasTaken_0 : decode cX0_wasTaken 0 = .ok (.iconst 0, 1) := by decide +kernel
theorem dX0_wasTaken_1 : decode cX0_wasTaken 1 = .ok (.istore_n 2, 1) := by decide +kernel
theorem dX0_wasTaken_2 : decode cX0_wasTaken 2 = .ok (.iload_n 2, 1) := by decide +kernel
theorem dX0_wasTaken_3 : decode cX0_wasTaken 3 = .ok (.aload_n 0, 1) := by decide +kernel
theorem dX0_wasTaken_4 : decode cX0_wasTaken 4 = .ok (.getfield 33, 3) := by decide +kernel
theorem dX0_wasTaken_7 : decode cX0_wasTaken 7 = .ok (.if_icmp .ge 21, 3) := by decide +kernel
theorem dX0_wasTaken_10 : decode cX0_wasTaken 10 = .ok (.aload_n 0, 1) := by decide +kernel
theorem dX0_wasTaken_11 : decode cX0_wasTaken 11 = .ok (.getfield 18, 3) := by decide +kernel
theorem dX0_wasTaken_14 : decode cX0_wasTaken 14 = .ok (.iload_n 2, 1) := by decide +kernel
theorem dX0_wasTaken_15 : decode cX0_wasTaken 15 = .ok (.iaload, 1) := by decide +kernel
theorem dX0_wasTaken_16 : decode cX0_wasTaken 16 = .ok (.iload_n 1, 1) := by decide +kernel
theorem dX0_wasTaken_17 : decode cX0_wasTaken 17 = .ok (.if_icmp .ne 5, 3) := by decide +kernel
theorem dX0_wasTaken_20 : decode cX0_wasTaken 20 = .ok (.iconst 1, 1) := by decide +kernel
theorem dX0_wasTaken_21 : decode cX0_wasTaken 21 = .ok (.ireturn, 1) := by decide +kernel
theorem dX0_wasTaken_22 : decode cX0_wasTaken 22 = .ok (.iinc 2 1, 3) := by decide +kernel
theorem dX0_wasTaken_25 : decode cX0_wasTaken 25 = .ok (.goto (-23), 3) := by decide +kernel
theorem dX0_wasTaken_28 : decode cX0_wasTaken 28 = .ok (.iconst 0, 1) := by decide +kernel
theorem dX0_wasTaken_29 : decode cX0_wasTaken 29 = .ok (.ireturn, 1) := by decide +kernel
theorem dX0_isAlly_0 : decode cX0_isAlly 0 = .ok (.aload_n 0, 1) := by decide +kernel
theorem dX0_isAlly_1 : decode cX0_isAlly 1 = .ok (.getfield 43, 3) := by decide +kernel
theorem dX0_isAlly_4 : decode cX0_isAlly 4 = .ok (.iload_n 1, 1) := by decide +kernel
theorem dX0_isAlly_5 : decode cX0_isAlly 5 = .ok (.ishr, 1) := by decide +kernel
theorem dX0_isAlly_6 : decode cX0_isAlly 6 = .ok (.iconst 1, 1) := by decide +kernel
theorem dX0_isAlly_7 : decode cX0_isAlly 7 = .ok (.iand, 1) := by decide +kernel
theorem dX0_isAlly_8 : decode cX0_isAlly 8 = .ok (.ifCond .eq 7, 3) := by decide +kernel
theorem dX0_isAlly_11 : decode cX0_isAlly 11 = .ok (.iconst 1, 1) := by decide +kernel
theorem dX0_isAlly_12 : decode cX0_isAlly 12 = .ok (.goto 4, 3) := by decide +kernel
theorem dX0_isAlly_15 : decode cX0_isAlly 15 = .ok (.iconst 0, 1) := by decide +kernel
theorem dX0_isAlly_16 : decode cX0_isAlly 16 = .ok (.ireturn, 1) := by decide +kernel
theorem dX0_blockEnd_0 : decode cX0_blockEnd 0 = .ok (.iconst 4, 1) := by decide +kernel
theorem dX0_blockEnd_1 : decode cX0_blockEnd 1 = .ok (.iload_n 1, 1) := by decide +kernel
theorem dX0_blockEnd_2 : decode cX0_blockEnd 2 = .ok (.imul, 1) := by decide +kernel
theorem dX0_blockEnd_3 : decode cX0_blockEnd 3 = .ok (.iconst 4, 1) := by decide +kernel
theorem dX0_blockEnd_4 : decode cX0_blockEnd 4 = .ok (.iadd, 1) := by decide +kernel
theorem dX0_blockEnd_5 : decode cX0_blockEnd 5 = .ok (.aload_n 0, 1) := by decide +kernel
theorem dX0_blockEnd_6 : decode cX0_blockEnd 6 = .ok (.getfield 33, 3) := by decide +kernel
theorem dX0_blockEnd_9 : decode cX0_blockEnd 9 = .ok (.invokestatic 27, 3) := by decide +kernel
theorem dX0_blockEnd_12 : decode cX0_blockEnd 12 = .ok (.ireturn, 1) := by decide +kernel
theorem dX0_alliesAt_0 : decode cX0_alliesAt 0 = .ok (.iconst 0, 1) := by decide +kernel
theorem dX0_alliesAt_1 : decode cX0_alliesAt 1 = .ok (.istore_n 3, 1) := by decide +kernel
theorem dX0_alliesAt_2 : decode cX0_alliesAt 2 = .ok (.iconst 0, 1) := by decide +kernel
theorem dX0_alliesAt_3 : decode cX0_alliesAt 3 = .ok (.istore 4, 2) := by decide +kernel
theorem dX0_alliesAt_5 : decode cX0_alliesAt 5 = .ok (.iload 4, 2) := by decide +kernel
theorem dX0_alliesAt_7 : decode cX0_alliesAt 7 = .ok (.iconst 4, 1) := by decide +kernel
theorem dX0_alliesAt_8 : decode cX0_alliesAt 8 = .ok (.if_icmp .ge 29, 3) := by decide +kernel
theorem dX0_alliesAt_11 : decode cX0_alliesAt 11 = .ok (.aload_n 0, 1) := by decide +kernel
theorem dX0_alliesAt_12 : decode cX0_alliesAt 12 = .ok (.iload 4, 2) := by decide +kernel
theorem dX0_alliesAt_14 : decode cX0_alliesAt 14 = .ok (.invokevirtual 80, 3) := by decide +kernel
theorem dX0_alliesAt_17 : decode cX0_alliesAt 17 = .ok (.ifCond .eq 14, 3) := by decide +kernel
theorem dX0_alliesAt_20 : decode cX0_alliesAt 20 = .ok (.iload_n 3, 1) := by decide +kernel
theorem dX0_alliesAt_21 : decode cX0_alliesAt 21 = .ok (.aload_n 2, 1) := by decide +kernel
theorem dX0_alliesAt_22 : decode cX0_alliesAt 22 = .ok (.iload 4, 2) := by decide +kernel
theorem dX0_alliesAt_24 : decode cX0_alliesAt 24 = .ok (.aaload, 1) := by decide +kernel
theorem dX0_alliesAt_25 : decode cX0_alliesAt 25 = .ok (.iload_n 1, 1) := by decide +kernel
theorem dX0_alliesAt_26 : decode cX0_alliesAt 26 = .ok (.invokevirtual 50, 3) := by decide +kernel
theorem dX0_alliesAt_29 : decode cX0_alliesAt 29 = .ok (.ixor, 1) := by decide +kernel
theorem dX0_alliesAt_30 : decode cX0_alliesAt 30 = .ok (.istore_n 3, 1) := by decide +kernel
theorem dX0_alliesAt_31 : decode cX0_alliesAt 31 = .ok (.iinc 4 1, 3) := by decide +kernel
theorem dX0_alliesAt_34 : decode cX0_alliesAt 34 = .ok (.goto (-29), 3) := by decide +kernel
theorem dX0_alliesAt_37 : decode cX0_alliesAt 37 = .ok (.iload_n 3, 1) := by decide +kernel
theorem dX0_alliesAt_38 : decode cX0_alliesAt 38 = .ok (.ireturn, 1) := by decide +kernel
theorem dX1_init_0 : decode cX1_init 0 = .ok (.aload_n 0, 1) := by decide +kernel
theorem dX1_init_1 : decode cX1_init 1 = .ok (.invokespecial 3, 3) := by decide +kernel
theorem dX1_init_4 : decode cX1_init 4 = .ok (.aload_n 0, 1) := by decide +kernel
theorem dX1_init_5 : decode cX1_init 5 = .ok (.new 9, 3) := by decide +kernel
theorem dX1_init_8 : decode cX1_init 8 = .ok (.dup, 1) := by decide +kernel
theorem dX1_init_9 : decode cX1_init 9 = .ok (.invokespecial 11, 3) := by decide +kernel
theorem dX1_init_12 : decode cX1_init 12 = .ok (.putfield 12, 3) := by decide +kernel
theorem dX1_init_15 : decode cX1_init 15 = .ok (.aload_n 0, 1) := by decide +kernel
theorem dX1_init_16 : decode cX1_init 16 = .ok (.new 18, 3) := by decide +kernel
theorem dX1_init_19 : decode cX1_init 19 = .ok (.dup, 1) := by decide +kernel
theorem dX1_init_20 : decode cX1_init 20 = .ok (.invokespecial 20, 3) := by decide +kernel
theorem dX1_init_23 : decode cX1_init 23 = .ok (.putfield 21, 3) := by decide +kernel
theorem dX1_init_26 : decode cX1_init 26 = .ok (.aload_n 0, 1) := by decide +kernel
theorem dX1_init_27 : decode cX1_init 27 = .ok (.bipush 24, 2) := by decide +kernel
theorem dX1_init_29 : decode cX1_init 29 = .ok (.newarray .int, 2) := by decide +kernel
theorem dX1_init_31 : decode cX1_init 31 = .ok (.putfield 25, 3) := by decide +kernel
theorem dX1_init_34 : decode cX1_init 34 = .ok (.aload_n 0, 1) := by decide +kernel
theorem dX1_init_35 : decode cX1_init 35 = .ok (.iconst 4, 1) := by decide +kernel
theorem dX1_init_36 : decode cX1_init 36 = .ok (.newarray .int, 2) := by decide +kernel
theorem dX1_init_38 : decode cX1_init 38 = .ok (.putfield 29, 3) := by decide +kernel
theorem dX1_init_41 : decode cX1_init 41 = .ok (.return_, 1) := by decide +kernel
theorem dX1_playTurn_0 : decode cX1_playTurn 0 = .ok (.iconst 0, 1) := by decide +kernel
theorem dX1_playTurn_1 : decode cX1_playTurn 1 = .ok (.istore_n 3, 1) := by decide +kernel
theorem dX1_playTurn_2 : decode cX1_playTurn 2 = .ok (.iconst 0, 1) := by decide +kernel
theorem dX1_playTurn_3 : decode cX1_playTurn 3 = .ok (.istore 4, 2) := by decide +kernel
theorem dX1_playTurn_5 : decode cX1_playTurn 5 = .ok (.iload 4, 2) := by decide +kernel
theorem dX1_playTurn_7 : decode cX1_playTurn 7 = .ok (.iconst 2, 1) := by decide +kernel
theorem dX1_playTurn_8 : decode cX1_playTurn 8 = .ok (.if_icmp .ge 38, 3) := by decide +kernel
theorem dX1_playTurn_11 : decode cX1_playTurn 11 = .ok (.aload_n 0, 1) := by decide +kernel
theorem dX1_playTurn_12 : decode cX1_playTurn 12 = .ok (.aload_n 1, 1) := by decide +kernel
theorem dX1_playTurn_13 : decode cX1_playTurn 13 = .ok (.iload_n 2, 1) := by decide +kernel
theorem dX1_playTurn_14 : decode cX1_playTurn 14 = .ok (.iload 4, 2) := by decide +kernel
theorem dX1_playTurn_16 : decode cX1_playTurn 16 = .ok (.invokevirtual 32, 3) := by decide +kernel
theorem dX1_playTurn_19 : decode cX1_playTurn 19 = .ok (.ifCond .eq 21, 3) := by decide +kernel
theorem dX1_playTurn_22 : decode cX1_playTurn 22 = .ok (.iload_n 3, 1) := by decide +kernel
theorem dX1_playTurn_23 : decode cX1_playTurn 23 = .ok (.aload_n 0, 1) := by decide +kernel
theorem dX1_playTurn_24 : decode cX1_playTurn 24 = .ok (.invokevirtual 36, 3) := by decide +kernel
theorem dX1_playTurn_27 : decode cX1_playTurn 27 = .ok (.iadd, 1) := by decide +kernel
theorem dX1_playTurn_28 : decode cX1_playTurn 28 = .ok (.istore_n 3, 1) := by decide +kernel
theorem dX1_playTurn_29 : decode cX1_playTurn 29 = .ok (.iload_n 3, 1) := by decide +kernel
theorem dX1_playTurn_30 : decode cX1_playTurn 30 = .ok (.aload_n 0, 1) := by decide +kernel
theorem dX1_playTurn_31 : decode cX1_playTurn 31 = .ok (.invokevirtual 40, 3) := by decide +kernel
theorem dX1_playTurn_34 : decode cX1_playTurn 34 = .ok (.iadd, 1) := by decide +kernel
theorem dX1_playTurn_35 : decode cX1_playTurn 35 = .ok (.istore_n 3, 1) := by decide +kernel
theorem dX1_playTurn_36 : decode cX1_playTurn 36 = .ok (.aload_n 0, 1) := by decide +kernel
theorem dX1_playTurn_37 : decode cX1_playTurn 37 = .ok (.invokevirtual 43, 3) := by decide +kernel
theorem dX1_playTurn_40 : decode cX1_playTurn 40 = .ok (.iinc 4 1, 3) := by decide +kernel
theorem dX1_playTurn_43 : decode cX1_playTurn 43 = .ok (.goto (-38), 3) := by decide +kernel
theorem dX1_playTurn_46 : decode cX1_playTurn 46 = .ok (.iload_n 3, 1) := by decide +kernel
theorem dX1_playTurn_47 : decode cX1_playTurn 47 = .ok (.ireturn, 1) := by decide +kernel
theorem dX1_readWants_0 : decode cX1_readWants 0 = .ok (.iconst 0, 1) := by decide +kernel
theorem dX1_readWants_1 : decode cX1_readWants 1 = .ok (.istore 4, 2) := by decide +kernel
theorem dX1_readWants_3 : decode cX1_readWants 3 = .ok (.iconst 0, 1) := by decide +kernel
theorem dX1_readWants_4 : decode cX1_readWants 4 = .ok (.istore 5, 2) := by decide +kernel
theorem dX1_readWants_6 : decode cX1_readWants 6 = .ok (.iload 5, 2) := by decide +kernel
theorem dX1_readWants_8 : decode cX1_readWants 8 = .ok (.aload_n 0, 1) := by decide +kernel
theorem dX1_readWants_9 : decode cX1_readWants 9 = .ok (.getfield 21, 3) := by decide +kernel
theorem dX1_readWants_12 : decode cX1_readWants 12 = .ok (.getfield 46, 3) := by decide +kernel
theorem dX1_readWants_15 : decode cX1_readWants 15 = .ok (.if_icmp .ge 70, 3) := by decide +kernel
theorem dX1_readWants_18 : decode cX1_readWants 18 = .ok (.aload_n 0, 1) := by decide +kernel
theorem dX1_readWants_19 : decode cX1_readWants 19 = .ok (.getfield 21, 3) := by decide +kernel
theorem dX1_readWants_22 : decode cX1_readWants 22 = .ok (.iload 5, 2) := by decide +kernel
theorem dX1_readWants_24 : decode cX1_readWants 24 = .ok (.invokevirtual 50, 3) := by decide +kernel
theorem dX1_readWants_27 : decode cX1_readWants 27 = .ok (.istore 6, 2) := by decide +kernel
theorem dX1_readWants_29 : decode cX1_readWants 29 = .ok (.aload_n 0, 1) := by decide +kernel
theorem dX1_readWants_30 : decode cX1_readWants 30 = .ok (.getfield 25, 3) := by decide +kernel
theorem dX1_readWants_33 : decode cX1_readWants 33 = .ok (.iload 5, 2) := by decide +kernel
theorem dX1_readWants_35 : decode cX1_readWants 35 = .ok (.iload 6, 2) := by decide +kernel
theorem dX1_readWants_37 : decode cX1_readWants 37 = .ok (.iastore, 1) := by decide +kernel
theorem dX1_readWants_38 : decode cX1_readWants 38 = .ok (.iload 6, 2) := by decide +kernel
theorem dX1_readWants_40 : decode cX1_readWants 40 = .ok (.iconst (-1), 1) := by decide +kernel
theorem dX1_readWants_41 : decode cX1_readWants 41 = .ok (.if_icmp .eq 38, 3) := by decide +kernel
theorem dX1_readWants_44 : decode cX1_readWants 44 = .ok (.aload_n 0, 1) := by decide +kernel
theorem dX1_readWants_45 : decode cX1_readWants 45 = .ok (.getfield 25, 3) := by decide +kernel
theorem dX1_readWants_48 : decode cX1_readWants 48 = .ok (.iload 5, 2) := by decide +kernel
theorem dX1_readWants_50 : decode cX1_readWants 50 = .ok (.aload_n 0, 1) := by decide +kernel
theorem dX1_readWants_51 : decode cX1_readWants 51 = .ok (.getfield 12, 3) := by decide +kernel
theorem dX1_readWants_54 : decode cX1_readWants 54 = .ok (.iload 6, 2) := by decide +kernel
theorem dX1_readWants_56 : decode cX1_readWants 56 = .ok (.aload_n 1, 1) := by decide +kernel
theorem dX1_readWants_57 : decode cX1_readWants 57 = .ok (.iload_n 2, 1) := by decide +kernel
theorem dX1_readWants_58 : decode cX1_readWants 58 = .ok (.iload 5, 2) := by decide +kernel
theorem dX1_readWants_60 : decode cX1_readWants 60 = .ok (.iload_n 3, 1) := by decide +kernel
theorem dX1_readWants_61 : decode cX1_readWants 61 = .ok (.invokevirtual 54, 3) := by decide +kernel
theorem dX1_readWants_64 : decode cX1_readWants 64 = .ok (.invokevirtual 60, 3) := by decide +kernel
theorem dX1_readWants_67 : decode cX1_readWants 67 = .ok (.iastore, 1) := by decide +kernel
theorem dX1_readWants_68 : decode cX1_readWants 68 = .ok (.iload 4, 2) := by decide +kernel
theorem dX1_readWants_70 : decode cX1_readWants 70 = .ok (.aload_n 0, 1) := by decide +kernel
theorem dX1_readWants_71 : decode cX1_readWants 71 = .ok (.iload 5, 2) := by decide +kernel
theorem dX1_readWants_73 : decode cX1_readWants 73 = .ok (.invokevirtual 64, 3) := by decide +kernel
theorem dX1_readWants_76 : decode cX1_readWants 76 = .ok (.ior, 1) := by decide +kernel
theorem dX1_readWants_77 : decode cX1_readWants 77 = .ok (.istore 4, 2) := by decide +kernel
theorem dX1_readWants_79 : decode cX1_readWants 79 = .ok (.iinc 5 1, 3) := by decide +kernel
theorem dX1_readWants_82 : decode cX1_readWants 82 = .ok (.goto (-76), 3) := by decide +kernel
theorem dX1_readWants_85 : decode cX1_readWants 85 = .ok (.iload 4, 2) := by decide +kernel
theorem dX1_readWants_87 : decode cX1_readWants 87 = .ok (.ireturn, 1) := by decide +kernel
theorem dX1_isMover_0 : decode cX1_isMover 0 = .ok (.aload_n 0, 1) := by decide +kernel
theorem dX1_isMover_1 : decode cX1_isMover 1 = .ok (.getfield 25, 3) := by decide +kernel
theorem dX1_isMover_4 : decode cX1_isMover 4 = .ok (.iload_n 1, 1) := by decide +kernel
theorem dX1_isMover_5 : decode cX1_isMover 5 = .ok (.iaload, 1) := by decide +kernel
theorem dX1_isMover_6 : decode cX1_isMover 6 = .ok (.aload_n 0, 1) := by decide +kernel
theorem dX1_isMover_7 : decode cX1_isMover 7 = .ok (.getfield 21, 3) := by decide +kernel
theorem dX1_isMover_10 : decode cX1_isMover 10 = .ok (.iload_n 1, 1) := by decide +kernel
theorem dX1_isMover_11 : decode cX1_isMover 11 = .ok (.invokevirtual 50, 3) := by decide +kernel
theorem dX1_isMover_14 : decode cX1_isMover 14 = .ok (.if_icmp .eq 7, 3) := by decide +kernel
theorem dX1_isMover_17 : decode cX1_isMover 17 = .ok (.iconst 1, 1) := by decide +kernel
theorem dX1_isMover_18 : decode cX1_isMover 18 = .ok (.goto 4, 3) := by decide +kernel
theorem dX1_isMover_21 : decode cX1_isMover 21 = .ok (.iconst 0, 1) := by decide +kernel
theorem dX1_isMover_22 : decode cX1_isMover 22 = .ok (.ireturn, 1) := by decide +kernel
theorem dX1_meetPairs_0 : decode cX1_meetPairs 0 = .ok (.iconst 0, 1) := by decide +kernel
theorem dX1_meetPairs_1 : decode cX1_meetPairs 1 = .ok (.istore_n 1, 1) := by decide +kernel
theorem dX1_meetPairs_2 : decode cX1_meetPairs 2 = .ok (.iconst 0, 1) := by decide +kernel
theorem dX1_meetPairs_3 : decode cX1_meetPairs 3 = .ok (.istore_n 2, 1) := by decide +kernel
theorem dX1_meetPairs_4 : decode cX1_meetPairs 4 = .ok (.iload_n 2, 1) := by decide +kernel
theorem dX1_meetPairs_5 : decode cX1_meetPairs 5 = .ok (.aload_n 0, 1) := by decide +kernel
theorem dX1_meetPairs_6 : decode cX1_meetPairs 6 = .ok (.getfield 21, 3) := by decide +kernel
theorem dX1_meetPairs_9 : decode cX1_meetPairs 9 = .ok (.getfield 46, 3) := by decide +kernel
theorem dX1_meetPairs_12 : decode cX1_meetPairs 12 = .ok (.if_icmp .ge 29, 3) := by decide +kernel
theorem dX1_meetPairs_15 : decode cX1_meetPairs 15 = .ok (.aload_n 0, 1) := by decide +kernel
theorem dX1_meetPairs_16 : decode cX1_meetPairs 16 = .ok (.iload_n 2, 1) := by decide +kernel
theorem dX1_meetPairs_17 : decode cX1_meetPairs 17 = .ok (.invokevirtual 68, 3) := by decide +kernel
theorem dX1_meetPairs_20 : decode cX1_meetPairs 20 = .ok (.istore_n 3, 1) := by decide +kernel
theorem dX1_meetPairs_21 : decode cX1_meetPairs 21 = .ok (.iload_n 3, 1) := by decide +kernel
theorem dX1_meetPairs_22 : decode cX1_meetPairs 22 = .ok (.iconst (-1), 1) := by decide +kernel
theorem dX1_meetPairs_23 : decode cX1_meetPairs 23 = .ok (.if_icmp .eq 12, 3) := by decide +kernel
theorem dX1_meetPairs_26 : decode cX1_meetPairs 26 = .ok (.iload_n 1, 1) := by decide +kernel
theorem dX1_meetPairs_27 : decode cX1_meetPairs 27 = .ok (.aload_n 0, 1) := by decide +kernel
theorem dX1_meetPairs_28 : decode cX1_meetPairs 28 = .ok (.iload_n 2, 1) := by decide +kernel
theorem dX1_meetPairs_29 : decode cX1_meetPairs 29 = .ok (.iload_n 3, 1) := by decide +kernel
theorem dX1_meetPairs_30 : decode cX1_meetPairs 30 = .ok (.invokevirtual 71, 3) := by decide +kernel
theorem dX1_meetPairs_33 : decode cX1_meetPairs 33 = .ok (.iadd, 1) := by decide +kernel
theorem dX1_meetPairs_34 : decode cX1_meetPairs 34 = .ok (.istore_n 1, 1) := by decide +kernel
theorem dX1_meetPairs_35 : decode cX1_meetPairs 35 = .ok (.iinc 2 1, 3) := by decide +kernel
theorem dX1_meetPairs_38 : decode cX1_meetPairs 38 = .ok (.goto (-34), 3) := by decide +kernel
theorem dX1_meetPairs_41 : decode cX1_meetPairs 41 = .ok (.iload_n 1, 1) := by decide +kernel
theorem dX1_meetPairs_42 : decode cX1_meetPairs 42 = .ok (.ireturn, 1) := by decide +kernel
theorem dX1_facing_0 : decode cX1_facing 0 = .ok (.aload_n 0, 1) := by decide +kernel
theorem dX1_facing_1 : decode cX1_facing 1 = .ok (.iload_n 1, 1) := by decide +kernel
theorem dX1_facing_2 : decode cX1_facing 2 = .ok (.invokevirtual 64, 3) := by decide +kernel
theorem dX1_facing_5 : decode cX1_facing 5 = .ok (.ifCond .ne 5, 3) := by decide +kernel
theorem dX1_facing_8 : decode cX1_facing 8 = .ok (.iconst (-1), 1) := by decide +kernel
theorem dX1_facing_9 : decode cX1_facing 9 = .ok (.ireturn, 1) := by decide +kernel
theorem dX1_facing_10 : decode cX1_facing 10 = .ok (.aload_n 0, 1) := by decide +kernel
theorem dX1_facing_11 : decode cX1_facing 11 = .ok (.getfield 21, 3) := by decide +kernel
theorem dX1_facing_14 : decode cX1_facing 14 = .ok (.aload_n 0, 1) := by decide +kernel
theorem dX1_facing_15 : decode cX1_facing 15 = .ok (.getfield 25, 3) := by decide +kernel
theorem dX1_facing_18 : decode cX1_facing 18 = .ok (.iload_n 1, 1) := by decide +kernel
theorem dX1_facing_19 : decode cX1_facing 19 = .ok (.iaload, 1) := by decide +kernel
theorem dX1_facing_20 : decode cX1_facing 20 = .ok (.invokevirtual 74, 3) := by decide +kernel
theorem dX1_facing_23 : decode cX1_facing 23 = .ok (.istore_n 2, 1) := by decide +kernel
theorem dX1_facing_24 : decode cX1_facing 24 = .ok (.iload_n 2, 1) := by decide +kernel
theorem dX1_facing_25 : decode cX1_facing 25 = .ok (.iconst (-1), 1) := by decide +kernel
theorem dX1_facing_26 : decode cX1_facing 26 = .ok (.if_icmp .eq 20, 3) := by decide +kernel
theorem dX1_facing_29 : decode cX1_facing 29 = .ok (.aload_n 0, 1) := by decide +kernel
theorem dX1_facing_30 : decode cX1_facing 30 = .ok (.getfield 25, 3) := by decide +kernel
theorem dX1_facing_33 : decode cX1_facing 33 = .ok (.iload_n 2, 1) := by decide +kernel
theorem dX1_facing_34 : decode cX1_facing 34 = .ok (.iaload, 1) := by decide +kernel
theorem dX1_facing_35 : decode cX1_facing 35 = .ok (.aload_n 0, 1) := by decide +kernel
theorem dX1_facing_36 : decode cX1_facing 36 = .ok (.getfield 21, 3) := by decide +kernel
theorem dX1_facing_39 : decode cX1_facing 39 = .ok (.iload_n 1, 1) := by decide +kernel
theorem dX1_facing_40 : decode cX1_facing 40 = .ok (.invokevirtual 50, 3) := by decide +kernel
theorem dX1_facing_43 : decode cX1_facing 43 = .ok (.if_icmp .eq 5, 3) := by decide +kernel
theorem dX1_facing_46 : decode cX1_facing 46 = .ok (.iconst (-1), 1) := by decide +kernel
theorem dX1_facing_47 : decode cX1_facing 47 = .ok (.ireturn, 1) := by decide +kernel
theorem dX1_facing_48 : decode cX1_facing 48 = .ok (.aload_n 0, 1) := by decide +kernel
theorem dX1_facing_49 : decode cX1_facing 49 = .ok (.getfield 21, 3) := by decide +kernel
theorem dX1_facing_52 : decode cX1_facing 52 = .ok (.iload_n 2, 1) := by decide +kernel
theorem dX1_facing_53 : decode cX1_facing 53 = .ok (.invokevirtual 77, 3) := by decide +kernel
theorem dX1_facing_56 : decode cX1_facing 56 = .ok (.aload_n 0, 1) := by decide +kernel
theorem dX1_facing_57 : decode cX1_facing 57 = .ok (.getfield 21, 3) := by decide +kernel
theorem dX1_facing_60 : decode cX1_facing 60 = .ok (.iload_n 1, 1) := by decide +kernel
theorem dX1_facing_61 : decode cX1_facing 61 = .ok (.invokevirtual 77, 3) := by decide +kernel
theorem dX1_facing_64 : decode cX1_facing 64 = .ok (.if_icmp .ne 7, 3) := by decide +kernel
theorem dX1_facing_67 : decode cX1_facing 67 = .ok (.iconst (-1), 1) := by decide +kernel
theorem dX1_facing_68 : decode cX1_facing 68 = .ok (.goto 4, 3) := by decide +kernel
theorem dX1_facing_71 : decode cX1_facing 71 = .ok (.iload_n 2, 1) := by decide +kernel
theorem dX1_facing_72 : decode cX1_facing 72 = .ok (.ireturn, 1) := by decide +kernel
theorem dX1_meet_0 : decode cX1_meet 0 = .ok (.aload_n 0, 1) := by decide +kernel
theorem dX1_meet_1 : decode cX1_meet 1 = .ok (.getfield 21, 3) := by decide +kernel
theorem dX1_meet_4 : decode cX1_meet 4 = .ok (.iload_n 1, 1) := by decide +kernel
theorem dX1_meet_5 : decode cX1_meet 5 = .ok (.invokevirtual 80, 3) := by decide +kernel
theorem dX1_meet_8 : decode cX1_meet 8 = .ok (.aload_n 0, 1) := by decide +kernel
theorem dX1_meet_9 : decode cX1_meet 9 = .ok (.getfield 21, 3) := by decide +kernel
theorem dX1_meet_12 : decode cX1_meet 12 = .ok (.iload_n 2, 1) := by decide +kernel
theorem dX1_meet_13 : decode cX1_meet 13 = .ok (.invokevirtual 80, 3) := by decide +kernel
theorem dX1_meet_16 : decode cX1_meet 16 = .ok (.isub, 1) := by decide +kernel
theorem dX1_meet_17 : decode cX1_meet 17 = .ok (.istore_n 3, 1) := by decide +kernel
theorem dX1_meet_18 : decode cX1_meet 18 = .ok (.iload_n 3, 1) := by decide +kernel
theorem dX1_meet_19 : decode cX1_meet 19 = .ok (.ifCond .ne 33, 3) := by decide +kernel
theorem dX1_meet_22 : decode cX1_meet 22 = .ok (.aload_n 0, 1) := by decide +kernel
theorem dX1_meet_23 : decode cX1_meet 23 = .ok (.getfield 25, 3) := by decide +kernel
theorem dX1_meet_26 : decode cX1_meet 26 = .ok (.iload_n 1, 1) := by decide +kernel
theorem dX1_meet_27 : decode cX1_meet 27 = .ok (.aload_n 0, 1) := by decide +kernel
theorem dX1_meet_28 : decode cX1_meet 28 = .ok (.getfield 21, 3) := by decide +kernel
theorem dX1_meet_31 : decode cX1_meet 31 = .ok (.iload_n 1, 1) := by decide +kernel
theorem dX1_meet_32 : decode cX1_meet 32 = .ok (.invokevirtual 50, 3) := by decide +kernel
theorem dX1_meet_35 : decode cX1_meet 35 = .ok (.iastore, 1) := by decide +kernel
theorem dX1_meet_36 : decode cX1_meet 36 = .ok (.aload_n 0, 1) := by decide +kernel
theorem dX1_meet_37 : decode cX1_meet 37 = .ok (.getfield 25, 3) := by decide +kernel
theorem dX1_meet_40 : decode cX1_meet 40 = .ok (.iload_n 2, 1) := by decide +kernel
theorem dX1_meet_41 : decode cX1_meet 41 = .ok (.aload_n 0, 1) := by decide +kernel
theorem dX1_meet_42 : decode cX1_meet 42 = .ok (.getfield 21, 3) := by decide +kernel
theorem dX1_meet_45 : decode cX1_meet 45 = .ok (.iload_n 2, 1) := by decide +kernel
theorem dX1_meet_46 : decode cX1_meet 46 = .ok (.invokevirtual 50, 3) := by decide +kernel
theorem dX1_meet_49 : decode cX1_meet 49 = .ok (.iastore, 1) := by decide +kernel
theorem dX1_meet_50 : decode cX1_meet 50 = .ok (.iconst 0, 1) := by decide +kernel
theorem dX1_meet_51 : decode cX1_meet 51 = .ok (.ireturn, 1) := by decide +kernel
theorem dX1_meet_52 : decode cX1_meet 52 = .ok (.aload_n 0, 1) := by decide +kernel
theorem dX1_meet_53 : decode cX1_meet 53 = .ok (.iload_n 3, 1) := by decide +kernel
theorem dX1_meet_54 : decode cX1_meet 54 = .ok (.ifCond .ge 7, 3) := by decide +kernel
theorem dX1_meet_57 : decode cX1_meet 57 = .ok (.iload_n 1, 1) := by decide +kernel
theorem dX1_meet_58 : decode cX1_meet 58 = .ok (.goto 4, 3) := by decide +kernel
theorem dX1_meet_61 : decode cX1_meet 61 = .ok (.iload_n 2, 1) := by decide +kernel
theorem dX1_meet_62 : decode cX1_meet 62 = .ok (.invokevirtual 83, 3) := by decide +kernel
theorem dX1_meet_65 : decode cX1_meet 65 = .ok (.iconst 1, 1) := by decide +kernel
theorem dX1_meet_66 : decode cX1_meet 66 = .ok (.ireturn, 1) := by decide +kernel
theorem dX1_lose_0 : decode cX1_lose 0 = .ok (.aload_n 0, 1) := by decide +kernel
theorem dX1_lose_1 : decode cX1_lose 1 = .ok (.getfield 21, 3) := by decide +kernel
theorem dX1_lose_4 : decode cX1_lose 4 = .ok (.iload_n 1, 1) := by decide +kernel
theorem dX1_lose_5 : decode cX1_lose 5 = .ok (.iconst (-1), 1) := by decide +kernel
theorem dX1_lose_6 : decode cX1_lose 6 = .ok (.invokevirtual 87, 3) := by decide +kernel
theorem dX1_lose_9 : decode cX1_lose 9 = .ok (.aload_n 0, 1) := by decide +kernel
theorem dX1_lose_10 : decode cX1_lose 10 = .ok (.getfield 25, 3) := by decide +kernel
theorem dX1_lose_13 : decode cX1_lose 13 = .ok (.iload_n 1, 1) := by decide +kernel
theorem dX1_lose_14 : decode cX1_lose 14 = .ok (.iconst (-1), 1) := by decide +kernel
theorem dX1_lose_15 : decode cX1_lose 15 = .ok (.iastore, 1) := by decide +kernel
theorem dX1_lose_16 : decode cX1_lose 16 = .ok (.return_, 1) := by decide +kernel
theorem dX1_settleCells_0 : decode cX1_settleCells 0 = .ok (.iconst 0, 1) := by decide +kernel
theorem dX1_settleCells_1 : decode cX1_settleCells 1 = .ok (.istore_n 1, 1) := by decide +kernel
theorem dX1_settleCells_2 : decode cX1_settleCells 2 = .ok (.iconst 0, 1) := by decide +kernel
theorem dX1_settleCells_3 : decode cX1_settleCells 3 = .ok (.istore_n 2, 1) := by decide +kernel
theorem dX1_settleCells_4 : decode cX1_settleCells 4 = .ok (.iload_n 2, 1) := by decide +kernel
theorem dX1_settleCells_5 : decode cX1_settleCells 5 = .ok (.bipush 48, 2) := by decide +kernel
theorem dX1_settleCells_7 : decode cX1_settleCells 7 = .ok (.if_icmp .ge 29, 3) := by decide +kernel
theorem dX1_settleCells_10 : decode cX1_settleCells 10 = .ok (.aload_n 0, 1) := by decide +kernel
theorem dX1_settleCells_11 : decode cX1_settleCells 11 = .ok (.invokevirtual 91, 3) := by decide +kernel
theorem dX1_settleCells_14 : decode cX1_settleCells 14 = .ok (.istore_n 3, 1) := by decide +kernel
theorem dX1_settleCells_15 : decode cX1_settleCells 15 = .ok (.iload_n 3, 1) := by decide +kernel
theorem dX1_settleCells_16 : decode cX1_settleCells 16 = .ok (.iconst (-1), 1) := by decide +kernel
theorem dX1_settleCells_17 : decode cX1_settleCells 17 = .ok (.if_icmp .ne 5, 3) := by decide +kernel
theorem dX1_settleCells_20 : decode cX1_settleCells 20 = .ok (.iload_n 1, 1) := by decide +kernel
theorem dX1_settleCells_21 : decode cX1_settleCells 21 = .ok (.ireturn, 1) := by decide +kernel
theorem dX1_settleCells_22 : decode cX1_settleCells 22 = .ok (.iload_n 1, 1) := by decide +kernel
theorem dX1_settleCells_23 : decode cX1_settleCells 23 = .ok (.aload_n 0, 1) := by decide +kernel
theorem dX1_settleCells_24 : decode cX1_settleCells 24 = .ok (.iload_n 3, 1) := by decide +kernel
theorem dX1_settleCells_25 : decode cX1_settleCells 25 = .ok (.invokevirtual 94, 3) := by decide +kernel
theorem dX1_settleCells_28 : decode cX1_settleCells 28 = .ok (.iadd, 1) := by decide +kernel
theorem dX1_settleCells_29 : decode cX1_settleCells 29 = .ok (.istore_n 1, 1) := by decide +kernel
theorem dX1_settleCells_30 : decode cX1_settleCells 30 = .ok (.iinc 2 1, 3) := by decide +kernel
theorem dX1_settleCells_33 : decode cX1_settleCells 33 = .ok (.goto (-29), 3) := by decide +kernel
theorem dX1_settleCells_36 : decode cX1_settleCells 36 = .ok (.iload_n 1, 1) := by decide +kernel
theorem dX1_settleCells_37 : decode cX1_settleCells 37 = .ok (.ireturn, 1) := by decide +kernel
theorem dX1_lowestContested_0 : decode cX1_lowestContested 0 = .ok (.bipush 64, 2) := by decide +kernel
theorem dX1_lowestContested_2 : decode cX1_lowestContested 2 = .ok (.istore_n 1, 1) := by decide +kernel
theorem dX1_lowestContested_3 : decode cX1_lowestContested 3 = .ok (.iconst 0, 1) := by decide +kernel
theorem dX1_lowestContested_4 : decode cX1_lowestContested 4 = .ok (.istore_n 2, 1) := by decide +kernel
theorem dX1_lowestContested_5 : decode cX1_lowestContested 5 = .ok (.iload_n 2, 1) := by decide +kernel
theorem dX1_lowestContested_6 : decode cX1_lowestContested 6 = .ok (.aload_n 0, 1) := by decide +kernel
theorem dX1_lowestContested_7 : decode cX1_lowestContested 7 = .ok (.getfield 21, 3) := by decide +kernel
theorem dX1_lowestContested_10 : decode cX1_lowestContested 10 = .ok (.getfield 46, 3) := by decide +kernel
theorem dX1_lowestContested_13 : decode cX1_lowestContested 13 = .ok (.if_icmp .ge 47, 3) := by decide +kernel
theorem dX1_lowestContested_16 : decode cX1_lowestContested 16 = .ok (.aload_n 0, 1) := by decide +kernel
theorem dX1_lowestContested_17 : decode cX1_lowestContested 17 = .ok (.iload_n 2, 1) := by decide +kernel
theorem dX1_lowestContested_18 : decode cX1_lowestContested 18 = .ok (.invokevirtual 64, 3) := by decide +kernel
theorem dX1_lowestContested_21 : decode cX1_lowestContested 21 = .ok (.ifCond .eq 33, 3) := by decide +kernel
theorem dX1_lowestContested_24 : decode cX1_lowestContested 24 = .ok (.aload_n 0, 1) := by decide +kernel
theorem dX1_lowestContested_25 : decode cX1_lowestContested 25 = .ok (.getfield 25, 3) := by decide +kernel
theorem dX1_lowestContested_28 : decode cX1_lowestContested 28 = .ok (.iload_n 2, 1) := by decide +kernel
theorem dX1_lowestContested_29 : decode cX1_lowestContested 29 = .ok (.iaload, 1) := by decide +kernel
theorem dX1_lowestContested_30 : decode cX1_lowestContested 30 = .ok (.iload_n 1, 1) := by decide +kernel
theorem dX1_lowestContested_31 : decode cX1_lowestContested 31 = .ok (.if_icmp .ge 23, 3) := by decide +kernel
theorem dX1_lowestContested_34 : decode cX1_lowestContested 34 = .ok (.aload_n 0, 1) := by decide +kernel
theorem dX1_lowestContested_35 : decode cX1_lowestContested 35 = .ok (.aload_n 0, 1) := by decide +kernel
theorem dX1_lowestContested_36 : decode cX1_lowestContested 36 = .ok (.getfield 25, 3) := by decide +kernel
theorem dX1_lowestContested_39 : decode cX1_lowestContested 39 = .ok (.iload_n 2, 1) := by decide +kernel
theorem dX1_lowestContested_40 : decode cX1_lowestContested 40 = .ok (.iaload, 1) := by decide +kernel
theorem dX1_lowestContested_41 : decode cX1_lowestContested 41 = .ok (.invokevirtual 97, 3) := by decide +kernel
theorem dX1_lowestContested_44 : decode cX1_lowestContested 44 = .ok (.ifCond .eq 10, 3) := by decide +kernel
theorem dX1_lowestContested_47 : decode cX1_lowestContested 47 = .ok (.aload_n 0, 1) := by decide +kernel
theorem dX1_lowestContested_48 : decode cX1_lowestContested 48 = .ok (.getfield 25, 3) := by decide +kernel
theorem dX1_lowestContested_51 : decode cX1_lowestContested 51 = .ok (.iload_n 2, 1) := by decide +kernel
theorem dX1_lowestContested_52 : decode cX1_lowestContested 52 = .ok (.iaload, 1) := by decide +kernel
theorem dX1_lowestContested_53 : decode cX1_lowestContested 53 = .ok (.istore_n 1, 1) := by decide +kernel
theorem dX1_lowestContested_54 : decode cX1_lowestContested 54 = .ok (.iinc 2 1, 3) := by decide +kernel
theorem dX1_lowestContested_57 : decode cX1_lowestContested 57 = .ok (.goto (-52), 3) := by decide +kernel
theorem dX1_lowestContested_60 : decode cX1_lowestContested 60 = .ok (.iload_n 1, 1) := by decide +kernel
theorem dX1_lowestContested_61 : decode cX1_lowestContested 61 = .ok (.bipush 64, 2) := by decide +kernel
theorem dX1_lowestContested_63 : decode cX1_lowestContested 63 = .ok (.if_icmp .ne 7, 3) := by decide +kernel
theorem dX1_lowestContested_66 : decode cX1_lowestContested 66 = .ok (.iconst (-1), 1) := by decide +kernel
theorem dX1_lowestContested_67 : decode cX1_lowestContested 67 = .ok (.goto 4, 3) := by decide +kernel
theorem dX1_lowestContested_70 : decode cX1_lowestContested 70 = .ok (.iload_n 1, 1) := by decide +kernel
theorem dX1_lowestContested_71 : decode cX1_lowestContested 71 = .ok (.ireturn, 1) := by decide +kernel
theorem dX1_isContested_0 : decode cX1_isContested 0 = .ok (.iconst 0, 1) := by decide +kernel
theorem dX1_isContested_1 : decode cX1_isContested 1 = .ok (.istore_n 2, 1) := by decide +kernel
theorem dX1_isContested_2 : decode cX1_isContested 2 = .ok (.iconst 0, 1) := by decide +kernel
theorem dX1_isContested_3 : decode cX1_isContested 3 = .ok (.istore_n 3, 1) := by decide +kernel
theorem dX1_isContested_4 : decode cX1_isContested 4 = .ok (.iload_n 3, 1) := by decide +kernel
theorem dX1_isContested_5 : decode cX1_isContested 5 = .ok (.aload_n 0, 1) := by decide +kernel
theorem dX1_isContested_6 : decode cX1_isContested 6 = .ok (.getfield 21, 3) := by decide +kernel
theorem dX1_isContested_9 : decode cX1_isContested 9 = .ok (.getfield 46, 3) := by decide +kernel
theorem dX1_isContested_12 : decode cX1_isContested 12 = .ok (.if_icmp .ge 22, 3) := by decide +kernel
theorem dX1_isContested_15 : decode cX1_isContested 15 = .ok (.aload_n 0, 1) := by decide +kernel
theorem dX1_isContested_16 : decode cX1_isContested 16 = .ok (.getfield 25, 3) := by decide +kernel
theorem dX1_isContested_19 : decode cX1_isContested 19 = .ok (.iload_n 3, 1) := by decide +kernel
theorem dX1_isContested_20 : decode cX1_isContested 20 = .ok (.iaload, 1) := by decide +kernel
theorem dX1_isContested_21 : decode cX1_isContested 21 = .ok (.iload_n 1, 1) := by decide +kernel
theorem dX1_isContested_22 : decode cX1_isContested 22 = .ok (.if_icmp .ne 6, 3) := by decide +kernel
theorem dX1_isContested_25 : decode cX1_isContested 25 = .ok (.iinc 2 1, 3) := by decide +kernel
theorem dX1_isContested_28 : decode cX1_isContested 28 = .ok (.iinc 3 1, 3) := by decide +kernel
theorem dX1_isContested_31 : decode cX1_isContested 31 = .ok (.goto (-27), 3) := by decide +kernel
theorem dX1_isContested_34 : decode cX1_isContested 34 = .ok (.iload_n 2, 1) := by decide +kernel
theorem dX1_isContested_35 : decode cX1_isContested 35 = .ok (.iconst 1, 1) := by decide +kernel
theorem dX1_isContested_36 : decode cX1_isContested 36 = .ok (.if_icmp .le 7, 3) := by decide +kernel
theorem dX1_isContested_39 : decode cX1_isContested 39 = .ok (.iconst 1, 1) := by decide +kernel
theorem dX1_isContested_40 : decode cX1_isContested 40 = .ok (.goto 4, 3) := by decide +kernel
theorem dX1_isContested_43 : decode cX1_isContested 43 = .ok (.iconst 0, 1) := by decide +kernel
theorem dX1_isContested_44 : decode cX1_isContested 44 = .ok (.ireturn, 1) := by decide +kernel
theorem dX1_lookAt_0 : decode cX1_lookAt 0 = .ok (.aload_n 0, 1) := by decide +kernel
theorem dX1_lookAt_1 : decode cX1_lookAt 1 = .ok (.getfield 21, 3) := by decide +kernel
theorem dX1_lookAt_4 : decode cX1_lookAt 4 = .ok (.iload_n 1, 1) := by decide +kernel
theorem dX1_lookAt_5 : decode cX1_lookAt 5 = .ok (.invokevirtual 74, 3) := by decide +kernel
theorem dX1_lookAt_8 : decode cX1_lookAt 8 = .ok (.istore_n 2, 1) := by decide +kernel
theorem dX1_lookAt_9 : decode cX1_lookAt 9 = .ok (.aload_n 0, 1) := by decide +kernel
theorem dX1_lookAt_10 : decode cX1_lookAt 10 = .ok (.iload_n 1, 1) := by decide +kernel
theorem dX1_lookAt_11 : decode cX1_lookAt 11 = .ok (.invokevirtual 100, 3) := by decide +kernel
theorem dX1_lookAt_14 : decode cX1_lookAt 14 = .ok (.istore_n 3, 1) := by decide +kernel
theorem dX1_lookAt_15 : decode cX1_lookAt 15 = .ok (.iload_n 2, 1) := by decide +kernel
theorem dX1_lookAt_16 : decode cX1_lookAt 16 = .ok (.iconst (-1), 1) := by decide +kernel
theorem dX1_lookAt_17 : decode cX1_lookAt 17 = .ok (.if_icmp .eq 13, 3) := by decide +kernel
theorem dX1_lookAt_20 : decode cX1_lookAt 20 = .ok (.aload_n 0, 1) := by decide +kernel
theorem dX1_lookAt_21 : decode cX1_lookAt 21 = .ok (.getfield 25, 3) := by decide +kernel
theorem dX1_lookAt_24 : decode cX1_lookAt 24 = .ok (.iload_n 2, 1) := by decide +kernel
theorem dX1_lookAt_25 : decode cX1_lookAt 25 = .ok (.iaload, 1) := by decide +kernel
theorem dX1_lookAt_26 : decode cX1_lookAt 26 = .ok (.iload_n 1, 1) := by decide +kernel
theorem dX1_lookAt_27 : decode cX1_lookAt 27 = .ok (.if_icmp .eq 16, 3) := by decide +kernel
theorem dX1_lookAt_30 : decode cX1_lookAt 30 = .ok (.aload_n 0, 1) := by decide +kernel
theorem dX1_lookAt_31 : decode cX1_lookAt 31 = .ok (.iload_n 1, 1) := by decide +kernel
theorem dX1_lookAt_32 : decode cX1_lookAt 32 = .ok (.aload_n 0, 1) := by decide +kernel
theorem dX1_lookAt_33 : decode cX1_lookAt 33 = .ok (.iload_n 1, 1) := by decide +kernel
theorem dX1_lookAt_34 : decode cX1_lookAt 34 = .ok (.iload_n 3, 1) := by decide +kernel
theorem dX1_lookAt_35 : decode cX1_lookAt 35 = .ok (.invokevirtual 103, 3) := by decide +kernel
theorem dX1_lookAt_38 : decode cX1_lookAt 38 = .ok (.invokevirtual 106, 3) := by decide +kernel
theorem dX1_lookAt_41 : decode cX1_lookAt 41 = .ok (.iconst 0, 1) := by decide +kernel
theorem dX1_lookAt_42 : decode cX1_lookAt 42 = .ok (.ireturn, 1) := by decide +kernel
theorem dX1_lookAt_43 : decode cX1_lookAt 43 = .ok (.iload_n 3, 1) := by decide +kernel
theorem dX1_lookAt_44 : decode cX1_lookAt 44 = .ok (.iconst (-1), 1) := by decide +kernel
theorem dX1_lookAt_45 : decode cX1_lookAt 45 = .ok (.if_icmp .eq 15, 3) := by decide +kernel
theorem dX1_lookAt_48 : decode cX1_lookAt 48 = .ok (.iload_n 3, 1) := by decide +kernel
theorem dX1_lookAt_49 : decode cX1_lookAt 49 = .ok (.aload_n 0, 1) := by decide +kernel
theorem dX1_lookAt_50 : decode cX1_lookAt 50 = .ok (.getfield 21, 3) := by decide +kernel
theorem dX1_lookAt_53 : decode cX1_lookAt 53 = .ok (.iload_n 2, 1) := by decide +kernel
theorem dX1_lookAt_54 : decode cX1_lookAt 54 = .ok (.invokevirtual 77, 3) := by decide +kernel
theorem dX1_lookAt_57 : decode cX1_lookAt 57 = .ok (.if_icmp .ne 11, 3) := by decide +kernel
theorem dX1_lookAt_60 : decode cX1_lookAt 60 = .ok (.aload_n 0, 1) := by decide +kernel
theorem dX1_lookAt_61 : decode cX1_lookAt 61 = .ok (.iload_n 1, 1) := by decide +kernel
theorem dX1_lookAt_62 : decode cX1_lookAt 62 = .ok (.iconst (-1), 1) := by decide +kernel
theorem dX1_lookAt_63 : decode cX1_lookAt 63 = .ok (.invokevirtual 106, 3) := by decide +kernel
theorem dX1_lookAt_66 : decode cX1_lookAt 66 = .ok (.iconst 0, 1) := by decide +kernel
theorem dX1_lookAt_67 : decode cX1_lookAt 67 = .ok (.ireturn, 1) := by decide +kernel
theorem dX1_lookAt_68 : decode cX1_lookAt 68 = .ok (.aload_n 0, 1) := by decide +kernel
theorem dX1_lookAt_69 : decode cX1_lookAt 69 = .ok (.iload_n 2, 1) := by decide +kernel
theorem dX1_lookAt_70 : decode cX1_lookAt 70 = .ok (.invokevirtual 83, 3) := by decide +kernel
theorem dX1_lookAt_73 : decode cX1_lookAt 73 = .ok (.iconst 1, 1) := by decide +kernel
theorem dX1_lookAt_74 : decode cX1_lookAt 74 = .ok (.ireturn, 1) := by decide +kernel
theorem dX1_strongestFor_0 : decode cX1_strongestFor 0 = .ok (.aload_n 0, 1) := by decide +kernel
theorem dX1_strongestFor_1 : decode cX1_strongestFor 1 = .ok (.getfield 29, 3) := by decide +kernel
theorem dX1_strongestFor_4 : decode cX1_strongestFor 4 = .ok (.iconst 0, 1) := by decide +kernel
theorem dX1_strongestFor_5 : decode cX1_strongestFor 5 = .ok (.invokestatic 109, 3) := by decide +kernel
theorem dX1_strongestFor_8 : decode cX1_strongestFor 8 = .ok (.iconst 0, 1) := by decide +kernel
theorem dX1_strongestFor_9 : decode cX1_strongestFor 9 = .ok (.istore_n 2, 1) := by decide +kernel
theorem dX1_strongestFor_10 : decode cX1_strongestFor 10 = .ok (.iload_n 2, 1) := by decide +kernel
theorem dX1_strongestFor_11 : decode cX1_strongestFor 11 = .ok (.aload_n 0, 1) := by decide +kernel
theorem dX1_strongestFor_12 : decode cX1_strongestFor 12 = .ok (.getfield 21, 3) := by decide +kernel
theorem dX1_strongestFor_15 : decode cX1_strongestFor 15 = .ok (.getfield 46, 3) := by decide +kernel
theorem dX1_strongestFor_18 : decode cX1_strongestFor 18 = .ok (.if_icmp .ge 54, 3) := by decide +kernel
theorem dX1_strongestFor_21 : decode cX1_strongestFor 21 = .ok (.aload_n 0, 1) := by decide +kernel
theorem dX1_strongestFor_22 : decode cX1_strongestFor 22 = .ok (.getfield 21, 3) := by decide +kernel
theorem dX1_strongestFor_25 : decode cX1_strongestFor 25 = .ok (.iload_n 2, 1) := by decide +kernel
theorem dX1_strongestFor_26 : decode cX1_strongestFor 26 = .ok (.invokevirtual 77, 3) := by decide +kernel
theorem dX1_strongestFor_29 : decode cX1_strongestFor 29 = .ok (.istore_n 3, 1) := by decide +kernel
theorem dX1_strongestFor_30 : decode cX1_strongestFor 30 = .ok (.aload_n 0, 1) := by decide +kernel
theorem dX1_strongestFor_31 : decode cX1_strongestFor 31 = .ok (.getfield 25, 3) := by decide +kernel
theorem dX1_strongestFor_34 : decode cX1_strongestFor 34 = .ok (.iload_n 2, 1) := by decide +kernel
theorem dX1_strongestFor_35 : decode cX1_strongestFor 35 = .ok (.iaload, 1) := by decide +kernel
theorem dX1_strongestFor_36 : decode cX1_strongestFor 36 = .ok (.iload_n 1, 1) := by decide +kernel
theorem dX1_strongestFor_37 : decode cX1_strongestFor 37 = .ok (.if_icmp .ne 29, 3) := by decide +kernel
theorem dX1_strongestFor_40 : decode cX1_strongestFor 40 = .ok (.iload_n 3, 1) := by decide +kernel
theorem dX1_strongestFor_41 : decode cX1_strongestFor 41 = .ok (.ifCond .lt 25, 3) := by decide +kernel
theorem dX1_strongestFor_44 : decode cX1_strongestFor 44 = .ok (.iload_n 3, 1) := by decide +kernel
theorem dX1_strongestFor_45 : decode cX1_strongestFor 45 = .ok (.iconst 4, 1) := by decide +kernel
theorem dX1_strongestFor_46 : decode cX1_strongestFor 46 = .ok (.if_icmp .ge 20, 3) := by decide +kernel
theorem dX1_strongestFor_49 : decode cX1_strongestFor 49 = .ok (.aload_n 0, 1) := by decide +kernel
theorem dX1_strongestFor_50 : decode cX1_strongestFor 50 = .ok (.getfield 29, 3) := by decide +kernel
theorem dX1_strongestFor_53 : decode cX1_strongestFor 53 = .ok (.iload_n 3, 1) := by decide +kernel
theorem dX1_strongestFor_54 : decode cX1_strongestFor 54 = .ok (.dup2, 1) := by decide +kernel
theorem dX1_strongestFor_55 : decode cX1_strongestFor 55 = .ok (.iaload, 1) := by decide +kernel
theorem dX1_strongestFor_56 : decode cX1_strongestFor 56 = .ok (.aload_n 0, 1) := by decide +kernel
theorem dX1_strongestFor_57 : decode cX1_strongestFor 57 = .ok (.getfield 21, 3) := by decide +kernel
theorem dX1_strongestFor_60 : decode cX1_strongestFor 60 = .ok (.iload_n 2, 1) := by decide +kernel
theorem dX1_strongestFor_61 : decode cX1_strongestFor 61 = .ok (.invokevirtual 80, 3) := by decide +kernel
theorem dX1_strongestFor_64 : decode cX1_strongestFor 64 = .ok (.iadd, 1) := by decide +kernel
theorem dX1_strongestFor_65 : decode cX1_strongestFor 65 = .ok (.iastore, 1) := by decide +kernel
theorem dX1_strongestFor_66 : decode cX1_strongestFor 66 = .ok (.iinc 2 1, 3) := by decide +kernel
theorem dX1_strongestFor_69 : decode cX1_strongestFor 69 = .ok (.goto (-59), 3) := by decide +kernel
theorem dX1_strongestFor_72 : decode cX1_strongestFor 72 = .ok (.iconst (-1), 1) := by decide +kernel
theorem dX1_strongestFor_73 : decode cX1_strongestFor 73 = .ok (.istore_n 2, 1) := by decide +kernel
theorem dX1_strongestFor_74 : decode cX1_strongestFor 74 = .ok (.iconst 0, 1) := by decide +kernel
theorem dX1_strongestFor_75 : decode cX1_strongestFor 75 = .ok (.istore_n 3, 1) := by decide +kernel
theorem dX1_strongestFor_76 : decode cX1_strongestFor 76 = .ok (.iconst 0, 1) := by decide +kernel
theorem dX1_strongestFor_77 : decode cX1_strongestFor 77 = .ok (.istore 4, 2) := by decide +kernel
theorem dX1_strongestFor_79 : decode cX1_strongestFor 79 = .ok (.iload 4, 2) := by decide +kernel
theorem dX1_strongestFor_81 : decode cX1_strongestFor 81 = .ok (.iconst 4, 1) := by decide +kernel
theorem dX1_strongestFor_82 : decode cX1_strongestFor 82 = .ok (.if_icmp .ge 47, 3) := by decide +kernel
theorem dX1_strongestFor_85 : decode cX1_strongestFor 85 = .ok (.aload_n 0, 1) := by decide +kernel
theorem dX1_strongestFor_86 : decode cX1_strongestFor 86 = .ok (.getfield 29, 3) := by decide +kernel
theorem dX1_strongestFor_89 : decode cX1_strongestFor 89 = .ok (.iload 4, 2) := by decide +kernel
theorem dX1_strongestFor_91 : decode cX1_strongestFor 91 = .ok (.iaload, 1) := by decide +kernel
theorem dX1_strongestFor_92 : decode cX1_strongestFor 92 = .ok (.iload_n 3, 1) := by decide +kernel
theorem dX1_strongestFor_93 : decode cX1_strongestFor 93 = .ok (.if_icmp .le 17, 3) := by decide +kernel
theorem dX1_strongestFor_96 : decode cX1_strongestFor 96 = .ok (.aload_n 0, 1) := by decide +kernel
theorem dX1_strongestFor_97 : decode cX1_strongestFor 97 = .ok (.getfield 29, 3) := by decide +kernel
theorem dX1_strongestFor_100 : decode cX1_strongestFor 100 = .ok (.iload 4, 2) := by decide +kernel
theorem dX1_strongestFor_102 : decode cX1_strongestFor 102 = .ok (.iaload, 1) := by decide +kernel
theorem dX1_strongestFor_103 : decode cX1_strongestFor 103 = .ok (.istore_n 3, 1) := by decide +kernel
theorem dX1_strongestFor_104 : decode cX1_strongestFor 104 = .ok (.iload 4, 2) := by decide +kernel
theorem dX1_strongestFor_106 : decode cX1_strongestFor 106 = .ok (.istore_n 2, 1) := by decide +kernel
theorem dX1_strongestFor_107 : decode cX1_strongestFor 107 = .ok (.goto 16, 3) := by decide +kernel
theorem dX1_strongestFor_110 : decode cX1_strongestFor 110 = .ok (.aload_n 0, 1) := by decide +kernel
theorem dX1_strongestFor_111 : decode cX1_strongestFor 111 = .ok (.getfield 29, 3) := by decide +kernel
theorem dX1_strongestFor_114 : decode cX1_strongestFor 114 = .ok (.iload 4, 2) := by decide +kernel
theorem dX1_strongestFor_116 : decode cX1_strongestFor 116 = .ok (.iaload, 1) := by decide +kernel
theorem dX1_strongestFor_117 : decode cX1_strongestFor 117 = .ok (.iload_n 3, 1) := by decide +kernel
theorem dX1_strongestFor_118 : decode cX1_strongestFor 118 = .ok (.if_icmp .ne 5, 3) := by decide +kernel
theorem dX1_strongestFor_121 : decode cX1_strongestFor 121 = .ok (.iconst (-1), 1) := by decide +kernel
theorem dX1_strongestFor_122 : decode cX1_strongestFor 122 = .ok (.istore_n 2, 1) := by decide +kernel
theorem dX1_strongestFor_123 : decode cX1_strongestFor 123 = .ok (.iinc 4 1, 3) := by decide +kernel
theorem dX1_strongestFor_126 : decode cX1_strongestFor 126 = .ok (.goto (-47), 3) := by decide +kernel
theorem dX1_strongestFor_129 : decode cX1_strongestFor 129 = .ok (.iload_n 2, 1) := by decide +kernel
theorem dX1_strongestFor_130 : decode cX1_strongestFor 130 = .ok (.ireturn, 1) := by decide +kernel
theorem dX1_firstMover_0 : decode cX1_firstMover 0 = .ok (.iconst 0, 1) := by decide +kernel
theorem dX1_firstMover_1 : decode cX1_firstMover 1 = .ok (.istore_n 3, 1) := by decide +kernel
theorem dX1_firstMover_2 : decode cX1_firstMover 2 = .ok (.iload_n 3, 1) := by decide +kernel
theorem dX1_firstMover_3 : decode cX1_firstMover 3 = .ok (.aload_n 0, 1) := by decide +kernel
theorem dX1_firstMover_4 : decode cX1_firstMover 4 = .ok (.getfield 21, 3) := by decide +kernel
theorem dX1_firstMover_7 : decode cX1_firstMover 7 = .ok (.getfield 46, 3) := by decide +kernel
theorem dX1_firstMover_10 : decode cX1_firstMover 10 = .ok (.if_icmp .ge 33, 3) := by decide +kernel
theorem dX1_firstMover_13 : decode cX1_firstMover 13 = .ok (.aload_n 0, 1) := by decide +kernel
theorem dX1_firstMover_14 : decode cX1_firstMover 14 = .ok (.getfield 25, 3) := by decide +kernel
theorem dX1_firstMover_17 : decode cX1_firstMover 17 = .ok (.iload_n 3, 1) := by decide +kernel
theorem dX1_firstMover_18 : decode cX1_firstMover 18 = .ok (.iaload, 1) := by decide +kernel
theorem dX1_firstMover_19 : decode cX1_firstMover 19 = .ok (.iload_n 1, 1) := by decide +kernel
theorem dX1_firstMover_20 : decode cX1_firstMover 20 = .ok (.if_icmp .ne 17, 3) := by decide +kernel
theorem dX1_firstMover_23 : decode cX1_firstMover 23 = .ok (.aload_n 0, 1) := by decide +kernel
theorem dX1_firstMover_24 : decode cX1_firstMover 24 = .ok (.getfield 21, 3) := by decide +kernel
theorem dX1_firstMover_27 : decode cX1_firstMover 27 = .ok (.iload_n 3, 1) := by decide +kernel
theorem dX1_firstMover_28 : decode cX1_firstMover 28 = .ok (.invokevirtual 77, 3) := by decide +kernel
theorem dX1_firstMover_31 : decode cX1_firstMover 31 = .ok (.iload_n 2, 1) := by decide +kernel
theorem dX1_firstMover_32 : decode cX1_firstMover 32 = .ok (.if_icmp .ne 5, 3) := by decide +kernel
theorem dX1_firstMover_35 : decode cX1_firstMover 35 = .ok (.iload_n 3, 1) := by decide +kernel
theorem dX1_firstMover_36 : decode cX1_firstMover 36 = .ok (.ireturn, 1) := by decide +kernel
theorem dX1_firstMover_37 : decode cX1_firstMover 37 = .ok (.iinc 3 1, 3) := by decide +kernel
theorem dX1_firstMover_40 : decode cX1_firstMover 40 = .ok (.goto (-38), 3) := by decide +kernel
theorem dX1_firstMover_43 : decode cX1_firstMover 43 = .ok (.iconst (-1), 1) := by decide +kernel
theorem dX1_firstMover_44 : decode cX1_firstMover 44 = .ok (.ireturn, 1) := by decide +kernel
theorem dX1_turnBack_0 : decode cX1_turnBack 0 = .ok (.iconst 0, 1) := by decide +kernel
theorem dX1_turnBack_1 : decode cX1_turnBack 1 = .ok (.istore_n 3, 1) := by decide +kernel
theorem dX1_turnBack_2 : decode cX1_turnBack 2 = .ok (.iload_n 3, 1) := by decide +kernel
theorem dX1_turnBack_3 : decode cX1_turnBack 3 = .ok (.aload_n 0, 1) := by decide +kernel
theorem dX1_turnBack_4 : decode cX1_turnBack 4 = .ok (.getfield 21, 3) := by decide +kernel
theorem dX1_turnBack_7 : decode cX1_turnBack 7 = .ok (.getfield 46, 3) := by decide +kernel
theorem dX1_turnBack_10 : decode cX1_turnBack 10 = .ok (.if_icmp .ge 38, 3) := by decide +kernel
theorem dX1_turnBack_13 : decode cX1_turnBack 13 = .ok (.aload_n 0, 1) := by decide +kernel
theorem dX1_turnBack_14 : decode cX1_turnBack 14 = .ok (.getfield 25, 3) := by decide +kernel
theorem dX1_turnBack_17 : decode cX1_turnBack 17 = .ok (.iload_n 3, 1) := by decide +kernel
theorem dX1_turnBack_18 : decode cX1_turnBack 18 = .ok (.iaload, 1) := by decide +kernel
theorem dX1_turnBack_19 : decode cX1_turnBack 19 = .ok (.iload_n 1, 1) := by decide +kernel
theorem dX1_turnBack_20 : decode cX1_turnBack 20 = .ok (.if_icmp .ne 22, 3) := by decide +kernel
theorem dX1_turnBack_23 : decode cX1_turnBack 23 = .ok (.iload_n 3, 1) := by decide +kernel
theorem dX1_turnBack_24 : decode cX1_turnBack 24 = .ok (.iload_n 2, 1) := by decide +kernel
theorem dX1_turnBack_25 : decode cX1_turnBack 25 = .ok (.if_icmp .eq 17, 3) := by decide +kernel
theorem dX1_turnBack_28 : decode cX1_turnBack 28 = .ok (.aload_n 0, 1) := by decide +kernel
theorem dX1_turnBack_29 : decode cX1_turnBack 29 = .ok (.getfield 25, 3) := by decide +kernel
theorem dX1_turnBack_32 : decode cX1_turnBack 32 = .ok (.iload_n 3, 1) := by decide +kernel
theorem dX1_turnBack_33 : decode cX1_turnBack 33 = .ok (.aload_n 0, 1) := by decide +kernel
theorem dX1_turnBack_34 : decode cX1_turnBack 34 = .ok (.getfield 21, 3) := by decide +kernel
theorem dX1_turnBack_37 : decode cX1_turnBack 37 = .ok (.iload_n 3, 1) := by decide +kernel
theorem dX1_turnBack_38 : decode cX1_turnBack 38 = .ok (.invokevirtual 50, 3) := by decide +kernel
theorem dX1_turnBack_41 : decode cX1_turnBack 41 = .ok (.iastore, 1) := by decide +kernel
theorem dX1_turnBack_42 : decode cX1_turnBack 42 = .ok (.iinc 3 1, 3) := by decide +kernel
theorem dX1_turnBack_45 : decode cX1_turnBack 45 = .ok (.goto (-43), 3) := by decide +kernel
theorem dX1_turnBack_48 : decode cX1_turnBack 48 = .ok (.return_, 1) := by decide +kernel
theorem dX1_moveAll_0 : decode cX1_moveAll 0 = .ok (.iconst 0, 1) := by decide +kernel
theorem dX1_moveAll_1 : decode cX1_moveAll 1 = .ok (.istore_n 1, 1) := by decide +kernel
theorem dX1_moveAll_2 : decode cX1_moveAll 2 = .ok (.iload_n 1, 1) := by decide +kernel
theorem dX1_moveAll_3 : decode cX1_moveAll 3 = .ok (.aload_n 0, 1) := by decide +kernel
theorem dX1_moveAll_4 : decode cX1_moveAll 4 = .ok (.getfield 21, 3) := by decide +kernel
theorem dX1_moveAll_7 : decode cX1_moveAll 7 = .ok (.getfield 46, 3) := by decide +kernel
theorem dX1_moveAll_10 : decode cX1_moveAll 10 = .ok (.if_icmp .ge 23, 3) := by decide +kernel
theorem dX1_moveAll_13 : decode cX1_moveAll 13 = .ok (.aload_n 0, 1) := by decide +kernel
theorem dX1_moveAll_14 : decode cX1_moveAll 14 = .ok (.getfield 21, 3) := by decide +kernel
theorem dX1_moveAll_17 : decode cX1_moveAll 17 = .ok (.iload_n 1, 1) := by decide +kernel
theorem dX1_moveAll_18 : decode cX1_moveAll 18 = .ok (.aload_n 0, 1) := by decide +kernel
theorem dX1_moveAll_19 : decode cX1_moveAll 19 = .ok (.getfield 25, 3) := by decide +kernel
theorem dX1_moveAll_22 : decode cX1_moveAll 22 = .ok (.iload_n 1, 1) := by decide +kernel
theorem dX1_moveAll_23 : decode cX1_moveAll 23 = .ok (.iaload, 1) := by decide +kernel
theorem dX1_moveAll_24 : decode cX1_moveAll 24 = .ok (.invokevirtual 87, 3) := by decide +kernel
theorem dX1_moveAll_27 : decode cX1_moveAll 27 = .ok (.iinc 1 1, 3) := by decide +kernel
theorem dX1_moveAll_30 : decode cX1_moveAll 30 = .ok (.goto (-28), 3) := by decide +kernel
theorem dX1_moveAll_33 : decode cX1_moveAll 33 = .ok (.return_, 1) := by decide +kernel
theorem dX1_unitSpots_0 : decode cX1_unitSpots 0 = .ok (.aload_n 0, 1) := by decide +kernel
theorem dX1_unitSpots_1 : decode cX1_unitSpots 1 = .ok (.getfield 21, 3) := by decide +kernel
theorem dX1_unitSpots_4 : decode cX1_unitSpots 4 = .ok (.iload_n 1, 1) := by decide +kernel
theorem dX1_unitSpots_5 : decode cX1_unitSpots 5 = .ok (.invokevirtual 50, 3) := by decide +kernel
theorem dX1_unitSpots_8 : decode cX1_unitSpots 8 = .ok (.istore_n 3, 1) := by decide +kernel
theorem dX1_unitSpots_9 : decode cX1_unitSpots 9 = .ok (.iload_n 3, 1) := by decide +kernel
theorem dX1_unitSpots_10 : decode cX1_unitSpots 10 = .ok (.iconst (-1), 1) := by decide +kernel
theorem dX1_unitSpots_11 : decode cX1_unitSpots 11 = .ok (.if_icmp .ne 5, 3) := by decide +kernel
theorem dX1_unitSpots_14 : decode cX1_unitSpots 14 = .ok (.iconst 0, 1) := by decide +kernel
theorem dX1_unitSpots_15 : decode cX1_unitSpots 15 = .ok (.ireturn, 1) := by decide +kernel
theorem dX1_unitSpots_16 : decode cX1_unitSpots 16 = .ok (.aload_n 0, 1) := by decide +kernel
theorem dX1_unitSpots_17 : decode cX1_unitSpots 17 = .ok (.getfield 21, 3) := by decide +kernel
theorem dX1_unitSpots_20 : decode cX1_unitSpots 20 = .ok (.iload_n 1, 1) := by decide +kernel
theorem dX1_unitSpots_21 : decode cX1_unitSpots 21 = .ok (.invokevirtual 115, 3) := by decide +kernel
theorem dX1_unitSpots_24 : decode cX1_unitSpots 24 = .ok (.aload_n 0, 1) := by decide +kernel
theorem dX1_unitSpots_25 : decode cX1_unitSpots 25 = .ok (.getfield 12, 3) := by decide +kernel
theorem dX1_unitSpots_28 : decode cX1_unitSpots 28 = .ok (.iload_n 3, 1) := by decide +kernel
theorem dX1_unitSpots_29 : decode cX1_unitSpots 29 = .ok (.invokevirtual 118, 3) := by decide +kernel
theorem dX1_unitSpots_32 : decode cX1_unitSpots 32 = .ok (.bipush 104, 2) := by decide +kernel
theorem dX1_unitSpots_34 : decode cX1_unitSpots 34 = .ok (.if_icmp .ne 7, 3) := by decide +kernel
theorem dX1_unitSpots_37 : decode cX1_unitSpots 37 = .ok (.iconst 1, 1) := by decide +kernel
theorem dX1_unitSpots_38 : decode cX1_unitSpots 38 = .ok (.goto 4, 3) := by decide +kernel
theorem dX1_unitSpots_41 : decode cX1_unitSpots 41 = .ok (.iconst 0, 1) := by decide +kernel
theorem dX1_unitSpots_42 : decode cX1_unitSpots 42 = .ok (.iadd, 1) := by decide +kernel
theorem dX1_unitSpots_43 : decode cX1_unitSpots 43 = .ok (.istore 4, 2) := by decide +kernel
theorem dX1_unitSpots_45 : decode cX1_unitSpots 45 = .ok (.iload_n 3, 1) := by decide +kernel
theorem dX1_unitSpots_46 : decode cX1_unitSpots 46 = .ok (.iload_n 2, 1) := by decide +kernel
theorem dX1_unitSpots_47 : decode cX1_unitSpots 47 = .ok (.invokestatic 122, 3) := by decide +kernel
theorem dX1_unitSpots_50 : decode cX1_unitSpots 50 = .ok (.iload 4, 2) := by decide +kernel
theorem dX1_unitSpots_52 : decode cX1_unitSpots 52 = .ok (.if_icmp .gt 19, 3) := by decide +kernel
theorem dX1_unitSpots_55 : decode cX1_unitSpots 55 = .ok (.aload_n 0, 1) := by decide +kernel
theorem dX1_unitSpots_56 : decode cX1_unitSpots 56 = .ok (.getfield 12, 3) := by decide +kernel
theorem dX1_unitSpots_59 : decode cX1_unitSpots 59 = .ok (.iload_n 3, 1) := by decide +kernel
theorem dX1_unitSpots_60 : decode cX1_unitSpots 60 = .ok (.iload_n 2, 1) := by decide +kernel
theorem dX1_unitSpots_61 : decode cX1_unitSpots 61 = .ok (.invokevirtual 125, 3) := by decide +kernel
theorem dX1_unitSpots_64 : decode cX1_unitSpots 64 = .ok (.ifCond .eq 7, 3) := by decide +kernel
theorem dX1_unitSpots_67 : decode cX1_unitSpots 67 = .ok (.iconst 1, 1) := by decide +kernel
theorem dX1_unitSpots_68 : decode cX1_unitSpots 68 = .ok (.goto 4, 3) := by decide +kernel
theorem dX1_unitSpots_71 : decode cX1_unitSpots 71 = .ok (.iconst 0, 1) := by decide +kernel
theorem dX1_unitSpots_72 : decode cX1_unitSpots 72 = .ok (.ireturn, 1) := by decide +kernel
theorem dX1_playerSpots_0 : decode cX1_playerSpots 0 = .ok (.iconst 0, 1) := by decide +kernel
theorem dX1_playerSpots_1 : decode cX1_playerSpots 1 = .ok (.istore_n 3, 1) := by decide +kernel
theorem dX1_playerSpots_2 : decode cX1_playerSpots 2 = .ok (.iload_n 3, 1) := by decide +kernel
theorem dX1_playerSpots_3 : decode cX1_playerSpots 3 = .ok (.aload_n 0, 1) := by decide +kernel
theorem dX1_playerSpots_4 : decode cX1_playerSpots 4 = .ok (.getfield 21, 3) := by decide +kernel
theorem dX1_playerSpots_7 : decode cX1_playerSpots 7 = .ok (.getfield 46, 3) := by decide +kernel
theorem dX1_playerSpots_10 : decode cX1_playerSpots 10 = .ok (.if_icmp .ge 32, 3) := by decide +kernel
theorem dX1_playerSpots_13 : decode cX1_playerSpots 13 = .ok (.aload_n 0, 1) := by decide +kernel
theorem dX1_playerSpots_14 : decode cX1_playerSpots 14 = .ok (.getfield 21, 3) := by decide +kernel
theorem dX1_playerSpots_17 : decode cX1_playerSpots 17 = .ok (.iload_n 3, 1) := by decide +kernel
theorem dX1_playerSpots_18 : decode cX1_playerSpots 18 = .ok (.invokevirtual 77, 3) := by decide +kernel
theorem dX1_playerSpots_21 : decode cX1_playerSpots 21 = .ok (.iload_n 1, 1) := by decide +kernel
theorem dX1_playerSpots_22 : decode cX1_playerSpots 22 = .ok (.if_icmp .ne 14, 3) := by decide +kernel
theorem dX1_playerSpots_25 : decode cX1_playerSpots 25 = .ok (.aload_n 0, 1) := by decide +kernel
theorem dX1_playerSpots_26 : decode cX1_playerSpots 26 = .ok (.iload_n 3, 1) := by decide +kernel
theorem dX1_playerSpots_27 : decode cX1_playerSpots 27 = .ok (.iload_n 2, 1) := by decide +kernel
theorem dX1_playerSpots_28 : decode cX1_playerSpots 28 = .ok (.invokevirtual 129, 3) := by decide +kernel
theorem dX1_playerSpots_31 : decode cX1_playerSpots 31 = .ok (.ifCond .eq 5, 3) := by decide +kernel
theorem dX1_playerSpots_34 : decode cX1_playerSpots 34 = .ok (.iconst 1, 1) := by decide +kernel
theorem dX1_playerSpots_35 : decode cX1_playerSpots 35 = .ok (.ireturn, 1) := by decide +kernel
theorem dX1_playerSpots_36 : decode cX1_playerSpots 36 = .ok (.iinc 3 1, 3) := by decide +kernel
theorem dX1_playerSpots_39 : decode cX1_playerSpots 39 = .ok (.goto (-37), 3) := by decide +kernel
theorem dX1_playerSpots_42 : decode cX1_playerSpots 42 = .ok (.iconst 0, 1) := by decide +kernel
theorem dX1_playerSpots_43 : decode cX1_playerSpots 43 = .ok (.ireturn, 1) := by decide +kernel
theorem dX2_init_0 : decode cX2_init 0 = .ok (.aload_n 0, 1) := by decide +kernel
theorem dX2_init_1 : decode cX2_init 1 = .ok (.invokespecial 3, 3) := by decide +kernel
theorem dX2_init_4 : decode cX2_init 4 = .ok (.aload_n 0, 1) := by decide +kernel
theorem dX2_init_5 : decode cX2_init 5 = .ok (.bipush 61, 2) := by decide +kernel
theorem dX2_init_7 : decode cX2_init 7 = .ok (.newarray .int, 2) := by decide +kernel
theorem dX2_init_9 : decode cX2_init 9 = .ok (.putfield 9, 3) := by decide +kernel
theorem dX2_init_12 : decode cX2_init 12 = .ok (.return_, 1) := by decide +kernel
theorem dX2_at_0 : decode cX2_at 0 = .ok (.iload_n 1, 1) := by decide +kernel
theorem dX2_at_1 : decode cX2_at 1 = .ok (.ifCond .lt 20, 3) := by decide +kernel
theorem dX2_at_4 : decode cX2_at 4 = .ok (.iload_n 1, 1) := by decide +kernel
theorem dX2_at_5 : decode cX2_at 5 = .ok (.aload_n 0, 1) := by decide +kernel
theorem dX2_at_6 : decode cX2_at 6 = .ok (.getfield 15, 3) := by decide +kernel
theorem dX2_at_9 : decode cX2_at 9 = .ok (.if_icmp .ge 12, 3) := by decide +kernel
theorem dX2_at_12 : decode cX2_at 12 = .ok (.aload_n 0, 1) := by decide +kernel
theorem dX2_at_13 : decode cX2_at 13 = .ok (.getfield 9, 3) := by decide +kernel
theorem dX2_at_16 : decode cX2_at 16 = .ok (.iload_n 1, 1) := by decide +kernel
theorem dX2_at_17 : decode cX2_at 17 = .ok (.iaload, 1) := by decide +kernel
theorem dX2_at_18 : decode cX2_at 18 = .ok (.goto 4, 3) := by decide +kernel
theorem dX2_at_21 : decode cX2_at 21 = .ok (.iconst (-1), 1) := by decide +kernel
theorem dX2_at_22 : decode cX2_at 22 = .ok (.ireturn, 1) := by decide +kernel
theorem dX2_clear_0 : decode cX2_clear 0 = .ok (.aload_n 0, 1) := by decide +kernel
theorem dX2_clear_1 : decode cX2_clear 1 = .ok (.iconst 0, 1) := by decide +kernel
theorem dX2_clear_2 : decode cX2_clear 2 = .ok (.putfield 15, 3) := by decide +kernel
theorem dX2_clear_5 : decode cX2_clear 5 = .ok (.return_, 1) := by decide +kernel
theorem dX2_add_0 : decode cX2_add 0 = .ok (.aload_n 0, 1) := by decide +kernel
theorem dX2_add_1 : decode cX2_add 1 = .ok (.getfield 15, 3) := by decide +kernel
theorem dX2_add_4 : decode cX2_add 4 = .ok (.bipush 60, 2) := by decide +kernel
theorem dX2_add_6 : decode cX2_add 6 = .ok (.if_icmp .le 4, 3) := by decide +kernel
theorem dX2_add_9 : decode cX2_add 9 = .ok (.return_, 1) := by decide +kernel
theorem dX2_add_10 : decode cX2_add 10 = .ok (.aload_n 0, 1) := by decide +kernel
theorem dX2_add_11 : decode cX2_add 11 = .ok (.getfield 15, 3) := by decide +kernel
theorem dX2_add_14 : decode cX2_add 14 = .ok (.istore 4, 2) := by decide +kernel
theorem dX2_add_16 : decode cX2_add 16 = .ok (.iload 4, 2) := by decide +kernel
theorem dX2_add_18 : decode cX2_add 18 = .ok (.ifCond .le 42, 3) := by decide +kernel
theorem dX2_add_21 : decode cX2_add 21 = .ok (.aload_n 0, 1) := by decide +kernel
theorem dX2_add_22 : decode cX2_add 22 = .ok (.getfield 9, 3) := by decide +kernel
theorem dX2_add_25 : decode cX2_add 25 = .ok (.iload 4, 2) := by decide +kernel
theorem dX2_add_27 : decode cX2_add 27 = .ok (.iconst 1, 1) := by decide +kernel
theorem dX2_add_28 : decode cX2_add 28 = .ok (.isub, 1) := by decide +kernel
theorem dX2_add_29 : decode cX2_add 29 = .ok (.iaload, 1) := by decide +kernel
theorem dX2_add_30 : decode cX2_add 30 = .ok (.iload_n 1, 1) := by decide +kernel
theorem dX2_add_31 : decode cX2_add 31 = .ok (.iload_n 3, 1) := by decide +kernel
theorem dX2_add_32 : decode cX2_add 32 = .ok (.invokestatic 19, 3) := by decide +kernel
theorem dX2_add_35 : decode cX2_add 35 = .ok (.ifCond .eq 25, 3) := by decide +kernel
theorem dX2_add_38 : decode cX2_add 38 = .ok (.aload_n 0, 1) := by decide +kernel
theorem dX2_add_39 : decode cX2_add 39 = .ok (.getfield 9, 3) := by decide +kernel
theorem dX2_add_42 : decode cX2_add 42 = .ok (.iload 4, 2) := by decide +kernel
theorem dX2_add_44 : decode cX2_add 44 = .ok (.aload_n 0, 1) := by decide +kernel
theorem dX2_add_45 : decode cX2_add 45 = .ok (.getfield 9, 3) := by decide +kernel
theorem dX2_add_48 : decode cX2_add 48 = .ok (.iload 4, 2) := by decide +kernel
theorem dX2_add_50 : decode cX2_add 50 = .ok (.iconst 1, 1) := by decide +kernel
theorem dX2_add_51 : decode cX2_add 51 = .ok (.isub, 1) := by decide +kernel
theorem dX2_add_52 : decode cX2_add 52 = .ok (.iaload, 1) := by decide +kernel
theorem dX2_add_53 : decode cX2_add 53 = .ok (.iastore, 1) := by decide +kernel
theorem dX2_add_54 : decode cX2_add 54 = .ok (.iinc 4 (-1), 3) := by decide +kernel
theorem dX2_add_57 : decode cX2_add 57 = .ok (.goto (-41), 3) := by decide +kernel
theorem dX2_add_60 : decode cX2_add 60 = .ok (.aload_n 0, 1) := by decide +kernel
theorem dX2_add_61 : decode cX2_add 61 = .ok (.getfield 9, 3) := by decide +kernel
theorem dX2_add_64 : decode cX2_add 64 = .ok (.iload 4, 2) := by decide +kernel
theorem dX2_add_66 : decode cX2_add 66 = .ok (.iload_n 1, 1) := by decide +kernel
theorem dX2_add_67 : decode cX2_add 67 = .ok (.iload_n 2, 1) := by decide +kernel
theorem dX2_add_68 : decode cX2_add 68 = .ok (.iload_n 3, 1) := by decide +kernel
theorem dX2_add_69 : decode cX2_add 69 = .ok (.invokestatic 23, 3) := by decide +kernel
theorem dX2_add_72 : decode cX2_add 72 = .ok (.iastore, 1) := by decide +kernel
theorem dX2_add_73 : decode cX2_add 73 = .ok (.aload_n 0, 1) := by decide +kernel
theorem dX2_add_74 : decode cX2_add 74 = .ok (.dup, 1) := by decide +kernel
theorem dX2_add_75 : decode cX2_add 75 = .ok (.getfield 15, 3) := by decide +kernel
theorem dX2_add_78 : decode cX2_add 78 = .ok (.iconst 1, 1) := by decide +kernel
theorem dX2_add_79 : decode cX2_add 79 = .ok (.iadd, 1) := by decide +kernel
theorem dX2_add_80 : decode cX2_add 80 = .ok (.putfield 15, 3) := by decide +kernel
theorem dX2_add_83 : decode cX2_add 83 = .ok (.aload_n 0, 1) := by decide +kernel
theorem dX2_add_84 : decode cX2_add 84 = .ok (.getfield 15, 3) := by decide +kernel
theorem dX2_add_87 : decode cX2_add 87 = .ok (.bipush 60, 2) := by decide +kernel
theorem dX2_add_89 : decode cX2_add 89 = .ok (.if_icmp .le 7, 3) := by decide +kernel
theorem dX2_add_92 : decode cX2_add 92 = .ok (.aload_n 0, 1) := by decide +kernel
theorem dX2_add_93 : decode cX2_add 93 = .ok (.invokevirtual 27, 3) := by decide +kernel
theorem dX2_add_96 : decode cX2_add 96 = .ok (.return_, 1) := by decide +kernel
theorem dX2_has_0 : decode cX2_has 0 = .ok (.iconst 0, 1) := by decide +kernel
theorem dX2_has_1 : decode cX2_has 1 = .ok (.istore_n 3, 1) := by decide +kernel
theorem dX2_has_2 : decode cX2_has 2 = .ok (.iload_n 3, 1) := by decide +kernel
theorem dX2_has_3 : decode cX2_has 3 = .ok (.aload_n 0, 1) := by decide +kernel
theorem dX2_has_4 : decode cX2_has 4 = .ok (.getfield 15, 3) := by decide +kernel
theorem dX2_has_7 : decode cX2_has 7 = .ok (.if_icmp .ge 37, 3) := by decide +kernel
theorem dX2_has_10 : decode cX2_has 10 = .ok (.aload_n 0, 1) := by decide +kernel
theorem dX2_has_11 : decode cX2_has 11 = .ok (.getfield 9, 3) := by decide +kernel
theorem dX2_has_14 : decode cX2_has 14 = .ok (.iload_n 3, 1) := by decide +kernel
theorem dX2_has_15 : decode cX2_has 15 = .ok (.iaload, 1) := by decide +kernel
theorem dX2_has_16 : decode cX2_has 16 = .ok (.invokestatic 30, 3) := by decide +kernel
theorem dX2_has_19 : decode cX2_has 19 = .ok (.iload_n 1, 1) := by decide +kernel
theorem dX2_has_20 : decode cX2_has 20 = .ok (.if_icmp .ne 18, 3) := by decide +kernel
theorem dX2_has_23 : decode cX2_has 23 = .ok (.aload_n 0, 1) := by decide +kernel
theorem dX2_has_24 : decode cX2_has 24 = .ok (.getfield 9, 3) := by decide +kernel
theorem dX2_has_27 : decode cX2_has 27 = .ok (.iload_n 3, 1) := by decide +kernel
theorem dX2_has_28 : decode cX2_has 28 = .ok (.iaload, 1) := by decide +kernel
theorem dX2_has_29 : decode cX2_has 29 = .ok (.invokestatic 34, 3) := by decide +kernel
theorem dX2_has_32 : decode cX2_has 32 = .ok (.iload_n 2, 1) := by decide +kernel
theorem dX2_has_33 : decode cX2_has 33 = .ok (.if_icmp .ne 5, 3) := by decide +kernel
theorem dX2_has_36 : decode cX2_has 36 = .ok (.iconst 1, 1) := by decide +kernel
theorem dX2_has_37 : decode cX2_has 37 = .ok (.ireturn, 1) := by decide +kernel
theorem dX2_has_38 : decode cX2_has 38 = .ok (.iinc 3 1, 3) := by decide +kernel
theorem dX2_has_41 : decode cX2_has 41 = .ok (.goto (-39), 3) := by decide +kernel
theorem dX2_has_44 : decode cX2_has 44 = .ok (.iconst 0, 1) := by decide +kernel
theorem dX2_has_45 : decode cX2_has 45 = .ok (.ireturn, 1) := by decide +kernel
theorem dX2_latestOnCell_0 : decode cX2_latestOnCell 0 = .ok (.aload_n 0, 1) := by decide +kernel
theorem dX2_latestOnCell_1 : decode cX2_latestOnCell 1 = .ok (.getfield 15, 3) := by decide +kernel
theorem dX2_latestOnCell_4 : decode cX2_latestOnCell 4 = .ok (.iconst 1, 1) := by decide +kernel
theorem dX2_latestOnCell_5 : decode cX2_latestOnCell 5 = .ok (.isub, 1) := by decide +kernel
theorem dX2_latestOnCell_6 : decode cX2_latestOnCell 6 = .ok (.istore_n 2, 1) := by decide +kernel
theorem dX2_latestOnCell_7 : decode cX2_latestOnCell 7 = .ok (.iload_n 2, 1) := by decide +kernel
theorem dX2_latestOnCell_8 : decode cX2_latestOnCell 8 = .ok (.ifCond .lt 29, 3) := by decide +kernel
theorem dX2_latestOnCell_11 : decode cX2_latestOnCell 11 = .ok (.aload_n 0, 1) := by decide +kernel
theorem dX2_latestOnCell_12 : decode cX2_latestOnCell 12 = .ok (.getfield 9, 3) := by decide +kernel
theorem dX2_latestOnCell_15 : decode cX2_latestOnCell 15 = .ok (.iload_n 2, 1) := by decide +kernel
theorem dX2_latestOnCell_16 : decode cX2_latestOnCell 16 = .ok (.iaload, 1) := by decide +kernel
theorem dX2_latestOnCell_17 : decode cX2_latestOnCell 17 = .ok (.invokestatic 37, 3) := by decide +kernel
theorem dX2_latestOnCell_20 : decode cX2_latestOnCell 20 = .ok (.iload_n 1, 1) := by decide +kernel
theorem dX2_latestOnCell_21 : decode cX2_latestOnCell 21 = .ok (.if_icmp .ne 10, 3) := by decide +kernel
theorem dX2_latestOnCell_24 : decode cX2_latestOnCell 24 = .ok (.aload_n 0, 1) := by decide +kernel
theorem dX2_latestOnCell_25 : decode cX2_latestOnCell 25 = .ok (.getfield 9, 3) := by decide +kernel
theorem dX2_latestOnCell_28 : decode cX2_latestOnCell 28 = .ok (.iload_n 2, 1) := by decide +kernel
theorem dX2_latestOnCell_29 : decode cX2_latestOnCell 29 = .ok (.iaload, 1) := by decide +kernel
theorem dX2_latestOnCell_30 : decode cX2_latestOnCell 30 = .ok (.ireturn, 1) := by decide +kernel
theorem dX2_latestOnCell_31 : decode cX2_latestOnCell 31 = .ok (.iinc 2 (-1), 3) := by decide +kernel
theorem dX2_latestOnCell_34 : decode cX2_latestOnCell 34 = .ok (.goto (-27), 3) := by decide +kernel
theorem dX2_latestOnCell_37 : decode cX2_latestOnCell 37 = .ok (.iconst (-1), 1) := by decide +kernel
theorem dX2_latestOnCell_38 : decode cX2_latestOnCell 38 = .ok (.ireturn, 1) := by decide +kernel
theorem dX2_latestOfUnit_0 : decode cX2_latestOfUnit 0 = .ok (.aload_n 0, 1) := by decide +kernel
theorem dX2_latestOfUnit_1 : decode cX2_latestOfUnit 1 = .ok (.getfield 15, 3) := by decide +kernel
theorem dX2_latestOfUnit_4 : decode cX2_latestOfUnit 4 = .ok (.iconst 1, 1) := by decide +kernel
theorem dX2_latestOfUnit_5 : decode cX2_latestOfUnit 5 = .ok (.isub, 1) := by decide +kernel
theorem dX2_latestOfUnit_6 : decode cX2_latestOfUnit 6 = .ok (.istore_n 2, 1) := by decide +kernel
theorem dX2_latestOfUnit_7 : decode cX2_latestOfUnit 7 = .ok (.iload_n 2, 1) := by decide +kernel
theorem dX2_latestOfUnit_8 : decode cX2_latestOfUnit 8 = .ok (.ifCond .lt 29, 3) := by decide +kernel
theorem dX2_latestOfUnit_11 : decode cX2_latestOfUnit 11 = .ok (.aload_n 0, 1) := by decide +kernel
theorem dX2_latestOfUnit_12 : decode cX2_latestOfUnit 12 = .ok (.getfield 9, 3) := by decide +kernel
theorem dX2_latestOfUnit_15 : decode cX2_latestOfUnit 15 = .ok (.iload_n 2, 1) := by decide +kernel
theorem dX2_latestOfUnit_16 : decode cX2_latestOfUnit 16 = .ok (.iaload, 1) := by decide +kernel
theorem dX2_latestOfUnit_17 : decode cX2_latestOfUnit 17 = .ok (.invokestatic 34, 3) := by decide +kernel
theorem dX2_latestOfUnit_20 : decode cX2_latestOfUnit 20 = .ok (.iload_n 1, 1) := by decide +kernel
theorem dX2_latestOfUnit_21 : decode cX2_latestOfUnit 21 = .ok (.if_icmp .ne 10, 3) := by decide +kernel
theorem dX2_latestOfUnit_24 : decode cX2_latestOfUnit 24 = .ok (.aload_n 0, 1) := by decide +kernel
theorem dX2_latestOfUnit_25 : decode cX2_latestOfUnit 25 = .ok (.getfield 9, 3) := by decide +kernel
theorem dX2_latestOfUnit_28 : decode cX2_latestOfUnit 28 = .ok (.iload_n 2, 1) := by decide +kernel
theorem dX2_latestOfUnit_29 : decode cX2_latestOfUnit 29 = .ok (.iaload, 1) := by decide +kernel
theorem dX2_latestOfUnit_30 : decode cX2_latestOfUnit 30 = .ok (.ireturn, 1) := by decide +kernel
theorem dX2_latestOfUnit_31 : decode cX2_latestOfUnit 31 = .ok (.iinc 2 (-1), 3) := by decide +kernel
theorem dX2_latestOfUnit_34 : decode cX2_latestOfUnit 34 = .ok (.goto (-27), 3) := by decide +kernel
theorem dX2_latestOfUnit_37 : decode cX2_latestOfUnit 37 = .ok (.iconst (-1), 1) := by decide +kernel
theorem dX2_latestOfUnit_38 : decode cX2_latestOfUnit 38 = .ok (.ireturn, 1) := by decide +kernel
theorem dX2_dropFirst_0 : decode cX2_dropFirst 0 = .ok (.iconst 1, 1) := by decide +kernel
theorem dX2_dropFirst_1 : decode cX2_dropFirst 1 = .ok (.istore_n 1, 1) := by decide +kernel
theorem dX2_dropFirst_2 : decode cX2_dropFirst 2 = .ok (.iload_n 1, 1) := by decide +kernel
theorem dX2_dropFirst_3 : decode cX2_dropFirst 3 = .ok (.aload_n 0, 1) := by decide +kernel
theorem dX2_dropFirst_4 : decode cX2_dropFirst 4 = .ok (.getfield 15, 3) := by decide +kernel
theorem dX2_dropFirst_7 : decode cX2_dropFirst 7 = .ok (.if_icmp .ge 23, 3) := by decide +kernel
theorem dX2_dropFirst_10 : decode cX2_dropFirst 10 = .ok (.aload_n 0, 1) := by decide +kernel
theorem dX2_dropFirst_11 : decode cX2_dropFirst 11 = .ok (.getfield 9, 3) := by decide +kernel
theorem dX2_dropFirst_14 : decode cX2_dropFirst 14 = .ok (.iload_n 1, 1) := by decide +kernel
theorem dX2_dropFirst_15 : decode cX2_dropFirst 15 = .ok (.iconst 1, 1) := by decide +kernel
theorem dX2_dropFirst_16 : decode cX2_dropFirst 16 = .ok (.isub, 1) := by decide +kernel
theorem dX2_dropFirst_17 : decode cX2_dropFirst 17 = .ok (.aload_n 0, 1) := by decide +kernel
theorem dX2_dropFirst_18 : decode cX2_dropFirst 18 = .ok (.getfield 9, 3) := by decide +kernel
theorem dX2_dropFirst_21 : decode cX2_dropFirst 21 = .ok (.iload_n 1, 1) := by decide +kernel
theorem dX2_dropFirst_22 : decode cX2_dropFirst 22 = .ok (.iaload, 1) := by decide +kernel
theorem dX2_dropFirst_23 : decode cX2_dropFirst 23 = .ok (.iastore, 1) := by decide +kernel
theorem dX2_dropFirst_24 : decode cX2_dropFirst 24 = .ok (.iinc 1 1, 3) := by decide +kernel
theorem dX2_dropFirst_27 : decode cX2_dropFirst 27 = .ok (.goto (-25), 3) := by decide +kernel
theorem dX2_dropFirst_30 : decode cX2_dropFirst 30 = .ok (.aload_n 0, 1) := by decide +kernel
theorem dX2_dropFirst_31 : decode cX2_dropFirst 31 = .ok (.dup, 1) := by decide +kernel
theorem dX2_dropFirst_32 : decode cX2_dropFirst 32 = .ok (.getfield 15, 3) := by decide +kernel
theorem dX2_dropFirst_35 : decode cX2_dropFirst 35 = .ok (.iconst 1, 1) := by decide +kernel
theorem dX2_dropFirst_36 : decode cX2_dropFirst 36 = .ok (.isub, 1) := by decide +kernel
theorem dX2_dropFirst_37 : decode cX2_dropFirst 37 = .ok (.putfield 15, 3) := by decide +kernel
theorem dX2_dropFirst_40 : decode cX2_dropFirst 40 = .ok (.return_, 1) := by decide +kernel
theorem dX2_isBehind_0 : decode cX2_isBehind 0 = .ok (.iload_n 0, 1) := by decide +kernel
theorem dX2_isBehind_1 : decode cX2_isBehind 1 = .ok (.invokestatic 30, 3) := by decide +kernel
theorem dX2_isBehind_4 : decode cX2_isBehind 4 = .ok (.iload_n 1, 1) := by decide +kernel
theorem dX2_isBehind_5 : decode cX2_isBehind 5 = .ok (.if_icmp .gt 19, 3) := by decide +kernel
theorem dX2_isBehind_8 : decode cX2_isBehind 8 = .ok (.iload_n 0, 1) := by decide +kernel
theorem dX2_isBehind_9 : decode cX2_isBehind 9 = .ok (.invokestatic 30, 3) := by decide +kernel
theorem dX2_isBehind_12 : decode cX2_isBehind 12 = .ok (.iload_n 1, 1) := by decide +kernel
theorem dX2_isBehind_13 : decode cX2_isBehind 13 = .ok (.if_icmp .ne 15, 3) := by decide +kernel
theorem dX2_isBehind_16 : decode cX2_isBehind 16 = .ok (.iload_n 0, 1) := by decide +kernel
theorem dX2_isBehind_17 : decode cX2_isBehind 17 = .ok (.invokestatic 34, 3) := by decide +kernel
theorem dX2_isBehind_20 : decode cX2_isBehind 20 = .ok (.iload_n 2, 1) := by decide +kernel
theorem dX2_isBehind_21 : decode cX2_isBehind 21 = .ok (.if_icmp .le 7, 3) := by decide +kernel
theorem dX2_isBehind_24 : decode cX2_isBehind 24 = .ok (.iconst 1, 1) := by decide +kernel
theorem dX2_isBehind_25 : decode cX2_isBehind 25 = .ok (.goto 4, 3) := by decide +kernel
theorem dX2_isBehind_28 : decode cX2_isBehind 28 = .ok (.iconst 0, 1) := by decide +kernel
theorem dX2_isBehind_29 : decode cX2_isBehind 29 = .ok (.ireturn, 1) := by decide +kernel
theorem dX3_init_0 : decode cX3_init 0 = .ok (.aload_n 0, 1) := by decide +kernel
theorem dX3_init_1 : decode cX3_init 1 = .ok (.invokespecial 3, 3) := by decide +kernel
theorem dX3_init_4 : decode cX3_init 4 = .ok (.aload_n 0, 1) := by decide +kernel
theorem dX3_init_5 : decode cX3_init 5 = .ok (.bipush 64, 2) := by decide +kernel
theorem dX3_init_7 : decode cX3_init 7 = .ok (.newarray .char, 2) := by decide +kernel
theorem dX3_init_9 : decode cX3_init 9 = .ok (.putfield 9, 3) := by decide +kernel
theorem dX3_init_12 : decode cX3_init 12 = .ok (.return_, 1) := by decide +kernel
theorem dX3_grow_0 : decode cX3_grow 0 = .ok (.iload_n 1, 1) := by decide +kernel
theorem dX3_grow_1 : decode cX3_grow 1 = .ok (.istore_n 2, 1) := by decide +kernel
theorem dX3_grow_2 : decode cX3_grow 2 = .ok (.iconst 0, 1) := by decide +kernel
theorem dX3_grow_3 : decode cX3_grow 3 = .ok (.istore_n 3, 1) := by decide +kernel
theorem dX3_grow_4 : decode cX3_grow 4 = .ok (.iload_n 3, 1) := by decide +kernel
theorem dX3_grow_5 : decode cX3_grow 5 = .ok (.bipush 64, 2) := by decide +kernel
theorem dX3_grow_7 : decode cX3_grow 7 = .ok (.if_icmp .ge 36, 3) := by decide +kernel
theorem dX3_grow_10 : decode cX3_grow 10 = .ok (.iload_n 2, 1) := by decide +kernel
theorem dX3_grow_11 : decode cX3_grow 11 = .ok (.ldc 15, 2) := by decide +kernel
theorem dX3_grow_13 : decode cX3_grow 13 = .ok (.imul, 1) := by decide +kernel
theorem dX3_grow_14 : decode cX3_grow 14 = .ok (.sipush 12345, 3) := by decide +kernel
theorem dX3_grow_17 : decode cX3_grow 17 = .ok (.iadd, 1) := by decide +kernel
theorem dX3_grow_18 : decode cX3_grow 18 = .ok (.istore_n 2, 1) := by decide +kernel
theorem dX3_grow_19 : decode cX3_grow 19 = .ok (.aload_n 0, 1) := by decide +kernel
theorem dX3_grow_20 : decode cX3_grow 20 = .ok (.getfield 9, 3) := by decide +kernel
theorem dX3_grow_23 : decode cX3_grow 23 = .ok (.iload_n 3, 1) := by decide +kernel
theorem dX3_grow_24 : decode cX3_grow 24 = .ok (.ldc 16, 2) := by decide +kernel
theorem dX3_grow_26 : decode cX3_grow 26 = .ok (.iload_n 2, 1) := by decide +kernel
theorem dX3_grow_27 : decode cX3_grow 27 = .ok (.bipush 16, 2) := by decide +kernel
theorem dX3_grow_29 : decode cX3_grow 29 = .ok (.iushr, 1) := by decide +kernel
theorem dX3_grow_30 : decode cX3_grow 30 = .ok (.bipush 8, 2) := by decide +kernel
theorem dX3_grow_32 : decode cX3_grow 32 = .ok (.irem, 1) := by decide +kernel
theorem dX3_grow_33 : decode cX3_grow 33 = .ok (.invokevirtual 18, 3) := by decide +kernel
theorem dX3_grow_36 : decode cX3_grow 36 = .ok (.castore, 1) := by decide +kernel
theorem dX3_grow_37 : decode cX3_grow 37 = .ok (.iinc 3 1, 3) := by decide +kernel
theorem dX3_grow_40 : decode cX3_grow 40 = .ok (.goto (-36), 3) := by decide +kernel
theorem dX3_grow_43 : decode cX3_grow 43 = .ok (.return_, 1) := by decide +kernel
theorem dX3_at_0 : decode cX3_at 0 = .ok (.iload_n 1, 1) := by decide +kernel
theorem dX3_at_1 : decode cX3_at 1 = .ok (.invokestatic 24, 3) := by decide +kernel
theorem dX3_at_4 : decode cX3_at 4 = .ok (.ifCond .eq 12, 3) := by decide +kernel
theorem dX3_at_7 : decode cX3_at 7 = .ok (.aload_n 0, 1) := by decide +kernel
theorem dX3_at_8 : decode cX3_at 8 = .ok (.getfield 9, 3) := by decide +kernel
theorem dX3_at_11 : decode cX3_at 11 = .ok (.iload_n 1, 1) := by decide +kernel
theorem dX3_at_12 : decode cX3_at 12 = .ok (.caload, 1) := by decide +kernel
theorem dX3_at_13 : decode cX3_at 13 = .ok (.goto 5, 3) := by decide +kernel
theorem dX3_at_16 : decode cX3_at 16 = .ok (.bipush 120, 2) := by decide +kernel
theorem dX3_at_18 : decode cX3_at 18 = .ok (.ireturn, 1) := by decide +kernel
theorem dX3_beside_0 : decode cX3_beside 0 = .ok (.iload_n 2, 1) := by decide +kernel
theorem dX3_beside_1 : decode cX3_beside 1 = .ok (.ifCond .lt 9, 3) := by decide +kernel
theorem dX3_beside_4 : decode cX3_beside 4 = .ok (.iload_n 2, 1) := by decide +kernel
theorem dX3_beside_5 : decode cX3_beside 5 = .ok (.bipush 8, 2) := by decide +kernel
theorem dX3_beside_7 : decode cX3_beside 7 = .ok (.if_icmp .lt 5, 3) := by decide +kernel
theorem dX3_beside_10 : decode cX3_beside 10 = .ok (.iload_n 1, 1) := by decide +kernel
theorem dX3_beside_11 : decode cX3_beside 11 = .ok (.ireturn, 1) := by decide +kernel
theorem dX3_beside_12 : decode cX3_beside 12 = .ok (.iload_n 1, 1) := by decide +kernel
theorem dX3_beside_13 : decode cX3_beside 13 = .ok (.bipush 8, 2) := by decide +kernel
theorem dX3_beside_15 : decode cX3_beside 15 = .ok (.irem, 1) := by decide +kernel
theorem dX3_beside_16 : decode cX3_beside 16 = .ok (.getstatic 28, 3) := by decide +kernel
theorem dX3_beside_19 : decode cX3_beside 19 = .ok (.iload_n 2, 1) := by decide +kernel
theorem dX3_beside_20 : decode cX3_beside 20 = .ok (.iaload, 1) := by decide +kernel
theorem dX3_beside_21 : decode cX3_beside 21 = .ok (.iadd, 1) := by decide +kernel
theorem dX3_beside_22 : decode cX3_beside 22 = .ok (.istore_n 3, 1) := by decide +kernel
theorem dX3_beside_23 : decode cX3_beside 23 = .ok (.iload_n 1, 1) := by decide +kernel
theorem dX3_beside_24 : decode cX3_beside 24 = .ok (.bipush 8, 2) := by decide +kernel
theorem dX3_beside_26 : decode cX3_beside 26 = .ok (.idiv, 1) := by decide +kernel
theorem dX3_beside_27 : decode cX3_beside 27 = .ok (.getstatic 32, 3) := by decide +kernel
theorem dX3_beside_30 : decode cX3_beside 30 = .ok (.iload_n 2, 1) := by decide +kernel
theorem dX3_beside_31 : decode cX3_beside 31 = .ok (.iaload, 1) := by decide +kernel
theorem dX3_beside_32 : decode cX3_beside 32 = .ok (.iadd, 1) := by decide +kernel
theorem dX3_beside_33 : decode cX3_beside 33 = .ok (.istore 4, 2) := by decide +kernel
theorem dX3_beside_35 : decode cX3_beside 35 = .ok (.iload_n 3, 1) := by decide +kernel
theorem dX3_beside_36 : decode cX3_beside 36 = .ok (.ifCond .lt 21, 3) := by decide +kernel
theorem dX3_beside_39 : decode cX3_beside 39 = .ok (.iload_n 3, 1) := by decide +kernel
theorem dX3_beside_40 : decode cX3_beside 40 = .ok (.bipush 8, 2) := by decide +kernel
theorem dX3_beside_42 : decode cX3_beside 42 = .ok (.if_icmp .ge 15, 3) := by decide +kernel
theorem dX3_beside_45 : decode cX3_beside 45 = .ok (.iload 4, 2) := by decide +kernel
theorem dX3_beside_47 : decode cX3_beside 47 = .ok (.ifCond .lt 10, 3) := by decide +kernel
theorem dX3_beside_50 : decode cX3_beside 50 = .ok (.iload 4, 2) := by decide +kernel
theorem dX3_beside_52 : decode cX3_beside 52 = .ok (.bipush 8, 2) := by decide +kernel
theorem dX3_beside_54 : decode cX3_beside 54 = .ok (.if_icmp .lt 5, 3) := by decide +kernel
theorem dX3_beside_57 : decode cX3_beside 57 = .ok (.iload_n 1, 1) := by decide +kernel
theorem dX3_beside_58 : decode cX3_beside 58 = .ok (.ireturn, 1) := by decide +kernel
theorem dX3_beside_59 : decode cX3_beside 59 = .ok (.bipush 8, 2) := by decide +kernel
theorem dX3_beside_61 : decode cX3_beside 61 = .ok (.iload 4, 2) := by decide +kernel
theorem dX3_beside_63 : decode cX3_beside 63 = .ok (.imul, 1) := by decide +kernel
theorem dX3_beside_64 : decode cX3_beside 64 = .ok (.iload_n 3, 1) := by decide +kernel
theorem dX3_beside_65 : decode cX3_beside 65 = .ok (.iadd, 1) := by decide +kernel
theorem dX3_beside_66 : decode cX3_beside 66 = .ok (.istore 5, 2) := by decide +kernel
theorem dX3_beside_68 : decode cX3_beside 68 = .ok (.aload_n 0, 1) := by decide +kernel
theorem dX3_beside_69 : decode cX3_beside 69 = .ok (.iload 5, 2) := by decide +kernel
theorem dX3_beside_71 : decode cX3_beside 71 = .ok (.invokevirtual 35, 3) := by decide +kernel
theorem dX3_beside_74 : decode cX3_beside 74 = .ok (.bipush 120, 2) := by decide +kernel
theorem dX3_beside_76 : decode cX3_beside 76 = .ok (.if_icmp .ne 7, 3) := by decide +kernel
theorem dX3_beside_79 : decode cX3_beside 79 = .ok (.iload_n 1, 1) := by decide +kernel
theorem dX3_beside_80 : decode cX3_beside 80 = .ok (.goto 5, 3) := by decide +kernel
theorem dX3_beside_83 : decode cX3_beside 83 = .ok (.iload 5, 2) := by decide +kernel
theorem dX3_beside_85 : decode cX3_beside 85 = .ok (.ireturn, 1) := by decide +kernel
theorem dX3_isClear_0 : decode cX3_isClear 0 = .ok (.iload_n 2, 1) := by decide +kernel
theorem dX3_isClear_1 : decode cX3_isClear 1 = .ok (.bipush 8, 2) := by decide +kernel
theorem dX3_isClear_3 : decode cX3_isClear 3 = .ok (.irem, 1) := by decide +kernel
theorem dX3_isClear_4 : decode cX3_isClear 4 = .ok (.iload_n 1, 1) := by decide +kernel
theorem dX3_isClear_5 : decode cX3_isClear 5 = .ok (.bipush 8, 2) := by decide +kernel
theorem dX3_isClear_7 : decode cX3_isClear 7 = .ok (.irem, 1) := by decide +kernel
theorem dX3_isClear_8 : decode cX3_isClear 8 = .ok (.isub, 1) := by decide +kernel
theorem dX3_isClear_9 : decode cX3_isClear 9 = .ok (.istore_n 3, 1) := by decide +kernel
theorem dX3_isClear_10 : decode cX3_isClear 10 = .ok (.iload_n 2, 1) := by decide +kernel
theorem dX3_isClear_11 : decode cX3_isClear 11 = .ok (.bipush 8, 2) := by decide +kernel
theorem dX3_isClear_13 : decode cX3_isClear 13 = .ok (.idiv, 1) := by decide +kernel
theorem dX3_isClear_14 : decode cX3_isClear 14 = .ok (.iload_n 1, 1) := by decide +kernel
theorem dX3_isClear_15 : decode cX3_isClear 15 = .ok (.bipush 8, 2) := by decide +kernel
theorem dX3_isClear_17 : decode cX3_isClear 17 = .ok (.idiv, 1) := by decide +kernel
theorem dX3_isClear_18 : decode cX3_isClear 18 = .ok (.isub, 1) := by decide +kernel
theorem dX3_isClear_19 : decode cX3_isClear 19 = .ok (.istore 4, 2) := by decide +kernel
theorem dX3_isClear_21 : decode cX3_isClear 21 = .ok (.iload_n 1, 1) := by decide +kernel
theorem dX3_isClear_22 : decode cX3_isClear 22 = .ok (.iload_n 2, 1) := by decide +kernel
theorem dX3_isClear_23 : decode cX3_isClear 23 = .ok (.invokestatic 38, 3) := by decide +kernel
theorem dX3_isClear_26 : decode cX3_isClear 26 = .ok (.istore 5, 2) := by decide +kernel
theorem dX3_isClear_28 : decode cX3_isClear 28 = .ok (.aload_n 0, 1) := by decide +kernel
theorem dX3_isClear_29 : decode cX3_isClear 29 = .ok (.iload_n 1, 1) := by decide +kernel
theorem dX3_isClear_30 : decode cX3_isClear 30 = .ok (.invokevirtual 35, 3) := by decide +kernel
theorem dX3_isClear_33 : decode cX3_isClear 33 = .ok (.bipush 104, 2) := by decide +kernel
theorem dX3_isClear_35 : decode cX3_isClear 35 = .ok (.if_icmp .ne 7, 3) := by decide +kernel
theorem dX3_isClear_38 : decode cX3_isClear 38 = .ok (.iconst 1, 1) := by decide +kernel
theorem dX3_isClear_39 : decode cX3_isClear 39 = .ok (.goto 4, 3) := by decide +kernel
theorem dX3_isClear_42 : decode cX3_isClear 42 = .ok (.iconst 0, 1) := by decide +kernel
theorem dX3_isClear_43 : decode cX3_isClear 43 = .ok (.istore 6, 2) := by decide +kernel
theorem dX3_isClear_45 : decode cX3_isClear 45 = .ok (.iconst 1, 1) := by decide +kernel
theorem dX3_isClear_46 : decode cX3_isClear 46 = .ok (.istore 7, 2) := by decide +kernel
theorem dX3_isClear_48 : decode cX3_isClear 48 = .ok (.iload 7, 2) := by decide +kernel
theorem dX3_isClear_50 : decode cX3_isClear 50 = .ok (.iload 5, 2) := by decide +kernel
theorem dX3_isClear_52 : decode cX3_isClear 52 = .ok (.if_icmp .ge 77, 3) := by decide +kernel
theorem dX3_isClear_55 : decode cX3_isClear 55 = .ok (.iload_n 1, 1) := by decide +kernel
theorem dX3_isClear_56 : decode cX3_isClear 56 = .ok (.bipush 8, 2) := by decide +kernel
theorem dX3_isClear_58 : decode cX3_isClear 58 = .ok (.irem, 1) := by decide +kernel
theorem dX3_isClear_59 : decode cX3_isClear 59 = .ok (.iload 7, 2) := by decide +kernel
theorem dX3_isClear_61 : decode cX3_isClear 61 = .ok (.iload_n 3, 1) := by decide +kernel
theorem dX3_isClear_62 : decode cX3_isClear 62 = .ok (.imul, 1) := by decide +kernel
theorem dX3_isClear_63 : decode cX3_isClear 63 = .ok (.iload 5, 2) := by decide +kernel
theorem dX3_isClear_65 : decode cX3_isClear 65 = .ok (.invokestatic 42, 3) := by decide +kernel
theorem dX3_isClear_68 : decode cX3_isClear 68 = .ok (.iadd, 1) := by decide +kernel
theorem dX3_isClear_69 : decode cX3_isClear 69 = .ok (.istore 8, 2) := by decide +kernel
theorem dX3_isClear_71 : decode cX3_isClear 71 = .ok (.iload_n 1, 1) := by decide +kernel
theorem dX3_isClear_72 : decode cX3_isClear 72 = .ok (.bipush 8, 2) := by decide +kernel
theorem dX3_isClear_74 : decode cX3_isClear 74 = .ok (.idiv, 1) := by decide +kernel
theorem dX3_isClear_75 : decode cX3_isClear 75 = .ok (.iload 7, 2) := by decide +kernel
theorem dX3_isClear_77 : decode cX3_isClear 77 = .ok (.iload 4, 2) := by decide +kernel
theorem dX3_isClear_79 : decode cX3_isClear 79 = .ok (.imul, 1) := by decide +kernel
theorem dX3_isClear_80 : decode cX3_isClear 80 = .ok (.iload 5, 2) := by decide +kernel
theorem dX3_isClear_82 : decode cX3_isClear 82 = .ok (.invokestatic 42, 3) := by decide +kernel
theorem dX3_isClear_85 : decode cX3_isClear 85 = .ok (.iadd, 1) := by decide +kernel
theorem dX3_isClear_86 : decode cX3_isClear 86 = .ok (.istore 9, 2) := by decide +kernel
theorem dX3_isClear_88 : decode cX3_isClear 88 = .ok (.aload_n 0, 1) := by decide +kernel
theorem dX3_isClear_89 : decode cX3_isClear 89 = .ok (.bipush 8, 2) := by decide +kernel
theorem dX3_isClear_91 : decode cX3_isClear 91 = .ok (.iload 9, 2) := by decide +kernel
theorem dX3_isClear_93 : decode cX3_isClear 93 = .ok (.imul, 1) := by decide +kernel
theorem dX3_isClear_94 : decode cX3_isClear 94 = .ok (.iload 8, 2) := by decide +kernel
theorem dX3_isClear_96 : decode cX3_isClear 96 = .ok (.iadd, 1) := by decide +kernel
theorem dX3_isClear_97 : decode cX3_isClear 97 = .ok (.invokevirtual 35, 3) := by decide +kernel
theorem dX3_isClear_100 : decode cX3_isClear 100 = .ok (.istore 10, 2) := by decide +kernel
theorem dX3_isClear_102 : decode cX3_isClear 102 = .ok (.iload 10, 2) := by decide +kernel
theorem dX3_isClear_104 : decode cX3_isClear 104 = .ok (.bipush 104, 2) := by decide +kernel
theorem dX3_isClear_106 : decode cX3_isClear 106 = .ok (.if_icmp .eq 15, 3) := by decide +kernel
theorem dX3_isClear_109 : decode cX3_isClear 109 = .ok (.iload 10, 2) := by decide +kernel
theorem dX3_isClear_111 : decode cX3_isClear 111 = .ok (.bipush 119, 2) := by decide +kernel
theorem dX3_isClear_113 : decode cX3_isClear 113 = .ok (.if_icmp .ne 10, 3) := by decide +kernel
theorem dX3_isClear_116 : decode cX3_isClear 116 = .ok (.iload 6, 2) := by decide +kernel
theorem dX3_isClear_118 : decode cX3_isClear 118 = .ok (.ifCond .ne 5, 3) := by decide +kernel
theorem dX3_isClear_121 : decode cX3_isClear 121 = .ok (.iconst 0, 1) := by decide +kernel
theorem dX3_isClear_122 : decode cX3_isClear 122 = .ok (.ireturn, 1) := by decide +kernel
theorem dX3_isClear_123 : decode cX3_isClear 123 = .ok (.iinc 7 1, 3) := by decide +kernel
theorem dX3_isClear_126 : decode cX3_isClear 126 = .ok (.goto (-78), 3) := by decide +kernel
theorem dX3_isClear_129 : decode cX3_isClear 129 = .ok (.iconst 1, 1) := by decide +kernel
theorem dX3_isClear_130 : decode cX3_isClear 130 = .ok (.ireturn, 1) := by decide +kernel
theorem dX3_distance_0 : decode cX3_distance 0 = .ok (.iload_n 1, 1) := by decide +kernel
theorem dX3_distance_1 : decode cX3_distance 1 = .ok (.bipush 8, 2) := by decide +kernel
theorem dX3_distance_3 : decode cX3_distance 3 = .ok (.irem, 1) := by decide +kernel
theorem dX3_distance_4 : decode cX3_distance 4 = .ok (.iload_n 0, 1) := by decide +kernel
theorem dX3_distance_5 : decode cX3_distance 5 = .ok (.bipush 8, 2) := by decide +kernel
theorem dX3_distance_7 : decode cX3_distance 7 = .ok (.irem, 1) := by decide +kernel
theorem dX3_distance_8 : decode cX3_distance 8 = .ok (.isub, 1) := by decide +kernel
theorem dX3_distance_9 : decode cX3_distance 9 = .ok (.invokestatic 45, 3) := by decide +kernel
theorem dX3_distance_12 : decode cX3_distance 12 = .ok (.istore_n 2, 1) := by decide +kernel
theorem dX3_distance_13 : decode cX3_distance 13 = .ok (.iload_n 1, 1) := by decide +kernel
theorem dX3_distance_14 : decode cX3_distance 14 = .ok (.bipush 8, 2) := by decide +kernel
theorem dX3_distance_16 : decode cX3_distance 16 = .ok (.idiv, 1) := by decide +kernel
theorem dX3_distance_17 : decode cX3_distance 17 = .ok (.iload_n 0, 1) := by decide +kernel
theorem dX3_distance_18 : decode cX3_distance 18 = .ok (.bipush 8, 2) := by decide +kernel
theorem dX3_distance_20 : decode cX3_distance 20 = .ok (.idiv, 1) := by decide +kernel
theorem dX3_distance_21 : decode cX3_distance 21 = .ok (.isub, 1) := by decide +kernel
theorem dX3_distance_22 : decode cX3_distance 22 = .ok (.invokestatic 45, 3) := by decide +kernel
theorem dX3_distance_25 : decode cX3_distance 25 = .ok (.istore_n 3, 1) := by decide +kernel
theorem dX3_distance_26 : decode cX3_distance 26 = .ok (.iload_n 2, 1) := by decide +kernel
theorem dX3_distance_27 : decode cX3_distance 27 = .ok (.iload_n 3, 1) := by decide +kernel
theorem dX3_distance_28 : decode cX3_distance 28 = .ok (.invokestatic 51, 3) := by decide +kernel
theorem dX3_distance_31 : decode cX3_distance 31 = .ok (.ireturn, 1) := by decide +kernel
theorem dX3_share_0 : decode cX3_share 0 = .ok (.iload_n 1, 1) := by decide +kernel
theorem dX3_share_1 : decode cX3_share 1 = .ok (.ifCond .gt 5, 3) := by decide +kernel
theorem dX3_share_4 : decode cX3_share 4 = .ok (.iconst 0, 1) := by decide +kernel
theorem dX3_share_5 : decode cX3_share 5 = .ok (.ireturn, 1) := by decide +kernel
theorem dX3_share_6 : decode cX3_share 6 = .ok (.iconst 2, 1) := by decide +kernel
theorem dX3_share_7 : decode cX3_share 7 = .ok (.iload_n 0, 1) := by decide +kernel
theorem dX3_share_8 : decode cX3_share 8 = .ok (.invokestatic 45, 3) := by decide +kernel
theorem dX3_share_11 : decode cX3_share 11 = .ok (.imul, 1) := by decide +kernel
theorem dX3_share_12 : decode cX3_share 12 = .ok (.iload_n 1, 1) := by decide +kernel
theorem dX3_share_13 : decode cX3_share 13 = .ok (.iadd, 1) := by decide +kernel
theorem dX3_share_14 : decode cX3_share 14 = .ok (.iconst 1, 1) := by decide +kernel
theorem dX3_share_15 : decode cX3_share 15 = .ok (.isub, 1) := by decide +kernel
theorem dX3_share_16 : decode cX3_share 16 = .ok (.iconst 2, 1) := by decide +kernel
theorem dX3_share_17 : decode cX3_share 17 = .ok (.iload_n 1, 1) := by decide +kernel
theorem dX3_share_18 : decode cX3_share 18 = .ok (.imul, 1) := by decide +kernel
theorem dX3_share_19 : decode cX3_share 19 = .ok (.idiv, 1) := by decide +kernel
theorem dX3_share_20 : decode cX3_share 20 = .ok (.istore_n 2, 1) := by decide +kernel
theorem dX3_share_21 : decode cX3_share 21 = .ok (.iload_n 0, 1) := by decide +kernel
theorem dX3_share_22 : decode cX3_share 22 = .ok (.ifCond .ge 8, 3) := by decide +kernel
theorem dX3_share_25 : decode cX3_share 25 = .ok (.iload_n 2, 1) := by decide +kernel
theorem dX3_share_26 : decode cX3_share 26 = .ok (.ineg, 1) := by decide +kernel
theorem dX3_share_27 : decode cX3_share 27 = .ok (.goto 4, 3) := by decide +kernel
theorem dX3_share_30 : decode cX3_share 30 = .ok (.iload_n 2, 1) := by decide +kernel
theorem dX3_share_31 : decode cX3_share 31 = .ok (.ireturn, 1) := by decide +kernel
theorem dX4_init_0 : decode cX4_init 0 = .ok (.aload_n 0, 1) := by decide +kernel
theorem dX4_init_1 : decode cX4_init 1 = .ok (.invokespecial 3, 3) := by decide +kernel
theorem dX4_init_4 : decode cX4_init 4 = .ok (.aload_n 0, 1) := by decide +kernel
theorem dX4_init_5 : decode cX4_init 5 = .ok (.sipush 4800, 3) := by decide +kernel
theorem dX4_init_8 : decode cX4_init 8 = .ok (.newarray .int, 2) := by decide +kernel
theorem dX4_init_10 : decode cX4_init 10 = .ok (.putfield 9, 3) := by decide +kernel
theorem dX4_init_13 : decode cX4_init 13 = .ok (.aload_n 0, 1) := by decide +kernel
theorem dX4_init_14 : decode cX4_init 14 = .ok (.bipush 24, 2) := by decide +kernel
theorem dX4_init_16 : decode cX4_init 16 = .ok (.newarray .int, 2) := by decide +kernel
theorem dX4_init_18 : decode cX4_init 18 = .ok (.putfield 15, 3) := by decide +kernel
theorem dX4_init_21 : decode cX4_init 21 = .ok (.aload_n 0, 1) := by decide +kernel
theorem dX4_init_22 : decode cX4_init 22 = .ok (.getfield 9, 3) := by decide +kernel
theorem dX4_init_25 : decode cX4_init 25 = .ok (.iconst (-1), 1) := by decide +kernel
theorem dX4_init_26 : decode cX4_init 26 = .ok (.invokestatic 18, 3) := by decide +kernel
theorem dX4_init_29 : decode cX4_init 29 = .ok (.return_, 1) := by decide +kernel
theorem dX4_give_0 : decode cX4_give 0 = .ok (.iload_n 1, 1) := by decide +kernel
theorem dX4_give_1 : decode cX4_give 1 = .ok (.iload_n 2, 1) := by decide +kernel
theorem dX4_give_2 : decode cX4_give 2 = .ok (.aload_n 0, 1) := by decide +kernel
theorem dX4_give_3 : decode cX4_give 3 = .ok (.iload_n 2, 1) := by decide +kernel
theorem dX4_give_4 : decode cX4_give 4 = .ok (.invokevirtual 24, 3) := by decide +kernel
theorem dX4_give_7 : decode cX4_give 7 = .ok (.invokestatic 28, 3) := by decide +kernel
theorem dX4_give_10 : decode cX4_give 10 = .ok (.istore 4, 2) := by decide +kernel
theorem dX4_give_12 : decode cX4_give 12 = .ok (.iload 4, 2) := by decide +kernel
theorem dX4_give_14 : decode cX4_give 14 = .ok (.iconst (-1), 1) := by decide +kernel
theorem dX4_give_15 : decode cX4_give 15 = .ok (.if_icmp .ne 9, 3) := by decide +kernel
theorem dX4_give_18 : decode cX4_give 18 = .ok (.aload_n 0, 1) := by decide +kernel
theorem dX4_give_19 : decode cX4_give 19 = .ok (.iload_n 2, 1) := by decide +kernel
theorem dX4_give_20 : decode cX4_give 20 = .ok (.invokevirtual 24, 3) := by decide +kernel
theorem dX4_give_23 : decode cX4_give 23 = .ok (.ireturn, 1) := by decide +kernel
theorem dX4_give_24 : decode cX4_give 24 = .ok (.aload_n 0, 1) := by decide +kernel
theorem dX4_give_25 : decode cX4_give 25 = .ok (.getfield 9, 3) := by decide +kernel
theorem dX4_give_28 : decode cX4_give 28 = .ok (.iload 4, 2) := by decide +kernel
theorem dX4_give_30 : decode cX4_give 30 = .ok (.iload_n 3, 1) := by decide +kernel
theorem dX4_give_31 : decode cX4_give 31 = .ok (.iastore, 1) := by decide +kernel
theorem dX4_give_32 : decode cX4_give 32 = .ok (.aload_n 0, 1) := by decide +kernel
theorem dX4_give_33 : decode cX4_give 33 = .ok (.getfield 15, 3) := by decide +kernel
theorem dX4_give_36 : decode cX4_give 36 = .ok (.iload_n 2, 1) := by decide +kernel
theorem dX4_give_37 : decode cX4_give 37 = .ok (.dup2, 1) := by decide +kernel
theorem dX4_give_38 : decode cX4_give 38 = .ok (.iaload, 1) := by decide +kernel
theorem dX4_give_39 : decode cX4_give 39 = .ok (.iconst 1, 1) := by decide +kernel
theorem dX4_give_40 : decode cX4_give 40 = .ok (.iadd, 1) := by decide +kernel
theorem dX4_give_41 : decode cX4_give 41 = .ok (.iastore, 1) := by decide +kernel
theorem dX4_give_42 : decode cX4_give 42 = .ok (.aload_n 0, 1) := by decide +kernel
theorem dX4_give_43 : decode cX4_give 43 = .ok (.getfield 15, 3) := by decide +kernel
theorem dX4_give_46 : decode cX4_give 46 = .ok (.iload_n 2, 1) := by decide +kernel
theorem dX4_give_47 : decode cX4_give 47 = .ok (.iaload, 1) := by decide +kernel
theorem dX4_give_48 : decode cX4_give 48 = .ok (.ireturn, 1) := by decide +kernel
theorem dX4_givenTo_0 : decode cX4_givenTo 0 = .ok (.iload_n 1, 1) := by decide +kernel
theorem dX4_givenTo_1 : decode cX4_givenTo 1 = .ok (.ifCond .lt 18, 3) := by decide +kernel
theorem dX4_givenTo_4 : decode cX4_givenTo 4 = .ok (.iload_n 1, 1) := by decide +kernel
theorem dX4_givenTo_5 : decode cX4_givenTo 5 = .ok (.bipush 24, 2) := by decide +kernel
theorem dX4_givenTo_7 : decode cX4_givenTo 7 = .ok (.if_icmp .ge 12, 3) := by decide +kernel
theorem dX4_givenTo_10 : decode cX4_givenTo 10 = .ok (.aload_n 0, 1) := by decide +kernel
theorem dX4_givenTo_11 : decode cX4_givenTo 11 = .ok (.getfield 15, 3) := by decide +kernel
theorem dX4_givenTo_14 : decode cX4_givenTo 14 = .ok (.iload_n 1, 1) := by decide +kernel
theorem dX4_givenTo_15 : decode cX4_givenTo 15 = .ok (.iaload, 1) := by decide +kernel
theorem dX4_givenTo_16 : decode cX4_givenTo 16 = .ok (.goto 4, 3) := by decide +kernel
theorem dX4_givenTo_19 : decode cX4_givenTo 19 = .ok (.iconst 0, 1) := by decide +kernel
theorem dX4_givenTo_20 : decode cX4_givenTo 20 = .ok (.ireturn, 1) := by decide +kernel
theorem dX4_startTurn_0 : decode cX4_startTurn 0 = .ok (.aload_n 0, 1) := by decide +kernel
theorem dX4_startTurn_1 : decode cX4_startTurn 1 = .ok (.getfield 15, 3) := by decide +kernel
theorem dX4_startTurn_4 : decode cX4_startTurn 4 = .ok (.iconst 0, 1) := by decide +kernel
theorem dX4_startTurn_5 : decode cX4_startTurn 5 = .ok (.invokestatic 18, 3) := by decide +kernel
theorem dX4_startTurn_8 : decode cX4_startTurn 8 = .ok (.return_, 1) := by decide +kernel
theorem dX4_direction_0 : decode cX4_direction 0 = .ok (.iload_n 1, 1) := by decide +kernel
theorem dX4_direction_1 : decode cX4_direction 1 = .ok (.iload_n 2, 1) := by decide +kernel
theorem dX4_direction_2 : decode cX4_direction 2 = .ok (.iload_n 3, 1) := by decide +kernel
theorem dX4_direction_3 : decode cX4_direction 3 = .ok (.invokestatic 28, 3) := by decide +kernel
theorem dX4_direction_6 : decode cX4_direction 6 = .ok (.istore 4, 2) := by decide +kernel
theorem dX4_direction_8 : decode cX4_direction 8 = .ok (.iload 4, 2) := by decide +kernel
theorem dX4_direction_10 : decode cX4_direction 10 = .ok (.iconst (-1), 1) := by decide +kernel
theorem dX4_direction_11 : decode cX4_direction 11 = .ok (.if_icmp .ne 7, 3) := by decide +kernel
theorem dX4_direction_14 : decode cX4_direction 14 = .ok (.iconst (-1), 1) := by decide +kernel
theorem dX4_direction_15 : decode cX4_direction 15 = .ok (.goto 10, 3) := by decide +kernel
theorem dX4_direction_18 : decode cX4_direction 18 = .ok (.aload_n 0, 1) := by decide +kernel
theorem dX4_direction_19 : decode cX4_direction 19 = .ok (.getfield 9, 3) := by decide +kernel
theorem dX4_direction_22 : decode cX4_direction 22 = .ok (.iload 4, 2) := by decide +kernel
theorem dX4_direction_24 : decode cX4_direction 24 = .ok (.iaload, 1) := by decide +kernel
theorem dX4_direction_25 : decode cX4_direction 25 = .ok (.ireturn, 1) := by decide +kernel
theorem dX4_spotOf_0 : decode cX4_spotOf 0 = .ok (.iload_n 0, 1) := by decide +kernel
theorem dX4_spotOf_1 : decode cX4_spotOf 1 = .ok (.ifCond .lt 32, 3) := by decide +kernel
theorem dX4_spotOf_4 : decode cX4_spotOf 4 = .ok (.iload_n 0, 1) := by decide +kernel
theorem dX4_spotOf_5 : decode cX4_spotOf 5 = .ok (.bipush 99, 2) := by decide +kernel
theorem dX4_spotOf_7 : decode cX4_spotOf 7 = .ok (.if_icmp .gt 26, 3) := by decide +kernel
theorem dX4_spotOf_10 : decode cX4_spotOf 10 = .ok (.iload_n 1, 1) := by decide +kernel
theorem dX4_spotOf_11 : decode cX4_spotOf 11 = .ok (.ifCond .lt 22, 3) := by decide +kernel
theorem dX4_spotOf_14 : decode cX4_spotOf 14 = .ok (.iload_n 1, 1) := by decide +kernel
theorem dX4_spotOf_15 : decode cX4_spotOf 15 = .ok (.bipush 24, 2) := by decide +kernel
theorem dX4_spotOf_17 : decode cX4_spotOf 17 = .ok (.if_icmp .ge 16, 3) := by decide +kernel
theorem dX4_spotOf_20 : decode cX4_spotOf 20 = .ok (.iload_n 2, 1) := by decide +kernel
theorem dX4_spotOf_21 : decode cX4_spotOf 21 = .ok (.ifCond .lt 12, 3) := by decide +kernel
theorem dX4_spotOf_24 : decode cX4_spotOf 24 = .ok (.iload_n 2, 1) := by decide +kernel
theorem dX4_spotOf_25 : decode cX4_spotOf 25 = .ok (.iconst 2, 1) := by decide +kernel
theorem dX4_spotOf_26 : decode cX4_spotOf 26 = .ok (.if_icmp .ge 7, 3) := by decide +kernel
theorem dX4_spotOf_29 : decode cX4_spotOf 29 = .ok (.iconst 1, 1) := by decide +kernel
theorem dX4_spotOf_30 : decode cX4_spotOf 30 = .ok (.goto 4, 3) := by decide +kernel
theorem dX4_spotOf_33 : decode cX4_spotOf 33 = .ok (.iconst 0, 1) := by decide +kernel
theorem dX4_spotOf_34 : decode cX4_spotOf 34 = .ok (.istore_n 3, 1) := by decide +kernel
theorem dX4_spotOf_35 : decode cX4_spotOf 35 = .ok (.iload_n 3, 1) := by decide +kernel
theorem dX4_spotOf_36 : decode cX4_spotOf 36 = .ok (.ifCond .eq 16, 3) := by decide +kernel
theorem dX4_spotOf_39 : decode cX4_spotOf 39 = .ok (.iload_n 0, 1) := by decide +kernel
theorem dX4_spotOf_40 : decode cX4_spotOf 40 = .ok (.bipush 24, 2) := by decide +kernel
theorem dX4_spotOf_42 : decode cX4_spotOf 42 = .ok (.imul, 1) := by decide +kernel
theorem dX4_spotOf_43 : decode cX4_spotOf 43 = .ok (.iload_n 1, 1) := by decide +kernel
theorem dX4_spotOf_44 : decode cX4_spotOf 44 = .ok (.iadd, 1) := by decide +kernel
theorem dX4_spotOf_45 : decode cX4_spotOf 45 = .ok (.iconst 2, 1) := by decide +kernel
theorem dX4_spotOf_46 : decode cX4_spotOf 46 = .ok (.imul, 1) := by decide +kernel
theorem dX4_spotOf_47 : decode cX4_spotOf 47 = .ok (.iload_n 2, 1) := by decide +kernel
theorem dX4_spotOf_48 : decode cX4_spotOf 48 = .ok (.iadd, 1) := by decide +kernel
theorem dX4_spotOf_49 : decode cX4_spotOf 49 = .ok (.goto 4, 3) := by decide +kernel
theorem dX4_spotOf_52 : decode cX4_spotOf 52 = .ok (.iconst (-1), 1) := by decide +kernel
theorem dX4_spotOf_53 : decode cX4_spotOf 53 = .ok (.ireturn, 1) := by decide +kernel
theorem dX5_init_0 : decode cX5_init 0 = .ok (.aload_n 0, 1) := by decide +kernel
theorem dX5_init_1 : decode cX5_init 1 = .ok (.invokespecial 3, 3) := by decide +kernel
theorem dX5_init_4 : decode cX5_init 4 = .ok (.aload_n 0, 1) := by decide +kernel
theorem dX5_init_5 : decode cX5_init 5 = .ok (.bipush 24, 2) := by decide +kernel
theorem dX5_init_7 : decode cX5_init 7 = .ok (.newarray .int, 2) := by decide +kernel
theorem dX5_init_9 : decode cX5_init 9 = .ok (.putfield 9, 3) := by decide +kernel
theorem dX5_init_12 : decode cX5_init 12 = .ok (.aload_n 0, 1) := by decide +kernel
theorem dX5_init_13 : decode cX5_init 13 = .ok (.bipush 24, 2) := by decide +kernel
theorem dX5_init_15 : decode cX5_init 15 = .ok (.newarray .int, 2) := by decide +kernel
theorem dX5_init_17 : decode cX5_init 17 = .ok (.putfield 15, 3) := by decide +kernel
theorem dX5_init_20 : decode cX5_init 20 = .ok (.aload_n 0, 1) := by decide +kernel
theorem dX5_init_21 : decode cX5_init 21 = .ok (.bipush 24, 2) := by decide +kernel
theorem dX5_init_23 : decode cX5_init 23 = .ok (.newarray .int, 2) := by decide +kernel
theorem dX5_init_25 : decode cX5_init 25 = .ok (.putfield 18, 3) := by decide +kernel
theorem dX5_init_28 : decode cX5_init 28 = .ok (.aload_n 0, 1) := by decide +kernel
theorem dX5_init_29 : decode cX5_init 29 = .ok (.bipush 24, 2) := by decide +kernel
theorem dX5_init_31 : decode cX5_init 31 = .ok (.newarray .int, 2) := by decide +kernel
theorem dX5_init_33 : decode cX5_init 33 = .ok (.putfield 21, 3) := by decide +kernel
theorem dX5_init_36 : decode cX5_init 36 = .ok (.return_, 1) := by decide +kernel
theorem dX5_put_0 : decode cX5_put 0 = .ok (.aload_n 0, 1) := by decide +kernel
theorem dX5_put_1 : decode cX5_put 1 = .ok (.getfield 24, 3) := by decide +kernel
theorem dX5_put_4 : decode cX5_put 4 = .ok (.bipush 24, 2) := by decide +kernel
theorem dX5_put_6 : decode cX5_put 6 = .ok (.if_icmp .lt 5, 3) := by decide +kernel
theorem dX5_put_9 : decode cX5_put 9 = .ok (.iconst (-1), 1) := by decide +kernel
theorem dX5_put_10 : decode cX5_put 10 = .ok (.ireturn, 1) := by decide +kernel
theorem dX5_put_11 : decode cX5_put 11 = .ok (.aload_n 0, 1) := by decide +kernel
theorem dX5_put_12 : decode cX5_put 12 = .ok (.getfield 9, 3) := by decide +kernel
theorem dX5_put_15 : decode cX5_put 15 = .ok (.aload_n 0, 1) := by decide +kernel
theorem dX5_put_16 : decode cX5_put 16 = .ok (.getfield 24, 3) := by decide +kernel
theorem dX5_put_19 : decode cX5_put 19 = .ok (.iload_n 1, 1) := by decide +kernel
theorem dX5_put_20 : decode cX5_put 20 = .ok (.iastore, 1) := by decide +kernel
theorem dX5_put_21 : decode cX5_put 21 = .ok (.aload_n 0, 1) := by decide +kernel
theorem dX5_put_22 : decode cX5_put 22 = .ok (.getfield 15, 3) := by decide +kernel
theorem dX5_put_25 : decode cX5_put 25 = .ok (.aload_n 0, 1) := by decide +kernel
theorem dX5_put_26 : decode cX5_put 26 = .ok (.getfield 24, 3) := by decide +kernel
theorem dX5_put_29 : decode cX5_put 29 = .ok (.iload_n 2, 1) := by decide +kernel
theorem dX5_put_30 : decode cX5_put 30 = .ok (.iastore, 1) := by decide +kernel
theorem dX5_put_31 : decode cX5_put 31 = .ok (.aload_n 0, 1) := by decide +kernel
theorem dX5_put_32 : decode cX5_put 32 = .ok (.getfield 18, 3) := by decide +kernel
theorem dX5_put_35 : decode cX5_put 35 = .ok (.aload_n 0, 1) := by decide +kernel
theorem dX5_put_36 : decode cX5_put 36 = .ok (.getfield 24, 3) := by decide +kernel
theorem dX5_put_39 : decode cX5_put 39 = .ok (.iload_n 3, 1) := by decide +kernel
theorem dX5_put_40 : decode cX5_put 40 = .ok (.iastore, 1) := by decide +kernel
theorem dX5_put_41 : decode cX5_put 41 = .ok (.aload_n 0, 1) := by decide +kernel
theorem dX5_put_42 : decode cX5_put 42 = .ok (.getfield 21, 3) := by decide +kernel
theorem dX5_put_45 : decode cX5_put 45 = .ok (.aload_n 0, 1) := by decide +kernel
theorem dX5_put_46 : decode cX5_put 46 = .ok (.getfield 24, 3) := by decide +kernel
theorem dX5_put_49 : decode cX5_put 49 = .ok (.iload_n 3, 1) := by decide +kernel
theorem dX5_put_50 : decode cX5_put 50 = .ok (.iastore, 1) := by decide +kernel
theorem dX5_put_51 : decode cX5_put 51 = .ok (.aload_n 0, 1) := by decide +kernel
theorem dX5_put_52 : decode cX5_put 52 = .ok (.dup, 1) := by decide +kernel
theorem dX5_put_53 : decode cX5_put 53 = .ok (.getfield 24, 3) := by decide +kernel
theorem dX5_put_56 : decode cX5_put 56 = .ok (.iconst 1, 1) := by decide +kernel
theorem dX5_put_57 : decode cX5_put 57 = .ok (.iadd, 1) := by decide +kernel
theorem dX5_put_58 : decode cX5_put 58 = .ok (.putfield 24, 3) := by decide +kernel
theorem dX5_put_61 : decode cX5_put 61 = .ok (.aload_n 0, 1) := by decide +kernel
theorem dX5_put_62 : decode cX5_put 62 = .ok (.getfield 24, 3) := by decide +kernel
theorem dX5_put_65 : decode cX5_put 65 = .ok (.iconst 1, 1) := by decide +kernel
theorem dX5_put_66 : decode cX5_put 66 = .ok (.isub, 1) := by decide +kernel
theorem dX5_put_67 : decode cX5_put 67 = .ok (.ireturn, 1) := by decide +kernel
theorem dX5_startLike_0 : decode cX5_startLike 0 = .ok (.aload_n 0, 1) := by decide +kernel
theorem dX5_startLike_1 : decode cX5_startLike 1 = .ok (.iconst 0, 1) := by decide +kernel
theorem dX5_startLike_2 : decode cX5_startLike 2 = .ok (.putfield 24, 3) := by decide +kernel
theorem dX5_startLike_5 : decode cX5_startLike 5 = .ok (.iconst 0, 1) := by decide +kernel
theorem dX5_startLike_6 : decode cX5_startLike 6 = .ok (.istore_n 2, 1) := by decide +kernel
theorem dX5_startLike_7 : decode cX5_startLike 7 = .ok (.iload_n 2, 1) := by decide +kernel
theorem dX5_startLike_8 : decode cX5_startLike 8 = .ok (.aload_n 1, 1) := by decide +kernel
theorem dX5_startLike_9 : decode cX5_startLike 9 = .ok (.getfield 24, 3) := by decide +kernel
theorem dX5_startLike_12 : decode cX5_startLike 12 = .ok (.if_icmp .ge 32, 3) := by decide +kernel
theorem dX5_startLike_15 : decode cX5_startLike 15 = .ok (.aload_n 0, 1) := by decide +kernel
theorem dX5_startLike_16 : decode cX5_startLike 16 = .ok (.aload_n 1, 1) := by decide +kernel
theorem dX5_startLike_17 : decode cX5_startLike 17 = .ok (.getfield 9, 3) := by decide +kernel
theorem dX5_startLike_20 : decode cX5_startLike 20 = .ok (.iload_n 2, 1) := by decide +kernel
theorem dX5_startLike_21 : decode cX5_startLike 21 = .ok (.iaload, 1) := by decide +kernel
theorem dX5_startLike_22 : decode cX5_startLike 22 = .ok (.aload_n 1, 1) := by decide +kernel
theorem dX5_startLike_23 : decode cX5_startLike 23 = .ok (.getfield 15, 3) := by decide +kernel
theorem dX5_startLike_26 : decode cX5_startLike 26 = .ok (.iload_n 2, 1) := by decide +kernel
theorem dX5_startLike_27 : decode cX5_startLike 27 = .ok (.iaload, 1) := by decide +kernel
theorem dX5_startLike_28 : decode cX5_startLike 28 = .ok (.aload_n 1, 1) := by decide +kernel
theorem dX5_startLike_29 : decode cX5_startLike 29 = .ok (.getfield 18, 3) := by decide +kernel
theorem dX5_startLike_32 : decode cX5_startLike 32 = .ok (.iload_n 2, 1) := by decide +kernel
theorem dX5_startLike_33 : decode cX5_startLike 33 = .ok (.iaload, 1) := by decide +kernel
theorem dX5_startLike_34 : decode cX5_startLike 34 = .ok (.invokevirtual 28, 3) := by decide +kernel
theorem dX5_startLike_37 : decode cX5_startLike 37 = .ok (.pop, 1) := by decide +kernel
theorem dX5_startLike_38 : decode cX5_startLike 38 = .ok (.iinc 2 1, 3) := by decide +kernel
theorem dX5_startLike_41 : decode cX5_startLike 41 = .ok (.goto (-34), 3) := by decide +kernel
theorem dX5_startLike_44 : decode cX5_startLike 44 = .ok (.return_, 1) := by decide +kernel
theorem dX5_has_0 : decode cX5_has 0 = .ok (.iload_n 1, 1) := by decide +kernel
theorem dX5_has_1 : decode cX5_has 1 = .ok (.ifCond .lt 15, 3) := by decide +kernel
theorem dX5_has_4 : decode cX5_has 4 = .ok (.iload_n 1, 1) := by decide +kernel
theorem dX5_has_5 : decode cX5_has 5 = .ok (.aload_n 0, 1) := by decide +kernel
theorem dX5_has_6 : decode cX5_has 6 = .ok (.getfield 24, 3) := by decide +kernel
theorem dX5_has_9 : decode cX5_has 9 = .ok (.if_icmp .ge 7, 3) := by decide +kernel
theorem dX5_has_12 : decode cX5_has 12 = .ok (.iconst 1, 1) := by decide +kernel
theorem dX5_has_13 : decode cX5_has 13 = .ok (.goto 4, 3) := by decide +kernel
theorem dX5_has_16 : decode cX5_has 16 = .ok (.iconst 0, 1) := by decide +kernel
theorem dX5_has_17 : decode cX5_has 17 = .ok (.ireturn, 1) := by decide +kernel
theorem dX5_lives_0 : decode cX5_lives 0 = .ok (.aload_n 0, 1) := by decide +kernel
theorem dX5_lives_1 : decode cX5_lives 1 = .ok (.iload_n 1, 1) := by decide +kernel
theorem dX5_lives_2 : decode cX5_lives 2 = .ok (.invokevirtual 32, 3) := by decide +kernel
theorem dX5_lives_5 : decode cX5_lives 5 = .ok (.iconst (-1), 1) := by decide +kernel
theorem dX5_lives_6 : decode cX5_lives 6 = .ok (.if_icmp .eq 7, 3) := by decide +kernel
theorem dX5_lives_9 : decode cX5_lives 9 = .ok (.iconst 1, 1) := by decide +kernel
theorem dX5_lives_10 : decode cX5_lives 10 = .ok (.goto 4, 3) := by decide +kernel
theorem dX5_lives_13 : decode cX5_lives 13 = .ok (.iconst 0, 1) := by decide +kernel
theorem dX5_lives_14 : decode cX5_lives 14 = .ok (.ireturn, 1) := by decide +kernel
theorem dX5_place_0 : decode cX5_place 0 = .ok (.iload_n 1, 1) := by decide +kernel
theorem dX5_place_1 : decode cX5_place 1 = .ok (.ifCond .lt 20, 3) := by decide +kernel
theorem dX5_place_4 : decode cX5_place 4 = .ok (.iload_n 1, 1) := by decide +kernel
theorem dX5_place_5 : decode cX5_place 5 = .ok (.aload_n 0, 1) := by decide +kernel
theorem dX5_place_6 : decode cX5_place 6 = .ok (.getfield 24, 3) := by decide +kernel
theorem dX5_place_9 : decode cX5_place 9 = .ok (.if_icmp .ge 12, 3) := by decide +kernel
theorem dX5_place_12 : decode cX5_place 12 = .ok (.aload_n 0, 1) := by decide +kernel
theorem dX5_place_13 : decode cX5_place 13 = .ok (.getfield 21, 3) := by decide +kernel
theorem dX5_place_16 : decode cX5_place 16 = .ok (.iload_n 1, 1) := by decide +kernel
theorem dX5_place_17 : decode cX5_place 17 = .ok (.iaload, 1) := by decide +kernel
theorem dX5_place_18 : decode cX5_place 18 = .ok (.goto 4, 3) := by decide +kernel
theorem dX5_place_21 : decode cX5_place 21 = .ok (.iconst (-1), 1) := by decide +kernel
theorem dX5_place_22 : decode cX5_place 22 = .ok (.ireturn, 1) := by decide +kernel
theorem dX5_owner_0 : decode cX5_owner 0 = .ok (.iload_n 1, 1) := by decide +kernel
theorem dX5_owner_1 : decode cX5_owner 1 = .ok (.ifCond .lt 20, 3) := by decide +kernel
theorem dX5_owner_4 : decode cX5_owner 4 = .ok (.iload_n 1, 1) := by decide +kernel
theorem dX5_owner_5 : decode cX5_owner 5 = .ok (.aload_n 0, 1) := by decide +kernel
theorem dX5_owner_6 : decode cX5_owner 6 = .ok (.getfield 24, 3) := by decide +kernel
theorem dX5_owner_9 : decode cX5_owner 9 = .ok (.if_icmp .ge 12, 3) := by decide +kernel
theorem dX5_owner_12 : decode cX5_owner 12 = .ok (.aload_n 0, 1) := by decide +kernel
theorem dX5_owner_13 : decode cX5_owner 13 = .ok (.getfield 9, 3) := by decide +kernel
theorem dX5_owner_16 : decode cX5_owner 16 = .ok (.iload_n 1, 1) := by decide +kernel
theorem dX5_owner_17 : decode cX5_owner 17 = .ok (.iaload, 1) := by decide +kernel
theorem dX5_owner_18 : decode cX5_owner 18 = .ok (.goto 4, 3) := by decide +kernel
theorem dX5_owner_21 : decode cX5_owner 21 = .ok (.iconst (-1), 1) := by decide +kernel
theorem dX5_owner_22 : decode cX5_owner 22 = .ok (.ireturn, 1) := by decide +kernel
theorem dX5_sight_0 : decode cX5_sight 0 = .ok (.iload_n 1, 1) := by decide +kernel
theorem dX5_sight_1 : decode cX5_sight 1 = .ok (.ifCond .lt 24, 3) := by decide +kernel
theorem dX5_sight_4 : decode cX5_sight 4 = .ok (.iload_n 1, 1) := by decide +kernel
theorem dX5_sight_5 : decode cX5_sight 5 = .ok (.aload_n 0, 1) := by decide +kernel
theorem dX5_sight_6 : decode cX5_sight 6 = .ok (.getfield 24, 3) := by decide +kernel
theorem dX5_sight_9 : decode cX5_sight 9 = .ok (.if_icmp .ge 16, 3) := by decide +kernel
theorem dX5_sight_12 : decode cX5_sight 12 = .ok (.getstatic 36, 3) := by decide +kernel
theorem dX5_sight_15 : decode cX5_sight 15 = .ok (.aload_n 0, 1) := by decide +kernel
theorem dX5_sight_16 : decode cX5_sight 16 = .ok (.getfield 15, 3) := by decide +kernel
theorem dX5_sight_19 : decode cX5_sight 19 = .ok (.iload_n 1, 1) := by decide +kernel
theorem dX5_sight_20 : decode cX5_sight 20 = .ok (.iaload, 1) := by decide +kernel
theorem dX5_sight_21 : decode cX5_sight 21 = .ok (.iaload, 1) := by decide +kernel
theorem dX5_sight_22 : decode cX5_sight 22 = .ok (.goto 4, 3) := by decide +kernel
theorem dX5_sight_25 : decode cX5_sight 25 = .ok (.iconst 0, 1) := by decide +kernel
theorem dX5_sight_26 : decode cX5_sight 26 = .ok (.ireturn, 1) := by decide +kernel
theorem dX5_steps_0 : decode cX5_steps 0 = .ok (.iload_n 1, 1) := by decide +kernel
theorem dX5_steps_1 : decode cX5_steps 1 = .ok (.ifCond .lt 24, 3) := by decide +kernel
theorem dX5_steps_4 : decode cX5_steps 4 = .ok (.iload_n 1, 1) := by decide +kernel
theorem dX5_steps_5 : decode cX5_steps 5 = .ok (.aload_n 0, 1) := by decide +kernel
theorem dX5_steps_6 : decode cX5_steps 6 = .ok (.getfield 24, 3) := by decide +kernel
theorem dX5_steps_9 : decode cX5_steps 9 = .ok (.if_icmp .ge 16, 3) := by decide +kernel
theorem dX5_steps_12 : decode cX5_steps 12 = .ok (.getstatic 39, 3) := by decide +kernel
theorem dX5_steps_15 : decode cX5_steps 15 = .ok (.aload_n 0, 1) := by decide +kernel
theorem dX5_steps_16 : decode cX5_steps 16 = .ok (.getfield 15, 3) := by decide +kernel
theorem dX5_steps_19 : decode cX5_steps 19 = .ok (.iload_n 1, 1) := by decide +kernel
theorem dX5_steps_20 : decode cX5_steps 20 = .ok (.iaload, 1) := by decide +kernel
theorem dX5_steps_21 : decode cX5_steps 21 = .ok (.iaload, 1) := by decide +kernel
theorem dX5_steps_22 : decode cX5_steps 22 = .ok (.goto 4, 3) := by decide +kernel
theorem dX5_steps_25 : decode cX5_steps 25 = .ok (.iconst 0, 1) := by decide +kernel
theorem dX5_steps_26 : decode cX5_steps 26 = .ok (.ireturn, 1) := by decide +kernel
theorem dX5_power_0 : decode cX5_power 0 = .ok (.iload_n 1, 1) := by decide +kernel
theorem dX5_power_1 : decode cX5_power 1 = .ok (.ifCond .lt 24, 3) := by decide +kernel
theorem dX5_power_4 : decode cX5_power 4 = .ok (.iload_n 1, 1) := by decide +kernel
theorem dX5_power_5 : decode cX5_power 5 = .ok (.aload_n 0, 1) := by decide +kernel
theorem dX5_power_6 : decode cX5_power 6 = .ok (.getfield 24, 3) := by decide +kernel
theorem dX5_power_9 : decode cX5_power 9 = .ok (.if_icmp .ge 16, 3) := by decide +kernel
theorem dX5_power_12 : decode cX5_power 12 = .ok (.getstatic 42, 3) := by decide +kernel
theorem dX5_power_15 : decode cX5_power 15 = .ok (.aload_n 0, 1) := by decide +kernel
theorem dX5_power_16 : decode cX5_power 16 = .ok (.getfield 15, 3) := by decide +kernel
theorem dX5_power_19 : decode cX5_power 19 = .ok (.iload_n 1, 1) := by decide +kernel
theorem dX5_power_20 : decode cX5_power 20 = .ok (.iaload, 1) := by decide +kernel
theorem dX5_power_21 : decode cX5_power 21 = .ok (.iaload, 1) := by decide +kernel
theorem dX5_power_22 : decode cX5_power 22 = .ok (.goto 4, 3) := by decide +kernel
theorem dX5_power_25 : decode cX5_power 25 = .ok (.iconst 0, 1) := by decide +kernel
theorem dX5_power_26 : decode cX5_power 26 = .ok (.ireturn, 1) := by decide +kernel
theorem dX5_on_0 : decode cX5_on 0 = .ok (.iconst 0, 1) := by decide +kernel
theorem dX5_on_1 : decode cX5_on 1 = .ok (.istore_n 2, 1) := by decide +kernel
theorem dX5_on_2 : decode cX5_on 2 = .ok (.iload_n 2, 1) := by decide +kernel
theorem dX5_on_3 : decode cX5_on 3 = .ok (.aload_n 0, 1) := by decide +kernel
theorem dX5_on_4 : decode cX5_on 4 = .ok (.getfield 24, 3) := by decide +kernel
theorem dX5_on_7 : decode cX5_on 7 = .ok (.if_icmp .ge 26, 3) := by decide +kernel
theorem dX5_on_10 : decode cX5_on 10 = .ok (.aload_n 0, 1) := by decide +kernel
theorem dX5_on_11 : decode cX5_on 11 = .ok (.getfield 21, 3) := by decide +kernel
theorem dX5_on_14 : decode cX5_on 14 = .ok (.iload_n 2, 1) := by decide +kernel
theorem dX5_on_15 : decode cX5_on 15 = .ok (.iaload, 1) := by decide +kernel
theorem dX5_on_16 : decode cX5_on 16 = .ok (.iload_n 1, 1) := by decide +kernel
theorem dX5_on_17 : decode cX5_on 17 = .ok (.if_icmp .ne 10, 3) := by decide +kernel
theorem dX5_on_20 : decode cX5_on 20 = .ok (.iload_n 1, 1) := by decide +kernel
theorem dX5_on_21 : decode cX5_on 21 = .ok (.iconst (-1), 1) := by decide +kernel
theorem dX5_on_22 : decode cX5_on 22 = .ok (.if_icmp .eq 5, 3) := by decide +kernel
theorem dX5_on_25 : decode cX5_on 25 = .ok (.iload_n 2, 1) := by decide +kernel
theorem dX5_on_26 : decode cX5_on 26 = .ok (.ireturn, 1) := by decide +kernel
theorem dX5_on_27 : decode cX5_on 27 = .ok (.iinc 2 1, 3) := by decide +kernel
theorem dX5_on_30 : decode cX5_on 30 = .ok (.goto (-28), 3) := by decide +kernel
theorem dX5_on_33 : decode cX5_on 33 = .ok (.iconst (-1), 1) := by decide +kernel
theorem dX5_on_34 : decode cX5_on 34 = .ok (.ireturn, 1) := by decide +kernel
theorem dX5_move_0 : decode cX5_move 0 = .ok (.iload_n 1, 1) := by decide +kernel
theorem dX5_move_1 : decode cX5_move 1 = .ok (.ifCond .lt 18, 3) := by decide +kernel
theorem dX5_move_4 : decode cX5_move 4 = .ok (.iload_n 1, 1) := by decide +kernel
theorem dX5_move_5 : decode cX5_move 5 = .ok (.aload_n 0, 1) := by decide +kernel
theorem dX5_move_6 : decode cX5_move 6 = .ok (.getfield 24, 3) := by decide +kernel
theorem dX5_move_9 : decode cX5_move 9 = .ok (.if_icmp .ge 10, 3) := by decide +kernel
theorem dX5_move_12 : decode cX5_move 12 = .ok (.aload_n 0, 1) := by decide +kernel
theorem dX5_move_13 : decode cX5_move 13 = .ok (.getfield 21, 3) := by decide +kernel
theorem dX5_move_16 : decode cX5_move 16 = .ok (.iload_n 1, 1) := by decide +kernel
theorem dX5_move_17 : decode cX5_move 17 = .ok (.iload_n 2, 1) := by decide +kernel
theorem dX5_move_18 : decode cX5_move 18 = .ok (.iastore, 1) := by decide +kernel
theorem dX5_move_19 : decode cX5_move 19 = .ok (.return_, 1) := by decide +kernel
theorem dX6_isCell_0 : decode cX6_isCell 0 = .ok (.iload_n 0, 1) := by decide +kernel
theorem dX6_isCell_1 : decode cX6_isCell 1 = .ok (.ifCond .lt 13, 3) := by decide +kernel
theorem dX6_isCell_4 : decode cX6_isCell 4 = .ok (.iload_n 0, 1) := by decide +kernel
theorem dX6_isCell_5 : decode cX6_isCell 5 = .ok (.bipush 64, 2) := by decide +kernel
theorem dX6_isCell_7 : decode cX6_isCell 7 = .ok (.if_icmp .ge 7, 3) := by decide +kernel
theorem dX6_isCell_10 : decode cX6_isCell 10 = .ok (.iconst 1, 1) := by decide +kernel
theorem dX6_isCell_11 : decode cX6_isCell 11 = .ok (.goto 4, 3) := by decide +kernel
theorem dX6_isCell_14 : decode cX6_isCell 14 = .ok (.iconst 0, 1) := by decide +kernel
theorem dX6_isCell_15 : decode cX6_isCell 15 = .ok (.ireturn, 1) := by decide +kernel
theorem dX6_numberFor_0 : decode cX6_numberFor 0 = .ok (.ldc_w 297, 3) := by decide +kernel
theorem dX6_numberFor_3 : decode cX6_numberFor 3 = .ok (.iload_n 0, 1) := by decide +kernel
theorem dX6_numberFor_4 : decode cX6_numberFor 4 = .ok (.imul, 1) := by decide +kernel
theorem dX6_numberFor_5 : decode cX6_numberFor 5 = .ok (.sipush 1000, 3) := by decide +kernel
theorem dX6_numberFor_8 : decode cX6_numberFor 8 = .ok (.iload_n 1, 1) := by decide +kernel
theorem dX6_numberFor_9 : decode cX6_numberFor 9 = .ok (.imul, 1) := by decide +kernel
theorem dX6_numberFor_10 : decode cX6_numberFor 10 = .ok (.iadd, 1) := by decide +kernel
theorem dX6_numberFor_11 : decode cX6_numberFor 11 = .ok (.iload_n 2, 1) := by decide +kernel
theorem dX6_numberFor_12 : decode cX6_numberFor 12 = .ok (.iadd, 1) := by decide +kernel
theorem dX6_numberFor_13 : decode cX6_numberFor 13 = .ok (.ireturn, 1) := by decide +kernel
theorem dX6_turnOf_0 : decode cX6_turnOf 0 = .ok (.iload_n 0, 1) := by decide +kernel
theorem dX6_turnOf_1 : decode cX6_turnOf 1 = .ok (.ldc_w 297, 3) := by decide +kernel
theorem dX6_turnOf_4 : decode cX6_turnOf 4 = .ok (.idiv, 1) := by decide +kernel
theorem dX6_turnOf_5 : decode cX6_turnOf 5 = .ok (.ireturn, 1) := by decide +kernel
theorem dX6_placeOf_0 : decode cX6_placeOf 0 = .ok (.iload_n 0, 1) := by decide +kernel
theorem dX6_placeOf_1 : decode cX6_placeOf 1 = .ok (.ldc_w 297, 3) := by decide +kernel
theorem dX6_placeOf_4 : decode cX6_placeOf 4 = .ok (.irem, 1) := by decide +kernel
theorem dX6_placeOf_5 : decode cX6_placeOf 5 = .ok (.sipush 1000, 3) := by decide +kernel
theorem dX6_placeOf_8 : decode cX6_placeOf 8 = .ok (.idiv, 1) := by decide +kernel
theorem dX6_placeOf_9 : decode cX6_placeOf 9 = .ok (.ireturn, 1) := by decide +kernel
theorem dX6_unitOf_0 : decode cX6_unitOf 0 = .ok (.iload_n 0, 1) := by decide +kernel
theorem dX6_unitOf_1 : decode cX6_unitOf 1 = .ok (.sipush 1000, 3) := by decide +kernel
theorem dX6_unitOf_4 : decode cX6_unitOf 4 = .ok (.irem, 1) := by decide +kernel
theorem dX6_unitOf_5 : decode cX6_unitOf 5 = .ok (.ireturn, 1) := by decide +kernel
end
section
set_option maxRecDepth 20000 in
theorem ggX0_take_X2_at : GoodIn wsX0_take wsX2_at := goodIn_ca (goodIn_r _ [15, 16, 17, 18, 19] (by decide +kernel) (by decide +kernel)) (goodIn_sub (fun _ h => List.mem_cons_of_mem _ (List.mem_append_right _ h)) (by decide +kernel))
set_option maxRecDepth 20000 in
theorem gX0_take_X2_at : GoodIn wsX0_take (wsV RX0 36 RX2 yX2_at wsX2_at) := goodIn_app (goodIn_of _ (by decide +kernel)) ggX0_take_X2_at
set_option maxRecDepth 20000 in
theorem ggX0_keepParity_X0_numberAt : GoodIn wsX0_keepParity wsX0_numberAt := goodIn_ca (goodIn_r _ [6, 7, 8, 18, 19, 20, 21, 22, 23, 24] (by decide +kernel) (by decide +kernel)) (goodIn_sub (fun _ h => List.mem_cons_of_mem _ (List.mem_append_right _ h)) (by decide +kernel))
set_option maxRecDepth 20000 in
theorem gX0_keepParity_X0_numberAt : GoodIn wsX0_keepParity (wsV RX0 50 RX0 yX0_numberAt wsX0_numberAt) := goodIn_app (goodIn_of _ (by decide +kernel)) ggX0_keepParity_X0_numberAt
set_option maxRecDepth 20000 in
theorem ggX0_keepParity_X0_alliesAt : GoodIn wsX0_keepParity wsX0_alliesAt := goodIn_ca (goodIn_r _ [12, 13, 14, 15, 5, 16, 17, 2, 3, 4, 6, 7, 8, 18, 19, 20, 21, 22, 23, 24] (by decide +kernel) (by decide +kernel)) (goodIn_sub (fun _ h => List.mem_cons_of_mem _ (List.mem_append_right _ h)) (by decide +kernel))
set_option maxRecDepth 20000 in
theorem gX0_keepParity_X0_alliesAt : GoodIn wsX0_keepParity (wsV RX0 53 RX0 yX0_alliesAt wsX0_alliesAt) := goodIn_app (goodIn_of _ (by decide +kernel)) ggX0_keepParity_X0_alliesAt
set_option maxRecDepth 20000 in
theorem ggX0_writeTo_X2_clear : GoodIn wsX0_writeTo wsX2_clear := goodIn_r _ [7, 8, 38, 39] (by decide +kernel) (by decide +kernel)
set_option maxRecDepth 20000 in
theorem gX0_writeTo_X2_clear : GoodIn wsX0_writeTo (wsV RX0 57 RX2 yX2_clear wsX2_clear) := goodIn_app (goodIn_of _ (by decide +kernel)) ggX0_writeTo_X2_clear
set_option maxRecDepth 20000 in
theorem ggX0_writeTo_X6_turnOf : GoodIn wsX0_writeTo wsX6_turnOf := goodIn_r _ [11, 12] (by decide +kernel) (by decide +kernel)
set_option maxRecDepth 20000 in
theorem gX0_writeTo_X6_turnOf_n60 : GoodIn wsX0_writeTo (wsX6_turnOf) := ggX0_writeTo_X6_turnOf
set_option maxRecDepth 20000 in
theorem ggX0_writeTo_X6_placeOf : GoodIn wsX0_writeTo wsX6_placeOf := goodIn_r _ [14, 12] (by decide +kernel) (by decide +kernel)
set_option maxRecDepth 20000 in
theorem gX0_writeTo_X6_placeOf_n63 : GoodIn wsX0_writeTo (wsX6_placeOf) := ggX0_writeTo_X6_placeOf
set_option maxRecDepth 20000 in
theorem ggX0_writeTo_X6_unitOf : GoodIn wsX0_writeTo wsX6_unitOf := goodIn_r _ [16] (by decide +kernel) (by decide +kernel)
set_option maxRecDepth 20000 in
theorem gX0_writeTo_X6_unitOf_n66 : GoodIn wsX0_writeTo (wsX6_unitOf) := ggX0_writeTo_X6_unitOf
set_option maxRecDepth 20000 in
theorem ggX0_writeTo_X2_add : GoodIn wsX0_writeTo wsX2_add := goodIn_ca (goodIn_r _ [20, 8, 21, 22, 23, 6, 24, 9, 10, 11, 12, 15, 16, 25, 26, 27, 28, 29, 30, 38, 39] (by decide +kernel) (by decide +kernel)) (goodIn_sub (fun _ h => List.mem_cons_of_mem _ (List.mem_append_right _ h)) (by decide +kernel))
set_option maxRecDepth 20000 in
theorem gX0_writeTo_X2_add : GoodIn wsX0_writeTo (wsV RX0 69 RX2 yX2_add wsX2_add) := goodIn_app (goodIn_of _ (by decide +kernel)) ggX0_writeTo_X2_add
set_option maxRecDepth 20000 in
theorem ggX0_isBroken_X0_blockCount : GoodIn wsX0_isBroken wsX0_blockCount := goodIn_r _ [6, 7, 8, 9, 10, 11, 12, 13, 14] (by decide +kernel) (by decide +kernel)
set_option maxRecDepth 20000 in
theorem gX0_isBroken_X0_blockCount : GoodIn wsX0_isBroken (wsV RX0 73 RX0 yX0_blockCount wsX0_blockCount) := goodIn_app (goodIn_of _ (by decide +kernel)) ggX0_isBroken_X0_blockCount
set_option maxRecDepth 20000 in
theorem ggX0_breakOne_X0_blockCount : GoodIn wsX0_breakOne wsX0_blockCount := goodIn_r _ [7, 8, 17, 18, 19, 20, 21, 22, 23] (by decide +kernel) (by decide +kernel)
set_option maxRecDepth 20000 in
theorem gX0_breakOne_X0_blockCount : GoodIn wsX0_breakOne (wsV RX0 73 RX0 yX0_blockCount wsX0_blockCount) := goodIn_app (goodIn_of _ (by decide +kernel)) ggX0_breakOne_X0_blockCount
set_option maxRecDepth 20000 in
theorem ggX0_breakOne_X0_blockEnd : GoodIn wsX0_breakOne wsX0_blockEnd := goodIn_r _ [12, 8, 13, 14, 15, 16, 17, 18, 19, 20, 21, 22, 23] (by decide +kernel) (by decide +kernel)
set_option maxRecDepth 20000 in
theorem gX0_breakOne_X0_blockEnd : GoodIn wsX0_breakOne (wsV RX0 77 RX0 yX0_blockEnd wsX0_blockEnd) := goodIn_app (goodIn_of _ (by decide +kernel)) ggX0_breakOne_X0_blockEnd
set_option maxRecDepth 20000 in
theorem ggX0_endTreaty_X0_isAlly : GoodIn wsX0_endTreaty wsX0_isAlly := goodIn_r _ [6, 7, 8, 9, 10, 11, 12, 13, 14] (by decide +kernel) (by decide +kernel)
set_option maxRecDepth 20000 in
theorem gX0_endTreaty_X0_isAlly : GoodIn wsX0_endTreaty (wsV RX0 80 RX0 yX0_isAlly wsX0_isAlly) := goodIn_app (goodIn_of _ (by decide +kernel)) ggX0_endTreaty_X0_isAlly
set_option maxRecDepth 20000 in
theorem ggX0_canRebuild_X0_isAlly : GoodIn wsX0_canRebuild wsX0_isAlly := goodIn_r _ [7, 1, 18, 19, 20, 21, 22, 23, 24] (by decide +kernel) (by decide +kernel)
set_option maxRecDepth 20000 in
theorem gX0_canRebuild_X0_isAlly : GoodIn wsX0_canRebuild (wsV RX0 80 RX0 yX0_isAlly wsX0_isAlly) := goodIn_app (goodIn_of _ (by decide +kernel)) ggX0_canRebuild_X0_isAlly
set_option maxRecDepth 20000 in
theorem ggX0_canRebuild_X0_isBroken : GoodIn wsX0_canRebuild wsX0_isBroken := goodIn_r _ [11, 12, 13, 14, 15, 6, 16, 17, 18, 19, 20, 21, 22, 23, 24] (by decide +kernel) (by decide +kernel)
set_option maxRecDepth 20000 in
theorem gX0_canRebuild_X0_isBroken : GoodIn wsX0_canRebuild (wsV RX0 84 RX0 yX0_isBroken wsX0_isBroken) := goodIn_app (goodIn_of _ (by decide +kernel)) ggX0_canRebuild_X0_isBroken
set_option maxRecDepth 20000 in
theorem ggX0_rebuild_X0_blockCount : GoodIn wsX0_rebuild wsX0_blockCount := goodIn_r _ [8, 9, 31, 32, 33, 34, 35, 36, 37] (by decide +kernel) (by decide +kernel)
set_option maxRecDepth 20000 in
theorem gX0_rebuild_X0_blockCount : GoodIn wsX0_rebuild (wsV RX0 73 RX0 yX0_blockCount wsX0_blockCount) := goodIn_app (goodIn_of _ (by decide +kernel)) ggX0_rebuild_X0_blockCount
set_option maxRecDepth 20000 in
theorem ggX0_rebuild_X0_blockEnd : GoodIn wsX0_rebuild wsX0_blockEnd := goodIn_r _ [13, 9, 14, 15, 16, 17, 31, 32, 33, 34, 35, 36, 37] (by decide +kernel) (by decide +kernel)
set_option maxRecDepth 20000 in
theorem gX0_rebuild_X0_blockEnd : GoodIn wsX0_rebuild (wsV RX0 77 RX0 yX0_blockEnd wsX0_blockEnd) := goodIn_app (goodIn_of _ (by decide +kernel)) ggX0_rebuild_X0_blockEnd
set_option maxRecDepth 20000 in
theorem ggX0_rebuild_X0_alliesAt : GoodIn wsX0_rebuild wsX0_alliesAt := goodIn_ca (goodIn_r _ [21, 22, 23, 24, 7, 25, 26, 27, 28, 29, 30, 9, 1, 31, 32, 33, 34, 35, 36, 37] (by decide +kernel) (by decide +kernel)) (goodIn_sub (fun _ h => List.mem_cons_of_mem _ (List.mem_append_right _ h)) (by decide +kernel))
set_option maxRecDepth 20000 in
theorem gX0_rebuild_X0_alliesAt : GoodIn wsX0_rebuild (wsV RX0 53 RX0 yX0_alliesAt wsX0_alliesAt) := goodIn_app (goodIn_of _ (by decide +kernel)) ggX0_rebuild_X0_alliesAt
set_option maxRecDepth 20000 in
theorem ggX0_isAsTaken_X0_isBroken : GoodIn wsX0_isAsTaken wsX0_isBroken := goodIn_r _ [7, 8, 9, 10, 11, 6, 12, 1, 18, 19, 20, 21, 22, 23, 24] (by decide +kernel) (by decide +kernel)
set_option maxRecDepth 20000 in
theorem gX0_isAsTaken_X0_isBroken : GoodIn wsX0_isAsTaken (wsV RX0 84 RX0 yX0_isBroken wsX0_isBroken) := goodIn_app (goodIn_of _ (by decide +kernel)) ggX0_isAsTaken_X0_isBroken
set_option maxRecDepth 20000 in
theorem ggX0_isAsTaken_X0_wasTaken : GoodIn wsX0_isAsTaken wsX0_wasTaken := goodIn_ca (goodIn_r _ [16, 1, 17, 18, 19, 20, 21, 22, 23, 24] (by decide +kernel) (by decide +kernel)) (goodIn_sub (fun _ h => List.mem_cons_of_mem _ (List.mem_append_right _ h)) (by decide +kernel))
set_option maxRecDepth 20000 in
theorem gX0_isAsTaken_X0_wasTaken : GoodIn wsX0_isAsTaken (wsV RX0 87 RX0 yX0_wasTaken wsX0_wasTaken) := goodIn_app (goodIn_of _ (by decide +kernel)) ggX0_isAsTaken_X0_wasTaken
set_option maxRecDepth 20000 in
theorem ggX0_alliesAt_X0_isAlly : GoodIn wsX0_alliesAt wsX0_isAlly := goodIn_r _ [5, 6, 13, 14, 15, 16, 17, 18, 19] (by decide +kernel) (by decide +kernel)
set_option maxRecDepth 20000 in
theorem gX0_alliesAt_X0_isAlly : GoodIn wsX0_alliesAt (wsV RX0 80 RX0 yX0_isAlly wsX0_isAlly) := goodIn_app (goodIn_of _ (by decide +kernel)) ggX0_alliesAt_X0_isAlly
set_option maxRecDepth 20000 in
theorem ggX0_alliesAt_X0_numberAt : GoodIn wsX0_alliesAt wsX0_numberAt := goodIn_ca (goodIn_r _ [10, 11, 12, 13, 14, 15, 16, 17, 18, 19] (by decide +kernel) (by decide +kernel)) (goodIn_sub (fun _ h => List.mem_cons_of_mem _ (List.mem_append_right _ h)) (by decide +kernel))
set_option maxRecDepth 20000 in
theorem gX0_alliesAt_X0_numberAt : GoodIn wsX0_alliesAt (wsV RX0 50 RX0 yX0_numberAt wsX0_numberAt) := goodIn_app (goodIn_of _ (by decide +kernel)) ggX0_alliesAt_X0_numberAt
set_option maxRecDepth 20000 in
theorem ggX1_init_X3_init : GoodIn wsX1_init wsX3_init := goodIn_r _ [16, 17, 2, 3, 18, 19, 27] (by decide +kernel) (by decide +kernel)
set_option maxRecDepth 20000 in
theorem gX1_init_X3_init_n11 : GoodIn wsX1_init (wsX3_init) := ggX1_init_X3_init
set_option maxRecDepth 20000 in
theorem ggX1_init_X5_init : GoodIn wsX1_init wsX5_init := goodIn_r _ [21, 22, 2, 3, 12, 23, 24, 25, 26, 32, 33, 34, 35, 36] (by decide +kernel) (by decide +kernel)
set_option maxRecDepth 20000 in
theorem gX1_init_X5_init_n20 : GoodIn wsX1_init (wsX5_init) := ggX1_init_X5_init
set_option maxRecDepth 20000 in
theorem ggX1_playTurn_X1_readWants : GoodIn wsX1_playTurn wsX1_readWants := goodIn_ca (goodIn_r _ [5, 6, 7, 8, 9, 10, 11, 12, 13, 14, 15, 16, 17, 18, 19, 20, 21, 22, 23, 24, 25, 26, 27, 28, 29, 30, 31, 32, 33, 34, 35, 36, 37, 38, 39, 40, 4, 41, 113, 114, 115, 116, 117, 118, 119, 120, 121, 122, 123, 124] (by decide +kernel) (by decide +kernel)) (goodIn_sub (fun _ h => List.mem_cons_of_mem _ (List.mem_append_right _ h)) (by decide +kernel))
set_option maxRecDepth 20000 in
theorem gX1_playTurn_X1_readWants : GoodIn wsX1_playTurn (wsV RX1 32 RX1 yX1_readWants wsX1_readWants) := goodIn_app (goodIn_of _ (by decide +kernel)) ggX1_playTurn_X1_readWants
set_option maxRecDepth 20000 in
theorem ggX1_playTurn_X1_meetPairs : GoodIn wsX1_playTurn wsX1_meetPairs := goodIn_ca (goodIn_r _ [45, 6, 46, 47, 48, 4, 49, 7, 38, 39, 40, 41, 9, 10, 11, 12, 13, 14, 15, 50, 51, 52, 53, 54, 55, 56, 57, 58, 59, 60, 61, 62, 63, 64, 65, 66, 67, 68, 69, 70, 71, 72, 73, 74, 75, 113, 114, 115, 116, 117, 118, 119, 120, 121] (by decide +kernel) (by decide +kernel)) (goodIn_sub (fun _ h => List.mem_cons_of_mem _ (List.mem_append_right _ h)) (by decide +kernel))
set_option maxRecDepth 20000 in
theorem gX1_playTurn_X1_meetPairs : GoodIn wsX1_playTurn (wsV RX1 36 RX1 yX1_meetPairs wsX1_meetPairs) := goodIn_app (goodIn_of _ (by decide +kernel)) ggX1_playTurn_X1_meetPairs
set_option maxRecDepth 20000 in
theorem ggX1_playTurn_X1_settleCells : GoodIn wsX1_playTurn wsX1_settleCells := goodIn_ca (goodIn_r _ [79, 80, 81, 82, 4, 83, 6, 7, 38, 39, 40, 41, 9, 10, 11, 12, 13, 14, 15, 84, 85, 86, 87, 88, 89, 90, 91, 50, 51, 52, 53, 92, 93, 94, 95, 96, 97, 98, 99, 100, 54, 55, 56, 57, 58, 63, 64, 65, 66, 67, 101, 102, 103, 104, 105, 106, 107, 108, 68, 69, 70, 71, 72, 73, 74, 75, 113, 114, 115, 116, 117, 118, 119, 120, 121] (by decide +kernel) (by decide +kernel)) (goodIn_sub (fun _ h => List.mem_cons_of_mem _ (List.mem_append_right _ h)) (by decide +kernel))
set_option maxRecDepth 20000 in
theorem gX1_playTurn_X1_settleCells : GoodIn wsX1_playTurn (wsV RX1 40 RX1 yX1_settleCells wsX1_settleCells) := goodIn_app (goodIn_of _ (by decide +kernel)) ggX1_playTurn_X1_settleCells
set_option maxRecDepth 20000 in
theorem ggX1_playTurn_X1_moveAll : GoodIn wsX1_playTurn wsX1_moveAll := goodIn_ca (goodIn_r _ [112, 6, 7, 72, 73, 74, 12, 75, 14, 15, 113, 114, 115, 116, 117, 118, 119, 120, 121] (by decide +kernel) (by decide +kernel)) (goodIn_sub (fun _ h => List.mem_cons_of_mem _ (List.mem_append_right _ h)) (by decide +kernel))
set_option maxRecDepth 20000 in
theorem gX1_playTurn_X1_moveAll : GoodIn wsX1_playTurn (wsV RX1 43 RX1 yX1_moveAll wsX1_moveAll) := goodIn_app (goodIn_of _ (by decide +kernel)) ggX1_playTurn_X1_moveAll
set_option maxRecDepth 20000 in
theorem ggX1_readWants_X5_place : GoodIn wsX1_readWants wsX5_place := goodIn_ca (goodIn_r _ [8, 9, 10, 42, 43, 44, 45, 46] (by decide +kernel) (by decide +kernel)) (goodIn_sub (fun _ h => List.mem_cons_of_mem _ (List.mem_append_right _ h)) (by decide +kernel))
set_option maxRecDepth 20000 in
theorem gX1_readWants_X5_place : GoodIn wsX1_readWants (wsV RX1 50 RX5 yX5_place wsX5_place) := goodIn_app (goodIn_of _ (by decide +kernel)) ggX1_readWants_X5_place
set_option maxRecDepth 20000 in
theorem ggX1_readWants_X4_direction : GoodIn wsX1_readWants wsX4_direction := goodIn_ca (goodIn_r _ [15, 16, 17, 18, 14, 19, 47, 48] (by decide +kernel) (by decide +kernel)) (goodIn_sub (fun _ h => List.mem_cons_of_mem _ (List.mem_append_right _ h)) (by decide +kernel))
set_option maxRecDepth 20000 in
theorem gX1_readWants_X4_direction : GoodIn wsX1_readWants (wsV RX1 54 RX4 yX4_direction wsX4_direction) := goodIn_app (goodIn_of _ (by decide +kernel)) ggX1_readWants_X4_direction
set_option maxRecDepth 20000 in
theorem ggX1_readWants_X3_beside : GoodIn wsX1_readWants wsX3_beside := goodIn_ca (goodIn_r _ [24, 25, 26, 27, 23, 28, 29, 30, 31, 32, 49] (by decide +kernel) (by decide +kernel)) (goodIn_sub (fun _ h => List.mem_cons_of_mem _ (List.mem_append_right _ h)) (by decide +kernel))
set_option maxRecDepth 20000 in
theorem gX1_readWants_X3_beside : GoodIn wsX1_readWants (wsV RX1 60 RX3 yX3_beside wsX3_beside) := goodIn_app (goodIn_of _ (by decide +kernel)) ggX1_readWants_X3_beside
set_option maxRecDepth 20000 in
theorem ggX1_readWants_X1_isMover : GoodIn wsX1_readWants wsX1_isMover := goodIn_ca (goodIn_r _ [37, 2, 1, 4, 5, 6, 7, 8, 9, 10, 38, 39, 40, 41, 42, 43, 44, 45, 46] (by decide +kernel) (by decide +kernel)) (goodIn_sub (fun _ h => List.mem_cons_of_mem _ (List.mem_append_right _ h)) (by decide +kernel))
set_option maxRecDepth 20000 in
theorem gX1_readWants_X1_isMover : GoodIn wsX1_readWants (wsV RX1 64 RX1 yX1_isMover wsX1_isMover) := goodIn_app (goodIn_of _ (by decide +kernel)) ggX1_readWants_X1_isMover
set_option maxRecDepth 20000 in
theorem ggX1_isMover_X5_place : GoodIn wsX1_isMover wsX5_place := goodIn_ca (goodIn_r _ [7, 8, 9, 14, 15, 16, 17, 18] (by decide +kernel) (by decide +kernel)) (goodIn_sub (fun _ h => List.mem_cons_of_mem _ (List.mem_append_right _ h)) (by decide +kernel))
set_option maxRecDepth 20000 in
theorem gX1_isMover_X5_place : GoodIn wsX1_isMover (wsV RX1 50 RX5 yX5_place wsX5_place) := goodIn_app (goodIn_of _ (by decide +kernel)) ggX1_isMover_X5_place
set_option maxRecDepth 20000 in
theorem ggX1_meetPairs_X1_facing : GoodIn wsX1_meetPairs wsX1_facing := goodIn_ca (goodIn_r _ [6, 1, 7, 8, 9, 10, 5, 11, 12, 13, 14, 15, 16, 17, 18, 19, 20, 21, 22, 23, 24, 25, 26, 27, 45, 46, 47, 48, 49, 50, 51, 52, 53] (by decide +kernel) (by decide +kernel)) (goodIn_sub (fun _ h => List.mem_cons_of_mem _ (List.mem_append_right _ h)) (by decide +kernel))
set_option maxRecDepth 20000 in
theorem gX1_meetPairs_X1_facing : GoodIn wsX1_meetPairs (wsV RX1 68 RX1 yX1_facing wsX1_facing) := goodIn_app (goodIn_of _ (by decide +kernel)) ggX1_meetPairs_X1_facing
set_option maxRecDepth 20000 in
theorem ggX1_meetPairs_X1_meet : GoodIn wsX1_meetPairs wsX1_meet := goodIn_ca (goodIn_r _ [31, 1, 7, 32, 33, 34, 15, 35, 17, 36, 12, 13, 14, 16, 18, 37, 38, 39, 5, 40, 41, 42, 43, 44, 45, 46, 47, 48, 49, 50, 51, 52, 53] (by decide +kernel) (by decide +kernel)) (goodIn_sub (fun _ h => List.mem_cons_of_mem _ (List.mem_append_right _ h)) (by decide +kernel))
set_option maxRecDepth 20000 in
theorem gX1_meetPairs_X1_meet : GoodIn wsX1_meetPairs (wsV RX1 71 RX1 yX1_meet wsX1_meet) := goodIn_app (goodIn_of _ (by decide +kernel)) ggX1_meetPairs_X1_meet
set_option maxRecDepth 20000 in
theorem ggX1_facing_X1_isMover : GoodIn wsX1_facing wsX1_isMover := goodIn_ca (goodIn_r _ [7, 2, 1, 8, 9, 10, 11, 12, 13, 14, 24, 25, 26, 27, 28, 29, 30, 31, 32] (by decide +kernel) (by decide +kernel)) (goodIn_sub (fun _ h => List.mem_cons_of_mem _ (List.mem_append_right _ h)) (by decide +kernel))
set_option maxRecDepth 20000 in
theorem gX1_facing_X1_isMover : GoodIn wsX1_facing (wsV RX1 64 RX1 yX1_isMover wsX1_isMover) := goodIn_app (goodIn_of _ (by decide +kernel)) ggX1_facing_X1_isMover
set_option maxRecDepth 20000 in
theorem ggX1_facing_X5_on : GoodIn wsX1_facing wsX5_on := goodIn_ca (goodIn_r _ [18, 13, 14, 28, 29, 30, 31, 32] (by decide +kernel) (by decide +kernel)) (goodIn_sub (fun _ h => List.mem_cons_of_mem _ (List.mem_append_right _ h)) (by decide +kernel))
set_option maxRecDepth 20000 in
theorem gX1_facing_X5_on : GoodIn wsX1_facing (wsV RX1 74 RX5 yX5_on wsX5_on) := goodIn_app (goodIn_of _ (by decide +kernel)) ggX1_facing_X5_on
set_option maxRecDepth 20000 in
theorem ggX1_facing_X5_place : GoodIn wsX1_facing wsX5_place := goodIn_ca (goodIn_r _ [12, 13, 14, 28, 29, 30, 31, 32] (by decide +kernel) (by decide +kernel)) (goodIn_sub (fun _ h => List.mem_cons_of_mem _ (List.mem_append_right _ h)) (by decide +kernel))
set_option maxRecDepth 20000 in
theorem gX1_facing_X5_place : GoodIn wsX1_facing (wsV RX1 50 RX5 yX5_place wsX5_place) := goodIn_app (goodIn_of _ (by decide +kernel)) ggX1_facing_X5_place
set_option maxRecDepth 20000 in
theorem ggX1_facing_X5_owner : GoodIn wsX1_facing wsX5_owner := goodIn_ca (goodIn_r _ [22, 13, 23, 28, 29, 30, 31, 32] (by decide +kernel) (by decide +kernel)) (goodIn_sub (fun _ h => List.mem_cons_of_mem _ (List.mem_append_right _ h)) (by decide +kernel))
set_option maxRecDepth 20000 in
theorem gX1_facing_X5_owner : GoodIn wsX1_facing (wsV RX1 77 RX5 yX5_owner wsX5_owner) := goodIn_app (goodIn_of _ (by decide +kernel)) ggX1_facing_X5_owner
set_option maxRecDepth 20000 in
theorem ggX1_meet_X5_power : GoodIn wsX1_meet wsX5_power := goodIn_ca (goodIn_r _ [7, 8, 9, 28, 29, 30, 31, 32] (by decide +kernel) (by decide +kernel)) (goodIn_sub (fun _ h => List.mem_cons_of_mem _ (List.mem_append_right _ h)) (by decide +kernel))
set_option maxRecDepth 20000 in
theorem gX1_meet_X5_power : GoodIn wsX1_meet (wsV RX1 80 RX5 yX5_power wsX5_power) := goodIn_app (goodIn_of _ (by decide +kernel)) ggX1_meet_X5_power
set_option maxRecDepth 20000 in
theorem ggX1_meet_X5_place : GoodIn wsX1_meet wsX5_place := goodIn_ca (goodIn_r _ [13, 8, 14, 28, 29, 30, 31, 32] (by decide +kernel) (by decide +kernel)) (goodIn_sub (fun _ h => List.mem_cons_of_mem _ (List.mem_append_right _ h)) (by decide +kernel))
set_option maxRecDepth 20000 in
theorem gX1_meet_X5_place : GoodIn wsX1_meet (wsV RX1 50 RX5 yX5_place wsX5_place) := goodIn_app (goodIn_of _ (by decide +kernel)) ggX1_meet_X5_place
set_option maxRecDepth 20000 in
theorem ggX1_meet_X1_lose : GoodIn wsX1_meet wsX1_lose := goodIn_ca (goodIn_r _ [19, 1, 2, 20, 21, 22, 6, 23, 8, 14, 24, 25, 26, 27, 28, 29, 30, 31, 32] (by decide +kernel) (by decide +kernel)) (goodIn_sub (fun _ h => List.mem_cons_of_mem _ (List.mem_append_right _ h)) (by decide +kernel))
set_option maxRecDepth 20000 in
theorem gX1_meet_X1_lose : GoodIn wsX1_meet (wsV RX1 83 RX1 yX1_lose wsX1_lose) := goodIn_app (goodIn_of _ (by decide +kernel)) ggX1_meet_X1_lose
set_option maxRecDepth 20000 in
theorem ggX1_lose_X5_move : GoodIn wsX1_lose wsX5_move := goodIn_ca (goodIn_r _ [7, 8, 9, 14, 15, 16, 17, 18] (by decide +kernel) (by decide +kernel)) (goodIn_sub (fun _ h => List.mem_cons_of_mem _ (List.mem_append_right _ h)) (by decide +kernel))
set_option maxRecDepth 20000 in
theorem gX1_lose_X5_move : GoodIn wsX1_lose (wsV RX1 87 RX5 yX5_move wsX5_move) := goodIn_app (goodIn_of _ (by decide +kernel)) ggX1_lose_X5_move
set_option maxRecDepth 20000 in
theorem ggX1_settleCells_X1_lowestContested : GoodIn wsX1_settleCells wsX1_lowestContested := goodIn_ca (goodIn_r _ [5, 6, 7, 8, 9, 10, 4, 11, 12, 13, 14, 15, 16, 17, 18, 19, 20, 21, 22, 66, 67, 68, 69, 70, 71, 72, 73, 74] (by decide +kernel) (by decide +kernel)) (goodIn_sub (fun _ h => List.mem_cons_of_mem _ (List.mem_append_right _ h)) (by decide +kernel))
set_option maxRecDepth 20000 in
theorem gX1_settleCells_X1_lowestContested : GoodIn wsX1_settleCells (wsV RX1 91 RX1 yX1_lowestContested wsX1_lowestContested) := goodIn_app (goodIn_of _ (by decide +kernel)) ggX1_settleCells_X1_lowestContested
set_option maxRecDepth 20000 in
theorem ggX1_settleCells_X1_lookAt : GoodIn wsX1_settleCells wsX1_lookAt := goodIn_ca (goodIn_r _ [26, 6, 7, 27, 28, 29, 15, 30, 17, 18, 31, 32, 33, 4, 34, 35, 36, 37, 38, 39, 40, 41, 42, 43, 44, 45, 46, 47, 48, 49, 50, 51, 52, 53, 54, 55, 56, 57, 12, 13, 14, 16, 58, 59, 60, 61, 62, 63, 64, 65, 66, 67, 68, 69, 70, 71, 72, 73, 74] (by decide +kernel) (by decide +kernel)) (goodIn_sub (fun _ h => List.mem_cons_of_mem _ (List.mem_append_right _ h)) (by decide +kernel))
set_option maxRecDepth 20000 in
theorem gX1_settleCells_X1_lookAt : GoodIn wsX1_settleCells (wsV RX1 94 RX1 yX1_lookAt wsX1_lookAt) := goodIn_app (goodIn_of _ (by decide +kernel)) ggX1_settleCells_X1_lookAt
set_option maxRecDepth 20000 in
theorem ggX1_lowestContested_X1_isMover : GoodIn wsX1_lowestContested wsX1_isMover := goodIn_ca (goodIn_r _ [7, 2, 1, 8, 9, 10, 11, 12, 13, 14, 19, 20, 21, 22, 23, 24, 25, 26, 27] (by decide +kernel) (by decide +kernel)) (goodIn_sub (fun _ h => List.mem_cons_of_mem _ (List.mem_append_right _ h)) (by decide +kernel))
set_option maxRecDepth 20000 in
theorem gX1_lowestContested_X1_isMover : GoodIn wsX1_lowestContested (wsV RX1 64 RX1 yX1_isMover wsX1_isMover) := goodIn_app (goodIn_of _ (by decide +kernel)) ggX1_lowestContested_X1_isMover
set_option maxRecDepth 20000 in
theorem ggX1_lowestContested_X1_isContested : GoodIn wsX1_lowestContested wsX1_isContested := goodIn_ca (goodIn_r _ [18, 1, 2, 19, 20, 21, 22, 23, 24, 25, 26, 27] (by decide +kernel) (by decide +kernel)) (goodIn_sub (fun _ h => List.mem_cons_of_mem _ (List.mem_append_right _ h)) (by decide +kernel))
set_option maxRecDepth 20000 in
theorem gX1_lowestContested_X1_isContested : GoodIn wsX1_lowestContested (wsV RX1 97 RX1 yX1_isContested wsX1_isContested) := goodIn_app (goodIn_of _ (by decide +kernel)) ggX1_lowestContested_X1_isContested
set_option maxRecDepth 20000 in
theorem ggX1_lookAt_X5_on : GoodIn wsX1_lookAt wsX5_on := goodIn_ca (goodIn_r _ [7, 8, 9, 54, 55, 56, 57, 58] (by decide +kernel) (by decide +kernel)) (goodIn_sub (fun _ h => List.mem_cons_of_mem _ (List.mem_append_right _ h)) (by decide +kernel))
set_option maxRecDepth 20000 in
theorem gX1_lookAt_X5_on : GoodIn wsX1_lookAt (wsV RX1 74 RX5 yX5_on wsX5_on) := goodIn_app (goodIn_of _ (by decide +kernel)) ggX1_lookAt_X5_on
set_option maxRecDepth 20000 in
theorem ggX1_lookAt_X1_strongestFor : GoodIn wsX1_lookAt wsX1_strongestFor := goodIn_ca (goodIn_r _ [14, 15, 1, 2, 16, 17, 18, 19, 20, 21, 22, 6, 23, 8, 24, 25, 26, 27, 28, 29, 50, 51, 52, 53, 54, 55, 56, 57, 58] (by decide +kernel) (by decide +kernel)) (goodIn_sub (fun _ h => List.mem_cons_of_mem _ (List.mem_append_right _ h)) (by decide +kernel))
set_option maxRecDepth 20000 in
theorem gX1_lookAt_X1_strongestFor : GoodIn wsX1_lookAt (wsV RX1 100 RX1 yX1_strongestFor wsX1_strongestFor) := goodIn_app (goodIn_of _ (by decide +kernel)) ggX1_lookAt_X1_strongestFor
set_option maxRecDepth 20000 in
theorem ggX1_lookAt_X1_firstMover : GoodIn wsX1_lookAt wsX1_firstMover := goodIn_ca (goodIn_r _ [33, 1, 2, 20, 21, 22, 6, 23, 8, 24, 50, 51, 52, 53, 54, 55, 56, 57, 58] (by decide +kernel) (by decide +kernel)) (goodIn_sub (fun _ h => List.mem_cons_of_mem _ (List.mem_append_right _ h)) (by decide +kernel))
set_option maxRecDepth 20000 in
theorem gX1_lookAt_X1_firstMover : GoodIn wsX1_lookAt (wsV RX1 103 RX1 yX1_firstMover wsX1_firstMover) := goodIn_app (goodIn_of _ (by decide +kernel)) ggX1_lookAt_X1_firstMover
set_option maxRecDepth 20000 in
theorem ggX1_lookAt_X1_turnBack : GoodIn wsX1_lookAt wsX1_turnBack := goodIn_ca (goodIn_r _ [37, 1, 2, 38, 39, 40, 6, 41, 8, 9, 50, 51, 52, 53, 54, 55, 56, 57, 58] (by decide +kernel) (by decide +kernel)) (goodIn_sub (fun _ h => List.mem_cons_of_mem _ (List.mem_append_right _ h)) (by decide +kernel))
set_option maxRecDepth 20000 in
theorem gX1_lookAt_X1_turnBack : GoodIn wsX1_lookAt (wsV RX1 106 RX1 yX1_turnBack wsX1_turnBack) := goodIn_app (goodIn_of _ (by decide +kernel)) ggX1_lookAt_X1_turnBack
set_option maxRecDepth 20000 in
theorem ggX1_lookAt_X5_owner : GoodIn wsX1_lookAt wsX5_owner := goodIn_ca (goodIn_r _ [23, 8, 24, 54, 55, 56, 57, 58] (by decide +kernel) (by decide +kernel)) (goodIn_sub (fun _ h => List.mem_cons_of_mem _ (List.mem_append_right _ h)) (by decide +kernel))
set_option maxRecDepth 20000 in
theorem gX1_lookAt_X5_owner : GoodIn wsX1_lookAt (wsV RX1 77 RX5 yX5_owner wsX5_owner) := goodIn_app (goodIn_of _ (by decide +kernel)) ggX1_lookAt_X5_owner
set_option maxRecDepth 20000 in
theorem ggX1_lookAt_X1_lose : GoodIn wsX1_lookAt wsX1_lose := goodIn_ca (goodIn_r _ [45, 1, 2, 46, 47, 48, 6, 49, 8, 9, 50, 51, 52, 53, 54, 55, 56, 57, 58] (by decide +kernel) (by decide +kernel)) (goodIn_sub (fun _ h => List.mem_cons_of_mem _ (List.mem_append_right _ h)) (by decide +kernel))
set_option maxRecDepth 20000 in
theorem gX1_lookAt_X1_lose : GoodIn wsX1_lookAt (wsV RX1 83 RX1 yX1_lose wsX1_lose) := goodIn_app (goodIn_of _ (by decide +kernel)) ggX1_lookAt_X1_lose
set_option maxRecDepth 20000 in
theorem ggX1_strongestFor_J7_fill_53178 : GoodIn wsX1_strongestFor wsJ7_fill_53178 := goodIn_r _ [7] (by decide +kernel) (by decide +kernel)
set_option maxRecDepth 20000 in
theorem gX1_strongestFor_J7_fill_53178 : GoodIn wsX1_strongestFor (va_wsS RX1 109 yJ7_fill_53178 wsJ7_fill_53178) := goodIn_app (goodIn_of _ (by decide +kernel)) ggX1_strongestFor_J7_fill_53178
set_option maxRecDepth 20000 in
theorem ggX1_strongestFor_X5_owner : GoodIn wsX1_strongestFor wsX5_owner := goodIn_ca (goodIn_r _ [12, 13, 14, 24, 25, 26, 27, 28] (by decide +kernel) (by decide +kernel)) (goodIn_sub (fun _ h => List.mem_cons_of_mem _ (List.mem_append_right _ h)) (by decide +kernel))
set_option maxRecDepth 20000 in
theorem gX1_strongestFor_X5_owner : GoodIn wsX1_strongestFor (wsV RX1 77 RX5 yX5_owner wsX5_owner) := goodIn_app (goodIn_of _ (by decide +kernel)) ggX1_strongestFor_X5_owner
set_option maxRecDepth 20000 in
theorem ggX1_strongestFor_X5_power : GoodIn wsX1_strongestFor wsX5_power := goodIn_ca (goodIn_r _ [18, 13, 19, 24, 25, 26, 27, 28] (by decide +kernel) (by decide +kernel)) (goodIn_sub (fun _ h => List.mem_cons_of_mem _ (List.mem_append_right _ h)) (by decide +kernel))
set_option maxRecDepth 20000 in
theorem gX1_strongestFor_X5_power : GoodIn wsX1_strongestFor (wsV RX1 80 RX5 yX5_power wsX5_power) := goodIn_app (goodIn_of _ (by decide +kernel)) ggX1_strongestFor_X5_power
set_option maxRecDepth 20000 in
theorem ggX1_firstMover_X5_owner : GoodIn wsX1_firstMover wsX5_owner := goodIn_ca (goodIn_r _ [7, 8, 9, 14, 15, 16, 17, 18] (by decide +kernel) (by decide +kernel)) (goodIn_sub (fun _ h => List.mem_cons_of_mem _ (List.mem_append_right _ h)) (by decide +kernel))
set_option maxRecDepth 20000 in
theorem gX1_firstMover_X5_owner : GoodIn wsX1_firstMover (wsV RX1 77 RX5 yX5_owner wsX5_owner) := goodIn_app (goodIn_of _ (by decide +kernel)) ggX1_firstMover_X5_owner
set_option maxRecDepth 20000 in
theorem ggX1_turnBack_X5_place : GoodIn wsX1_turnBack wsX5_place := goodIn_ca (goodIn_r _ [7, 8, 9, 14, 15, 16, 17, 18] (by decide +kernel) (by decide +kernel)) (goodIn_sub (fun _ h => List.mem_cons_of_mem _ (List.mem_append_right _ h)) (by decide +kernel))
set_option maxRecDepth 20000 in
theorem gX1_turnBack_X5_place : GoodIn wsX1_turnBack (wsV RX1 50 RX5 yX5_place wsX5_place) := goodIn_app (goodIn_of _ (by decide +kernel)) ggX1_turnBack_X5_place
set_option maxRecDepth 20000 in
theorem ggX1_moveAll_X5_move : GoodIn wsX1_moveAll wsX5_move := goodIn_ca (goodIn_r _ [7, 8, 9, 14, 15, 16, 17, 18] (by decide +kernel) (by decide +kernel)) (goodIn_sub (fun _ h => List.mem_cons_of_mem _ (List.mem_append_right _ h)) (by decide +kernel))
set_option maxRecDepth 20000 in
theorem gX1_moveAll_X5_move : GoodIn wsX1_moveAll (wsV RX1 87 RX5 yX5_move wsX5_move) := goodIn_app (goodIn_of _ (by decide +kernel)) ggX1_moveAll_X5_move
set_option maxRecDepth 20000 in
theorem ggX1_unitSpots_X5_place : GoodIn wsX1_unitSpots wsX5_place := goodIn_ca (goodIn_r _ [7, 8, 9, 47, 48, 49, 50, 51] (by decide +kernel) (by decide +kernel)) (goodIn_sub (fun _ h => List.mem_cons_of_mem _ (List.mem_append_left _ (List.mem_append_right _ h))) (by decide +kernel))
set_option maxRecDepth 20000 in
theorem gX1_unitSpots_X5_place : GoodIn wsX1_unitSpots (wsV RX1 50 RX5 yX5_place wsX5_place) := goodIn_app (goodIn_of _ (by decide +kernel)) ggX1_unitSpots_X5_place
set_option maxRecDepth 20000 in
theorem ggX1_unitSpots_X5_sight : GoodIn wsX1_unitSpots wsX5_sight := goodIn_ca (goodIn_r _ [13, 8, 14, 47, 48, 49, 50, 51] (by decide +kernel) (by decide +kernel)) (goodIn_sub (fun _ h => List.mem_cons_of_mem _ (List.mem_append_left _ (List.mem_append_right _ h))) (by decide +kernel))
set_option maxRecDepth 20000 in
theorem gX1_unitSpots_X5_sight : GoodIn wsX1_unitSpots (wsV RX1 115 RX5 yX5_sight wsX5_sight) := goodIn_app (goodIn_of _ (by decide +kernel)) ggX1_unitSpots_X5_sight
set_option maxRecDepth 20000 in
theorem ggX1_unitSpots_X3_at : GoodIn wsX1_unitSpots wsX3_at := goodIn_ca (goodIn_r _ [19, 20, 21, 22, 23, 52] (by decide +kernel) (by decide +kernel)) (goodIn_sub (fun _ h => List.mem_cons_of_mem _ (List.mem_append_left _ (List.mem_append_right _ h))) (by decide +kernel))
set_option maxRecDepth 20000 in
theorem gX1_unitSpots_X3_at : GoodIn wsX1_unitSpots (wsV RX1 118 RX3 yX3_at wsX3_at) := goodIn_app (goodIn_of _ (by decide +kernel)) ggX1_unitSpots_X3_at
set_option maxRecDepth 20000 in
theorem ggX1_unitSpots_X3_distance : GoodIn wsX1_unitSpots wsX3_distance := goodIn_r _ [26, 27, 28, 29, 30, 31, 32, 33] (by decide +kernel) (by decide +kernel)
set_option maxRecDepth 20000 in
theorem gX1_unitSpots_X3_distance : GoodIn wsX1_unitSpots (va_wsS RX1 122 yX3_distance wsX3_distance) := goodIn_app (goodIn_of _ (by decide +kernel)) ggX1_unitSpots_X3_distance
set_option maxRecDepth 20000 in
theorem ggX1_unitSpots_X3_isClear : GoodIn wsX1_unitSpots wsX3_isClear := goodIn_ca (goodIn_ca (goodIn_r _ [37, 38, 25, 18, 26, 27, 28, 29, 30, 31, 32, 33, 39, 16, 17, 19, 20, 21, 22, 23, 40, 41, 42, 52] (by decide +kernel) (by decide +kernel)) (goodIn_sub (fun _ h => List.mem_cons_of_mem _ (List.mem_append_left _ (List.mem_append_right _ h))) (by decide +kernel))) (goodIn_sub (fun _ h => List.mem_cons_of_mem _ (List.mem_append_right _ h)) (by decide +kernel))
set_option maxRecDepth 20000 in
theorem gX1_unitSpots_X3_isClear : GoodIn wsX1_unitSpots (wsV RX1 125 RX3 yX3_isClear wsX3_isClear) := goodIn_app (goodIn_of _ (by decide +kernel)) ggX1_unitSpots_X3_isClear
set_option maxRecDepth 20000 in
theorem ggX1_playerSpots_X5_owner : GoodIn wsX1_playerSpots wsX5_owner := goodIn_ca (goodIn_r _ [6, 7, 8, 57, 58, 59, 60, 61] (by decide +kernel) (by decide +kernel)) (goodIn_sub (fun _ h => List.mem_cons_of_mem _ (List.mem_append_left _ (List.mem_append_right _ h))) (by decide +kernel))
set_option maxRecDepth 20000 in
theorem gX1_playerSpots_X5_owner : GoodIn wsX1_playerSpots (wsV RX1 77 RX5 yX5_owner wsX5_owner) := goodIn_app (goodIn_of _ (by decide +kernel)) ggX1_playerSpots_X5_owner
set_option maxRecDepth 20000 in
theorem ggX1_playerSpots_X1_unitSpots : GoodIn wsX1_playerSpots wsX1_unitSpots := goodIn_ca (goodIn_ca (goodIn_r _ [13, 1, 14, 15, 16, 17, 5, 18, 7, 19, 20, 21, 22, 23, 24, 25, 26, 27, 28, 29, 30, 31, 32, 33, 34, 35, 36, 37, 38, 39, 40, 41, 42, 43, 44, 45, 46, 47, 48, 49, 50, 51, 52, 53, 54, 55, 56, 57, 58, 59, 60, 61, 62] (by decide +kernel) (by decide +kernel)) (goodIn_sub (fun _ h => List.mem_cons_of_mem _ (List.mem_append_left _ (List.mem_append_right _ h))) (by decide +kernel))) (goodIn_sub (fun _ h => List.mem_cons_of_mem _ (List.mem_append_right _ h)) (by decide +kernel))
set_option maxRecDepth 20000 in
theorem gX1_playerSpots_X1_unitSpots : GoodIn wsX1_playerSpots (wsV RX1 129 RX1 yX1_unitSpots wsX1_unitSpots) := goodIn_app (goodIn_of _ (by decide +kernel)) ggX1_playerSpots_X1_unitSpots
set_option maxRecDepth 20000 in
theorem ggX2_add_X2_isBehind : GoodIn wsX2_add wsX2_isBehind := goodIn_r _ [6, 7, 8, 9, 10, 11, 12] (by decide +kernel) (by decide +kernel)
set_option maxRecDepth 20000 in
theorem gX2_add_X2_isBehind : GoodIn wsX2_add (va_wsS RX2 19 yX2_isBehind wsX2_isBehind) := goodIn_app (goodIn_of _ (by decide +kernel)) ggX2_add_X2_isBehind
set_option maxRecDepth 20000 in
theorem ggX2_add_X6_numberFor : GoodIn wsX2_add wsX6_numberFor := goodIn_r _ [14, 10] (by decide +kernel) (by decide +kernel)
set_option maxRecDepth 20000 in
theorem gX2_add_X6_numberFor_n23 : GoodIn wsX2_add (wsX6_numberFor) := ggX2_add_X6_numberFor
set_option maxRecDepth 20000 in
theorem ggX2_add_X2_dropFirst : GoodIn wsX2_add wsX2_dropFirst := goodIn_ca (goodIn_r _ [18, 1, 2, 19, 20] (by decide +kernel) (by decide +kernel)) (goodIn_sub (fun _ h => List.mem_cons_of_mem _ (List.mem_append_right _ h)) (by decide +kernel))
set_option maxRecDepth 20000 in
theorem gX2_add_X2_dropFirst : GoodIn wsX2_add (wsV RX2 27 RX2 yX2_dropFirst wsX2_dropFirst) := goodIn_app (goodIn_of _ (by decide +kernel)) ggX2_add_X2_dropFirst
set_option maxRecDepth 20000 in
theorem ggX2_has_X6_turnOf : GoodIn wsX2_has wsX6_turnOf := goodIn_r _ [5, 6] (by decide +kernel) (by decide +kernel)
set_option maxRecDepth 20000 in
theorem gX2_has_X6_turnOf_n30 : GoodIn wsX2_has (wsX6_turnOf) := ggX2_has_X6_turnOf
set_option maxRecDepth 20000 in
theorem ggX2_has_X6_unitOf : GoodIn wsX2_has wsX6_unitOf := goodIn_r _ [8] (by decide +kernel) (by decide +kernel)
set_option maxRecDepth 20000 in
theorem gX2_has_X6_unitOf_n34 : GoodIn wsX2_has (wsX6_unitOf) := ggX2_has_X6_unitOf
set_option maxRecDepth 20000 in
theorem ggX2_latestOnCell_X6_placeOf : GoodIn wsX2_latestOnCell wsX6_placeOf := goodIn_r _ [5, 6] (by decide +kernel) (by decide +kernel)
set_option maxRecDepth 20000 in
theorem gX2_latestOnCell_X6_placeOf_n37 : GoodIn wsX2_latestOnCell (wsX6_placeOf) := ggX2_latestOnCell_X6_placeOf
set_option maxRecDepth 20000 in
theorem ggX2_latestOfUnit_X6_unitOf : GoodIn wsX2_latestOfUnit wsX6_unitOf := goodIn_r _ [5] (by decide +kernel) (by decide +kernel)
set_option maxRecDepth 20000 in
theorem gX2_latestOfUnit_X6_unitOf_n34 : GoodIn wsX2_latestOfUnit (wsX6_unitOf) := ggX2_latestOfUnit_X6_unitOf
set_option maxRecDepth 20000 in
theorem ggX2_isBehind_X6_turnOf : GoodIn wsX2_isBehind wsX6_turnOf := goodIn_r _ [3, 4] (by decide +kernel) (by decide +kernel)
set_option maxRecDepth 20000 in
theorem gX2_isBehind_X6_turnOf_n30 : GoodIn wsX2_isBehind (wsX6_turnOf) := ggX2_isBehind_X6_turnOf
set_option maxRecDepth 20000 in
theorem ggX2_isBehind_X6_unitOf : GoodIn wsX2_isBehind wsX6_unitOf := goodIn_r _ [6] (by decide +kernel) (by decide +kernel)
set_option maxRecDepth 20000 in
theorem gX2_isBehind_X6_unitOf_n34 : GoodIn wsX2_isBehind (wsX6_unitOf) := ggX2_isBehind_X6_unitOf
set_option maxRecDepth 20000 in
theorem ggX3_grow_J0_charAt_5068e : GoodIn wsX3_grow wsJ0_charAt_5068e := goodIn_r _ [7, 8, 9, 10, 11, 6, 12, 13, 14, 15, 16, 17, 18, 19, 20, 21, 22, 23, 24, 25, 26, 27, 28, 29, 30, 31, 32, 33, 34, 35, 36, 37, 38, 39, 40, 41, 42, 43, 45, 46] (by decide +kernel) (by decide +kernel)
set_option maxRecDepth 20000 in
theorem gX3_grow_J0_charAt_5068e : GoodIn wsX3_grow (wsV RX3 18 RJ0 yJ0_charAt_5068e wsJ0_charAt_5068e) := goodIn_app (goodIn_of _ (by decide +kernel)) ggX3_grow_J0_charAt_5068e
set_option maxRecDepth 20000 in
theorem ggX3_at_X6_isCell : GoodIn wsX3_at wsX6_isCell := goodIn_r _ [4] (by decide +kernel) (by decide +kernel)
set_option maxRecDepth 20000 in
theorem gX3_at_X6_isCell_n24 : GoodIn wsX3_at (wsX6_isCell) := ggX3_at_X6_isCell
set_option maxRecDepth 20000 in
theorem ggX3_beside_X3_at : GoodIn wsX3_beside wsX3_at := goodIn_ca (goodIn_r _ [5, 6, 7, 8, 9, 10] (by decide +kernel) (by decide +kernel)) (goodIn_sub (fun _ h => List.mem_cons_of_mem _ (List.mem_append_right _ h)) (by decide +kernel))
set_option maxRecDepth 20000 in
theorem gX3_beside_X3_at : GoodIn wsX3_beside (wsV RX3 35 RX3 yX3_at wsX3_at) := goodIn_app (goodIn_of _ (by decide +kernel)) ggX3_beside_X3_at
set_option maxRecDepth 20000 in
theorem ggX3_isClear_X3_distance : GoodIn wsX3_isClear wsX3_distance := goodIn_r _ [4, 5, 6, 7, 8, 9, 10, 11] (by decide +kernel) (by decide +kernel)
set_option maxRecDepth 20000 in
theorem gX3_isClear_X3_distance : GoodIn wsX3_isClear (va_wsS RX3 38 yX3_distance wsX3_distance) := goodIn_app (goodIn_of _ (by decide +kernel)) ggX3_isClear_X3_distance
set_option maxRecDepth 20000 in
theorem ggX3_isClear_X3_at : GoodIn wsX3_isClear wsX3_at := goodIn_ca (goodIn_r _ [15, 16, 17, 18, 19, 23] (by decide +kernel) (by decide +kernel)) (goodIn_sub (fun _ h => List.mem_cons_of_mem _ (List.mem_append_left _ (List.mem_append_right _ h))) (by decide +kernel))
set_option maxRecDepth 20000 in
theorem gX3_isClear_X3_at : GoodIn wsX3_isClear (wsV RX3 35 RX3 yX3_at wsX3_at) := goodIn_app (goodIn_of _ (by decide +kernel)) ggX3_isClear_X3_at
set_option maxRecDepth 20000 in
theorem ggX3_isClear_X3_share : GoodIn wsX3_isClear wsX3_share := goodIn_ca (goodIn_r _ [22, 5, 6, 7, 8] (by decide +kernel) (by decide +kernel)) (goodIn_sub (fun _ h => List.mem_cons_of_mem _ (List.mem_append_right _ h)) (by decide +kernel))
set_option maxRecDepth 20000 in
theorem gX3_isClear_X3_share : GoodIn wsX3_isClear (va_wsS RX3 42 yX3_share wsX3_share) := goodIn_app (goodIn_of _ (by decide +kernel)) ggX3_isClear_X3_share
set_option maxRecDepth 20000 in
theorem ggX4_init_J7_fill_53178 : GoodIn wsX4_init wsJ7_fill_53178 := goodIn_r _ [10] (by decide +kernel) (by decide +kernel)
set_option maxRecDepth 20000 in
theorem gX4_init_J7_fill_53178 : GoodIn wsX4_init (va_wsS RX4 18 yJ7_fill_53178 wsJ7_fill_53178) := goodIn_app (goodIn_of _ (by decide +kernel)) ggX4_init_J7_fill_53178
set_option maxRecDepth 20000 in
theorem ggX4_give_X4_givenTo : GoodIn wsX4_give wsX4_givenTo := goodIn_ca (goodIn_r _ [7, 2, 11, 12] (by decide +kernel) (by decide +kernel)) (goodIn_sub (fun _ h => List.mem_cons_of_mem _ (List.mem_append_right _ h)) (by decide +kernel))
set_option maxRecDepth 20000 in
theorem gX4_give_X4_givenTo : GoodIn wsX4_give (wsV RX4 24 RX4 yX4_givenTo wsX4_givenTo) := goodIn_app (goodIn_of _ (by decide +kernel)) ggX4_give_X4_givenTo
set_option maxRecDepth 20000 in
theorem ggX4_give_X4_spotOf : GoodIn wsX4_give wsX4_spotOf := goodIn_r _ [10] (by decide +kernel) (by decide +kernel)
set_option maxRecDepth 20000 in
theorem gX4_give_X4_spotOf : GoodIn wsX4_give (va_wsS RX4 28 yX4_spotOf wsX4_spotOf) := goodIn_app (goodIn_of _ (by decide +kernel)) ggX4_give_X4_spotOf
set_option maxRecDepth 20000 in
theorem ggX4_startTurn_J7_fill_53178 : GoodIn wsX4_startTurn wsJ7_fill_53178 := goodIn_r _ [5] (by decide +kernel) (by decide +kernel)
set_option maxRecDepth 20000 in
theorem gX4_startTurn_J7_fill_53178 : GoodIn wsX4_startTurn (va_wsS RX4 18 yJ7_fill_53178 wsJ7_fill_53178) := goodIn_app (goodIn_of _ (by decide +kernel)) ggX4_startTurn_J7_fill_53178
set_option maxRecDepth 20000 in
theorem ggX4_direction_X4_spotOf : GoodIn wsX4_direction wsX4_spotOf := goodIn_r _ [5] (by decide +kernel) (by decide +kernel)
set_option maxRecDepth 20000 in
theorem gX4_direction_X4_spotOf : GoodIn wsX4_direction (va_wsS RX4 28 yX4_spotOf wsX4_spotOf) := goodIn_app (goodIn_of _ (by decide +kernel)) ggX4_direction_X4_spotOf
set_option maxRecDepth 20000 in
theorem ggX5_startLike_X5_put : GoodIn wsX5_startLike wsX5_put := goodIn_ca (goodIn_r _ [9, 1, 2, 3, 4, 10, 11, 12, 13, 14, 15] (by decide +kernel) (by decide +kernel)) (goodIn_sub (fun _ h => List.mem_cons_of_mem _ (List.mem_append_right _ h)) (by decide +kernel))
set_option maxRecDepth 20000 in
theorem gX5_startLike_X5_put : GoodIn wsX5_startLike (wsV RX5 28 RX5 yX5_put wsX5_put) := goodIn_app (goodIn_of _ (by decide +kernel)) ggX5_startLike_X5_put
set_option maxRecDepth 20000 in
theorem ggX5_lives_X5_place : GoodIn wsX5_lives wsX5_place := goodIn_ca (goodIn_r _ [5, 6, 7, 8, 9, 10, 11, 12] (by decide +kernel) (by decide +kernel)) (goodIn_sub (fun _ h => List.mem_cons_of_mem _ (List.mem_append_right _ h)) (by decide +kernel))
set_option maxRecDepth 20000 in
theorem gX5_lives_X5_place : GoodIn wsX5_lives (wsV RX5 32 RX5 yX5_place wsX5_place) := goodIn_app (goodIn_of _ (by decide +kernel)) ggX5_lives_X5_place
end
section
/-! PART 07: what the walks use beside: fields written, statics read, switches -/
theorem vp_lt {i : Int32} {N : Nat} (h : vp_in i N) : i.toNatClampNeg < N := by
  unfold vp_in at h
  omega
theorem zF.k0 {az : Nat → Nat} {F : Nat → Prop} {U : State} {H : Heap} (h : zF az F U H) : zT "KIND_SIGHTS" 3 kSights (az 0) F U H := h.2.2.2.1.1
theorem zF.k1 {az : Nat → Nat} {F : Nat → Prop} {U : State} {H : Heap} (h : zF az F U H) : zT "KIND_STEPS" 3 kSteps (az 1) F U H := h.2.2.2.1.2.1
theorem zF.k2 {az : Nat → Nat} {F : Nat → Prop} {U : State} {H : Heap} (h : zF az F U H) : zT "KIND_POWERS" 3 kPowers (az 2) F U H := h.2.2.2.1.2.2.1
theorem zF.k3 {az : Nat → Nat} {F : Nat → Prop} {U : State} {H : Heap} (h : zF az F U H) : zT "COLUMN_MOVES" 8 kCols (az 3) F U H := h.2.2.2.1.2.2.2.1
theorem zF.k4 {az : Nat → Nat} {F : Nat → Prop} {U : State} {H : Heap} (h : zF az F U H) : zT "ROW_MOVES" 8 kRows (az 4) F U H := h.2.2.2.1.2.2.2.2
section GR2
variable {p : Program} {l : Launch} {e : Env} {R : Room} {s : State} {m : MethodId} {args : Array Value} {below : List Frame} {meth : Method} {c : Code} {H : Heap} {locs : List Loc} {cells slots : Nat} {Q : State → Prop}
variable {pc : Nat} {ls : Array Slot} {rest : List Value} {cc : ByteArray} {nL : Nat} {Ts : List Cond} {own : String} {D : va_G} {cs a az : Nat → Nat} {F : Nat → Prop} {n : Nat} {A : Nat → Option (Nat × Nat)} {O : (Nat → Int32) → Nat → va_E} {g : St}
theorem G_getsN (hC : uC p m c cc nL s args Ts own D cs az F) (hE : uE D n A O cs a F s g H locs) {nm : String} {N t index : Nat} {f : Nat → Int32} (hT : zT nm N f t F s s.heap) (hlink : Cond.fieldLinkNest own index "SeedBattle" nm "[I" "SeedBattle" ∈ nestW) (hdg : decode cc pc = .ok (.getstatic index, 3))
    (kk : W p l e R s m args below meth c H locs cells slots Q (F0 m (pc + 3) ls (.ref t :: rest))) : W p l e R s m args below meth c H locs cells slots Q (F0 m pc ls rest) :=
  va_getsN hC.1.1 hC.1.2.1 hT.1 hE.2.2 hC.1.2.2.2.1 (va_Nw.use rfl (hC.2.2.2.2.1 _ hlink)) (fun _ h => h) hdg kk
theorem G_tld (hC : uC p m c cc nL s args Ts own D cs az F) (hE : uE D n A O cs a F s g H locs) {nm : String} {N t : Nat} {f : Nat → Int32} (hT : zT nm N f t F s s.heap) {i : Int32} (hin : vp_in i N) (hdg : decode cc pc = .ok (.iaload, 1))
    (kk : W p l e R s m args below meth c H locs cells slots Q (F0 m (pc + 1) ls (.int (f i.toNatClampNeg) :: rest))) : W p l e R s m args below meth c H locs cells slots Q (F0 m pc ls (.int i :: .ref t :: rest)) :=
  va_ti hC.1.1 hC.1.2.1 hT.2 hE.2.2 hin rfl hdg kk
end GR2
theorem p_game_seedNow_e {a : Nat → Nat} {g : St} {v : Int32} : ([.ref (a 1), .ref (a 11), .ref (a 21), .ref (a 24), .ref (a 25), .ref (a 26), .ref (a 27), .int (g.2 0), .int (g.2 1), .int (g.2 2)] : List Value).set 7 (.int v) = [.ref (a 1), .ref (a 11), .ref (a 21), .ref (a 24), .ref (a 25), .ref (a 26), .ref (a 27), .int ((sS g 0 v).2 0), .int ((sS g 0 v).2 1), .int ((sS g 0 v).2 2)] := by simp [sS]
theorem p_game_seedNow_o {cs a : Nat → Nat} {g : St} {v : Int32} : ∀ q, q < 52 → q ≠ 0 → gO cs a (sS g 0 v).2 q = gO cs a g.2 q := by
  intro q _ hn
  apply gO_off
  split <;> simp [sS] <;> omega
theorem p_game_turnsDone_e {a : Nat → Nat} {g : St} {v : Int32} : ([.ref (a 1), .ref (a 11), .ref (a 21), .ref (a 24), .ref (a 25), .ref (a 26), .ref (a 27), .int (g.2 0), .int (g.2 1), .int (g.2 2)] : List Value).set 8 (.int v) = [.ref (a 1), .ref (a 11), .ref (a 21), .ref (a 24), .ref (a 25), .ref (a 26), .ref (a 27), .int ((sS g 1 v).2 0), .int ((sS g 1 v).2 1), .int ((sS g 1 v).2 2)] := by simp [sS]
theorem p_game_turnsDone_o {cs a : Nat → Nat} {g : St} {v : Int32} : ∀ q, q < 52 → q ≠ 0 → gO cs a (sS g 1 v).2 q = gO cs a g.2 q := by
  intro q _ hn
  apply gO_off
  split <;> simp [sS] <;> omega
theorem p_game_saved_e {a : Nat → Nat} {g : St} {v : Int32} : ([.ref (a 1), .ref (a 11), .ref (a 21), .ref (a 24), .ref (a 25), .ref (a 26), .ref (a 27), .int (g.2 0), .int (g.2 1), .int (g.2 2)] : List Value).set 9 (.int v) = [.ref (a 1), .ref (a 11), .ref (a 21), .ref (a 24), .ref (a 25), .ref (a 26), .ref (a 27), .int ((sS g 2 v).2 0), .int ((sS g 2 v).2 1), .int ((sS g 2 v).2 2)] := by simp [sS]
theorem p_game_saved_o {cs a : Nat → Nat} {g : St} {v : Int32} : ∀ q, q < 52 → q ≠ 0 → gO cs a (sS g 2 v).2 q = gO cs a g.2 q := by
  intro q _ hn
  apply gO_off
  split <;> simp [sS] <;> omega
theorem p_units_count_e {a : Nat → Nat} {g : St} {v : Int32} {w : Nat} : ([.ref (a (5 + 10 * w)), .ref (a (6 + 10 * w)), .ref (a (7 + 10 * w)), .ref (a (8 + 10 * w)), .int (g.2 (3 + w))] : List Value).set 4 (.int v) = [.ref (a (5 + 10 * w)), .ref (a (6 + 10 * w)), .ref (a (7 + 10 * w)), .ref (a (8 + 10 * w)), .int ((sS g (3 + w) v).2 (3 + w))] := by simp [sS]
theorem p_units_count_o {cs a : Nat → Nat} {g : St} {v : Int32} {w : Nat} (h : w < 2) : ∀ q, q < 52 → q ≠ 4 + 10 * w → gO cs a (sS g (3 + w) v).2 q = gO cs a g.2 q := by
  intro q _ hn
  apply gO_off
  split <;> simp [sS] <;> omega
theorem p_index_count_e {a : Nat → Nat} {g : St} {v : Int32} {p : Nat} : ([.ref (a (29 + 2 * p)), .int (g.2 (10 + p))] : List Value).set 1 (.int v) = [.ref (a (29 + 2 * p)), .int ((sS g (10 + p) v).2 (10 + p))] := by simp [sS]
theorem p_index_count_o {cs a : Nat → Nat} {g : St} {v : Int32} {p : Nat} (h : p < 4) : ∀ q, q < 52 → q ≠ 28 + 2 * p → gO cs a (sS g (10 + p) v).2 q = gO cs a g.2 q := by
  intro q _ hn
  apply gO_off
  split <;> simp [sS] <;> omega
theorem p_copy_size_e {a : Nat → Nat} {g : St} {v : Int32} {p : Nat} : ([.ref (a (37 + 4 * p)), .ref (a (38 + 4 * p)), .ref (a (39 + 4 * p)), .int (g.2 (20 + p)), .int (g.2 (24 + p)), .int (g.2 (28 + p)), .int (g.2 (32 + p))] : List Value).set 3 (.int v) = [.ref (a (37 + 4 * p)), .ref (a (38 + 4 * p)), .ref (a (39 + 4 * p)), .int ((sS g (20 + p) v).2 (20 + p)), .int ((sS g (20 + p) v).2 (24 + p)), .int ((sS g (20 + p) v).2 (28 + p)), .int ((sS g (20 + p) v).2 (32 + p))] := by simp [sS]
theorem p_copy_size_o {cs a : Nat → Nat} {g : St} {v : Int32} {p : Nat} (h : p < 4) : ∀ q, q < 52 → q ≠ 36 + 4 * p → gO cs a (sS g (20 + p) v).2 q = gO cs a g.2 q := by
  intro q _ hn
  apply gO_off
  split <;> simp [sS] <;> omega
theorem p_copy_brokenBits_e {a : Nat → Nat} {g : St} {v : Int32} {p : Nat} : ([.ref (a (37 + 4 * p)), .ref (a (38 + 4 * p)), .ref (a (39 + 4 * p)), .int (g.2 (20 + p)), .int (g.2 (24 + p)), .int (g.2 (28 + p)), .int (g.2 (32 + p))] : List Value).set 4 (.int v) = [.ref (a (37 + 4 * p)), .ref (a (38 + 4 * p)), .ref (a (39 + 4 * p)), .int ((sS g (24 + p) v).2 (20 + p)), .int ((sS g (24 + p) v).2 (24 + p)), .int ((sS g (24 + p) v).2 (28 + p)), .int ((sS g (24 + p) v).2 (32 + p))] := by simp [sS]
theorem p_copy_brokenBits_o {cs a : Nat → Nat} {g : St} {v : Int32} {p : Nat} (h : p < 4) : ∀ q, q < 52 → q ≠ 36 + 4 * p → gO cs a (sS g (24 + p) v).2 q = gO cs a g.2 q := by
  intro q _ hn
  apply gO_off
  split <;> simp [sS] <;> omega
theorem p_copy_allyBits_e {a : Nat → Nat} {g : St} {v : Int32} {p : Nat} : ([.ref (a (37 + 4 * p)), .ref (a (38 + 4 * p)), .ref (a (39 + 4 * p)), .int (g.2 (20 + p)), .int (g.2 (24 + p)), .int (g.2 (28 + p)), .int (g.2 (32 + p))] : List Value).set 5 (.int v) = [.ref (a (37 + 4 * p)), .ref (a (38 + 4 * p)), .ref (a (39 + 4 * p)), .int ((sS g (28 + p) v).2 (20 + p)), .int ((sS g (28 + p) v).2 (24 + p)), .int ((sS g (28 + p) v).2 (28 + p)), .int ((sS g (28 + p) v).2 (32 + p))] := by simp [sS]
theorem p_copy_allyBits_o {cs a : Nat → Nat} {g : St} {v : Int32} {p : Nat} (h : p < 4) : ∀ q, q < 52 → q ≠ 36 + 4 * p → gO cs a (sS g (28 + p) v).2 q = gO cs a g.2 q := by
  intro q _ hn
  apply gO_off
  split <;> simp [sS] <;> omega
theorem p_copy_allyGone_e {a : Nat → Nat} {g : St} {v : Int32} {p : Nat} : ([.ref (a (37 + 4 * p)), .ref (a (38 + 4 * p)), .ref (a (39 + 4 * p)), .int (g.2 (20 + p)), .int (g.2 (24 + p)), .int (g.2 (28 + p)), .int (g.2 (32 + p))] : List Value).set 6 (.int v) = [.ref (a (37 + 4 * p)), .ref (a (38 + 4 * p)), .ref (a (39 + 4 * p)), .int ((sS g (32 + p) v).2 (20 + p)), .int ((sS g (32 + p) v).2 (24 + p)), .int ((sS g (32 + p) v).2 (28 + p)), .int ((sS g (32 + p) v).2 (32 + p))] := by simp [sS]
theorem p_copy_allyGone_o {cs a : Nat → Nat} {g : St} {v : Int32} {p : Nat} (h : p < 4) : ∀ q, q < 52 → q ≠ 36 + 4 * p → gO cs a (sS g (32 + p) v).2 q = gO cs a g.2 q := by
  intro q _ hn
  apply gO_off
  split <;> simp [sS] <;> omega
theorem p_model_thrown_e {a : Nat → Nat} {g : St} {v : Int32} : ([.ref (a 1), .ref (a 2), .ref (a 3), .ref (a 4), .ref (a 5), .ref (a 6), .ref (a 7), .ref (a 8), .ref (a 9), .ref (a 10), .ref (a 11), .ref (a 12), .ref (a 13), .ref (a 14), .ref (a 15), .int (g.2 0), .int (g.2 1), .int (g.2 2), .int (g.2 3), .int (g.2 4)] : List Value).set 15 (.int v) = [.ref (a 1), .ref (a 2), .ref (a 3), .ref (a 4), .ref (a 5), .ref (a 6), .ref (a 7), .ref (a 8), .ref (a 9), .ref (a 10), .ref (a 11), .ref (a 12), .ref (a 13), .ref (a 14), .ref (a 15), .int ((sS g 0 v).2 0), .int ((sS g 0 v).2 1), .int ((sS g 0 v).2 2), .int ((sS g 0 v).2 3), .int ((sS g 0 v).2 4)] := by simp [sS]
theorem p_model_thrown_o {a : Nat → Nat} {g : St} {v : Int32} : ∀ q, q < 16 → q ≠ 0 → mO a (sS g 0 v).2 q = mO a g.2 q := by
  intro q _ hn
  unfold mO
  split
  · exact absurd rfl hn
  · rfl
theorem p_model_seed_e {a : Nat → Nat} {g : St} {v : Int32} : ([.ref (a 1), .ref (a 2), .ref (a 3), .ref (a 4), .ref (a 5), .ref (a 6), .ref (a 7), .ref (a 8), .ref (a 9), .ref (a 10), .ref (a 11), .ref (a 12), .ref (a 13), .ref (a 14), .ref (a 15), .int (g.2 0), .int (g.2 1), .int (g.2 2), .int (g.2 3), .int (g.2 4)] : List Value).set 16 (.int v) = [.ref (a 1), .ref (a 2), .ref (a 3), .ref (a 4), .ref (a 5), .ref (a 6), .ref (a 7), .ref (a 8), .ref (a 9), .ref (a 10), .ref (a 11), .ref (a 12), .ref (a 13), .ref (a 14), .ref (a 15), .int ((sS g 1 v).2 0), .int ((sS g 1 v).2 1), .int ((sS g 1 v).2 2), .int ((sS g 1 v).2 3), .int ((sS g 1 v).2 4)] := by simp [sS]
theorem p_model_seed_o {a : Nat → Nat} {g : St} {v : Int32} : ∀ q, q < 16 → q ≠ 0 → mO a (sS g 1 v).2 q = mO a g.2 q := by
  intro q _ hn
  unfold mO
  split
  · exact absurd rfl hn
  · rfl
theorem p_model_units_e {a : Nat → Nat} {g : St} {v : Int32} : ([.ref (a 1), .ref (a 2), .ref (a 3), .ref (a 4), .ref (a 5), .ref (a 6), .ref (a 7), .ref (a 8), .ref (a 9), .ref (a 10), .ref (a 11), .ref (a 12), .ref (a 13), .ref (a 14), .ref (a 15), .int (g.2 0), .int (g.2 1), .int (g.2 2), .int (g.2 3), .int (g.2 4)] : List Value).set 17 (.int v) = [.ref (a 1), .ref (a 2), .ref (a 3), .ref (a 4), .ref (a 5), .ref (a 6), .ref (a 7), .ref (a 8), .ref (a 9), .ref (a 10), .ref (a 11), .ref (a 12), .ref (a 13), .ref (a 14), .ref (a 15), .int ((sS g 2 v).2 0), .int ((sS g 2 v).2 1), .int ((sS g 2 v).2 2), .int ((sS g 2 v).2 3), .int ((sS g 2 v).2 4)] := by simp [sS]
theorem p_model_units_o {a : Nat → Nat} {g : St} {v : Int32} : ∀ q, q < 16 → q ≠ 0 → mO a (sS g 2 v).2 q = mO a g.2 q := by
  intro q _ hn
  unfold mO
  split
  · exact absurd rfl hn
  · rfl
theorem p_model_done_e {a : Nat → Nat} {g : St} {v : Int32} : ([.ref (a 1), .ref (a 2), .ref (a 3), .ref (a 4), .ref (a 5), .ref (a 6), .ref (a 7), .ref (a 8), .ref (a 9), .ref (a 10), .ref (a 11), .ref (a 12), .ref (a 13), .ref (a 14), .ref (a 15), .int (g.2 0), .int (g.2 1), .int (g.2 2), .int (g.2 3), .int (g.2 4)] : List Value).set 18 (.int v) = [.ref (a 1), .ref (a 2), .ref (a 3), .ref (a 4), .ref (a 5), .ref (a 6), .ref (a 7), .ref (a 8), .ref (a 9), .ref (a 10), .ref (a 11), .ref (a 12), .ref (a 13), .ref (a 14), .ref (a 15), .int ((sS g 3 v).2 0), .int ((sS g 3 v).2 1), .int ((sS g 3 v).2 2), .int ((sS g 3 v).2 3), .int ((sS g 3 v).2 4)] := by simp [sS]
theorem p_model_done_o {a : Nat → Nat} {g : St} {v : Int32} : ∀ q, q < 16 → q ≠ 0 → mO a (sS g 3 v).2 q = mO a g.2 q := by
  intro q _ hn
  unfold mO
  split
  · exact absurd rfl hn
  · rfl
theorem p_model_isSaved_e {a : Nat → Nat} {g : St} {v : Int32} : ([.ref (a 1), .ref (a 2), .ref (a 3), .ref (a 4), .ref (a 5), .ref (a 6), .ref (a 7), .ref (a 8), .ref (a 9), .ref (a 10), .ref (a 11), .ref (a 12), .ref (a 13), .ref (a 14), .ref (a 15), .int (g.2 0), .int (g.2 1), .int (g.2 2), .int (g.2 3), .int (g.2 4)] : List Value).set 19 (.int v) = [.ref (a 1), .ref (a 2), .ref (a 3), .ref (a 4), .ref (a 5), .ref (a 6), .ref (a 7), .ref (a 8), .ref (a 9), .ref (a 10), .ref (a 11), .ref (a 12), .ref (a 13), .ref (a 14), .ref (a 15), .int ((sS g 4 v).2 0), .int ((sS g 4 v).2 1), .int ((sS g 4 v).2 2), .int ((sS g 4 v).2 3), .int ((sS g 4 v).2 4)] := by simp [sS]
theorem p_model_isSaved_o {a : Nat → Nat} {g : St} {v : Int32} : ∀ q, q < 16 → q ≠ 0 → mO a (sS g 4 v).2 q = mO a g.2 q := by
  intro q _ hn
  unfold mO
  split
  · exact absurd rfl hn
  · rfl
end
section
def V_X6_isCell (x1 : Int32) (post : Int32 → Prop) : Prop := ((x1 < 0 → post 0) ∧ (¬ x1 < 0 → ((64 ≤ x1 → post 0) ∧ (¬ 64 ≤ x1 → post 1))))
abbrev rm_X6_isCell : Room := { frames := 0, cells := 0, slots := 0, locals := 0 }
set_option maxHeartbeats 4000000 in
set_option maxRecDepth 100000 in
theorem c_X6_isCell (l : Launch) (x1 : Int32) (post : Int32 → Prop) (hv : V_X6_isCell x1 post) : uMs l yX6_isCell wsX6_isCell rm_X6_isCell [.int x1] post := by
  refine u_ofS (cc := cX6_isCell) (maxL := 1) (by decide) rfl (Nat.le_of_ble_eq_true rfl) ?_
  intro p e s m args below meth c ls hC hN hr hk hl
  have hx := hC.1; have hb := hC.2.1; have hml := hC.2.2.1; have hts := hC.2.2.2.2
  have hown : s.vm.findClass RX6 = some m.cls := hC.2.2.2.1
  have hl : lv_has ls 1 [(0, .int x1)] := hl
  unfold V_X6_isCell at hv
  refine lv_iload_n hx hb dX6_isCell_0 rfl (lv_at hl 0 rfl) ?_
  refine lv_if_lt (tgt := 14) hx hb dX6_isCell_1 (by decide) (fun c => ?_) (fun c => ?_)
  · have hv := hv.1 c
    refine lv_iconst (v := 0) hx hb dX6_isCell_14 (by decide) ?_
    exact S_iret hC hr hk (by rfl) hv dX6_isCell_15
  · have hv := hv.2 c
    refine lv_iload_n hx hb dX6_isCell_4 rfl (lv_at hl 0 rfl) ?_
    refine lv_bipush (v := 64) hx hb dX6_isCell_5 (by decide) ?_
    refine lv_icmp_ge (tgt := 14) hx hb dX6_isCell_7 (by decide) (fun c => ?_) (fun c => ?_)
    · have hv := hv.1 c
      refine lv_iconst (v := 0) hx hb dX6_isCell_14 (by decide) ?_
      exact S_iret hC hr hk (by rfl) hv dX6_isCell_15
    · have hv := hv.2 c
      refine lv_iconst (v := 1) hx hb dX6_isCell_10 (by decide) ?_
      refine lv_goto (tgt := 15) hx hb dX6_isCell_11 (by decide) ?_
      exact S_iret hC hr hk (by rfl) hv dX6_isCell_15
def V_X6_turnOf (x1 : Int32) (post : Int32 → Prop) : Prop := post (x1 / 100000)
abbrev rm_X6_turnOf : Room := { frames := 0, cells := 0, slots := 0, locals := 0 }
set_option maxHeartbeats 4000000 in
set_option maxRecDepth 100000 in
theorem c_X6_turnOf (l : Launch) (x1 : Int32) (post : Int32 → Prop) (hv : V_X6_turnOf x1 post) : uMs l yX6_turnOf wsX6_turnOf rm_X6_turnOf [.int x1] post := by
  refine u_ofS (cc := cX6_turnOf) (maxL := 1) (by decide) rfl (Nat.le_of_ble_eq_true rfl) ?_
  intro p e s m args below meth c ls hC hN hr hk hl
  have hx := hC.1; have hb := hC.2.1; have hml := hC.2.2.1; have hts := hC.2.2.2.2
  have hown : s.vm.findClass RX6 = some m.cls := hC.2.2.2.1
  have hl : lv_has ls 1 [(0, .int x1)] := hl
  unfold V_X6_turnOf at hv
  refine lv_iload_n hx hb dX6_turnOf_0 rfl (lv_at hl 0 rfl) ?_
  refine lv_ldcw (v := 100000) hx hb hown (hts (.constant RX6 297 (100000)) (List.mem_of_getElem? (i := 1) rfl)) dX6_turnOf_1 ?_
  refine lv_idiv hx hb dX6_turnOf_4 (by decide) ?_
  exact S_iret hC hr hk (by rfl) hv dX6_turnOf_5
def V_X6_placeOf (x1 : Int32) (post : Int32 → Prop) : Prop := post ((x1 - x1 / 100000 * 100000) / 1000)
abbrev rm_X6_placeOf : Room := { frames := 0, cells := 0, slots := 0, locals := 0 }
set_option maxHeartbeats 4000000 in
set_option maxRecDepth 100000 in
theorem c_X6_placeOf (l : Launch) (x1 : Int32) (post : Int32 → Prop) (hv : V_X6_placeOf x1 post) : uMs l yX6_placeOf wsX6_placeOf rm_X6_placeOf [.int x1] post := by
  refine u_ofS (cc := cX6_placeOf) (maxL := 1) (by decide) rfl (Nat.le_of_ble_eq_true rfl) ?_
  intro p e s m args below meth c ls hC hN hr hk hl
  have hx := hC.1; have hb := hC.2.1; have hml := hC.2.2.1; have hts := hC.2.2.2.2
  have hown : s.vm.findClass RX6 = some m.cls := hC.2.2.2.1
  have hl : lv_has ls 1 [(0, .int x1)] := hl
  unfold V_X6_placeOf at hv
  refine lv_iload_n hx hb dX6_placeOf_0 rfl (lv_at hl 0 rfl) ?_
  refine lv_ldcw (v := 100000) hx hb hown (hts (.constant RX6 297 (100000)) (List.mem_of_getElem? (i := 1) rfl)) dX6_placeOf_1 ?_
  refine lv_irem hx hb dX6_placeOf_4 (by decide) ?_
  refine lv_sipush (v := 1000) hx hb dX6_placeOf_5 (by decide) ?_
  refine lv_idiv hx hb dX6_placeOf_8 (by decide) ?_
  exact S_iret hC hr hk (by rfl) hv dX6_placeOf_9
def V_X6_unitOf (x1 : Int32) (post : Int32 → Prop) : Prop := post (x1 - x1 / 1000 * 1000)
abbrev rm_X6_unitOf : Room := { frames := 0, cells := 0, slots := 0, locals := 0 }
set_option maxHeartbeats 4000000 in
set_option maxRecDepth 100000 in
theorem c_X6_unitOf (l : Launch) (x1 : Int32) (post : Int32 → Prop) (hv : V_X6_unitOf x1 post) : uMs l yX6_unitOf wsX6_unitOf rm_X6_unitOf [.int x1] post := by
  refine u_ofS (cc := cX6_unitOf) (maxL := 1) (by decide) rfl (Nat.le_of_ble_eq_true rfl) ?_
  intro p e s m args below meth c ls hC hN hr hk hl
  have hx := hC.1; have hb := hC.2.1; have hml := hC.2.2.1; have hts := hC.2.2.2.2
  have hown : s.vm.findClass RX6 = some m.cls := hC.2.2.2.1
  have hl : lv_has ls 1 [(0, .int x1)] := hl
  unfold V_X6_unitOf at hv
  refine lv_iload_n hx hb dX6_unitOf_0 rfl (lv_at hl 0 rfl) ?_
  refine lv_sipush (v := 1000) hx hb dX6_unitOf_1 (by decide) ?_
  refine lv_irem hx hb dX6_unitOf_4 (by decide) ?_
  exact S_iret hC hr hk (by rfl) hv dX6_unitOf_5
def V_X6_numberFor (x1 : Int32) (x2 : Int32) (x3 : Int32) (post : Int32 → Prop) : Prop := post (((100000 * x1) + (1000 * x2)) + x3)
abbrev rm_X6_numberFor : Room := { frames := 0, cells := 0, slots := 0, locals := 0 }
set_option maxHeartbeats 4000000 in
set_option maxRecDepth 100000 in
theorem c_X6_numberFor (l : Launch) (x1 : Int32) (x2 : Int32) (x3 : Int32) (post : Int32 → Prop) (hv : V_X6_numberFor x1 x2 x3 post) : uMs l yX6_numberFor wsX6_numberFor rm_X6_numberFor [.int x1, .int x2, .int x3] post := by
  refine u_ofS (cc := cX6_numberFor) (maxL := 3) (by decide) rfl (Nat.le_of_ble_eq_true rfl) ?_
  intro p e s m args below meth c ls hC hN hr hk hl
  have hx := hC.1; have hb := hC.2.1; have hml := hC.2.2.1; have hts := hC.2.2.2.2
  have hown : s.vm.findClass RX6 = some m.cls := hC.2.2.2.1
  have hl : lv_has ls 3 [(0, .int x1), (1, .int x2), (2, .int x3)] := hl
  unfold V_X6_numberFor at hv
  refine lv_ldcw (v := 100000) hx hb hown (hts (.constant RX6 297 (100000)) (List.mem_of_getElem? (i := 1) rfl)) dX6_numberFor_0 ?_
  refine lv_iload_n hx hb dX6_numberFor_3 rfl (lv_at hl 0 rfl) ?_
  refine lv_imul hx hb dX6_numberFor_4 ?_
  refine lv_sipush (v := 1000) hx hb dX6_numberFor_5 (by decide) ?_
  refine lv_iload_n hx hb dX6_numberFor_8 rfl (lv_at hl 1 rfl) ?_
  refine lv_imul hx hb dX6_numberFor_9 ?_
  refine lv_iadd hx hb dX6_numberFor_10 ?_
  refine lv_iload_n hx hb dX6_numberFor_11 rfl (lv_at hl 2 rfl) ?_
  refine lv_iadd hx hb dX6_numberFor_12 ?_
  exact S_iret hC hr hk (by rfl) hv dX6_numberFor_13
def V_X2_isBehind (x1 : Int32) (x2 : Int32) (x3 : Int32) (post : Int32 → Prop) : Prop := V_X6_turnOf x1 (fun r1 => ((x2 < r1 → post 1) ∧ (¬ x2 < r1 → V_X6_turnOf x1 (fun r2 => ((¬ r2 = x2 → post 0) ∧ (r2 = x2 → V_X6_unitOf x1 (fun r3 => ((r3 ≤ x3 → post 0) ∧ (¬ r3 ≤ x3 → post 1)))))))))
abbrev rm_X2_isBehind : Room := { frames := 1, cells := 0, slots := 0, locals := 20 }
set_option maxHeartbeats 4000000 in
set_option maxRecDepth 100000 in
theorem c_X2_isBehind (l : Launch) (x1 : Int32) (x2 : Int32) (x3 : Int32) (post : Int32 → Prop) (hv : V_X2_isBehind x1 x2 x3 post) : uMs l yX2_isBehind wsX2_isBehind rm_X2_isBehind [.int x1, .int x2, .int x3] post := by
  refine u_ofS (cc := cX2_isBehind) (maxL := 3) (by decide) rfl (Nat.le_of_ble_eq_true rfl) ?_
  intro p e s m args below meth c ls hC hN hr hk hl
  have hx := hC.1; have hb := hC.2.1; have hml := hC.2.2.1; have hts := hC.2.2.2.2
  have hown : s.vm.findClass RX2 = some m.cls := hC.2.2.2.1
  have hl : lv_has ls 3 [(0, .int x1), (1, .int x2), (2, .int x3)] := hl
  unfold V_X2_isBehind at hv
  refine lv_iload_n hx hb dX2_isBehind_0 rfl (lv_at hl 0 rfl) ?_
  refine G_callNs hC hN (c_X6_turnOf l x1 _ hv) ⟨va_cnB 1 hts gX2_isBehind_X6_turnOf_n30 rfl rfl rfl (hN _ (List.mem_of_getElem? (i := 22) rfl)) (hts _ (List.mem_of_getElem? (i := 2) rfl)) (by decide +kernel) ⟨Nat.le_of_ble_eq_true rfl, Nat.le_of_ble_eq_true rfl⟩, hts _ (List.mem_of_getElem? (i := 1) rfl), trivial⟩ rfl hl rfl (Nat.le_of_ble_eq_true rfl) dX2_isBehind_1 (Nat.zero_le _) (Nat.zero_le _) (fun r1 hv => ?_)
  refine lv_iload_n hx hb dX2_isBehind_4 rfl (lv_at hl 1 rfl) ?_
  refine lv_icmp_gt (tgt := 24) hx hb dX2_isBehind_5 (by decide) (fun c => ?_) (fun c => ?_)
  · have hv := hv.1 c
    refine lv_iconst (v := 1) hx hb dX2_isBehind_24 (by decide) ?_
    refine lv_goto (tgt := 29) hx hb dX2_isBehind_25 (by decide) ?_
    exact S_iret hC hr hk (by rfl) hv dX2_isBehind_29
  · have hv := hv.2 c
    refine lv_iload_n hx hb dX2_isBehind_8 rfl (lv_at hl 0 rfl) ?_
    refine G_callNs hC hN (c_X6_turnOf l x1 _ hv) ⟨va_cnB 1 hts gX2_isBehind_X6_turnOf_n30 rfl rfl rfl (hN _ (List.mem_of_getElem? (i := 22) rfl)) (hts _ (List.mem_of_getElem? (i := 2) rfl)) (by decide +kernel) ⟨Nat.le_of_ble_eq_true rfl, Nat.le_of_ble_eq_true rfl⟩, hts _ (List.mem_of_getElem? (i := 1) rfl), trivial⟩ rfl hl rfl (Nat.le_of_ble_eq_true rfl) dX2_isBehind_9 (Nat.zero_le _) (Nat.zero_le _) (fun r2 hv => ?_)
    refine lv_iload_n hx hb dX2_isBehind_12 rfl (lv_at hl 1 rfl) ?_
    refine lv_icmp_ne (tgt := 28) hx hb dX2_isBehind_13 (by decide) (fun c => ?_) (fun c => ?_)
    · have hv := hv.1 c
      refine lv_iconst (v := 0) hx hb dX2_isBehind_28 (by decide) ?_
      exact S_iret hC hr hk (by rfl) hv dX2_isBehind_29
    · have hv := hv.2 c
      refine lv_iload_n hx hb dX2_isBehind_16 rfl (lv_at hl 0 rfl) ?_
      refine G_callNs hC hN (c_X6_unitOf l x1 _ hv) ⟨va_cnB 1 hts gX2_isBehind_X6_unitOf_n34 rfl rfl rfl (hN _ (List.mem_of_getElem? (i := 23) rfl)) (hts _ (List.mem_of_getElem? (i := 2) rfl)) (by decide +kernel) ⟨Nat.le_of_ble_eq_true rfl, Nat.le_of_ble_eq_true rfl⟩, hts _ (List.mem_of_getElem? (i := 5) rfl), trivial⟩ rfl hl rfl (Nat.le_of_ble_eq_true rfl) dX2_isBehind_17 (Nat.zero_le _) (Nat.zero_le _) (fun r3 hv => ?_)
      refine lv_iload_n hx hb dX2_isBehind_20 rfl (lv_at hl 2 rfl) ?_
      refine lv_icmp_le (tgt := 28) hx hb dX2_isBehind_21 (by decide) (fun c => ?_) (fun c => ?_)
      · have hv := hv.1 c
        refine lv_iconst (v := 0) hx hb dX2_isBehind_28 (by decide) ?_
        exact S_iret hC hr hk (by rfl) hv dX2_isBehind_29
      · have hv := hv.2 c
        refine lv_iconst (v := 1) hx hb dX2_isBehind_24 (by decide) ?_
        refine lv_goto (tgt := 29) hx hb dX2_isBehind_25 (by decide) ?_
        exact S_iret hC hr hk (by rfl) hv dX2_isBehind_29
def V_X3_distance (x1 : Int32) (x2 : Int32) (post : Int32 → Prop) : Prop := post (if (if 0 ≤ ((x2 - x2 / 8 * 8) - (x1 - x1 / 8 * 8)) then ((x2 - x2 / 8 * 8) - (x1 - x1 / 8 * 8)) else 0 - ((x2 - x2 / 8 * 8) - (x1 - x1 / 8 * 8))) < (if 0 ≤ ((x2 / 8) - (x1 / 8)) then ((x2 / 8) - (x1 / 8)) else 0 - ((x2 / 8) - (x1 / 8))) then (if 0 ≤ ((x2 / 8) - (x1 / 8)) then ((x2 / 8) - (x1 / 8)) else 0 - ((x2 / 8) - (x1 / 8))) else (if 0 ≤ ((x2 - x2 / 8 * 8) - (x1 - x1 / 8 * 8)) then ((x2 - x2 / 8 * 8) - (x1 - x1 / 8 * 8)) else 0 - ((x2 - x2 / 8 * 8) - (x1 - x1 / 8 * 8))))
abbrev rm_X3_distance : Room := { frames := 1, cells := 0, slots := 0, locals := 21 }
set_option maxHeartbeats 4000000 in
set_option maxRecDepth 100000 in
theorem c_X3_distance (l : Launch) (x1 : Int32) (x2 : Int32) (post : Int32 → Prop) (hv : V_X3_distance x1 x2 post) : uMs l yX3_distance wsX3_distance rm_X3_distance [.int x1, .int x2] post := by
  refine u_ofS (cc := cX3_distance) (maxL := 4) (by decide) rfl (Nat.le_of_ble_eq_true rfl) ?_
  intro p e s m args below meth c ls hC hN hr hk hl
  have hx := hC.1; have hb := hC.2.1; have hml := hC.2.2.1; have hts := hC.2.2.2.2
  have hown : s.vm.findClass RX3 = some m.cls := hC.2.2.2.1
  have hl : lv_has ls 4 [(0, .int x1), (1, .int x2)] := hl
  unfold V_X3_distance at hv
  refine lv_iload_n hx hb dX3_distance_0 rfl (lv_at hl 1 rfl) ?_
  refine lv_bipush (v := 8) hx hb dX3_distance_1 (by decide) ?_
  refine lv_irem hx hb dX3_distance_3 (by decide) ?_
  refine lv_iload_n hx hb dX3_distance_4 rfl (lv_at hl 0 rfl) ?_
  refine lv_bipush (v := 8) hx hb dX3_distance_5 (by decide) ?_
  refine lv_irem hx hb dX3_distance_7 (by decide) ?_
  refine lv_isub hx hb dX3_distance_8 ?_
  refine va_mabs hx hb (hml.trans hl.1.symm) hown (hts _ (List.mem_of_getElem? (i := 1) rfl)) (hts _ (List.mem_of_getElem? (i := 2) rfl)) (hts _ (List.mem_of_getElem? (i := 3) rfl)) (hts _ (List.mem_of_getElem? (i := 4) rfl)) (Nat.le_of_ble_eq_true rfl) (Nat.le_of_ble_eq_true rfl) (Nat.zero_le _) (Nat.zero_le _) dX3_distance_9 ?_
  refine lv_istore_n (lv' := [(2, .int (if 0 ≤ ((x2 - x2 / 8 * 8) - (x1 - x1 / 8 * 8)) then ((x2 - x2 / 8 * 8) - (x1 - x1 / 8 * 8)) else 0 - ((x2 - x2 / 8 * 8) - (x1 - x1 / 8 * 8)))), (0, .int x1), (1, .int x2)]) hx hb dX3_distance_12 rfl hl (by decide) rfl (fun ls hl => ?_)
  refine lv_iload_n hx hb dX3_distance_13 rfl (lv_at hl 2 rfl) ?_
  refine lv_bipush (v := 8) hx hb dX3_distance_14 (by decide) ?_
  refine lv_idiv hx hb dX3_distance_16 (by decide) ?_
  refine lv_iload_n hx hb dX3_distance_17 rfl (lv_at hl 1 rfl) ?_
  refine lv_bipush (v := 8) hx hb dX3_distance_18 (by decide) ?_
  refine lv_idiv hx hb dX3_distance_20 (by decide) ?_
  refine lv_isub hx hb dX3_distance_21 ?_
  refine va_mabs hx hb (hml.trans hl.1.symm) hown (hts _ (List.mem_of_getElem? (i := 1) rfl)) (hts _ (List.mem_of_getElem? (i := 2) rfl)) (hts _ (List.mem_of_getElem? (i := 3) rfl)) (hts _ (List.mem_of_getElem? (i := 4) rfl)) (Nat.le_of_ble_eq_true rfl) (Nat.le_of_ble_eq_true rfl) (Nat.zero_le _) (Nat.zero_le _) dX3_distance_22 ?_
  refine lv_istore_n (lv' := [(3, .int (if 0 ≤ ((x2 / 8) - (x1 / 8)) then ((x2 / 8) - (x1 / 8)) else 0 - ((x2 / 8) - (x1 / 8)))), (2, .int (if 0 ≤ ((x2 - x2 / 8 * 8) - (x1 - x1 / 8 * 8)) then ((x2 - x2 / 8 * 8) - (x1 - x1 / 8 * 8)) else 0 - ((x2 - x2 / 8 * 8) - (x1 - x1 / 8 * 8)))), (0, .int x1), (1, .int x2)]) hx hb dX3_distance_25 rfl hl (by decide) rfl (fun ls hl => ?_)
  refine lv_iload_n hx hb dX3_distance_26 rfl (lv_at hl 1 rfl) ?_
  refine lv_iload_n hx hb dX3_distance_27 rfl (lv_at hl 0 rfl) ?_
  refine va_mmax hx hb (hml.trans hl.1.symm) hown (hts _ (List.mem_of_getElem? (i := 5) rfl)) (hts _ (List.mem_of_getElem? (i := 6) rfl)) (hts _ (List.mem_of_getElem? (i := 3) rfl)) (hts _ (List.mem_of_getElem? (i := 7) rfl)) (Nat.le_of_ble_eq_true rfl) (Nat.le_of_ble_eq_true rfl) (Nat.zero_le _) (Nat.zero_le _) dX3_distance_28 ?_
  exact S_iret hC hr hk (by rfl) hv dX3_distance_31
def V_X3_share (x1 : Int32) (x2 : Int32) (post : Int32 → Prop) : Prop := ((0 < x2 → (¬ (2 * x2) = 0) ∧ (((0 ≤ x1 → post ((((2 * (if 0 ≤ x1 then x1 else 0 - x1)) + x2) - 1) / (2 * x2))) ∧ (¬ 0 ≤ x1 → post (-((((2 * (if 0 ≤ x1 then x1 else 0 - x1)) + x2) - 1) / (2 * x2))))))) ∧ (¬ 0 < x2 → post 0))
abbrev rm_X3_share : Room := { frames := 1, cells := 0, slots := 0, locals := 21 }
set_option maxHeartbeats 4000000 in
set_option maxRecDepth 100000 in
theorem c_X3_share (l : Launch) (x1 : Int32) (x2 : Int32) (post : Int32 → Prop) (hv : V_X3_share x1 x2 post) : uMs l yX3_share wsX3_share rm_X3_share [.int x1, .int x2] post := by
  refine u_ofS (cc := cX3_share) (maxL := 3) (by decide) rfl (Nat.le_of_ble_eq_true rfl) ?_
  intro p e s m args below meth c ls hC hN hr hk hl
  have hx := hC.1; have hb := hC.2.1; have hml := hC.2.2.1; have hts := hC.2.2.2.2
  have hown : s.vm.findClass RX3 = some m.cls := hC.2.2.2.1
  have hl : lv_has ls 3 [(0, .int x1), (1, .int x2)] := hl
  unfold V_X3_share at hv
  refine lv_iload_n hx hb dX3_share_0 rfl (lv_at hl 1 rfl) ?_
  refine lv_if_gt (tgt := 6) hx hb dX3_share_1 (by decide) (fun c => ?_) (fun c => ?_)
  · have hv := hv.1 c
    refine lv_iconst (v := 2) hx hb dX3_share_6 (by decide) ?_
    refine lv_iload_n hx hb dX3_share_7 rfl (lv_at hl 0 rfl) ?_
    refine va_mabs hx hb (hml.trans hl.1.symm) hown (hts _ (List.mem_of_getElem? (i := 1) rfl)) (hts _ (List.mem_of_getElem? (i := 2) rfl)) (hts _ (List.mem_of_getElem? (i := 3) rfl)) (hts _ (List.mem_of_getElem? (i := 4) rfl)) (Nat.le_of_ble_eq_true rfl) (Nat.le_of_ble_eq_true rfl) (Nat.zero_le _) (Nat.zero_le _) dX3_share_8 ?_
    refine lv_imul hx hb dX3_share_11 ?_
    refine lv_iload_n hx hb dX3_share_12 rfl (lv_at hl 1 rfl) ?_
    refine lv_iadd hx hb dX3_share_13 ?_
    refine lv_iconst (v := 1) hx hb dX3_share_14 (by decide) ?_
    refine lv_isub hx hb dX3_share_15 ?_
    refine lv_iconst (v := 2) hx hb dX3_share_16 (by decide) ?_
    refine lv_iload_n hx hb dX3_share_17 rfl (lv_at hl 1 rfl) ?_
    refine lv_imul hx hb dX3_share_18 ?_
    refine lv_idiv hx hb dX3_share_19 hv.1 ?_
    have hv := hv.2
    refine lv_istore_n (lv' := [(2, .int ((((2 * (if 0 ≤ x1 then x1 else 0 - x1)) + x2) - 1) / (2 * x2))), (0, .int x1), (1, .int x2)]) hx hb dX3_share_20 rfl hl (by decide) rfl (fun ls hl => ?_)
    refine lv_iload_n hx hb dX3_share_21 rfl (lv_at hl 1 rfl) ?_
    refine lv_if_ge (tgt := 30) hx hb dX3_share_22 (by decide) (fun c => ?_) (fun c => ?_)
    · have hv := hv.1 c
      refine lv_iload_n hx hb dX3_share_30 rfl (lv_at hl 0 rfl) ?_
      exact S_iret hC hr hk (by rfl) hv dX3_share_31
    · have hv := hv.2 c
      refine lv_iload_n hx hb dX3_share_25 rfl (lv_at hl 0 rfl) ?_
      refine lv_ineg hx hb dX3_share_26 ?_
      refine lv_goto (tgt := 31) hx hb dX3_share_27 (by decide) ?_
      exact S_iret hC hr hk (by rfl) hv dX3_share_31
  · have hv := hv.2 c
    refine lv_iconst (v := 0) hx hb dX3_share_4 (by decide) ?_
    exact S_iret hC hr hk (by rfl) hv dX3_share_5
def J_X4_spotOf_34 (x1 : Int32) (x2 : Int32) (x3 : Int32) (post : Int32 → Prop)  (v0 : Int32) (v1 : Int32) (v2 : Int32) (t0 : Int32) : Prop := ((t0 = 0 → post (-1)) ∧ (¬ t0 = 0 → post ((((v0 * 24) + v1) * 2) + v2)))
def J_X4_spotOf_33 (x1 : Int32) (x2 : Int32) (x3 : Int32) (post : Int32 → Prop)  (v0 : Int32) (v1 : Int32) (v2 : Int32) : Prop := J_X4_spotOf_34 x1 x2 x3 post v0 v1 v2 0
def V_X4_spotOf (x1 : Int32) (x2 : Int32) (x3 : Int32) (post : Int32 → Prop) : Prop := ((x1 < 0 → J_X4_spotOf_33 x1 x2 x3 post x1 x2 x3) ∧ (¬ x1 < 0 → ((99 < x1 → J_X4_spotOf_33 x1 x2 x3 post x1 x2 x3) ∧ (¬ 99 < x1 → ((x2 < 0 → J_X4_spotOf_33 x1 x2 x3 post x1 x2 x3) ∧ (¬ x2 < 0 → ((24 ≤ x2 → J_X4_spotOf_33 x1 x2 x3 post x1 x2 x3) ∧ (¬ 24 ≤ x2 → ((x3 < 0 → J_X4_spotOf_33 x1 x2 x3 post x1 x2 x3) ∧ (¬ x3 < 0 → ((2 ≤ x3 → J_X4_spotOf_33 x1 x2 x3 post x1 x2 x3) ∧ (¬ 2 ≤ x3 → J_X4_spotOf_34 x1 x2 x3 post x1 x2 x3 1))))))))))))
abbrev rm_X4_spotOf : Room := { frames := 0, cells := 0, slots := 0, locals := 0 }
set_option maxHeartbeats 4000000 in
set_option maxRecDepth 100000 in
theorem c_X4_spotOf (l : Launch) (x1 : Int32) (x2 : Int32) (x3 : Int32) (post : Int32 → Prop) (hv : V_X4_spotOf x1 x2 x3 post) : uMs l yX4_spotOf wsX4_spotOf rm_X4_spotOf [.int x1, .int x2, .int x3] post := by
  refine u_ofS (cc := cX4_spotOf) (maxL := 4) (by decide) rfl (Nat.le_of_ble_eq_true rfl) ?_
  intro p e s m args below meth c ls hC hN hr hk hl
  have hx := hC.1; have hb := hC.2.1; have hml := hC.2.2.1; have hts := hC.2.2.2.2
  have hown : s.vm.findClass RX4 = some m.cls := hC.2.2.2.1
  have hl : lv_has ls 4 [(0, .int x1), (1, .int x2), (2, .int x3)] := hl
  unfold V_X4_spotOf at hv
  have j_34 : ∀ (v0 : Int32) (v1 : Int32) (v2 : Int32) (t0 : Int32), J_X4_spotOf_34 x1 x2 x3 post v0 v1 v2 t0 → ∀ (ls : Array Slot), lv_has ls 4 [(0, .int v0), (1, .int v1), (2, .int v2)] → W p l e rm_X4_spotOf s m args below meth c s.heap [] 0 0 (MQ below (vp_Si post) args s 0 0 (fun _ => False)) (F0 m 34 ls [.int t0]) := by
    intro  v0 v1 v2 t0  hv
    intro ls hl
    unfold J_X4_spotOf_34 at hv
    refine lv_istore_n (lv' := [(3, .int t0), (0, .int v0), (1, .int v1), (2, .int v2)]) hx hb dX4_spotOf_34 rfl hl (by decide) rfl (fun ls hl => ?_)
    refine lv_iload_n hx hb dX4_spotOf_35 rfl (lv_at hl 0 rfl) ?_
    refine lv_if_eq (tgt := 52) hx hb dX4_spotOf_36 (by decide) (fun c => ?_) (fun c => ?_)
    · have hv := hv.1 c
      refine lv_iconst (v := (-1)) hx hb dX4_spotOf_52 (by decide) ?_
      exact S_iret hC hr hk (by rfl) hv dX4_spotOf_53
    · have hv := hv.2 c
      refine lv_iload_n hx hb dX4_spotOf_39 rfl (lv_at hl 1 rfl) ?_
      refine lv_bipush (v := 24) hx hb dX4_spotOf_40 (by decide) ?_
      refine lv_imul hx hb dX4_spotOf_42 ?_
      refine lv_iload_n hx hb dX4_spotOf_43 rfl (lv_at hl 2 rfl) ?_
      refine lv_iadd hx hb dX4_spotOf_44 ?_
      refine lv_iconst (v := 2) hx hb dX4_spotOf_45 (by decide) ?_
      refine lv_imul hx hb dX4_spotOf_46 ?_
      refine lv_iload_n hx hb dX4_spotOf_47 rfl (lv_at hl 3 rfl) ?_
      refine lv_iadd hx hb dX4_spotOf_48 ?_
      refine lv_goto (tgt := 53) hx hb dX4_spotOf_49 (by decide) ?_
      exact S_iret hC hr hk (by rfl) hv dX4_spotOf_53
  have j_33 : ∀ (v0 : Int32) (v1 : Int32) (v2 : Int32), J_X4_spotOf_33 x1 x2 x3 post v0 v1 v2 → ∀ (ls : Array Slot), lv_has ls 4 [(0, .int v0), (1, .int v1), (2, .int v2)] → W p l e rm_X4_spotOf s m args below meth c s.heap [] 0 0 (MQ below (vp_Si post) args s 0 0 (fun _ => False)) (F0 m 33 ls []) := by
    intro  v0 v1 v2  hv
    intro ls hl
    unfold J_X4_spotOf_33 at hv
    refine lv_iconst (v := 0) hx hb dX4_spotOf_33 (by decide) ?_
    exact j_34  _ _ _ _  hv _ (lv_sub hl [0, 1, 2] rfl)
  refine lv_iload_n hx hb dX4_spotOf_0 rfl (lv_at hl 0 rfl) ?_
  refine lv_if_lt (tgt := 33) hx hb dX4_spotOf_1 (by decide) (fun c => ?_) (fun c => ?_)
  · have hv := hv.1 c
    exact j_33  _ _ _  hv _ (lv_sub hl [0, 1, 2] rfl)
  · have hv := hv.2 c
    refine lv_iload_n hx hb dX4_spotOf_4 rfl (lv_at hl 0 rfl) ?_
    refine lv_bipush (v := 99) hx hb dX4_spotOf_5 (by decide) ?_
    refine lv_icmp_gt (tgt := 33) hx hb dX4_spotOf_7 (by decide) (fun c => ?_) (fun c => ?_)
    · have hv := hv.1 c
      exact j_33  _ _ _  hv _ (lv_sub hl [0, 1, 2] rfl)
    · have hv := hv.2 c
      refine lv_iload_n hx hb dX4_spotOf_10 rfl (lv_at hl 1 rfl) ?_
      refine lv_if_lt (tgt := 33) hx hb dX4_spotOf_11 (by decide) (fun c => ?_) (fun c => ?_)
      · have hv := hv.1 c
        exact j_33  _ _ _  hv _ (lv_sub hl [0, 1, 2] rfl)
      · have hv := hv.2 c
        refine lv_iload_n hx hb dX4_spotOf_14 rfl (lv_at hl 1 rfl) ?_
        refine lv_bipush (v := 24) hx hb dX4_spotOf_15 (by decide) ?_
        refine lv_icmp_ge (tgt := 33) hx hb dX4_spotOf_17 (by decide) (fun c => ?_) (fun c => ?_)
        · have hv := hv.1 c
          exact j_33  _ _ _  hv _ (lv_sub hl [0, 1, 2] rfl)
        · have hv := hv.2 c
          refine lv_iload_n hx hb dX4_spotOf_20 rfl (lv_at hl 2 rfl) ?_
          refine lv_if_lt (tgt := 33) hx hb dX4_spotOf_21 (by decide) (fun c => ?_) (fun c => ?_)
          · have hv := hv.1 c
            exact j_33  _ _ _  hv _ (lv_sub hl [0, 1, 2] rfl)
          · have hv := hv.2 c
            refine lv_iload_n hx hb dX4_spotOf_24 rfl (lv_at hl 2 rfl) ?_
            refine lv_iconst (v := 2) hx hb dX4_spotOf_25 (by decide) ?_
            refine lv_icmp_ge (tgt := 33) hx hb dX4_spotOf_26 (by decide) (fun c => ?_) (fun c => ?_)
            · have hv := hv.1 c
              exact j_33  _ _ _  hv _ (lv_sub hl [0, 1, 2] rfl)
            · have hv := hv.2 c
              refine lv_iconst (v := 1) hx hb dX4_spotOf_29 (by decide) ?_
              refine lv_goto (tgt := 34) hx hb dX4_spotOf_30 (by decide) ?_
              exact j_34  _ _ _ _  hv _ (lv_sub hl [0, 1, 2] rfl)
def V_X5_place (w : Nat) (x1 : Int32) (g : St) (post : Int32 → St → Prop) : Prop := ((x1 < 0 → post (-1) g) ∧ (¬ x1 < 0 → (((g.2 (3 + w)) ≤ x1 → post (-1) g) ∧ (¬ (g.2 (3 + w)) ≤ x1 → vp_in x1 24 ∧ (post (g.1 (8 + 10 * w) (Int32.toNatClampNeg x1)) g)))))
abbrev rm_X5_place : Room := { frames := 0, cells := 0, slots := 0, locals := 0 }
set_option maxHeartbeats 4000000 in
set_option maxRecDepth 100000 in
theorem c_X5_place (l : Launch) (D : va_G) (cs az a : Nat → Nat) {w : Nat} (hw : w < 2) (x1 : Int32) (g : St) (post : Int32 → St → Prop) (hv : V_X5_place w x1 g post) : uMi l yX5_place wsX5_place rm_X5_place D cs az (gW cs a) [.ref (a (4 + 10 * w)), .int x1] g post := by
  refine u_ofI (cc := cX5_place) (maxL := 2) (by decide) rfl (Nat.le_of_ble_eq_true rfl) ?_
  intro p e s m args below meth c F ls hC hr hk hl hE
  have hx := hC.1.1; have hb := hC.1.2.1; have hml := hC.1.2.2.1; have hts := hC.1.2.2.2.2
  have hown : s.vm.findClass RX5 = some m.cls := hC.1.2.2.2.1
  have hl : lv_has ls 2 [(0, .ref (a (4 + 10 * w))), (1, .int x1)] := hl
  unfold V_X5_place at hv
  refine lv_iload_n hx hb dX5_place_0 rfl (lv_at hl 1 rfl) ?_
  refine lv_if_lt (tgt := 21) hx hb dX5_place_1 (by decide) (fun c => ?_) (fun c => ?_)
  · have hv := hv.1 c
    refine lv_iconst (v := (-1)) hx hb dX5_place_21 (by decide) ?_
    exact G_iret hC hr hk hE hv dX5_place_22
  · have hv := hv.2 c
    refine lv_iload_n hx hb dX5_place_4 rfl (lv_at hl 1 rfl) ?_
    refine lv_aload_n hx hb dX5_place_5 rfl (lv_at hl 0 rfl) ?_
    refine G_get (v := .int (g.2 (3 + w))) hC hE (fun _ h => List.mem_cons_of_mem _ (List.mem_append_left _ (List.mem_append_right _ h))) (f_units hw) rfl 4 (by decide) (hts (.fieldLink RX5 24 "SeedBattle$Units" "count" "I") (List.mem_of_getElem? (i := 1) rfl)) rfl dX5_place_6 ?_
    refine lv_icmp_ge (tgt := 21) hx hb dX5_place_9 (by decide) (fun c => ?_) (fun c => ?_)
    · have hv := hv.1 c
      refine lv_iconst (v := (-1)) hx hb dX5_place_21 (by decide) ?_
      exact G_iret hC hr hk hE hv dX5_place_22
    · have hv := hv.2 c
      refine lv_aload_n hx hb dX5_place_12 rfl (lv_at hl 0 rfl) ?_
      refine G_get (v := .ref (a (8 + 10 * w))) hC hE (fun _ h => List.mem_cons_of_mem _ (List.mem_append_left _ (List.mem_append_right _ h))) (f_units hw) rfl 3 (by decide) (hts (.fieldLink RX5 21 "SeedBattle$Units" "places" "[I") (List.mem_of_getElem? (i := 2) rfl)) rfl dX5_place_13 ?_
      refine lv_iload_n hx hb dX5_place_16 rfl (lv_at hl 1 rfl) ?_
      refine G_iald hC hE (f_places hw) hv.1 dX5_place_17 ?_
      have hv := hv.2
      refine lv_goto (tgt := 22) hx hb dX5_place_18 (by decide) ?_
      exact G_iret hC hr hk hE hv dX5_place_22
def V_X5_owner (w : Nat) (x1 : Int32) (g : St) (post : Int32 → St → Prop) : Prop := ((x1 < 0 → post (-1) g) ∧ (¬ x1 < 0 → (((g.2 (3 + w)) ≤ x1 → post (-1) g) ∧ (¬ (g.2 (3 + w)) ≤ x1 → vp_in x1 24 ∧ (post (g.1 (5 + 10 * w) (Int32.toNatClampNeg x1)) g)))))
abbrev rm_X5_owner : Room := { frames := 0, cells := 0, slots := 0, locals := 0 }
set_option maxHeartbeats 4000000 in
set_option maxRecDepth 100000 in
theorem c_X5_owner (l : Launch) (D : va_G) (cs az a : Nat → Nat) {w : Nat} (hw : w < 2) (x1 : Int32) (g : St) (post : Int32 → St → Prop) (hv : V_X5_owner w x1 g post) : uMi l yX5_owner wsX5_owner rm_X5_owner D cs az (gW cs a) [.ref (a (4 + 10 * w)), .int x1] g post := by
  refine u_ofI (cc := cX5_owner) (maxL := 2) (by decide) rfl (Nat.le_of_ble_eq_true rfl) ?_
  intro p e s m args below meth c F ls hC hr hk hl hE
  have hx := hC.1.1; have hb := hC.1.2.1; have hml := hC.1.2.2.1; have hts := hC.1.2.2.2.2
  have hown : s.vm.findClass RX5 = some m.cls := hC.1.2.2.2.1
  have hl : lv_has ls 2 [(0, .ref (a (4 + 10 * w))), (1, .int x1)] := hl
  unfold V_X5_owner at hv
  refine lv_iload_n hx hb dX5_owner_0 rfl (lv_at hl 1 rfl) ?_
  refine lv_if_lt (tgt := 21) hx hb dX5_owner_1 (by decide) (fun c => ?_) (fun c => ?_)
  · have hv := hv.1 c
    refine lv_iconst (v := (-1)) hx hb dX5_owner_21 (by decide) ?_
    exact G_iret hC hr hk hE hv dX5_owner_22
  · have hv := hv.2 c
    refine lv_iload_n hx hb dX5_owner_4 rfl (lv_at hl 1 rfl) ?_
    refine lv_aload_n hx hb dX5_owner_5 rfl (lv_at hl 0 rfl) ?_
    refine G_get (v := .int (g.2 (3 + w))) hC hE (fun _ h => List.mem_cons_of_mem _ (List.mem_append_left _ (List.mem_append_right _ h))) (f_units hw) rfl 4 (by decide) (hts (.fieldLink RX5 24 "SeedBattle$Units" "count" "I") (List.mem_of_getElem? (i := 1) rfl)) rfl dX5_owner_6 ?_
    refine lv_icmp_ge (tgt := 21) hx hb dX5_owner_9 (by decide) (fun c => ?_) (fun c => ?_)
    · have hv := hv.1 c
      refine lv_iconst (v := (-1)) hx hb dX5_owner_21 (by decide) ?_
      exact G_iret hC hr hk hE hv dX5_owner_22
    · have hv := hv.2 c
      refine lv_aload_n hx hb dX5_owner_12 rfl (lv_at hl 0 rfl) ?_
      refine G_get (v := .ref (a (5 + 10 * w))) hC hE (fun _ h => List.mem_cons_of_mem _ (List.mem_append_left _ (List.mem_append_right _ h))) (f_units hw) rfl 0 (by decide) (hts (.fieldLink RX5 9 "SeedBattle$Units" "owners" "[I") (List.mem_of_getElem? (i := 2) rfl)) rfl dX5_owner_13 ?_
      refine lv_iload_n hx hb dX5_owner_16 rfl (lv_at hl 1 rfl) ?_
      refine G_iald hC hE (f_owners hw) hv.1 dX5_owner_17 ?_
      have hv := hv.2
      refine lv_goto (tgt := 22) hx hb dX5_owner_18 (by decide) ?_
      exact G_iret hC hr hk hE hv dX5_owner_22
def V_X5_sight (w : Nat) (x1 : Int32) (g : St) (post : Int32 → St → Prop) : Prop := ((x1 < 0 → post 0 g) ∧ (¬ x1 < 0 → (((g.2 (3 + w)) ≤ x1 → post 0 g) ∧ (¬ (g.2 (3 + w)) ≤ x1 → vp_in x1 24 ∧ (vp_in (g.1 (6 + 10 * w) (Int32.toNatClampNeg x1)) 3 ∧ (post (kSights (g.1 (6 + 10 * w) (Int32.toNatClampNeg x1)).toNatClampNeg) g))))))
abbrev rm_X5_sight : Room := { frames := 0, cells := 0, slots := 0, locals := 0 }
set_option maxHeartbeats 4000000 in
set_option maxRecDepth 100000 in
theorem c_X5_sight (l : Launch) (D : va_G) (cs az a : Nat → Nat) {w : Nat} (hw : w < 2) (x1 : Int32) (g : St) (post : Int32 → St → Prop) (hv : V_X5_sight w x1 g post) : uMi l yX5_sight wsX5_sight rm_X5_sight D cs az (gW cs a) [.ref (a (4 + 10 * w)), .int x1] g post := by
  refine u_ofI (cc := cX5_sight) (maxL := 2) (by decide) rfl (Nat.le_of_ble_eq_true rfl) ?_
  intro p e s m args below meth c F ls hC hr hk hl hE
  have hx := hC.1.1; have hb := hC.1.2.1; have hml := hC.1.2.2.1; have hts := hC.1.2.2.2.2
  have hown : s.vm.findClass RX5 = some m.cls := hC.1.2.2.2.1
  have hl : lv_has ls 2 [(0, .ref (a (4 + 10 * w))), (1, .int x1)] := hl
  unfold V_X5_sight at hv
  refine lv_iload_n hx hb dX5_sight_0 rfl (lv_at hl 1 rfl) ?_
  refine lv_if_lt (tgt := 25) hx hb dX5_sight_1 (by decide) (fun c => ?_) (fun c => ?_)
  · have hv := hv.1 c
    refine lv_iconst (v := 0) hx hb dX5_sight_25 (by decide) ?_
    exact G_iret hC hr hk hE hv dX5_sight_26
  · have hv := hv.2 c
    refine lv_iload_n hx hb dX5_sight_4 rfl (lv_at hl 1 rfl) ?_
    refine lv_aload_n hx hb dX5_sight_5 rfl (lv_at hl 0 rfl) ?_
    refine G_get (v := .int (g.2 (3 + w))) hC hE (fun _ h => List.mem_cons_of_mem _ (List.mem_append_left _ (List.mem_append_right _ h))) (f_units hw) rfl 4 (by decide) (hts (.fieldLink RX5 24 "SeedBattle$Units" "count" "I") (List.mem_of_getElem? (i := 1) rfl)) rfl dX5_sight_6 ?_
    refine lv_icmp_ge (tgt := 25) hx hb dX5_sight_9 (by decide) (fun c => ?_) (fun c => ?_)
    · have hv := hv.1 c
      refine lv_iconst (v := 0) hx hb dX5_sight_25 (by decide) ?_
      exact G_iret hC hr hk hE hv dX5_sight_26
    · have hv := hv.2 c
      refine G_getsN hC hE hC.2.2.2.k0 (List.mem_of_getElem? (i := 10) rfl) dX5_sight_12 ?_
      refine lv_aload_n hx hb dX5_sight_15 rfl (lv_at hl 0 rfl) ?_
      refine G_get (v := .ref (a (6 + 10 * w))) hC hE (fun _ h => List.mem_cons_of_mem _ (List.mem_append_left _ (List.mem_append_right _ h))) (f_units hw) rfl 1 (by decide) (hts (.fieldLink RX5 15 "SeedBattle$Units" "kinds" "[I") (List.mem_of_getElem? (i := 2) rfl)) rfl dX5_sight_16 ?_
      refine lv_iload_n hx hb dX5_sight_19 rfl (lv_at hl 1 rfl) ?_
      refine G_iald hC hE (f_kinds hw) hv.1 dX5_sight_20 ?_
      have hv := hv.2
      refine G_tld hC hE hC.2.2.2.k0 hv.1 dX5_sight_21 ?_
      have hv := hv.2
      refine lv_goto (tgt := 26) hx hb dX5_sight_22 (by decide) ?_
      exact G_iret hC hr hk hE hv dX5_sight_26
def V_X5_steps (w : Nat) (x1 : Int32) (g : St) (post : Int32 → St → Prop) : Prop := ((x1 < 0 → post 0 g) ∧ (¬ x1 < 0 → (((g.2 (3 + w)) ≤ x1 → post 0 g) ∧ (¬ (g.2 (3 + w)) ≤ x1 → vp_in x1 24 ∧ (vp_in (g.1 (6 + 10 * w) (Int32.toNatClampNeg x1)) 3 ∧ (post (kSteps (g.1 (6 + 10 * w) (Int32.toNatClampNeg x1)).toNatClampNeg) g))))))
abbrev rm_X5_steps : Room := { frames := 0, cells := 0, slots := 0, locals := 0 }
set_option maxHeartbeats 4000000 in
set_option maxRecDepth 100000 in
theorem c_X5_steps (l : Launch) (D : va_G) (cs az a : Nat → Nat) {w : Nat} (hw : w < 2) (x1 : Int32) (g : St) (post : Int32 → St → Prop) (hv : V_X5_steps w x1 g post) : uMi l yX5_steps wsX5_steps rm_X5_steps D cs az (gW cs a) [.ref (a (4 + 10 * w)), .int x1] g post := by
  refine u_ofI (cc := cX5_steps) (maxL := 2) (by decide) rfl (Nat.le_of_ble_eq_true rfl) ?_
  intro p e s m args below meth c F ls hC hr hk hl hE
  have hx := hC.1.1; have hb := hC.1.2.1; have hml := hC.1.2.2.1; have hts := hC.1.2.2.2.2
  have hown : s.vm.findClass RX5 = some m.cls := hC.1.2.2.2.1
  have hl : lv_has ls 2 [(0, .ref (a (4 + 10 * w))), (1, .int x1)] := hl
  unfold V_X5_steps at hv
  refine lv_iload_n hx hb dX5_steps_0 rfl (lv_at hl 1 rfl) ?_
  refine lv_if_lt (tgt := 25) hx hb dX5_steps_1 (by decide) (fun c => ?_) (fun c => ?_)
  · have hv := hv.1 c
    refine lv_iconst (v := 0) hx hb dX5_steps_25 (by decide) ?_
    exact G_iret hC hr hk hE hv dX5_steps_26
  · have hv := hv.2 c
    refine lv_iload_n hx hb dX5_steps_4 rfl (lv_at hl 1 rfl) ?_
    refine lv_aload_n hx hb dX5_steps_5 rfl (lv_at hl 0 rfl) ?_
    refine G_get (v := .int (g.2 (3 + w))) hC hE (fun _ h => List.mem_cons_of_mem _ (List.mem_append_left _ (List.mem_append_right _ h))) (f_units hw) rfl 4 (by decide) (hts (.fieldLink RX5 24 "SeedBattle$Units" "count" "I") (List.mem_of_getElem? (i := 1) rfl)) rfl dX5_steps_6 ?_
    refine lv_icmp_ge (tgt := 25) hx hb dX5_steps_9 (by decide) (fun c => ?_) (fun c => ?_)
    · have hv := hv.1 c
      refine lv_iconst (v := 0) hx hb dX5_steps_25 (by decide) ?_
      exact G_iret hC hr hk hE hv dX5_steps_26
    · have hv := hv.2 c
      refine G_getsN hC hE hC.2.2.2.k1 (List.mem_of_getElem? (i := 11) rfl) dX5_steps_12 ?_
      refine lv_aload_n hx hb dX5_steps_15 rfl (lv_at hl 0 rfl) ?_
      refine G_get (v := .ref (a (6 + 10 * w))) hC hE (fun _ h => List.mem_cons_of_mem _ (List.mem_append_left _ (List.mem_append_right _ h))) (f_units hw) rfl 1 (by decide) (hts (.fieldLink RX5 15 "SeedBattle$Units" "kinds" "[I") (List.mem_of_getElem? (i := 2) rfl)) rfl dX5_steps_16 ?_
      refine lv_iload_n hx hb dX5_steps_19 rfl (lv_at hl 1 rfl) ?_
      refine G_iald hC hE (f_kinds hw) hv.1 dX5_steps_20 ?_
      have hv := hv.2
      refine G_tld hC hE hC.2.2.2.k1 hv.1 dX5_steps_21 ?_
      have hv := hv.2
      refine lv_goto (tgt := 26) hx hb dX5_steps_22 (by decide) ?_
      exact G_iret hC hr hk hE hv dX5_steps_26
def V_X5_power (w : Nat) (x1 : Int32) (g : St) (post : Int32 → St → Prop) : Prop := ((x1 < 0 → post 0 g) ∧ (¬ x1 < 0 → (((g.2 (3 + w)) ≤ x1 → post 0 g) ∧ (¬ (g.2 (3 + w)) ≤ x1 → vp_in x1 24 ∧ (vp_in (g.1 (6 + 10 * w) (Int32.toNatClampNeg x1)) 3 ∧ (post (kPowers (g.1 (6 + 10 * w) (Int32.toNatClampNeg x1)).toNatClampNeg) g))))))
abbrev rm_X5_power : Room := { frames := 0, cells := 0, slots := 0, locals := 0 }
set_option maxHeartbeats 4000000 in
set_option maxRecDepth 100000 in
theorem c_X5_power (l : Launch) (D : va_G) (cs az a : Nat → Nat) {w : Nat} (hw : w < 2) (x1 : Int32) (g : St) (post : Int32 → St → Prop) (hv : V_X5_power w x1 g post) : uMi l yX5_power wsX5_power rm_X5_power D cs az (gW cs a) [.ref (a (4 + 10 * w)), .int x1] g post := by
  refine u_ofI (cc := cX5_power) (maxL := 2) (by decide) rfl (Nat.le_of_ble_eq_true rfl) ?_
  intro p e s m args below meth c F ls hC hr hk hl hE
  have hx := hC.1.1; have hb := hC.1.2.1; have hml := hC.1.2.2.1; have hts := hC.1.2.2.2.2
  have hown : s.vm.findClass RX5 = some m.cls := hC.1.2.2.2.1
  have hl : lv_has ls 2 [(0, .ref (a (4 + 10 * w))), (1, .int x1)] := hl
  unfold V_X5_power at hv
  refine lv_iload_n hx hb dX5_power_0 rfl (lv_at hl 1 rfl) ?_
  refine lv_if_lt (tgt := 25) hx hb dX5_power_1 (by decide) (fun c => ?_) (fun c => ?_)
  · have hv := hv.1 c
    refine lv_iconst (v := 0) hx hb dX5_power_25 (by decide) ?_
    exact G_iret hC hr hk hE hv dX5_power_26
  · have hv := hv.2 c
    refine lv_iload_n hx hb dX5_power_4 rfl (lv_at hl 1 rfl) ?_
    refine lv_aload_n hx hb dX5_power_5 rfl (lv_at hl 0 rfl) ?_
    refine G_get (v := .int (g.2 (3 + w))) hC hE (fun _ h => List.mem_cons_of_mem _ (List.mem_append_left _ (List.mem_append_right _ h))) (f_units hw) rfl 4 (by decide) (hts (.fieldLink RX5 24 "SeedBattle$Units" "count" "I") (List.mem_of_getElem? (i := 1) rfl)) rfl dX5_power_6 ?_
    refine lv_icmp_ge (tgt := 25) hx hb dX5_power_9 (by decide) (fun c => ?_) (fun c => ?_)
    · have hv := hv.1 c
      refine lv_iconst (v := 0) hx hb dX5_power_25 (by decide) ?_
      exact G_iret hC hr hk hE hv dX5_power_26
    · have hv := hv.2 c
      refine G_getsN hC hE hC.2.2.2.k2 (List.mem_of_getElem? (i := 12) rfl) dX5_power_12 ?_
      refine lv_aload_n hx hb dX5_power_15 rfl (lv_at hl 0 rfl) ?_
      refine G_get (v := .ref (a (6 + 10 * w))) hC hE (fun _ h => List.mem_cons_of_mem _ (List.mem_append_left _ (List.mem_append_right _ h))) (f_units hw) rfl 1 (by decide) (hts (.fieldLink RX5 15 "SeedBattle$Units" "kinds" "[I") (List.mem_of_getElem? (i := 2) rfl)) rfl dX5_power_16 ?_
      refine lv_iload_n hx hb dX5_power_19 rfl (lv_at hl 1 rfl) ?_
      refine G_iald hC hE (f_kinds hw) hv.1 dX5_power_20 ?_
      have hv := hv.2
      refine G_tld hC hE hC.2.2.2.k2 hv.1 dX5_power_21 ?_
      have hv := hv.2
      refine lv_goto (tgt := 26) hx hb dX5_power_22 (by decide) ?_
      exact G_iret hC hr hk hE hv dX5_power_26
def V_X5_has (w : Nat) (x1 : Int32) (g : St) (post : Int32 → St → Prop) : Prop := ((x1 < 0 → post 0 g) ∧ (¬ x1 < 0 → (((g.2 (3 + w)) ≤ x1 → post 0 g) ∧ (¬ (g.2 (3 + w)) ≤ x1 → post 1 g))))
abbrev rm_X5_has : Room := { frames := 0, cells := 0, slots := 0, locals := 0 }
set_option maxHeartbeats 4000000 in
set_option maxRecDepth 100000 in
theorem c_X5_has (l : Launch) (D : va_G) (cs az a : Nat → Nat) {w : Nat} (hw : w < 2) (x1 : Int32) (g : St) (post : Int32 → St → Prop) (hv : V_X5_has w x1 g post) : uMi l yX5_has wsX5_has rm_X5_has D cs az (gW cs a) [.ref (a (4 + 10 * w)), .int x1] g post := by
  refine u_ofI (cc := cX5_has) (maxL := 2) (by decide) rfl (Nat.le_of_ble_eq_true rfl) ?_
  intro p e s m args below meth c F ls hC hr hk hl hE
  have hx := hC.1.1; have hb := hC.1.2.1; have hml := hC.1.2.2.1; have hts := hC.1.2.2.2.2
  have hown : s.vm.findClass RX5 = some m.cls := hC.1.2.2.2.1
  have hl : lv_has ls 2 [(0, .ref (a (4 + 10 * w))), (1, .int x1)] := hl
  unfold V_X5_has at hv
  refine lv_iload_n hx hb dX5_has_0 rfl (lv_at hl 1 rfl) ?_
  refine lv_if_lt (tgt := 16) hx hb dX5_has_1 (by decide) (fun c => ?_) (fun c => ?_)
  · have hv := hv.1 c
    refine lv_iconst (v := 0) hx hb dX5_has_16 (by decide) ?_
    exact G_zret hC hr hk hE rfl hv dX5_has_17
  · have hv := hv.2 c
    refine lv_iload_n hx hb dX5_has_4 rfl (lv_at hl 1 rfl) ?_
    refine lv_aload_n hx hb dX5_has_5 rfl (lv_at hl 0 rfl) ?_
    refine G_get (v := .int (g.2 (3 + w))) hC hE (fun _ h => List.mem_cons_of_mem _ (List.mem_append_right _ h)) (f_units hw) rfl 4 (by decide) (hts (.fieldLink RX5 24 "SeedBattle$Units" "count" "I") (List.mem_of_getElem? (i := 1) rfl)) rfl dX5_has_6 ?_
    refine lv_icmp_ge (tgt := 16) hx hb dX5_has_9 (by decide) (fun c => ?_) (fun c => ?_)
    · have hv := hv.1 c
      refine lv_iconst (v := 0) hx hb dX5_has_16 (by decide) ?_
      exact G_zret hC hr hk hE rfl hv dX5_has_17
    · have hv := hv.2 c
      refine lv_iconst (v := 1) hx hb dX5_has_12 (by decide) ?_
      refine lv_goto (tgt := 17) hx hb dX5_has_13 (by decide) ?_
      exact G_zret hC hr hk hE rfl hv dX5_has_17
def V_X5_lives (w : Nat) (x1 : Int32) (g : St) (post : Int32 → St → Prop) : Prop := V_X5_place w x1 g (fun r2 g1 => ((r2 = (-1) → post 0 g1) ∧ (¬ r2 = (-1) → post 1 g1)))
abbrev rm_X5_lives : Room := { frames := 1, cells := 0, slots := 0, locals := 21 }
set_option maxHeartbeats 4000000 in
set_option maxRecDepth 100000 in
theorem c_X5_lives (l : Launch) (D : va_G) (cs az a : Nat → Nat) {w : Nat} (hw : w < 2) (x1 : Int32) (g : St) (post : Int32 → St → Prop) (hv : V_X5_lives w x1 g post) : uMi l yX5_lives wsX5_lives rm_X5_lives D cs az (gW cs a) [.ref (a (4 + 10 * w)), .int x1] g post := by
  refine u_ofI (cc := cX5_lives) (maxL := 2) (by decide) rfl (Nat.le_of_ble_eq_true rfl) ?_
  intro p e s m args below meth c F ls hC hr hk hl hE
  have hx := hC.1.1; have hb := hC.1.2.1; have hml := hC.1.2.2.1; have hts := hC.1.2.2.2.2
  have hown : s.vm.findClass RX5 = some m.cls := hC.1.2.2.2.1
  have hl : lv_has ls 2 [(0, .ref (a (4 + 10 * w))), (1, .int x1)] := hl
  unfold V_X5_lives at hv
  refine lv_aload_n hx hb dX5_lives_0 rfl (lv_at hl 0 rfl) ?_
  refine lv_iload_n hx hb dX5_lives_1 rfl (lv_at hl 1 rfl) ?_
  refine G_callVi hC (c_X5_place l D cs az a (w := w) hw x1 g _ hv) (cwV 1 hts gX5_lives_X5_place rfl rfl rfl (by decide +kernel) ⟨Nat.le_of_ble_eq_true rfl, Nat.le_of_ble_eq_true rfl⟩) (f_units hw) rfl rfl hl rfl (Nat.le_of_ble_eq_true rfl) dX5_lives_2 hE (fun r2 g1 H locs hv hE => ?_)
  refine lv_iconst (v := (-1)) hx hb dX5_lives_5 (by decide) ?_
  refine lv_icmp_eq (tgt := 13) hx hb dX5_lives_6 (by decide) (fun c => ?_) (fun c => ?_)
  · have hv := hv.1 c
    refine lv_iconst (v := 0) hx hb dX5_lives_13 (by decide) ?_
    exact G_zret hC hr hk hE rfl hv dX5_lives_14
  · have hv := hv.2 c
    refine lv_iconst (v := 1) hx hb dX5_lives_9 (by decide) ?_
    refine lv_goto (tgt := 14) hx hb dX5_lives_10 (by decide) ?_
    exact G_zret hC hr hk hE rfl hv dX5_lives_14
def J_X5_on_27 (w : Nat) (x1 : Int32) (post : Int32 → St → Prop) (K2 : (Int32 × Int32 × St) → Prop) (v1 : Int32) (v2 : Int32) (g : St) : Prop := K2 (v1, (v2 + 1), g)
def J_X5_on_2 (w : Nat) (x1 : Int32) (post : Int32 → St → Prop) (K2 : (Int32 × Int32 × St) → Prop) (v1 : Int32) (v2 : Int32) (g : St) : Prop := (((g.2 (3 + w)) ≤ v2 → post (-1) g) ∧ (¬ (g.2 (3 + w)) ≤ v2 → vp_in v2 24 ∧ (((¬ (g.1 (8 + 10 * w) (Int32.toNatClampNeg v2)) = v1 → J_X5_on_27 w x1 post K2 v1 v2 g) ∧ ((g.1 (8 + 10 * w) (Int32.toNatClampNeg v2)) = v1 → ((v1 = (-1) → J_X5_on_27 w x1 post K2 v1 v2 g) ∧ (¬ v1 = (-1) → post v2 g)))))))
def V_X5_on (w : Nat) (x1 : Int32) (g : St) (post : Int32 → St → Prop) : Prop := lpP (fun K2 (z : Int32 × Int32 × St) => J_X5_on_2 w x1 post K2 z.1 z.2.1 z.2.2) (x1, 0, g)
abbrev rm_X5_on : Room := { frames := 0, cells := 0, slots := 0, locals := 0 }
set_option maxHeartbeats 4000000 in
set_option maxRecDepth 100000 in
theorem c_X5_on (l : Launch) (D : va_G) (cs az a : Nat → Nat) {w : Nat} (hw : w < 2) (x1 : Int32) (g : St) (post : Int32 → St → Prop) (hv : V_X5_on w x1 g post) : uMi l yX5_on wsX5_on rm_X5_on D cs az (gW cs a) [.ref (a (4 + 10 * w)), .int x1] g post := by
  refine u_ofI (cc := cX5_on) (maxL := 3) (by decide) rfl (Nat.le_of_ble_eq_true rfl) ?_
  intro p e s m args below meth c F ls hC hr hk hl hE
  have hx := hC.1.1; have hb := hC.1.2.1; have hml := hC.1.2.2.1; have hts := hC.1.2.2.2.2
  have hown : s.vm.findClass RX5 = some m.cls := hC.1.2.2.2.1
  have hl : lv_has ls 3 [(0, .ref (a (4 + 10 * w))), (1, .int x1)] := hl
  unfold V_X5_on at hv
  have j_27 : ∀ (K2 : (Int32 × Int32 × St) → Prop), (∀ (v1 : Int32) (v2 : Int32) (g : St), K2 (v1, v2, g) → ∀ (H : Heap) (locs : List Loc) (ls : Array Slot), uE D 52 gA (gO cs a) cs a F s g H locs → lv_has ls 3 [(0, .ref (a (4 + 10 * w))), (1, .int v1), (2, .int v2)] → W p l e rm_X5_on s m args below meth c H locs 0 0 (MQ below (va_Qi post (uB D (uW 52 gA (gO cs a) cs a)) F) args s 0 0 F) (F0 m 2 ls [])) → ∀ (v1 : Int32) (v2 : Int32) (g : St), J_X5_on_27 w x1 post K2 v1 v2 g → ∀ (H : Heap) (locs : List Loc) (ls : Array Slot), uE D 52 gA (gO cs a) cs a F s g H locs → lv_has ls 3 [(0, .ref (a (4 + 10 * w))), (1, .int v1), (2, .int v2)] → W p l e rm_X5_on s m args below meth c H locs 0 0 (MQ below (va_Qi post (uB D (uW 52 gA (gO cs a) cs a)) F) args s 0 0 F) (F0 m 27 ls []) := by
    intro K2 hK2 v1 v2 g  hv
    intro H locs ls hE hl
    unfold J_X5_on_27 at hv
    refine lv_iinc (v := (v2 + 1)) (lv' := [(2, .int (v2 + 1)), (0, .ref (a (4 + 10 * w))), (1, .int v1)]) hx hb dX5_on_27 hl (k := 2) rfl rfl (by decide) rfl (fun ls hl => ?_)
    refine lv_goto (tgt := 2) hx hb dX5_on_30 (by decide) ?_
    exact hK2 _ _ _  hv _ _ _ hE (lv_sub hl [1, 2, 0] rfl)
  have j_2 : ∀ (v1 : Int32) (v2 : Int32) (g : St), lpP (fun K2 (z : Int32 × Int32 × St) => J_X5_on_2 w x1 post K2 z.1 z.2.1 z.2.2) (v1, v2, g) → ∀ (H : Heap) (locs : List Loc) (ls : Array Slot), uE D 52 gA (gO cs a) cs a F s g H locs → lv_has ls 3 [(0, .ref (a (4 + 10 * w))), (1, .int v1), (2, .int v2)] → W p l e rm_X5_on s m args below meth c H locs 0 0 (MQ below (va_Qi post (uB D (uW 52 gA (gO cs a) cs a)) F) args s 0 0 F) (F0 m 2 ls []) := by
    intro  v1 v2 g  hv
    obtain ⟨n, hv⟩ := hv
    induction n generalizing v1 v2 g with
    | zero => exact False.elim hv
    | succ n hK2 =>
      intro H locs ls hE hl
      have hv : J_X5_on_2 w x1 post (itP _ n) v1 v2 g := hv
      unfold J_X5_on_2 at hv
      refine lv_iload_n hx hb dX5_on_2 rfl (lv_at hl 2 rfl) ?_
      refine lv_aload_n hx hb dX5_on_3 rfl (lv_at hl 0 rfl) ?_
      refine G_get (v := .int (g.2 (3 + w))) hC hE (fun _ h => List.mem_cons_of_mem _ (List.mem_append_left _ (List.mem_append_right _ h))) (f_units hw) rfl 4 (by decide) (hts (.fieldLink RX5 24 "SeedBattle$Units" "count" "I") (List.mem_of_getElem? (i := 1) rfl)) rfl dX5_on_4 ?_
      refine lv_icmp_ge (tgt := 33) hx hb dX5_on_7 (by decide) (fun c => ?_) (fun c => ?_)
      · have hv := hv.1 c
        refine lv_iconst (v := (-1)) hx hb dX5_on_33 (by decide) ?_
        exact G_iret hC hr hk hE hv dX5_on_34
      · have hv := hv.2 c
        refine lv_aload_n hx hb dX5_on_10 rfl (lv_at hl 0 rfl) ?_
        refine G_get (v := .ref (a (8 + 10 * w))) hC hE (fun _ h => List.mem_cons_of_mem _ (List.mem_append_left _ (List.mem_append_right _ h))) (f_units hw) rfl 3 (by decide) (hts (.fieldLink RX5 21 "SeedBattle$Units" "places" "[I") (List.mem_of_getElem? (i := 2) rfl)) rfl dX5_on_11 ?_
        refine lv_iload_n hx hb dX5_on_14 rfl (lv_at hl 2 rfl) ?_
        refine G_iald hC hE (f_places hw) hv.1 dX5_on_15 ?_
        have hv := hv.2
        refine lv_iload_n hx hb dX5_on_16 rfl (lv_at hl 1 rfl) ?_
        refine lv_icmp_ne (tgt := 27) hx hb dX5_on_17 (by decide) (fun c => ?_) (fun c => ?_)
        · have hv := hv.1 c
          exact j_27 _ hK2 _ _ _  hv _ _ _ hE (lv_sub hl [0, 1, 2] rfl)
        · have hv := hv.2 c
          refine lv_iload_n hx hb dX5_on_20 rfl (lv_at hl 1 rfl) ?_
          refine lv_iconst (v := (-1)) hx hb dX5_on_21 (by decide) ?_
          refine lv_icmp_eq (tgt := 27) hx hb dX5_on_22 (by decide) (fun c => ?_) (fun c => ?_)
          · have hv := hv.1 c
            exact j_27 _ hK2 _ _ _  hv _ _ _ hE (lv_sub hl [0, 1, 2] rfl)
          · have hv := hv.2 c
            refine lv_iload_n hx hb dX5_on_25 rfl (lv_at hl 2 rfl) ?_
            exact G_iret hC hr hk hE hv dX5_on_26
  refine lv_iconst (v := 0) hx hb dX5_on_0 (by decide) ?_
  refine lv_istore_n (lv' := [(2, .int 0), (0, .ref (a (4 + 10 * w))), (1, .int x1)]) hx hb dX5_on_1 rfl hl (by decide) rfl (fun ls hl => ?_)
  exact j_2  _ _ _  hv _ _ _ hE (lv_sub hl [1, 2, 0] rfl)
def V_X5_move (w : Nat) (x1 : Int32) (x2 : Int32) (g : St) (post : St → Prop) : Prop := ((x1 < 0 → post g) ∧ (¬ x1 < 0 → (((g.2 (3 + w)) ≤ x1 → post g) ∧ (¬ (g.2 (3 + w)) ≤ x1 → vp_in x1 24 ∧ (post (sA g (8 + 10 * w) (upd (g.1 (8 + 10 * w)) (Int32.toNatClampNeg x1) x2)))))))
abbrev rm_X5_move : Room := { frames := 0, cells := 0, slots := 0, locals := 0 }
set_option maxHeartbeats 4000000 in
set_option maxRecDepth 100000 in
theorem c_X5_move (l : Launch) (D : va_G) (cs az a : Nat → Nat) {w : Nat} (hw : w < 2) (x1 : Int32) (x2 : Int32) (g : St) (post : St → Prop) (hv : V_X5_move w x1 x2 g post) : uMv l yX5_move wsX5_move rm_X5_move D cs az (gW cs a) [.ref (a (4 + 10 * w)), .int x1, .int x2] g post := by
  refine u_ofV (cc := cX5_move) (maxL := 3) (by decide) rfl (Nat.le_of_ble_eq_true rfl) ?_
  intro p e s m args below meth c F ls hC hr hk hl hE
  have hx := hC.1.1; have hb := hC.1.2.1; have hml := hC.1.2.2.1; have hts := hC.1.2.2.2.2
  have hown : s.vm.findClass RX5 = some m.cls := hC.1.2.2.2.1
  have hl : lv_has ls 3 [(0, .ref (a (4 + 10 * w))), (1, .int x1), (2, .int x2)] := hl
  unfold V_X5_move at hv
  refine lv_iload_n hx hb dX5_move_0 rfl (lv_at hl 1 rfl) ?_
  refine lv_if_lt (tgt := 19) hx hb dX5_move_1 (by decide) (fun c => ?_) (fun c => ?_)
  · have hv := hv.1 c
    exact G_vret hC hr hk hE hv dX5_move_19
  · have hv := hv.2 c
    refine lv_iload_n hx hb dX5_move_4 rfl (lv_at hl 1 rfl) ?_
    refine lv_aload_n hx hb dX5_move_5 rfl (lv_at hl 0 rfl) ?_
    refine G_get (v := .int (g.2 (3 + w))) hC hE (fun _ h => List.mem_cons_of_mem _ (List.mem_append_left _ (List.mem_append_right _ h))) (f_units hw) rfl 4 (by decide) (hts (.fieldLink RX5 24 "SeedBattle$Units" "count" "I") (List.mem_of_getElem? (i := 1) rfl)) rfl dX5_move_6 ?_
    refine lv_icmp_ge (tgt := 19) hx hb dX5_move_9 (by decide) (fun c => ?_) (fun c => ?_)
    · have hv := hv.1 c
      exact G_vret hC hr hk hE hv dX5_move_19
    · have hv := hv.2 c
      refine lv_aload_n hx hb dX5_move_12 rfl (lv_at hl 0 rfl) ?_
      refine G_get (v := .ref (a (8 + 10 * w))) hC hE (fun _ h => List.mem_cons_of_mem _ (List.mem_append_left _ (List.mem_append_right _ h))) (f_units hw) rfl 3 (by decide) (hts (.fieldLink RX5 21 "SeedBattle$Units" "places" "[I") (List.mem_of_getElem? (i := 2) rfl)) rfl dX5_move_13 ?_
      refine lv_iload_n hx hb dX5_move_16 rfl (lv_at hl 1 rfl) ?_
      refine lv_iload_n hx hb dX5_move_17 rfl (lv_at hl 2 rfl) ?_
      refine G_iast hC hE (f_places hw) hv.1 dX5_move_18 (fun H locs hE => ?_)
      have hv := hv.2
      exact G_vret hC hr hk hE hv dX5_move_19
def V_X5_put (w : Nat) (x1 : Int32) (x2 : Int32) (x3 : Int32) (g : St) (post : Int32 → St → Prop) : Prop := (((g.2 (3 + w)) < 24 → vp_in (g.2 (3 + w)) 24 ∧ (vp_in ((sA g (5 + 10 * w) (upd (g.1 (5 + 10 * w)) (Int32.toNatClampNeg (g.2 (3 + w))) x1)).2 (3 + w)) 24 ∧ (vp_in ((sA (sA g (5 + 10 * w) (upd (g.1 (5 + 10 * w)) (Int32.toNatClampNeg (g.2 (3 + w))) x1)) (6 + 10 * w) (upd ((sA g (5 + 10 * w) (upd (g.1 (5 + 10 * w)) (Int32.toNatClampNeg (g.2 (3 + w))) x1)).1 (6 + 10 * w)) (Int32.toNatClampNeg ((sA g (5 + 10 * w) (upd (g.1 (5 + 10 * w)) (Int32.toNatClampNeg (g.2 (3 + w))) x1)).2 (3 + w))) x2)).2 (3 + w)) 24 ∧ (vp_in ((sA (sA (sA g (5 + 10 * w) (upd (g.1 (5 + 10 * w)) (Int32.toNatClampNeg (g.2 (3 + w))) x1)) (6 + 10 * w) (upd ((sA g (5 + 10 * w) (upd (g.1 (5 + 10 * w)) (Int32.toNatClampNeg (g.2 (3 + w))) x1)).1 (6 + 10 * w)) (Int32.toNatClampNeg ((sA g (5 + 10 * w) (upd (g.1 (5 + 10 * w)) (Int32.toNatClampNeg (g.2 (3 + w))) x1)).2 (3 + w))) x2)) (7 + 10 * w) (upd ((sA (sA g (5 + 10 * w) (upd (g.1 (5 + 10 * w)) (Int32.toNatClampNeg (g.2 (3 + w))) x1)) (6 + 10 * w) (upd ((sA g (5 + 10 * w) (upd (g.1 (5 + 10 * w)) (Int32.toNatClampNeg (g.2 (3 + w))) x1)).1 (6 + 10 * w)) (Int32.toNatClampNeg ((sA g (5 + 10 * w) (upd (g.1 (5 + 10 * w)) (Int32.toNatClampNeg (g.2 (3 + w))) x1)).2 (3 + w))) x2)).1 (7 + 10 * w)) (Int32.toNatClampNeg ((sA (sA g (5 + 10 * w) (upd (g.1 (5 + 10 * w)) (Int32.toNatClampNeg (g.2 (3 + w))) x1)) (6 + 10 * w) (upd ((sA g (5 + 10 * w) (upd (g.1 (5 + 10 * w)) (Int32.toNatClampNeg (g.2 (3 + w))) x1)).1 (6 + 10 * w)) (Int32.toNatClampNeg ((sA g (5 + 10 * w) (upd (g.1 (5 + 10 * w)) (Int32.toNatClampNeg (g.2 (3 + w))) x1)).2 (3 + w))) x2)).2 (3 + w))) x3)).2 (3 + w)) 24 ∧ (post (((sS (sA (sA (sA (sA g (5 + 10 * w) (upd (g.1 (5 + 10 * w)) (Int32.toNatClampNeg (g.2 (3 + w))) x1)) (6 + 10 * w) (upd ((sA g (5 + 10 * w) (upd (g.1 (5 + 10 * w)) (Int32.toNatClampNeg (g.2 (3 + w))) x1)).1 (6 + 10 * w)) (Int32.toNatClampNeg ((sA g (5 + 10 * w) (upd (g.1 (5 + 10 * w)) (Int32.toNatClampNeg (g.2 (3 + w))) x1)).2 (3 + w))) x2)) (7 + 10 * w) (upd ((sA (sA g (5 + 10 * w) (upd (g.1 (5 + 10 * w)) (Int32.toNatClampNeg (g.2 (3 + w))) x1)) (6 + 10 * w) (upd ((sA g (5 + 10 * w) (upd (g.1 (5 + 10 * w)) (Int32.toNatClampNeg (g.2 (3 + w))) x1)).1 (6 + 10 * w)) (Int32.toNatClampNeg ((sA g (5 + 10 * w) (upd (g.1 (5 + 10 * w)) (Int32.toNatClampNeg (g.2 (3 + w))) x1)).2 (3 + w))) x2)).1 (7 + 10 * w)) (Int32.toNatClampNeg ((sA (sA g (5 + 10 * w) (upd (g.1 (5 + 10 * w)) (Int32.toNatClampNeg (g.2 (3 + w))) x1)) (6 + 10 * w) (upd ((sA g (5 + 10 * w) (upd (g.1 (5 + 10 * w)) (Int32.toNatClampNeg (g.2 (3 + w))) x1)).1 (6 + 10 * w)) (Int32.toNatClampNeg ((sA g (5 + 10 * w) (upd (g.1 (5 + 10 * w)) (Int32.toNatClampNeg (g.2 (3 + w))) x1)).2 (3 + w))) x2)).2 (3 + w))) x3)) (8 + 10 * w) (upd ((sA (sA (sA g (5 + 10 * w) (upd (g.1 (5 + 10 * w)) (Int32.toNatClampNeg (g.2 (3 + w))) x1)) (6 + 10 * w) (upd ((sA g (5 + 10 * w) (upd (g.1 (5 + 10 * w)) (Int32.toNatClampNeg (g.2 (3 + w))) x1)).1 (6 + 10 * w)) (Int32.toNatClampNeg ((sA g (5 + 10 * w) (upd (g.1 (5 + 10 * w)) (Int32.toNatClampNeg (g.2 (3 + w))) x1)).2 (3 + w))) x2)) (7 + 10 * w) (upd ((sA (sA g (5 + 10 * w) (upd (g.1 (5 + 10 * w)) (Int32.toNatClampNeg (g.2 (3 + w))) x1)) (6 + 10 * w) (upd ((sA g (5 + 10 * w) (upd (g.1 (5 + 10 * w)) (Int32.toNatClampNeg (g.2 (3 + w))) x1)).1 (6 + 10 * w)) (Int32.toNatClampNeg ((sA g (5 + 10 * w) (upd (g.1 (5 + 10 * w)) (Int32.toNatClampNeg (g.2 (3 + w))) x1)).2 (3 + w))) x2)).1 (7 + 10 * w)) (Int32.toNatClampNeg ((sA (sA g (5 + 10 * w) (upd (g.1 (5 + 10 * w)) (Int32.toNatClampNeg (g.2 (3 + w))) x1)) (6 + 10 * w) (upd ((sA g (5 + 10 * w) (upd (g.1 (5 + 10 * w)) (Int32.toNatClampNeg (g.2 (3 + w))) x1)).1 (6 + 10 * w)) (Int32.toNatClampNeg ((sA g (5 + 10 * w) (upd (g.1 (5 + 10 * w)) (Int32.toNatClampNeg (g.2 (3 + w))) x1)).2 (3 + w))) x2)).2 (3 + w))) x3)).1 (8 + 10 * w)) (Int32.toNatClampNeg ((sA (sA (sA g (5 + 10 * w) (upd (g.1 (5 + 10 * w)) (Int32.toNatClampNeg (g.2 (3 + w))) x1)) (6 + 10 * w) (upd ((sA g (5 + 10 * w) (upd (g.1 (5 + 10 * w)) (Int32.toNatClampNeg (g.2 (3 + w))) x1)).1 (6 + 10 * w)) (Int32.toNatClampNeg ((sA g (5 + 10 * w) (upd (g.1 (5 + 10 * w)) (Int32.toNatClampNeg (g.2 (3 + w))) x1)).2 (3 + w))) x2)) (7 + 10 * w) (upd ((sA (sA g (5 + 10 * w) (upd (g.1 (5 + 10 * w)) (Int32.toNatClampNeg (g.2 (3 + w))) x1)) (6 + 10 * w) (upd ((sA g (5 + 10 * w) (upd (g.1 (5 + 10 * w)) (Int32.toNatClampNeg (g.2 (3 + w))) x1)).1 (6 + 10 * w)) (Int32.toNatClampNeg ((sA g (5 + 10 * w) (upd (g.1 (5 + 10 * w)) (Int32.toNatClampNeg (g.2 (3 + w))) x1)).2 (3 + w))) x2)).1 (7 + 10 * w)) (Int32.toNatClampNeg ((sA (sA g (5 + 10 * w) (upd (g.1 (5 + 10 * w)) (Int32.toNatClampNeg (g.2 (3 + w))) x1)) (6 + 10 * w) (upd ((sA g (5 + 10 * w) (upd (g.1 (5 + 10 * w)) (Int32.toNatClampNeg (g.2 (3 + w))) x1)).1 (6 + 10 * w)) (Int32.toNatClampNeg ((sA g (5 + 10 * w) (upd (g.1 (5 + 10 * w)) (Int32.toNatClampNeg (g.2 (3 + w))) x1)).2 (3 + w))) x2)).2 (3 + w))) x3)).2 (3 + w))) x3)) (3 + w) (((sA (sA (sA (sA g (5 + 10 * w) (upd (g.1 (5 + 10 * w)) (Int32.toNatClampNeg (g.2 (3 + w))) x1)) (6 + 10 * w) (upd ((sA g (5 + 10 * w) (upd (g.1 (5 + 10 * w)) (Int32.toNatClampNeg (g.2 (3 + w))) x1)).1 (6 + 10 * w)) (Int32.toNatClampNeg ((sA g (5 + 10 * w) (upd (g.1 (5 + 10 * w)) (Int32.toNatClampNeg (g.2 (3 + w))) x1)).2 (3 + w))) x2)) (7 + 10 * w) (upd ((sA (sA g (5 + 10 * w) (upd (g.1 (5 + 10 * w)) (Int32.toNatClampNeg (g.2 (3 + w))) x1)) (6 + 10 * w) (upd ((sA g (5 + 10 * w) (upd (g.1 (5 + 10 * w)) (Int32.toNatClampNeg (g.2 (3 + w))) x1)).1 (6 + 10 * w)) (Int32.toNatClampNeg ((sA g (5 + 10 * w) (upd (g.1 (5 + 10 * w)) (Int32.toNatClampNeg (g.2 (3 + w))) x1)).2 (3 + w))) x2)).1 (7 + 10 * w)) (Int32.toNatClampNeg ((sA (sA g (5 + 10 * w) (upd (g.1 (5 + 10 * w)) (Int32.toNatClampNeg (g.2 (3 + w))) x1)) (6 + 10 * w) (upd ((sA g (5 + 10 * w) (upd (g.1 (5 + 10 * w)) (Int32.toNatClampNeg (g.2 (3 + w))) x1)).1 (6 + 10 * w)) (Int32.toNatClampNeg ((sA g (5 + 10 * w) (upd (g.1 (5 + 10 * w)) (Int32.toNatClampNeg (g.2 (3 + w))) x1)).2 (3 + w))) x2)).2 (3 + w))) x3)) (8 + 10 * w) (upd ((sA (sA (sA g (5 + 10 * w) (upd (g.1 (5 + 10 * w)) (Int32.toNatClampNeg (g.2 (3 + w))) x1)) (6 + 10 * w) (upd ((sA g (5 + 10 * w) (upd (g.1 (5 + 10 * w)) (Int32.toNatClampNeg (g.2 (3 + w))) x1)).1 (6 + 10 * w)) (Int32.toNatClampNeg ((sA g (5 + 10 * w) (upd (g.1 (5 + 10 * w)) (Int32.toNatClampNeg (g.2 (3 + w))) x1)).2 (3 + w))) x2)) (7 + 10 * w) (upd ((sA (sA g (5 + 10 * w) (upd (g.1 (5 + 10 * w)) (Int32.toNatClampNeg (g.2 (3 + w))) x1)) (6 + 10 * w) (upd ((sA g (5 + 10 * w) (upd (g.1 (5 + 10 * w)) (Int32.toNatClampNeg (g.2 (3 + w))) x1)).1 (6 + 10 * w)) (Int32.toNatClampNeg ((sA g (5 + 10 * w) (upd (g.1 (5 + 10 * w)) (Int32.toNatClampNeg (g.2 (3 + w))) x1)).2 (3 + w))) x2)).1 (7 + 10 * w)) (Int32.toNatClampNeg ((sA (sA g (5 + 10 * w) (upd (g.1 (5 + 10 * w)) (Int32.toNatClampNeg (g.2 (3 + w))) x1)) (6 + 10 * w) (upd ((sA g (5 + 10 * w) (upd (g.1 (5 + 10 * w)) (Int32.toNatClampNeg (g.2 (3 + w))) x1)).1 (6 + 10 * w)) (Int32.toNatClampNeg ((sA g (5 + 10 * w) (upd (g.1 (5 + 10 * w)) (Int32.toNatClampNeg (g.2 (3 + w))) x1)).2 (3 + w))) x2)).2 (3 + w))) x3)).1 (8 + 10 * w)) (Int32.toNatClampNeg ((sA (sA (sA g (5 + 10 * w) (upd (g.1 (5 + 10 * w)) (Int32.toNatClampNeg (g.2 (3 + w))) x1)) (6 + 10 * w) (upd ((sA g (5 + 10 * w) (upd (g.1 (5 + 10 * w)) (Int32.toNatClampNeg (g.2 (3 + w))) x1)).1 (6 + 10 * w)) (Int32.toNatClampNeg ((sA g (5 + 10 * w) (upd (g.1 (5 + 10 * w)) (Int32.toNatClampNeg (g.2 (3 + w))) x1)).2 (3 + w))) x2)) (7 + 10 * w) (upd ((sA (sA g (5 + 10 * w) (upd (g.1 (5 + 10 * w)) (Int32.toNatClampNeg (g.2 (3 + w))) x1)) (6 + 10 * w) (upd ((sA g (5 + 10 * w) (upd (g.1 (5 + 10 * w)) (Int32.toNatClampNeg (g.2 (3 + w))) x1)).1 (6 + 10 * w)) (Int32.toNatClampNeg ((sA g (5 + 10 * w) (upd (g.1 (5 + 10 * w)) (Int32.toNatClampNeg (g.2 (3 + w))) x1)).2 (3 + w))) x2)).1 (7 + 10 * w)) (Int32.toNatClampNeg ((sA (sA g (5 + 10 * w) (upd (g.1 (5 + 10 * w)) (Int32.toNatClampNeg (g.2 (3 + w))) x1)) (6 + 10 * w) (upd ((sA g (5 + 10 * w) (upd (g.1 (5 + 10 * w)) (Int32.toNatClampNeg (g.2 (3 + w))) x1)).1 (6 + 10 * w)) (Int32.toNatClampNeg ((sA g (5 + 10 * w) (upd (g.1 (5 + 10 * w)) (Int32.toNatClampNeg (g.2 (3 + w))) x1)).2 (3 + w))) x2)).2 (3 + w))) x3)).2 (3 + w))) x3)).2 (3 + w)) + 1)).2 (3 + w)) - 1) (sS (sA (sA (sA (sA g (5 + 10 * w) (upd (g.1 (5 + 10 * w)) (Int32.toNatClampNeg (g.2 (3 + w))) x1)) (6 + 10 * w) (upd ((sA g (5 + 10 * w) (upd (g.1 (5 + 10 * w)) (Int32.toNatClampNeg (g.2 (3 + w))) x1)).1 (6 + 10 * w)) (Int32.toNatClampNeg ((sA g (5 + 10 * w) (upd (g.1 (5 + 10 * w)) (Int32.toNatClampNeg (g.2 (3 + w))) x1)).2 (3 + w))) x2)) (7 + 10 * w) (upd ((sA (sA g (5 + 10 * w) (upd (g.1 (5 + 10 * w)) (Int32.toNatClampNeg (g.2 (3 + w))) x1)) (6 + 10 * w) (upd ((sA g (5 + 10 * w) (upd (g.1 (5 + 10 * w)) (Int32.toNatClampNeg (g.2 (3 + w))) x1)).1 (6 + 10 * w)) (Int32.toNatClampNeg ((sA g (5 + 10 * w) (upd (g.1 (5 + 10 * w)) (Int32.toNatClampNeg (g.2 (3 + w))) x1)).2 (3 + w))) x2)).1 (7 + 10 * w)) (Int32.toNatClampNeg ((sA (sA g (5 + 10 * w) (upd (g.1 (5 + 10 * w)) (Int32.toNatClampNeg (g.2 (3 + w))) x1)) (6 + 10 * w) (upd ((sA g (5 + 10 * w) (upd (g.1 (5 + 10 * w)) (Int32.toNatClampNeg (g.2 (3 + w))) x1)).1 (6 + 10 * w)) (Int32.toNatClampNeg ((sA g (5 + 10 * w) (upd (g.1 (5 + 10 * w)) (Int32.toNatClampNeg (g.2 (3 + w))) x1)).2 (3 + w))) x2)).2 (3 + w))) x3)) (8 + 10 * w) (upd ((sA (sA (sA g (5 + 10 * w) (upd (g.1 (5 + 10 * w)) (Int32.toNatClampNeg (g.2 (3 + w))) x1)) (6 + 10 * w) (upd ((sA g (5 + 10 * w) (upd (g.1 (5 + 10 * w)) (Int32.toNatClampNeg (g.2 (3 + w))) x1)).1 (6 + 10 * w)) (Int32.toNatClampNeg ((sA g (5 + 10 * w) (upd (g.1 (5 + 10 * w)) (Int32.toNatClampNeg (g.2 (3 + w))) x1)).2 (3 + w))) x2)) (7 + 10 * w) (upd ((sA (sA g (5 + 10 * w) (upd (g.1 (5 + 10 * w)) (Int32.toNatClampNeg (g.2 (3 + w))) x1)) (6 + 10 * w) (upd ((sA g (5 + 10 * w) (upd (g.1 (5 + 10 * w)) (Int32.toNatClampNeg (g.2 (3 + w))) x1)).1 (6 + 10 * w)) (Int32.toNatClampNeg ((sA g (5 + 10 * w) (upd (g.1 (5 + 10 * w)) (Int32.toNatClampNeg (g.2 (3 + w))) x1)).2 (3 + w))) x2)).1 (7 + 10 * w)) (Int32.toNatClampNeg ((sA (sA g (5 + 10 * w) (upd (g.1 (5 + 10 * w)) (Int32.toNatClampNeg (g.2 (3 + w))) x1)) (6 + 10 * w) (upd ((sA g (5 + 10 * w) (upd (g.1 (5 + 10 * w)) (Int32.toNatClampNeg (g.2 (3 + w))) x1)).1 (6 + 10 * w)) (Int32.toNatClampNeg ((sA g (5 + 10 * w) (upd (g.1 (5 + 10 * w)) (Int32.toNatClampNeg (g.2 (3 + w))) x1)).2 (3 + w))) x2)).2 (3 + w))) x3)).1 (8 + 10 * w)) (Int32.toNatClampNeg ((sA (sA (sA g (5 + 10 * w) (upd (g.1 (5 + 10 * w)) (Int32.toNatClampNeg (g.2 (3 + w))) x1)) (6 + 10 * w) (upd ((sA g (5 + 10 * w) (upd (g.1 (5 + 10 * w)) (Int32.toNatClampNeg (g.2 (3 + w))) x1)).1 (6 + 10 * w)) (Int32.toNatClampNeg ((sA g (5 + 10 * w) (upd (g.1 (5 + 10 * w)) (Int32.toNatClampNeg (g.2 (3 + w))) x1)).2 (3 + w))) x2)) (7 + 10 * w) (upd ((sA (sA g (5 + 10 * w) (upd (g.1 (5 + 10 * w)) (Int32.toNatClampNeg (g.2 (3 + w))) x1)) (6 + 10 * w) (upd ((sA g (5 + 10 * w) (upd (g.1 (5 + 10 * w)) (Int32.toNatClampNeg (g.2 (3 + w))) x1)).1 (6 + 10 * w)) (Int32.toNatClampNeg ((sA g (5 + 10 * w) (upd (g.1 (5 + 10 * w)) (Int32.toNatClampNeg (g.2 (3 + w))) x1)).2 (3 + w))) x2)).1 (7 + 10 * w)) (Int32.toNatClampNeg ((sA (sA g (5 + 10 * w) (upd (g.1 (5 + 10 * w)) (Int32.toNatClampNeg (g.2 (3 + w))) x1)) (6 + 10 * w) (upd ((sA g (5 + 10 * w) (upd (g.1 (5 + 10 * w)) (Int32.toNatClampNeg (g.2 (3 + w))) x1)).1 (6 + 10 * w)) (Int32.toNatClampNeg ((sA g (5 + 10 * w) (upd (g.1 (5 + 10 * w)) (Int32.toNatClampNeg (g.2 (3 + w))) x1)).2 (3 + w))) x2)).2 (3 + w))) x3)).2 (3 + w))) x3)) (3 + w) (((sA (sA (sA (sA g (5 + 10 * w) (upd (g.1 (5 + 10 * w)) (Int32.toNatClampNeg (g.2 (3 + w))) x1)) (6 + 10 * w) (upd ((sA g (5 + 10 * w) (upd (g.1 (5 + 10 * w)) (Int32.toNatClampNeg (g.2 (3 + w))) x1)).1 (6 + 10 * w)) (Int32.toNatClampNeg ((sA g (5 + 10 * w) (upd (g.1 (5 + 10 * w)) (Int32.toNatClampNeg (g.2 (3 + w))) x1)).2 (3 + w))) x2)) (7 + 10 * w) (upd ((sA (sA g (5 + 10 * w) (upd (g.1 (5 + 10 * w)) (Int32.toNatClampNeg (g.2 (3 + w))) x1)) (6 + 10 * w) (upd ((sA g (5 + 10 * w) (upd (g.1 (5 + 10 * w)) (Int32.toNatClampNeg (g.2 (3 + w))) x1)).1 (6 + 10 * w)) (Int32.toNatClampNeg ((sA g (5 + 10 * w) (upd (g.1 (5 + 10 * w)) (Int32.toNatClampNeg (g.2 (3 + w))) x1)).2 (3 + w))) x2)).1 (7 + 10 * w)) (Int32.toNatClampNeg ((sA (sA g (5 + 10 * w) (upd (g.1 (5 + 10 * w)) (Int32.toNatClampNeg (g.2 (3 + w))) x1)) (6 + 10 * w) (upd ((sA g (5 + 10 * w) (upd (g.1 (5 + 10 * w)) (Int32.toNatClampNeg (g.2 (3 + w))) x1)).1 (6 + 10 * w)) (Int32.toNatClampNeg ((sA g (5 + 10 * w) (upd (g.1 (5 + 10 * w)) (Int32.toNatClampNeg (g.2 (3 + w))) x1)).2 (3 + w))) x2)).2 (3 + w))) x3)) (8 + 10 * w) (upd ((sA (sA (sA g (5 + 10 * w) (upd (g.1 (5 + 10 * w)) (Int32.toNatClampNeg (g.2 (3 + w))) x1)) (6 + 10 * w) (upd ((sA g (5 + 10 * w) (upd (g.1 (5 + 10 * w)) (Int32.toNatClampNeg (g.2 (3 + w))) x1)).1 (6 + 10 * w)) (Int32.toNatClampNeg ((sA g (5 + 10 * w) (upd (g.1 (5 + 10 * w)) (Int32.toNatClampNeg (g.2 (3 + w))) x1)).2 (3 + w))) x2)) (7 + 10 * w) (upd ((sA (sA g (5 + 10 * w) (upd (g.1 (5 + 10 * w)) (Int32.toNatClampNeg (g.2 (3 + w))) x1)) (6 + 10 * w) (upd ((sA g (5 + 10 * w) (upd (g.1 (5 + 10 * w)) (Int32.toNatClampNeg (g.2 (3 + w))) x1)).1 (6 + 10 * w)) (Int32.toNatClampNeg ((sA g (5 + 10 * w) (upd (g.1 (5 + 10 * w)) (Int32.toNatClampNeg (g.2 (3 + w))) x1)).2 (3 + w))) x2)).1 (7 + 10 * w)) (Int32.toNatClampNeg ((sA (sA g (5 + 10 * w) (upd (g.1 (5 + 10 * w)) (Int32.toNatClampNeg (g.2 (3 + w))) x1)) (6 + 10 * w) (upd ((sA g (5 + 10 * w) (upd (g.1 (5 + 10 * w)) (Int32.toNatClampNeg (g.2 (3 + w))) x1)).1 (6 + 10 * w)) (Int32.toNatClampNeg ((sA g (5 + 10 * w) (upd (g.1 (5 + 10 * w)) (Int32.toNatClampNeg (g.2 (3 + w))) x1)).2 (3 + w))) x2)).2 (3 + w))) x3)).1 (8 + 10 * w)) (Int32.toNatClampNeg ((sA (sA (sA g (5 + 10 * w) (upd (g.1 (5 + 10 * w)) (Int32.toNatClampNeg (g.2 (3 + w))) x1)) (6 + 10 * w) (upd ((sA g (5 + 10 * w) (upd (g.1 (5 + 10 * w)) (Int32.toNatClampNeg (g.2 (3 + w))) x1)).1 (6 + 10 * w)) (Int32.toNatClampNeg ((sA g (5 + 10 * w) (upd (g.1 (5 + 10 * w)) (Int32.toNatClampNeg (g.2 (3 + w))) x1)).2 (3 + w))) x2)) (7 + 10 * w) (upd ((sA (sA g (5 + 10 * w) (upd (g.1 (5 + 10 * w)) (Int32.toNatClampNeg (g.2 (3 + w))) x1)) (6 + 10 * w) (upd ((sA g (5 + 10 * w) (upd (g.1 (5 + 10 * w)) (Int32.toNatClampNeg (g.2 (3 + w))) x1)).1 (6 + 10 * w)) (Int32.toNatClampNeg ((sA g (5 + 10 * w) (upd (g.1 (5 + 10 * w)) (Int32.toNatClampNeg (g.2 (3 + w))) x1)).2 (3 + w))) x2)).1 (7 + 10 * w)) (Int32.toNatClampNeg ((sA (sA g (5 + 10 * w) (upd (g.1 (5 + 10 * w)) (Int32.toNatClampNeg (g.2 (3 + w))) x1)) (6 + 10 * w) (upd ((sA g (5 + 10 * w) (upd (g.1 (5 + 10 * w)) (Int32.toNatClampNeg (g.2 (3 + w))) x1)).1 (6 + 10 * w)) (Int32.toNatClampNeg ((sA g (5 + 10 * w) (upd (g.1 (5 + 10 * w)) (Int32.toNatClampNeg (g.2 (3 + w))) x1)).2 (3 + w))) x2)).2 (3 + w))) x3)).2 (3 + w))) x3)).2 (3 + w)) + 1))))))) ∧ (¬ (g.2 (3 + w)) < 24 → post (-1) g))
abbrev rm_X5_put : Room := { frames := 0, cells := 0, slots := 0, locals := 0 }
set_option maxHeartbeats 4000000 in
set_option maxRecDepth 100000 in
theorem c_X5_put (l : Launch) (D : va_G) (cs az a : Nat → Nat) {w : Nat} (hw : w < 2) (x1 : Int32) (x2 : Int32) (x3 : Int32) (g : St) (post : Int32 → St → Prop) (hv : V_X5_put w x1 x2 x3 g post) : uMi l yX5_put wsX5_put rm_X5_put D cs az (gW cs a) [.ref (a (4 + 10 * w)), .int x1, .int x2, .int x3] g post := by
  refine u_ofI (cc := cX5_put) (maxL := 4) (by decide) rfl (Nat.le_of_ble_eq_true rfl) ?_
  intro p e s m args below meth c F ls hC hr hk hl hE
  have hx := hC.1.1; have hb := hC.1.2.1; have hml := hC.1.2.2.1; have hts := hC.1.2.2.2.2
  have hown : s.vm.findClass RX5 = some m.cls := hC.1.2.2.2.1
  have hl : lv_has ls 4 [(0, .ref (a (4 + 10 * w))), (1, .int x1), (2, .int x2), (3, .int x3)] := hl
  unfold V_X5_put at hv
  refine lv_aload_n hx hb dX5_put_0 rfl (lv_at hl 0 rfl) ?_
  refine G_get (v := .int (g.2 (3 + w))) hC hE (fun _ h => List.mem_cons_of_mem _ (List.mem_append_left _ (List.mem_append_right _ h))) (f_units hw) rfl 4 (by decide) (hts (.fieldLink RX5 24 "SeedBattle$Units" "count" "I") (List.mem_of_getElem? (i := 1) rfl)) rfl dX5_put_1 ?_
  refine lv_bipush (v := 24) hx hb dX5_put_4 (by decide) ?_
  refine lv_icmp_lt (tgt := 11) hx hb dX5_put_6 (by decide) (fun c => ?_) (fun c => ?_)
  · have hv := hv.1 c
    refine lv_aload_n hx hb dX5_put_11 rfl (lv_at hl 0 rfl) ?_
    refine G_get (v := .ref (a (5 + 10 * w))) hC hE (fun _ h => List.mem_cons_of_mem _ (List.mem_append_left _ (List.mem_append_right _ h))) (f_units hw) rfl 0 (by decide) (hts (.fieldLink RX5 9 "SeedBattle$Units" "owners" "[I") (List.mem_of_getElem? (i := 2) rfl)) rfl dX5_put_12 ?_
    refine lv_aload_n hx hb dX5_put_15 rfl (lv_at hl 0 rfl) ?_
    refine G_get (v := .int (g.2 (3 + w))) hC hE (fun _ h => List.mem_cons_of_mem _ (List.mem_append_left _ (List.mem_append_right _ h))) (f_units hw) rfl 4 (by decide) (hts (.fieldLink RX5 24 "SeedBattle$Units" "count" "I") (List.mem_of_getElem? (i := 1) rfl)) rfl dX5_put_16 ?_
    refine lv_iload_n hx hb dX5_put_19 rfl (lv_at hl 1 rfl) ?_
    refine G_iast hC hE (f_owners hw) hv.1 dX5_put_20 (fun H locs hE => ?_)
    have hv := hv.2
    refine lv_aload_n hx hb dX5_put_21 rfl (lv_at hl 0 rfl) ?_
    refine G_get (v := .ref (a (6 + 10 * w))) hC hE (fun _ h => List.mem_cons_of_mem _ (List.mem_append_left _ (List.mem_append_right _ h))) (f_units hw) rfl 1 (by decide) (hts (.fieldLink RX5 15 "SeedBattle$Units" "kinds" "[I") (List.mem_of_getElem? (i := 3) rfl)) rfl dX5_put_22 ?_
    refine lv_aload_n hx hb dX5_put_25 rfl (lv_at hl 0 rfl) ?_
    refine G_get (v := .int ((sA g (5 + 10 * w) (upd (g.1 (5 + 10 * w)) (Int32.toNatClampNeg (g.2 (3 + w))) x1)).2 (3 + w))) hC hE (fun _ h => List.mem_cons_of_mem _ (List.mem_append_left _ (List.mem_append_right _ h))) (f_units hw) rfl 4 (by decide) (hts (.fieldLink RX5 24 "SeedBattle$Units" "count" "I") (List.mem_of_getElem? (i := 1) rfl)) rfl dX5_put_26 ?_
    refine lv_iload_n hx hb dX5_put_29 rfl (lv_at hl 2 rfl) ?_
    refine G_iast hC hE (f_kinds hw) hv.1 dX5_put_30 (fun H locs hE => ?_)
    have hv := hv.2
    refine lv_aload_n hx hb dX5_put_31 rfl (lv_at hl 0 rfl) ?_
    refine G_get (v := .ref (a (7 + 10 * w))) hC hE (fun _ h => List.mem_cons_of_mem _ (List.mem_append_left _ (List.mem_append_right _ h))) (f_units hw) rfl 2 (by decide) (hts (.fieldLink RX5 18 "SeedBattle$Units" "starts" "[I") (List.mem_of_getElem? (i := 4) rfl)) rfl dX5_put_32 ?_
    refine lv_aload_n hx hb dX5_put_35 rfl (lv_at hl 0 rfl) ?_
    refine G_get (v := .int ((sA (sA g (5 + 10 * w) (upd (g.1 (5 + 10 * w)) (Int32.toNatClampNeg (g.2 (3 + w))) x1)) (6 + 10 * w) (upd ((sA g (5 + 10 * w) (upd (g.1 (5 + 10 * w)) (Int32.toNatClampNeg (g.2 (3 + w))) x1)).1 (6 + 10 * w)) (Int32.toNatClampNeg ((sA g (5 + 10 * w) (upd (g.1 (5 + 10 * w)) (Int32.toNatClampNeg (g.2 (3 + w))) x1)).2 (3 + w))) x2)).2 (3 + w))) hC hE (fun _ h => List.mem_cons_of_mem _ (List.mem_append_left _ (List.mem_append_right _ h))) (f_units hw) rfl 4 (by decide) (hts (.fieldLink RX5 24 "SeedBattle$Units" "count" "I") (List.mem_of_getElem? (i := 1) rfl)) rfl dX5_put_36 ?_
    refine lv_iload_n hx hb dX5_put_39 rfl (lv_at hl 3 rfl) ?_
    refine G_iast hC hE (f_starts hw) hv.1 dX5_put_40 (fun H locs hE => ?_)
    have hv := hv.2
    refine lv_aload_n hx hb dX5_put_41 rfl (lv_at hl 0 rfl) ?_
    refine G_get (v := .ref (a (8 + 10 * w))) hC hE (fun _ h => List.mem_cons_of_mem _ (List.mem_append_left _ (List.mem_append_right _ h))) (f_units hw) rfl 3 (by decide) (hts (.fieldLink RX5 21 "SeedBattle$Units" "places" "[I") (List.mem_of_getElem? (i := 5) rfl)) rfl dX5_put_42 ?_
    refine lv_aload_n hx hb dX5_put_45 rfl (lv_at hl 0 rfl) ?_
    refine G_get (v := .int ((sA (sA (sA g (5 + 10 * w) (upd (g.1 (5 + 10 * w)) (Int32.toNatClampNeg (g.2 (3 + w))) x1)) (6 + 10 * w) (upd ((sA g (5 + 10 * w) (upd (g.1 (5 + 10 * w)) (Int32.toNatClampNeg (g.2 (3 + w))) x1)).1 (6 + 10 * w)) (Int32.toNatClampNeg ((sA g (5 + 10 * w) (upd (g.1 (5 + 10 * w)) (Int32.toNatClampNeg (g.2 (3 + w))) x1)).2 (3 + w))) x2)) (7 + 10 * w) (upd ((sA (sA g (5 + 10 * w) (upd (g.1 (5 + 10 * w)) (Int32.toNatClampNeg (g.2 (3 + w))) x1)) (6 + 10 * w) (upd ((sA g (5 + 10 * w) (upd (g.1 (5 + 10 * w)) (Int32.toNatClampNeg (g.2 (3 + w))) x1)).1 (6 + 10 * w)) (Int32.toNatClampNeg ((sA g (5 + 10 * w) (upd (g.1 (5 + 10 * w)) (Int32.toNatClampNeg (g.2 (3 + w))) x1)).2 (3 + w))) x2)).1 (7 + 10 * w)) (Int32.toNatClampNeg ((sA (sA g (5 + 10 * w) (upd (g.1 (5 + 10 * w)) (Int32.toNatClampNeg (g.2 (3 + w))) x1)) (6 + 10 * w) (upd ((sA g (5 + 10 * w) (upd (g.1 (5 + 10 * w)) (Int32.toNatClampNeg (g.2 (3 + w))) x1)).1 (6 + 10 * w)) (Int32.toNatClampNeg ((sA g (5 + 10 * w) (upd (g.1 (5 + 10 * w)) (Int32.toNatClampNeg (g.2 (3 + w))) x1)).2 (3 + w))) x2)).2 (3 + w))) x3)).2 (3 + w))) hC hE (fun _ h => List.mem_cons_of_mem _ (List.mem_append_left _ (List.mem_append_right _ h))) (f_units hw) rfl 4 (by decide) (hts (.fieldLink RX5 24 "SeedBattle$Units" "count" "I") (List.mem_of_getElem? (i := 1) rfl)) rfl dX5_put_46 ?_
    refine lv_iload_n hx hb dX5_put_49 rfl (lv_at hl 3 rfl) ?_
    refine G_iast hC hE (f_places hw) hv.1 dX5_put_50 (fun H locs hE => ?_)
    have hv := hv.2
    refine lv_aload_n hx hb dX5_put_51 rfl (lv_at hl 0 rfl) ?_
    refine lv_dup hx hb dX5_put_52 rfl ?_
    refine G_get (v := .int ((sA (sA (sA (sA g (5 + 10 * w) (upd (g.1 (5 + 10 * w)) (Int32.toNatClampNeg (g.2 (3 + w))) x1)) (6 + 10 * w) (upd ((sA g (5 + 10 * w) (upd (g.1 (5 + 10 * w)) (Int32.toNatClampNeg (g.2 (3 + w))) x1)).1 (6 + 10 * w)) (Int32.toNatClampNeg ((sA g (5 + 10 * w) (upd (g.1 (5 + 10 * w)) (Int32.toNatClampNeg (g.2 (3 + w))) x1)).2 (3 + w))) x2)) (7 + 10 * w) (upd ((sA (sA g (5 + 10 * w) (upd (g.1 (5 + 10 * w)) (Int32.toNatClampNeg (g.2 (3 + w))) x1)) (6 + 10 * w) (upd ((sA g (5 + 10 * w) (upd (g.1 (5 + 10 * w)) (Int32.toNatClampNeg (g.2 (3 + w))) x1)).1 (6 + 10 * w)) (Int32.toNatClampNeg ((sA g (5 + 10 * w) (upd (g.1 (5 + 10 * w)) (Int32.toNatClampNeg (g.2 (3 + w))) x1)).2 (3 + w))) x2)).1 (7 + 10 * w)) (Int32.toNatClampNeg ((sA (sA g (5 + 10 * w) (upd (g.1 (5 + 10 * w)) (Int32.toNatClampNeg (g.2 (3 + w))) x1)) (6 + 10 * w) (upd ((sA g (5 + 10 * w) (upd (g.1 (5 + 10 * w)) (Int32.toNatClampNeg (g.2 (3 + w))) x1)).1 (6 + 10 * w)) (Int32.toNatClampNeg ((sA g (5 + 10 * w) (upd (g.1 (5 + 10 * w)) (Int32.toNatClampNeg (g.2 (3 + w))) x1)).2 (3 + w))) x2)).2 (3 + w))) x3)) (8 + 10 * w) (upd ((sA (sA (sA g (5 + 10 * w) (upd (g.1 (5 + 10 * w)) (Int32.toNatClampNeg (g.2 (3 + w))) x1)) (6 + 10 * w) (upd ((sA g (5 + 10 * w) (upd (g.1 (5 + 10 * w)) (Int32.toNatClampNeg (g.2 (3 + w))) x1)).1 (6 + 10 * w)) (Int32.toNatClampNeg ((sA g (5 + 10 * w) (upd (g.1 (5 + 10 * w)) (Int32.toNatClampNeg (g.2 (3 + w))) x1)).2 (3 + w))) x2)) (7 + 10 * w) (upd ((sA (sA g (5 + 10 * w) (upd (g.1 (5 + 10 * w)) (Int32.toNatClampNeg (g.2 (3 + w))) x1)) (6 + 10 * w) (upd ((sA g (5 + 10 * w) (upd (g.1 (5 + 10 * w)) (Int32.toNatClampNeg (g.2 (3 + w))) x1)).1 (6 + 10 * w)) (Int32.toNatClampNeg ((sA g (5 + 10 * w) (upd (g.1 (5 + 10 * w)) (Int32.toNatClampNeg (g.2 (3 + w))) x1)).2 (3 + w))) x2)).1 (7 + 10 * w)) (Int32.toNatClampNeg ((sA (sA g (5 + 10 * w) (upd (g.1 (5 + 10 * w)) (Int32.toNatClampNeg (g.2 (3 + w))) x1)) (6 + 10 * w) (upd ((sA g (5 + 10 * w) (upd (g.1 (5 + 10 * w)) (Int32.toNatClampNeg (g.2 (3 + w))) x1)).1 (6 + 10 * w)) (Int32.toNatClampNeg ((sA g (5 + 10 * w) (upd (g.1 (5 + 10 * w)) (Int32.toNatClampNeg (g.2 (3 + w))) x1)).2 (3 + w))) x2)).2 (3 + w))) x3)).1 (8 + 10 * w)) (Int32.toNatClampNeg ((sA (sA (sA g (5 + 10 * w) (upd (g.1 (5 + 10 * w)) (Int32.toNatClampNeg (g.2 (3 + w))) x1)) (6 + 10 * w) (upd ((sA g (5 + 10 * w) (upd (g.1 (5 + 10 * w)) (Int32.toNatClampNeg (g.2 (3 + w))) x1)).1 (6 + 10 * w)) (Int32.toNatClampNeg ((sA g (5 + 10 * w) (upd (g.1 (5 + 10 * w)) (Int32.toNatClampNeg (g.2 (3 + w))) x1)).2 (3 + w))) x2)) (7 + 10 * w) (upd ((sA (sA g (5 + 10 * w) (upd (g.1 (5 + 10 * w)) (Int32.toNatClampNeg (g.2 (3 + w))) x1)) (6 + 10 * w) (upd ((sA g (5 + 10 * w) (upd (g.1 (5 + 10 * w)) (Int32.toNatClampNeg (g.2 (3 + w))) x1)).1 (6 + 10 * w)) (Int32.toNatClampNeg ((sA g (5 + 10 * w) (upd (g.1 (5 + 10 * w)) (Int32.toNatClampNeg (g.2 (3 + w))) x1)).2 (3 + w))) x2)).1 (7 + 10 * w)) (Int32.toNatClampNeg ((sA (sA g (5 + 10 * w) (upd (g.1 (5 + 10 * w)) (Int32.toNatClampNeg (g.2 (3 + w))) x1)) (6 + 10 * w) (upd ((sA g (5 + 10 * w) (upd (g.1 (5 + 10 * w)) (Int32.toNatClampNeg (g.2 (3 + w))) x1)).1 (6 + 10 * w)) (Int32.toNatClampNeg ((sA g (5 + 10 * w) (upd (g.1 (5 + 10 * w)) (Int32.toNatClampNeg (g.2 (3 + w))) x1)).2 (3 + w))) x2)).2 (3 + w))) x3)).2 (3 + w))) x3)).2 (3 + w))) hC hE (fun _ h => List.mem_cons_of_mem _ (List.mem_append_left _ (List.mem_append_right _ h))) (f_units hw) rfl 4 (by decide) (hts (.fieldLink RX5 24 "SeedBattle$Units" "count" "I") (List.mem_of_getElem? (i := 1) rfl)) rfl dX5_put_53 ?_
    refine lv_iconst (v := 1) hx hb dX5_put_56 (by decide) ?_
    refine lv_iadd hx hb dX5_put_57 ?_
    refine G_put (v := (((sA (sA (sA (sA g (5 + 10 * w) (upd (g.1 (5 + 10 * w)) (Int32.toNatClampNeg (g.2 (3 + w))) x1)) (6 + 10 * w) (upd ((sA g (5 + 10 * w) (upd (g.1 (5 + 10 * w)) (Int32.toNatClampNeg (g.2 (3 + w))) x1)).1 (6 + 10 * w)) (Int32.toNatClampNeg ((sA g (5 + 10 * w) (upd (g.1 (5 + 10 * w)) (Int32.toNatClampNeg (g.2 (3 + w))) x1)).2 (3 + w))) x2)) (7 + 10 * w) (upd ((sA (sA g (5 + 10 * w) (upd (g.1 (5 + 10 * w)) (Int32.toNatClampNeg (g.2 (3 + w))) x1)) (6 + 10 * w) (upd ((sA g (5 + 10 * w) (upd (g.1 (5 + 10 * w)) (Int32.toNatClampNeg (g.2 (3 + w))) x1)).1 (6 + 10 * w)) (Int32.toNatClampNeg ((sA g (5 + 10 * w) (upd (g.1 (5 + 10 * w)) (Int32.toNatClampNeg (g.2 (3 + w))) x1)).2 (3 + w))) x2)).1 (7 + 10 * w)) (Int32.toNatClampNeg ((sA (sA g (5 + 10 * w) (upd (g.1 (5 + 10 * w)) (Int32.toNatClampNeg (g.2 (3 + w))) x1)) (6 + 10 * w) (upd ((sA g (5 + 10 * w) (upd (g.1 (5 + 10 * w)) (Int32.toNatClampNeg (g.2 (3 + w))) x1)).1 (6 + 10 * w)) (Int32.toNatClampNeg ((sA g (5 + 10 * w) (upd (g.1 (5 + 10 * w)) (Int32.toNatClampNeg (g.2 (3 + w))) x1)).2 (3 + w))) x2)).2 (3 + w))) x3)) (8 + 10 * w) (upd ((sA (sA (sA g (5 + 10 * w) (upd (g.1 (5 + 10 * w)) (Int32.toNatClampNeg (g.2 (3 + w))) x1)) (6 + 10 * w) (upd ((sA g (5 + 10 * w) (upd (g.1 (5 + 10 * w)) (Int32.toNatClampNeg (g.2 (3 + w))) x1)).1 (6 + 10 * w)) (Int32.toNatClampNeg ((sA g (5 + 10 * w) (upd (g.1 (5 + 10 * w)) (Int32.toNatClampNeg (g.2 (3 + w))) x1)).2 (3 + w))) x2)) (7 + 10 * w) (upd ((sA (sA g (5 + 10 * w) (upd (g.1 (5 + 10 * w)) (Int32.toNatClampNeg (g.2 (3 + w))) x1)) (6 + 10 * w) (upd ((sA g (5 + 10 * w) (upd (g.1 (5 + 10 * w)) (Int32.toNatClampNeg (g.2 (3 + w))) x1)).1 (6 + 10 * w)) (Int32.toNatClampNeg ((sA g (5 + 10 * w) (upd (g.1 (5 + 10 * w)) (Int32.toNatClampNeg (g.2 (3 + w))) x1)).2 (3 + w))) x2)).1 (7 + 10 * w)) (Int32.toNatClampNeg ((sA (sA g (5 + 10 * w) (upd (g.1 (5 + 10 * w)) (Int32.toNatClampNeg (g.2 (3 + w))) x1)) (6 + 10 * w) (upd ((sA g (5 + 10 * w) (upd (g.1 (5 + 10 * w)) (Int32.toNatClampNeg (g.2 (3 + w))) x1)).1 (6 + 10 * w)) (Int32.toNatClampNeg ((sA g (5 + 10 * w) (upd (g.1 (5 + 10 * w)) (Int32.toNatClampNeg (g.2 (3 + w))) x1)).2 (3 + w))) x2)).2 (3 + w))) x3)).1 (8 + 10 * w)) (Int32.toNatClampNeg ((sA (sA (sA g (5 + 10 * w) (upd (g.1 (5 + 10 * w)) (Int32.toNatClampNeg (g.2 (3 + w))) x1)) (6 + 10 * w) (upd ((sA g (5 + 10 * w) (upd (g.1 (5 + 10 * w)) (Int32.toNatClampNeg (g.2 (3 + w))) x1)).1 (6 + 10 * w)) (Int32.toNatClampNeg ((sA g (5 + 10 * w) (upd (g.1 (5 + 10 * w)) (Int32.toNatClampNeg (g.2 (3 + w))) x1)).2 (3 + w))) x2)) (7 + 10 * w) (upd ((sA (sA g (5 + 10 * w) (upd (g.1 (5 + 10 * w)) (Int32.toNatClampNeg (g.2 (3 + w))) x1)) (6 + 10 * w) (upd ((sA g (5 + 10 * w) (upd (g.1 (5 + 10 * w)) (Int32.toNatClampNeg (g.2 (3 + w))) x1)).1 (6 + 10 * w)) (Int32.toNatClampNeg ((sA g (5 + 10 * w) (upd (g.1 (5 + 10 * w)) (Int32.toNatClampNeg (g.2 (3 + w))) x1)).2 (3 + w))) x2)).1 (7 + 10 * w)) (Int32.toNatClampNeg ((sA (sA g (5 + 10 * w) (upd (g.1 (5 + 10 * w)) (Int32.toNatClampNeg (g.2 (3 + w))) x1)) (6 + 10 * w) (upd ((sA g (5 + 10 * w) (upd (g.1 (5 + 10 * w)) (Int32.toNatClampNeg (g.2 (3 + w))) x1)).1 (6 + 10 * w)) (Int32.toNatClampNeg ((sA g (5 + 10 * w) (upd (g.1 (5 + 10 * w)) (Int32.toNatClampNeg (g.2 (3 + w))) x1)).2 (3 + w))) x2)).2 (3 + w))) x3)).2 (3 + w))) x3)).2 (3 + w)) + 1)) (ty := .int) hC hE (fun _ h => List.mem_cons_of_mem _ (List.mem_append_left _ (List.mem_append_right _ h))) tyX5 tyX5_ok nmX5 (f_units hw) rfl 4 (3 + w) (by decide) (hts (.fieldLink RX5 24 "SeedBattle$Units" "count" "I") (List.mem_of_getElem? (i := 1) rfl)) rfl (by decide +kernel) rfl rfl (Nat.le_of_ble_eq_true rfl) (p_units_count_e (w := w)) (p_units_count_o (w := w) hw) dX5_put_58 (fun H locs hE => ?_)
    refine lv_aload_n hx hb dX5_put_61 rfl (lv_at hl 0 rfl) ?_
    refine G_get (v := .int ((sS (sA (sA (sA (sA g (5 + 10 * w) (upd (g.1 (5 + 10 * w)) (Int32.toNatClampNeg (g.2 (3 + w))) x1)) (6 + 10 * w) (upd ((sA g (5 + 10 * w) (upd (g.1 (5 + 10 * w)) (Int32.toNatClampNeg (g.2 (3 + w))) x1)).1 (6 + 10 * w)) (Int32.toNatClampNeg ((sA g (5 + 10 * w) (upd (g.1 (5 + 10 * w)) (Int32.toNatClampNeg (g.2 (3 + w))) x1)).2 (3 + w))) x2)) (7 + 10 * w) (upd ((sA (sA g (5 + 10 * w) (upd (g.1 (5 + 10 * w)) (Int32.toNatClampNeg (g.2 (3 + w))) x1)) (6 + 10 * w) (upd ((sA g (5 + 10 * w) (upd (g.1 (5 + 10 * w)) (Int32.toNatClampNeg (g.2 (3 + w))) x1)).1 (6 + 10 * w)) (Int32.toNatClampNeg ((sA g (5 + 10 * w) (upd (g.1 (5 + 10 * w)) (Int32.toNatClampNeg (g.2 (3 + w))) x1)).2 (3 + w))) x2)).1 (7 + 10 * w)) (Int32.toNatClampNeg ((sA (sA g (5 + 10 * w) (upd (g.1 (5 + 10 * w)) (Int32.toNatClampNeg (g.2 (3 + w))) x1)) (6 + 10 * w) (upd ((sA g (5 + 10 * w) (upd (g.1 (5 + 10 * w)) (Int32.toNatClampNeg (g.2 (3 + w))) x1)).1 (6 + 10 * w)) (Int32.toNatClampNeg ((sA g (5 + 10 * w) (upd (g.1 (5 + 10 * w)) (Int32.toNatClampNeg (g.2 (3 + w))) x1)).2 (3 + w))) x2)).2 (3 + w))) x3)) (8 + 10 * w) (upd ((sA (sA (sA g (5 + 10 * w) (upd (g.1 (5 + 10 * w)) (Int32.toNatClampNeg (g.2 (3 + w))) x1)) (6 + 10 * w) (upd ((sA g (5 + 10 * w) (upd (g.1 (5 + 10 * w)) (Int32.toNatClampNeg (g.2 (3 + w))) x1)).1 (6 + 10 * w)) (Int32.toNatClampNeg ((sA g (5 + 10 * w) (upd (g.1 (5 + 10 * w)) (Int32.toNatClampNeg (g.2 (3 + w))) x1)).2 (3 + w))) x2)) (7 + 10 * w) (upd ((sA (sA g (5 + 10 * w) (upd (g.1 (5 + 10 * w)) (Int32.toNatClampNeg (g.2 (3 + w))) x1)) (6 + 10 * w) (upd ((sA g (5 + 10 * w) (upd (g.1 (5 + 10 * w)) (Int32.toNatClampNeg (g.2 (3 + w))) x1)).1 (6 + 10 * w)) (Int32.toNatClampNeg ((sA g (5 + 10 * w) (upd (g.1 (5 + 10 * w)) (Int32.toNatClampNeg (g.2 (3 + w))) x1)).2 (3 + w))) x2)).1 (7 + 10 * w)) (Int32.toNatClampNeg ((sA (sA g (5 + 10 * w) (upd (g.1 (5 + 10 * w)) (Int32.toNatClampNeg (g.2 (3 + w))) x1)) (6 + 10 * w) (upd ((sA g (5 + 10 * w) (upd (g.1 (5 + 10 * w)) (Int32.toNatClampNeg (g.2 (3 + w))) x1)).1 (6 + 10 * w)) (Int32.toNatClampNeg ((sA g (5 + 10 * w) (upd (g.1 (5 + 10 * w)) (Int32.toNatClampNeg (g.2 (3 + w))) x1)).2 (3 + w))) x2)).2 (3 + w))) x3)).1 (8 + 10 * w)) (Int32.toNatClampNeg ((sA (sA (sA g (5 + 10 * w) (upd (g.1 (5 + 10 * w)) (Int32.toNatClampNeg (g.2 (3 + w))) x1)) (6 + 10 * w) (upd ((sA g (5 + 10 * w) (upd (g.1 (5 + 10 * w)) (Int32.toNatClampNeg (g.2 (3 + w))) x1)).1 (6 + 10 * w)) (Int32.toNatClampNeg ((sA g (5 + 10 * w) (upd (g.1 (5 + 10 * w)) (Int32.toNatClampNeg (g.2 (3 + w))) x1)).2 (3 + w))) x2)) (7 + 10 * w) (upd ((sA (sA g (5 + 10 * w) (upd (g.1 (5 + 10 * w)) (Int32.toNatClampNeg (g.2 (3 + w))) x1)) (6 + 10 * w) (upd ((sA g (5 + 10 * w) (upd (g.1 (5 + 10 * w)) (Int32.toNatClampNeg (g.2 (3 + w))) x1)).1 (6 + 10 * w)) (Int32.toNatClampNeg ((sA g (5 + 10 * w) (upd (g.1 (5 + 10 * w)) (Int32.toNatClampNeg (g.2 (3 + w))) x1)).2 (3 + w))) x2)).1 (7 + 10 * w)) (Int32.toNatClampNeg ((sA (sA g (5 + 10 * w) (upd (g.1 (5 + 10 * w)) (Int32.toNatClampNeg (g.2 (3 + w))) x1)) (6 + 10 * w) (upd ((sA g (5 + 10 * w) (upd (g.1 (5 + 10 * w)) (Int32.toNatClampNeg (g.2 (3 + w))) x1)).1 (6 + 10 * w)) (Int32.toNatClampNeg ((sA g (5 + 10 * w) (upd (g.1 (5 + 10 * w)) (Int32.toNatClampNeg (g.2 (3 + w))) x1)).2 (3 + w))) x2)).2 (3 + w))) x3)).2 (3 + w))) x3)) (3 + w) (((sA (sA (sA (sA g (5 + 10 * w) (upd (g.1 (5 + 10 * w)) (Int32.toNatClampNeg (g.2 (3 + w))) x1)) (6 + 10 * w) (upd ((sA g (5 + 10 * w) (upd (g.1 (5 + 10 * w)) (Int32.toNatClampNeg (g.2 (3 + w))) x1)).1 (6 + 10 * w)) (Int32.toNatClampNeg ((sA g (5 + 10 * w) (upd (g.1 (5 + 10 * w)) (Int32.toNatClampNeg (g.2 (3 + w))) x1)).2 (3 + w))) x2)) (7 + 10 * w) (upd ((sA (sA g (5 + 10 * w) (upd (g.1 (5 + 10 * w)) (Int32.toNatClampNeg (g.2 (3 + w))) x1)) (6 + 10 * w) (upd ((sA g (5 + 10 * w) (upd (g.1 (5 + 10 * w)) (Int32.toNatClampNeg (g.2 (3 + w))) x1)).1 (6 + 10 * w)) (Int32.toNatClampNeg ((sA g (5 + 10 * w) (upd (g.1 (5 + 10 * w)) (Int32.toNatClampNeg (g.2 (3 + w))) x1)).2 (3 + w))) x2)).1 (7 + 10 * w)) (Int32.toNatClampNeg ((sA (sA g (5 + 10 * w) (upd (g.1 (5 + 10 * w)) (Int32.toNatClampNeg (g.2 (3 + w))) x1)) (6 + 10 * w) (upd ((sA g (5 + 10 * w) (upd (g.1 (5 + 10 * w)) (Int32.toNatClampNeg (g.2 (3 + w))) x1)).1 (6 + 10 * w)) (Int32.toNatClampNeg ((sA g (5 + 10 * w) (upd (g.1 (5 + 10 * w)) (Int32.toNatClampNeg (g.2 (3 + w))) x1)).2 (3 + w))) x2)).2 (3 + w))) x3)) (8 + 10 * w) (upd ((sA (sA (sA g (5 + 10 * w) (upd (g.1 (5 + 10 * w)) (Int32.toNatClampNeg (g.2 (3 + w))) x1)) (6 + 10 * w) (upd ((sA g (5 + 10 * w) (upd (g.1 (5 + 10 * w)) (Int32.toNatClampNeg (g.2 (3 + w))) x1)).1 (6 + 10 * w)) (Int32.toNatClampNeg ((sA g (5 + 10 * w) (upd (g.1 (5 + 10 * w)) (Int32.toNatClampNeg (g.2 (3 + w))) x1)).2 (3 + w))) x2)) (7 + 10 * w) (upd ((sA (sA g (5 + 10 * w) (upd (g.1 (5 + 10 * w)) (Int32.toNatClampNeg (g.2 (3 + w))) x1)) (6 + 10 * w) (upd ((sA g (5 + 10 * w) (upd (g.1 (5 + 10 * w)) (Int32.toNatClampNeg (g.2 (3 + w))) x1)).1 (6 + 10 * w)) (Int32.toNatClampNeg ((sA g (5 + 10 * w) (upd (g.1 (5 + 10 * w)) (Int32.toNatClampNeg (g.2 (3 + w))) x1)).2 (3 + w))) x2)).1 (7 + 10 * w)) (Int32.toNatClampNeg ((sA (sA g (5 + 10 * w) (upd (g.1 (5 + 10 * w)) (Int32.toNatClampNeg (g.2 (3 + w))) x1)) (6 + 10 * w) (upd ((sA g (5 + 10 * w) (upd (g.1 (5 + 10 * w)) (Int32.toNatClampNeg (g.2 (3 + w))) x1)).1 (6 + 10 * w)) (Int32.toNatClampNeg ((sA g (5 + 10 * w) (upd (g.1 (5 + 10 * w)) (Int32.toNatClampNeg (g.2 (3 + w))) x1)).2 (3 + w))) x2)).2 (3 + w))) x3)).1 (8 + 10 * w)) (Int32.toNatClampNeg ((sA (sA (sA g (5 + 10 * w) (upd (g.1 (5 + 10 * w)) (Int32.toNatClampNeg (g.2 (3 + w))) x1)) (6 + 10 * w) (upd ((sA g (5 + 10 * w) (upd (g.1 (5 + 10 * w)) (Int32.toNatClampNeg (g.2 (3 + w))) x1)).1 (6 + 10 * w)) (Int32.toNatClampNeg ((sA g (5 + 10 * w) (upd (g.1 (5 + 10 * w)) (Int32.toNatClampNeg (g.2 (3 + w))) x1)).2 (3 + w))) x2)) (7 + 10 * w) (upd ((sA (sA g (5 + 10 * w) (upd (g.1 (5 + 10 * w)) (Int32.toNatClampNeg (g.2 (3 + w))) x1)) (6 + 10 * w) (upd ((sA g (5 + 10 * w) (upd (g.1 (5 + 10 * w)) (Int32.toNatClampNeg (g.2 (3 + w))) x1)).1 (6 + 10 * w)) (Int32.toNatClampNeg ((sA g (5 + 10 * w) (upd (g.1 (5 + 10 * w)) (Int32.toNatClampNeg (g.2 (3 + w))) x1)).2 (3 + w))) x2)).1 (7 + 10 * w)) (Int32.toNatClampNeg ((sA (sA g (5 + 10 * w) (upd (g.1 (5 + 10 * w)) (Int32.toNatClampNeg (g.2 (3 + w))) x1)) (6 + 10 * w) (upd ((sA g (5 + 10 * w) (upd (g.1 (5 + 10 * w)) (Int32.toNatClampNeg (g.2 (3 + w))) x1)).1 (6 + 10 * w)) (Int32.toNatClampNeg ((sA g (5 + 10 * w) (upd (g.1 (5 + 10 * w)) (Int32.toNatClampNeg (g.2 (3 + w))) x1)).2 (3 + w))) x2)).2 (3 + w))) x3)).2 (3 + w))) x3)).2 (3 + w)) + 1)).2 (3 + w))) hC hE (fun _ h => List.mem_cons_of_mem _ (List.mem_append_left _ (List.mem_append_right _ h))) (f_units hw) rfl 4 (by decide) (hts (.fieldLink RX5 24 "SeedBattle$Units" "count" "I") (List.mem_of_getElem? (i := 1) rfl)) rfl dX5_put_62 ?_
    refine lv_iconst (v := 1) hx hb dX5_put_65 (by decide) ?_
    refine lv_isub hx hb dX5_put_66 ?_
    exact G_iret hC hr hk hE hv dX5_put_67
  · have hv := hv.2 c
    refine lv_iconst (v := (-1)) hx hb dX5_put_9 (by decide) ?_
    exact G_iret hC hr hk hE hv dX5_put_10
def J_X5_startLike_7  (post : St → Prop) (K7 : (Int32 × St) → Prop) (v2 : Int32) (g : St) : Prop := (((g.2 3) ≤ v2 → post g) ∧ (¬ (g.2 3) ≤ v2 → vp_in v2 24 ∧ (vp_in v2 24 ∧ (vp_in v2 24 ∧ (V_X5_put 1 (g.1 5 (Int32.toNatClampNeg v2)) (g.1 6 (Int32.toNatClampNeg v2)) (g.1 7 (Int32.toNatClampNeg v2)) g (fun r2 g1 => K7 ((v2 + 1), g1)))))))
def V_X5_startLike  (g : St) (post : St → Prop) : Prop := lpP (fun K7 (z : Int32 × St) => J_X5_startLike_7 post K7 z.1 z.2) (0, (sS g 4 0))
abbrev rm_X5_startLike : Room := { frames := 1, cells := 0, slots := 0, locals := 23 }
set_option maxHeartbeats 4000000 in
set_option maxRecDepth 100000 in
theorem c_X5_startLike (l : Launch) (D : va_G) (cs az a : Nat → Nat)  (g : St) (post : St → Prop) (hv : V_X5_startLike  g post) : uMv l yX5_startLike wsX5_startLike rm_X5_startLike D cs az (gW cs a) [.ref (a 14), .ref (a 4)] g post := by
  refine u_ofV (cc := cX5_startLike) (maxL := 3) (by decide) rfl (Nat.le_of_ble_eq_true rfl) ?_
  intro p e s m args below meth c F ls hC hr hk hl hE
  have hx := hC.1.1; have hb := hC.1.2.1; have hml := hC.1.2.2.1; have hts := hC.1.2.2.2.2
  have hown : s.vm.findClass RX5 = some m.cls := hC.1.2.2.2.1
  have hl : lv_has ls 3 [(0, .ref (a 14)), (1, .ref (a 4))] := hl
  unfold V_X5_startLike at hv
  have j_7 : ∀ (v2 : Int32) (g : St), lpP (fun K7 (z : Int32 × St) => J_X5_startLike_7 post K7 z.1 z.2) (v2, g) → ∀ (H : Heap) (locs : List Loc) (ls : Array Slot), uE D 52 gA (gO cs a) cs a F s g H locs → lv_has ls 3 [(0, .ref (a 14)), (1, .ref (a 4)), (2, .int v2)] → W p l e rm_X5_startLike s m args below meth c H locs 0 0 (MQ below (va_Qv post (uB D (uW 52 gA (gO cs a) cs a)) F) args s 0 0 F) (F0 m 7 ls []) := by
    intro  v2 g  hv
    obtain ⟨n, hv⟩ := hv
    induction n generalizing v2 g with
    | zero => exact False.elim hv
    | succ n hK7 =>
      intro H locs ls hE hl
      have hv : J_X5_startLike_7 post (itP _ n) v2 g := hv
      unfold J_X5_startLike_7 at hv
      refine lv_iload_n hx hb dX5_startLike_7 rfl (lv_at hl 2 rfl) ?_
      refine lv_aload_n hx hb dX5_startLike_8 rfl (lv_at hl 1 rfl) ?_
      refine G_get (v := .int (g.2 3)) hC hE (fun _ h => List.mem_cons_of_mem _ (List.mem_append_left _ (List.mem_append_right _ h))) (f_units (w := 0) (by decide)) rfl 4 (by decide) (hts (.fieldLink RX5 24 "SeedBattle$Units" "count" "I") (List.mem_of_getElem? (i := 1) rfl)) rfl dX5_startLike_9 ?_
      refine lv_icmp_ge (tgt := 44) hx hb dX5_startLike_12 (by decide) (fun c => ?_) (fun c => ?_)
      · have hv := hv.1 c
        exact G_vret hC hr hk hE hv dX5_startLike_44
      · have hv := hv.2 c
        refine lv_aload_n hx hb dX5_startLike_15 rfl (lv_at hl 0 rfl) ?_
        refine lv_aload_n hx hb dX5_startLike_16 rfl (lv_at hl 1 rfl) ?_
        refine G_get (v := .ref (a 5)) hC hE (fun _ h => List.mem_cons_of_mem _ (List.mem_append_left _ (List.mem_append_right _ h))) (f_units (w := 0) (by decide)) rfl 0 (by decide) (hts (.fieldLink RX5 9 "SeedBattle$Units" "owners" "[I") (List.mem_of_getElem? (i := 2) rfl)) rfl dX5_startLike_17 ?_
        refine lv_iload_n hx hb dX5_startLike_20 rfl (lv_at hl 2 rfl) ?_
        refine G_iald hC hE (f_owners (w := 0) (by decide)) hv.1 dX5_startLike_21 ?_
        have hv := hv.2
        refine lv_aload_n hx hb dX5_startLike_22 rfl (lv_at hl 1 rfl) ?_
        refine G_get (v := .ref (a 6)) hC hE (fun _ h => List.mem_cons_of_mem _ (List.mem_append_left _ (List.mem_append_right _ h))) (f_units (w := 0) (by decide)) rfl 1 (by decide) (hts (.fieldLink RX5 15 "SeedBattle$Units" "kinds" "[I") (List.mem_of_getElem? (i := 3) rfl)) rfl dX5_startLike_23 ?_
        refine lv_iload_n hx hb dX5_startLike_26 rfl (lv_at hl 2 rfl) ?_
        refine G_iald hC hE (f_kinds (w := 0) (by decide)) hv.1 dX5_startLike_27 ?_
        have hv := hv.2
        refine lv_aload_n hx hb dX5_startLike_28 rfl (lv_at hl 1 rfl) ?_
        refine G_get (v := .ref (a 7)) hC hE (fun _ h => List.mem_cons_of_mem _ (List.mem_append_left _ (List.mem_append_right _ h))) (f_units (w := 0) (by decide)) rfl 2 (by decide) (hts (.fieldLink RX5 18 "SeedBattle$Units" "starts" "[I") (List.mem_of_getElem? (i := 4) rfl)) rfl dX5_startLike_29 ?_
        refine lv_iload_n hx hb dX5_startLike_32 rfl (lv_at hl 2 rfl) ?_
        refine G_iald hC hE (f_starts (w := 0) (by decide)) hv.1 dX5_startLike_33 ?_
        have hv := hv.2
        refine G_callVi hC (c_X5_put l D cs az a (w := 1) (by decide) (g.1 5 (Int32.toNatClampNeg v2)) (g.1 6 (Int32.toNatClampNeg v2)) (g.1 7 (Int32.toNatClampNeg v2)) g _ hv) (cwV 3 hts gX5_startLike_X5_put rfl rfl rfl (by decide +kernel) ⟨Nat.le_of_ble_eq_true rfl, Nat.le_of_ble_eq_true rfl⟩) (f_units (w := 1) (by decide)) rfl rfl hl rfl (Nat.le_of_ble_eq_true rfl) dX5_startLike_34 hE (fun r2 g1 H locs hv hE => ?_)
        refine lv_pop hx hb dX5_startLike_37 rfl ?_
        refine lv_iinc (v := (v2 + 1)) (lv' := [(2, .int (v2 + 1)), (0, .ref (a 14)), (1, .ref (a 4))]) hx hb dX5_startLike_38 hl (k := 2) rfl rfl (by decide) rfl (fun ls hl => ?_)
        refine lv_goto (tgt := 7) hx hb dX5_startLike_41 (by decide) ?_
        exact hK7 _ _  hv _ _ _ hE (lv_sub hl [1, 2, 0] rfl)
  refine lv_aload_n hx hb dX5_startLike_0 rfl (lv_at hl 0 rfl) ?_
  refine lv_iconst (v := 0) hx hb dX5_startLike_1 (by decide) ?_
  refine G_put (v := 0) (ty := .int) hC hE (fun _ h => List.mem_cons_of_mem _ (List.mem_append_left _ (List.mem_append_right _ h))) tyX5 tyX5_ok nmX5 (f_units (w := 1) (by decide)) rfl 4 4 (by decide) (hts (.fieldLink RX5 24 "SeedBattle$Units" "count" "I") (List.mem_of_getElem? (i := 1) rfl)) rfl (by decide +kernel) rfl rfl (Nat.le_of_ble_eq_true rfl) (p_units_count_e (w := 1)) (p_units_count_o (w := 1) (by decide)) dX5_startLike_2 (fun H locs hE => ?_)
  refine lv_iconst (v := 0) hx hb dX5_startLike_5 (by decide) ?_
  refine lv_istore_n (lv' := [(2, .int 0), (0, .ref (a 14)), (1, .ref (a 4))]) hx hb dX5_startLike_6 rfl hl (by decide) rfl (fun ls hl => ?_)
  exact j_7  _ _  hv _ _ _ hE (lv_sub hl [1, 2, 0] rfl)
end
