section
-- ===== PART A: goes FIRST, ahead of the names: the tables' words, and 'selects' of the private methods out of them =====
/-- a private method of a class that the tables say can be made, by its rows of tables_1 -/
def lw_okq (q : MethodName × Nat) : Prop := (q.1.cls ≠ "java/lang/invoke/MethodHandle" ∧ q.1.cls ≠ "java/lang/invoke/VarHandle") ∧ Cond.instantiable q.1.cls q.2 ∈ tables_1 ∧ Cond.privateMethod q.1 ∈ tables_1 ∧ Cond.instanceMethod q.1 ∈ tables_1
theorem lw_p0 : lw_okq (⟨"VaultMovements", "readBuffer", "()I"⟩, 6) := ⟨⟨by decide +kernel, by decide +kernel⟩, List.mem_of_getElem? (i := 14) (by decide +kernel), List.mem_of_getElem? (i := 71) (by decide +kernel), List.mem_of_getElem? (i := 72) (by decide +kernel)⟩
theorem lw_p1 : lw_okq (⟨"VaultMovements$Windings", "takeComma", "()Z"⟩, 4) := ⟨⟨by decide +kernel, by decide +kernel⟩, List.mem_of_getElem? (i := 22) (by decide +kernel), List.mem_of_getElem? (i := 83) (by decide +kernel), List.mem_of_getElem? (i := 84) (by decide +kernel)⟩
theorem lw_p2 : lw_okq (⟨"VaultMovements$Windings", "isPartComplete", "()Z"⟩, 4) := ⟨⟨by decide +kernel, by decide +kernel⟩, List.mem_of_getElem? (i := 22) (by decide +kernel), List.mem_of_getElem? (i := 87) (by decide +kernel), List.mem_of_getElem? (i := 88) (by decide +kernel)⟩
theorem lw_p3 : lw_okq (⟨"VaultMovements$Windings", "takeFirst", "(I)Z"⟩, 4) := ⟨⟨by decide +kernel, by decide +kernel⟩, List.mem_of_getElem? (i := 22) (by decide +kernel), List.mem_of_getElem? (i := 91) (by decide +kernel), List.mem_of_getElem? (i := 92) (by decide +kernel)⟩
theorem lw_p4 : lw_okq (⟨"VaultMovements$Windings", "takeNextDigit", "(I)Z"⟩, 4) := ⟨⟨by decide +kernel, by decide +kernel⟩, List.mem_of_getElem? (i := 22) (by decide +kernel), List.mem_of_getElem? (i := 95) (by decide +kernel), List.mem_of_getElem? (i := 96) (by decide +kernel)⟩
theorem lw_p5 : lw_okq (⟨"VaultMovements$Windings", "takeMoreOrLess", "(I)Z"⟩, 4) := ⟨⟨by decide +kernel, by decide +kernel⟩, List.mem_of_getElem? (i := 22) (by decide +kernel), List.mem_of_getElem? (i := 99) (by decide +kernel), List.mem_of_getElem? (i := 100) (by decide +kernel)⟩
theorem lw_p6 : lw_okq (⟨"VaultMovements", "hoursToOpen", "(I)I"⟩, 6) := ⟨⟨by decide +kernel, by decide +kernel⟩, List.mem_of_getElem? (i := 14) (by decide +kernel), List.mem_of_getElem? (i := 107) (by decide +kernel), List.mem_of_getElem? (i := 108) (by decide +kernel)⟩
theorem lw_p7 : lw_okq (⟨"VaultMovements", "isLocked", "()Z"⟩, 6) := ⟨⟨by decide +kernel, by decide +kernel⟩, List.mem_of_getElem? (i := 14) (by decide +kernel), List.mem_of_getElem? (i := 111) (by decide +kernel), List.mem_of_getElem? (i := 112) (by decide +kernel)⟩
theorem lw_p8 : lw_okq (⟨"VaultMovements", "goes", "(I)Z"⟩, 6) := ⟨⟨by decide +kernel, by decide +kernel⟩, List.mem_of_getElem? (i := 14) (by decide +kernel), List.mem_of_getElem? (i := 115) (by decide +kernel), List.mem_of_getElem? (i := 116) (by decide +kernel)⟩
theorem lw_p9 : lw_okq (⟨"VaultMovements", "hoursToRunDown", "(IZ)I"⟩, 6) := ⟨⟨by decide +kernel, by decide +kernel⟩, List.mem_of_getElem? (i := 14) (by decide +kernel), List.mem_of_getElem? (i := 122) (by decide +kernel), List.mem_of_getElem? (i := 123) (by decide +kernel)⟩
theorem lw_p10 : lw_okq (⟨"VaultMovements", "hoursToWait", "()I"⟩, 6) := ⟨⟨by decide +kernel, by decide +kernel⟩, List.mem_of_getElem? (i := 14) (by decide +kernel), List.mem_of_getElem? (i := 126) (by decide +kernel), List.mem_of_getElem? (i := 127) (by decide +kernel)⟩
theorem lw_p11 : lw_okq (⟨"VaultMovements", "latenessAfter", "(I)I"⟩, 6) := ⟨⟨by decide +kernel, by decide +kernel⟩, List.mem_of_getElem? (i := 14) (by decide +kernel), List.mem_of_getElem? (i := 137) (by decide +kernel), List.mem_of_getElem? (i := 138) (by decide +kernel)⟩
theorem lw_p12 : lw_okq (⟨"VaultMovements", "number", "(I)I"⟩, 6) := ⟨⟨by decide +kernel, by decide +kernel⟩, List.mem_of_getElem? (i := 14) (by decide +kernel), List.mem_of_getElem? (i := 155) (by decide +kernel), List.mem_of_getElem? (i := 156) (by decide +kernel)⟩
theorem lw_p13 : lw_okq (⟨"VaultMovements", "today", "()I"⟩, 6) := ⟨⟨by decide +kernel, by decide +kernel⟩, List.mem_of_getElem? (i := 14) (by decide +kernel), List.mem_of_getElem? (i := 159) (by decide +kernel), List.mem_of_getElem? (i := 160) (by decide +kernel)⟩
theorem lw_p14 : lw_okq (⟨"VaultMovements", "timeOfDay", "()I"⟩, 6) := ⟨⟨by decide +kernel, by decide +kernel⟩, List.mem_of_getElem? (i := 14) (by decide +kernel), List.mem_of_getElem? (i := 163) (by decide +kernel), List.mem_of_getElem? (i := 164) (by decide +kernel)⟩
theorem lw_p15 : lw_okq (⟨"VaultMovements", "hoursToOpening", "()I"⟩, 6) := ⟨⟨by decide +kernel, by decide +kernel⟩, List.mem_of_getElem? (i := 14) (by decide +kernel), List.mem_of_getElem? (i := 167) (by decide +kernel), List.mem_of_getElem? (i := 168) (by decide +kernel)⟩
def lw_privs_1 : List (MethodName × Nat) := [(⟨"VaultMovements", "readBuffer", "()I"⟩, 6), (⟨"VaultMovements$Windings", "takeComma", "()Z"⟩, 4), (⟨"VaultMovements$Windings", "isPartComplete", "()Z"⟩, 4), (⟨"VaultMovements$Windings", "takeFirst", "(I)Z"⟩, 4), (⟨"VaultMovements$Windings", "takeNextDigit", "(I)Z"⟩, 4), (⟨"VaultMovements$Windings", "takeMoreOrLess", "(I)Z"⟩, 4), (⟨"VaultMovements", "hoursToOpen", "(I)I"⟩, 6), (⟨"VaultMovements", "isLocked", "()Z"⟩, 6), (⟨"VaultMovements", "goes", "(I)Z"⟩, 6), (⟨"VaultMovements", "hoursToRunDown", "(IZ)I"⟩, 6), (⟨"VaultMovements", "hoursToWait", "()I"⟩, 6), (⟨"VaultMovements", "latenessAfter", "(I)I"⟩, 6), (⟨"VaultMovements", "number", "(I)I"⟩, 6), (⟨"VaultMovements", "today", "()I"⟩, 6), (⟨"VaultMovements", "timeOfDay", "()I"⟩, 6), (⟨"VaultMovements", "hoursToOpening", "()I"⟩, 6)]
theorem lw_r1 : ∀ q ∈ lw_privs_1, lw_okq q := List.forall_mem_cons.mpr ⟨lw_p0, List.forall_mem_cons.mpr ⟨lw_p1, List.forall_mem_cons.mpr ⟨lw_p2, List.forall_mem_cons.mpr ⟨lw_p3, List.forall_mem_cons.mpr ⟨lw_p4, List.forall_mem_cons.mpr ⟨lw_p5, List.forall_mem_cons.mpr ⟨lw_p6, List.forall_mem_cons.mpr ⟨lw_p7, List.forall_mem_cons.mpr ⟨lw_p8, List.forall_mem_cons.mpr ⟨lw_p9, List.forall_mem_cons.mpr ⟨lw_p10, List.forall_mem_cons.mpr ⟨lw_p11, List.forall_mem_cons.mpr ⟨lw_p12, List.forall_mem_cons.mpr ⟨lw_p13, List.forall_mem_cons.mpr ⟨lw_p14, List.forall_mem_cons.mpr ⟨lw_p15, fun _ h => absurd h List.not_mem_nil⟩⟩⟩⟩⟩⟩⟩⟩⟩⟩⟩⟩⟩⟩⟩⟩
theorem lw_p16 : lw_okq (⟨"VaultMovements", "property", "(II)I"⟩, 6) := ⟨⟨by decide +kernel, by decide +kernel⟩, List.mem_of_getElem? (i := 14) (by decide +kernel), List.mem_of_getElem? (i := 171) (by decide +kernel), List.mem_of_getElem? (i := 172) (by decide +kernel)⟩
theorem lw_p17 : lw_okq (⟨"VaultMovements", "hoursToWind", "(I)I"⟩, 6) := ⟨⟨by decide +kernel, by decide +kernel⟩, List.mem_of_getElem? (i := 14) (by decide +kernel), List.mem_of_getElem? (i := 175) (by decide +kernel), List.mem_of_getElem? (i := 176) (by decide +kernel)⟩
theorem lw_p18 : lw_okq (⟨"java/lang/Throwable", "fillInStackTrace", "(I)Ljava/lang/Throwable;"⟩, 6) := ⟨⟨by decide +kernel, by decide +kernel⟩, List.mem_of_getElem? (i := 245) (by decide +kernel), List.mem_of_getElem? (i := 243) (by decide +kernel), List.mem_of_getElem? (i := 244) (by decide +kernel)⟩
theorem lw_p19 : lw_okq (⟨"VaultMovements", "change", "(II)I"⟩, 6) := ⟨⟨by decide +kernel, by decide +kernel⟩, List.mem_of_getElem? (i := 14) (by decide +kernel), List.mem_of_getElem? (i := 291) (by decide +kernel), List.mem_of_getElem? (i := 292) (by decide +kernel)⟩
theorem lw_p20 : lw_okq (⟨"VaultMovements", "save", "()V"⟩, 6) := ⟨⟨by decide +kernel, by decide +kernel⟩, List.mem_of_getElem? (i := 14) (by decide +kernel), List.mem_of_getElem? (i := 295) (by decide +kernel), List.mem_of_getElem? (i := 296) (by decide +kernel)⟩
theorem lw_p21 : lw_okq (⟨"VaultMovements", "someMovementRuns", "()Z"⟩, 6) := ⟨⟨by decide +kernel, by decide +kernel⟩, List.mem_of_getElem? (i := 14) (by decide +kernel), List.mem_of_getElem? (i := 377) (by decide +kernel), List.mem_of_getElem? (i := 378) (by decide +kernel)⟩
theorem lw_p22 : lw_okq (⟨"VaultMovements", "countEarlyTry", "()V"⟩, 6) := ⟨⟨by decide +kernel, by decide +kernel⟩, List.mem_of_getElem? (i := 14) (by decide +kernel), List.mem_of_getElem? (i := 390) (by decide +kernel), List.mem_of_getElem? (i := 391) (by decide +kernel)⟩
theorem lw_p23 : lw_okq (⟨"VaultMovements", "countOpening", "(I)V"⟩, 6) := ⟨⟨by decide +kernel, by decide +kernel⟩, List.mem_of_getElem? (i := 14) (by decide +kernel), List.mem_of_getElem? (i := 394) (by decide +kernel), List.mem_of_getElem? (i := 395) (by decide +kernel)⟩
theorem lw_p24 : lw_okq (⟨"VaultMovements", "leaveOpen", "()V"⟩, 6) := ⟨⟨by decide +kernel, by decide +kernel⟩, List.mem_of_getElem? (i := 14) (by decide +kernel), List.mem_of_getElem? (i := 398) (by decide +kernel), List.mem_of_getElem? (i := 399) (by decide +kernel)⟩
theorem lw_p25 : lw_okq (⟨"VaultMovements", "passHour", "()V"⟩, 6) := ⟨⟨by decide +kernel, by decide +kernel⟩, List.mem_of_getElem? (i := 14) (by decide +kernel), List.mem_of_getElem? (i := 418) (by decide +kernel), List.mem_of_getElem? (i := 419) (by decide +kernel)⟩
theorem lw_p26 : lw_okq (⟨"VaultMovements", "runHour", "(I)V"⟩, 6) := ⟨⟨by decide +kernel, by decide +kernel⟩, List.mem_of_getElem? (i := 14) (by decide +kernel), List.mem_of_getElem? (i := 422) (by decide +kernel), List.mem_of_getElem? (i := 423) (by decide +kernel)⟩
theorem lw_p27 : lw_okq (⟨"VaultMovements", "movementsRunDown", "()I"⟩, 6) := ⟨⟨by decide +kernel, by decide +kernel⟩, List.mem_of_getElem? (i := 14) (by decide +kernel), List.mem_of_getElem? (i := 426) (by decide +kernel), List.mem_of_getElem? (i := 427) (by decide +kernel)⟩
theorem lw_p28 : lw_okq (⟨"VaultMovements", "canWindAll", "(I)Z"⟩, 6) := ⟨⟨by decide +kernel, by decide +kernel⟩, List.mem_of_getElem? (i := 14) (by decide +kernel), List.mem_of_getElem? (i := 451) (by decide +kernel), List.mem_of_getElem? (i := 452) (by decide +kernel)⟩
theorem lw_p29 : lw_okq (⟨"VaultMovementsModel", "fails", "(I)I"⟩, 11) := ⟨⟨by decide +kernel, by decide +kernel⟩, List.mem_of_getElem? (i := 509) (by decide +kernel), List.mem_of_getElem? (i := 557) (by decide +kernel), List.mem_of_getElem? (i := 558) (by decide +kernel)⟩
theorem lw_p30 : lw_okq (⟨"VaultMovementsModel", "saves", "()V"⟩, 11) := ⟨⟨by decide +kernel, by decide +kernel⟩, List.mem_of_getElem? (i := 509) (by decide +kernel), List.mem_of_getElem? (i := 571) (by decide +kernel), List.mem_of_getElem? (i := 572) (by decide +kernel)⟩
theorem lw_p31 : lw_okq (⟨"VaultMovementsModel", "changes", "(II)I"⟩, 11) := ⟨⟨by decide +kernel, by decide +kernel⟩, List.mem_of_getElem? (i := 509) (by decide +kernel), List.mem_of_getElem? (i := 575) (by decide +kernel), List.mem_of_getElem? (i := 576) (by decide +kernel)⟩
def lw_privs_2 : List (MethodName × Nat) := [(⟨"VaultMovements", "property", "(II)I"⟩, 6), (⟨"VaultMovements", "hoursToWind", "(I)I"⟩, 6), (⟨"java/lang/Throwable", "fillInStackTrace", "(I)Ljava/lang/Throwable;"⟩, 6), (⟨"VaultMovements", "change", "(II)I"⟩, 6), (⟨"VaultMovements", "save", "()V"⟩, 6), (⟨"VaultMovements", "someMovementRuns", "()Z"⟩, 6), (⟨"VaultMovements", "countEarlyTry", "()V"⟩, 6), (⟨"VaultMovements", "countOpening", "(I)V"⟩, 6), (⟨"VaultMovements", "leaveOpen", "()V"⟩, 6), (⟨"VaultMovements", "passHour", "()V"⟩, 6), (⟨"VaultMovements", "runHour", "(I)V"⟩, 6), (⟨"VaultMovements", "movementsRunDown", "()I"⟩, 6), (⟨"VaultMovements", "canWindAll", "(I)Z"⟩, 6), (⟨"VaultMovementsModel", "fails", "(I)I"⟩, 11), (⟨"VaultMovementsModel", "saves", "()V"⟩, 11), (⟨"VaultMovementsModel", "changes", "(II)I"⟩, 11)]
theorem lw_r2 : ∀ q ∈ lw_privs_2, lw_okq q := List.forall_mem_cons.mpr ⟨lw_p16, List.forall_mem_cons.mpr ⟨lw_p17, List.forall_mem_cons.mpr ⟨lw_p18, List.forall_mem_cons.mpr ⟨lw_p19, List.forall_mem_cons.mpr ⟨lw_p20, List.forall_mem_cons.mpr ⟨lw_p21, List.forall_mem_cons.mpr ⟨lw_p22, List.forall_mem_cons.mpr ⟨lw_p23, List.forall_mem_cons.mpr ⟨lw_p24, List.forall_mem_cons.mpr ⟨lw_p25, List.forall_mem_cons.mpr ⟨lw_p26, List.forall_mem_cons.mpr ⟨lw_p27, List.forall_mem_cons.mpr ⟨lw_p28, List.forall_mem_cons.mpr ⟨lw_p29, List.forall_mem_cons.mpr ⟨lw_p30, List.forall_mem_cons.mpr ⟨lw_p31, fun _ h => absurd h List.not_mem_nil⟩⟩⟩⟩⟩⟩⟩⟩⟩⟩⟩⟩⟩⟩⟩⟩
theorem lw_p32 : lw_okq (⟨"VaultMovementsModel", "goes", "(I)Z"⟩, 11) := ⟨⟨by decide +kernel, by decide +kernel⟩, List.mem_of_getElem? (i := 509) (by decide +kernel), List.mem_of_getElem? (i := 593) (by decide +kernel), List.mem_of_getElem? (i := 594) (by decide +kernel)⟩
theorem lw_p33 : lw_okq (⟨"VaultMovementsModel", "hours", "(I)I"⟩, 11) := ⟨⟨by decide +kernel, by decide +kernel⟩, List.mem_of_getElem? (i := 509) (by decide +kernel), List.mem_of_getElem? (i := 613) (by decide +kernel), List.mem_of_getElem? (i := 614) (by decide +kernel)⟩
theorem lw_p34 : lw_okq (⟨"VaultMovementsModel", "toOpening", "()I"⟩, 11) := ⟨⟨by decide +kernel, by decide +kernel⟩, List.mem_of_getElem? (i := 509) (by decide +kernel), List.mem_of_getElem? (i := 617) (by decide +kernel), List.mem_of_getElem? (i := 618) (by decide +kernel)⟩
theorem lw_p35 : lw_okq (⟨"VaultMovementsModel", "opensBut", "(I)I"⟩, 11) := ⟨⟨by decide +kernel, by decide +kernel⟩, List.mem_of_getElem? (i := 509) (by decide +kernel), List.mem_of_getElem? (i := 625) (by decide +kernel), List.mem_of_getElem? (i := 626) (by decide +kernel)⟩
theorem lw_p36 : lw_okq (⟨"VaultMovementsModel", "downIn", "(II)I"⟩, 11) := ⟨⟨by decide +kernel, by decide +kernel⟩, List.mem_of_getElem? (i := 509) (by decide +kernel), List.mem_of_getElem? (i := 630) (by decide +kernel), List.mem_of_getElem? (i := 631) (by decide +kernel)⟩
theorem lw_p37 : lw_okq (⟨"VaultMovementsModel", "lossOf", "(I)I"⟩, 11) := ⟨⟨by decide +kernel, by decide +kernel⟩, List.mem_of_getElem? (i := 509) (by decide +kernel), List.mem_of_getElem? (i := 634) (by decide +kernel), List.mem_of_getElem? (i := 635) (by decide +kernel)⟩
theorem lw_p38 : lw_okq (⟨"VaultMovementsModel", "ran", "(I)I"⟩, 11) := ⟨⟨by decide +kernel, by decide +kernel⟩, List.mem_of_getElem? (i := 509) (by decide +kernel), List.mem_of_getElem? (i := 638) (by decide +kernel), List.mem_of_getElem? (i := 639) (by decide +kernel)⟩
theorem lw_p39 : lw_okq (⟨"VaultMovementsModel", "waits", "()I"⟩, 11) := ⟨⟨by decide +kernel, by decide +kernel⟩, List.mem_of_getElem? (i := 509) (by decide +kernel), List.mem_of_getElem? (i := 642) (by decide +kernel), List.mem_of_getElem? (i := 643) (by decide +kernel)⟩
theorem lw_p40 : lw_okq (⟨"VaultMovementsModel", "unlocks", "()V"⟩, 11) := ⟨⟨by decide +kernel, by decide +kernel⟩, List.mem_of_getElem? (i := 509) (by decide +kernel), List.mem_of_getElem? (i := 646) (by decide +kernel), List.mem_of_getElem? (i := 647) (by decide +kernel)⟩
theorem lw_p41 : lw_okq (⟨"VaultMovementsModel", "hourGoes", "()V"⟩, 11) := ⟨⟨by decide +kernel, by decide +kernel⟩, List.mem_of_getElem? (i := 509) (by decide +kernel), List.mem_of_getElem? (i := 659) (by decide +kernel), List.mem_of_getElem? (i := 660) (by decide +kernel)⟩
theorem lw_p42 : lw_okq (⟨"VaultMovementsModel", "isText", "()Z"⟩, 11) := ⟨⟨by decide +kernel, by decide +kernel⟩, List.mem_of_getElem? (i := 509) (by decide +kernel), List.mem_of_getElem? (i := 675) (by decide +kernel), List.mem_of_getElem? (i := 676) (by decide +kernel)⟩
theorem lw_p43 : lw_okq (⟨"VaultMovementsModel", "isSign", "(I)Z"⟩, 11) := ⟨⟨by decide +kernel, by decide +kernel⟩, List.mem_of_getElem? (i := 509) (by decide +kernel), List.mem_of_getElem? (i := 679) (by decide +kernel), List.mem_of_getElem? (i := 680) (by decide +kernel)⟩
theorem lw_p44 : lw_okq (⟨"VaultMovementsModel", "isAt", "(II)Z"⟩, 11) := ⟨⟨by decide +kernel, by decide +kernel⟩, List.mem_of_getElem? (i := 509) (by decide +kernel), List.mem_of_getElem? (i := 683) (by decide +kernel), List.mem_of_getElem? (i := 684) (by decide +kernel)⟩
theorem lw_p45 : lw_okq (⟨"VaultMovementsModel", "stops", "()Z"⟩, 11) := ⟨⟨by decide +kernel, by decide +kernel⟩, List.mem_of_getElem? (i := 509) (by decide +kernel), List.mem_of_getElem? (i := 687) (by decide +kernel), List.mem_of_getElem? (i := 688) (by decide +kernel)⟩
theorem lw_p46 : lw_okq (⟨"VaultMovementsModel", "isWinding", "(I)Z"⟩, 11) := ⟨⟨by decide +kernel, by decide +kernel⟩, List.mem_of_getElem? (i := 509) (by decide +kernel), List.mem_of_getElem? (i := 691) (by decide +kernel), List.mem_of_getElem? (i := 692) (by decide +kernel)⟩
theorem lw_p47 : lw_okq (⟨"VaultMovementsModel", "isNumber", "()Z"⟩, 11) := ⟨⟨by decide +kernel, by decide +kernel⟩, List.mem_of_getElem? (i := 509) (by decide +kernel), List.mem_of_getElem? (i := 695) (by decide +kernel), List.mem_of_getElem? (i := 696) (by decide +kernel)⟩
def lw_privs_3 : List (MethodName × Nat) := [(⟨"VaultMovementsModel", "goes", "(I)Z"⟩, 11), (⟨"VaultMovementsModel", "hours", "(I)I"⟩, 11), (⟨"VaultMovementsModel", "toOpening", "()I"⟩, 11), (⟨"VaultMovementsModel", "opensBut", "(I)I"⟩, 11), (⟨"VaultMovementsModel", "downIn", "(II)I"⟩, 11), (⟨"VaultMovementsModel", "lossOf", "(I)I"⟩, 11), (⟨"VaultMovementsModel", "ran", "(I)I"⟩, 11), (⟨"VaultMovementsModel", "waits", "()I"⟩, 11), (⟨"VaultMovementsModel", "unlocks", "()V"⟩, 11), (⟨"VaultMovementsModel", "hourGoes", "()V"⟩, 11), (⟨"VaultMovementsModel", "isText", "()Z"⟩, 11), (⟨"VaultMovementsModel", "isSign", "(I)Z"⟩, 11), (⟨"VaultMovementsModel", "isAt", "(II)Z"⟩, 11), (⟨"VaultMovementsModel", "stops", "()Z"⟩, 11), (⟨"VaultMovementsModel", "isWinding", "(I)Z"⟩, 11), (⟨"VaultMovementsModel", "isNumber", "()Z"⟩, 11)]
theorem lw_r3 : ∀ q ∈ lw_privs_3, lw_okq q := List.forall_mem_cons.mpr ⟨lw_p32, List.forall_mem_cons.mpr ⟨lw_p33, List.forall_mem_cons.mpr ⟨lw_p34, List.forall_mem_cons.mpr ⟨lw_p35, List.forall_mem_cons.mpr ⟨lw_p36, List.forall_mem_cons.mpr ⟨lw_p37, List.forall_mem_cons.mpr ⟨lw_p38, List.forall_mem_cons.mpr ⟨lw_p39, List.forall_mem_cons.mpr ⟨lw_p40, List.forall_mem_cons.mpr ⟨lw_p41, List.forall_mem_cons.mpr ⟨lw_p42, List.forall_mem_cons.mpr ⟨lw_p43, List.forall_mem_cons.mpr ⟨lw_p44, List.forall_mem_cons.mpr ⟨lw_p45, List.forall_mem_cons.mpr ⟨lw_p46, List.forall_mem_cons.mpr ⟨lw_p47, fun _ h => absurd h List.not_mem_nil⟩⟩⟩⟩⟩⟩⟩⟩⟩⟩⟩⟩⟩⟩⟩⟩
theorem lw_p48 : lw_okq (⟨"VaultMovementsModel", "mayWind", "()Z"⟩, 11) := ⟨⟨by decide +kernel, by decide +kernel⟩, List.mem_of_getElem? (i := 509) (by decide +kernel), List.mem_of_getElem? (i := 703) (by decide +kernel), List.mem_of_getElem? (i := 704) (by decide +kernel)⟩
theorem lw_p49 : lw_okq (⟨"VaultMovementsModel", "woundBy", "(I)I"⟩, 11) := ⟨⟨by decide +kernel, by decide +kernel⟩, List.mem_of_getElem? (i := 509) (by decide +kernel), List.mem_of_getElem? (i := 707) (by decide +kernel), List.mem_of_getElem? (i := 708) (by decide +kernel)⟩
theorem lw_p50 : lw_okq (⟨"VaultMovementsModel", "ofMovement", "(II)I"⟩, 11) := ⟨⟨by decide +kernel, by decide +kernel⟩, List.mem_of_getElem? (i := 509) (by decide +kernel), List.mem_of_getElem? (i := 715) (by decide +kernel), List.mem_of_getElem? (i := 716) (by decide +kernel)⟩
theorem lw_p51 : lw_okq (⟨"VaultMovementsModel", "counted", "(I)I"⟩, 11) := ⟨⟨by decide +kernel, by decide +kernel⟩, List.mem_of_getElem? (i := 509) (by decide +kernel), List.mem_of_getElem? (i := 727) (by decide +kernel), List.mem_of_getElem? (i := 728) (by decide +kernel)⟩
theorem lw_p52 : lw_okq (⟨"VaultMovementsModel", "late", "()I"⟩, 11) := ⟨⟨by decide +kernel, by decide +kernel⟩, List.mem_of_getElem? (i := 509) (by decide +kernel), List.mem_of_getElem? (i := 743) (by decide +kernel), List.mem_of_getElem? (i := 744) (by decide +kernel)⟩
theorem lw_p53 : lw_okq (⟨"VaultMovementsModel", "key", "()I"⟩, 11) := ⟨⟨by decide +kernel, by decide +kernel⟩, List.mem_of_getElem? (i := 509) (by decide +kernel), List.mem_of_getElem? (i := 751) (by decide +kernel), List.mem_of_getElem? (i := 752) (by decide +kernel)⟩
theorem lw_p54 : lw_okq (⟨"VaultMovementsModel", "right", "(I)I"⟩, 11) := ⟨⟨by decide +kernel, by decide +kernel⟩, List.mem_of_getElem? (i := 509) (by decide +kernel), List.mem_of_getElem? (i := 759) (by decide +kernel), List.mem_of_getElem? (i := 760) (by decide +kernel)⟩
theorem lw_p55 : lw_okq (⟨"VaultMovementsModel", "share", "()D"⟩, 11) := ⟨⟨by decide +kernel, by decide +kernel⟩, List.mem_of_getElem? (i := 509) (by decide +kernel), List.mem_of_getElem? (i := 767) (by decide +kernel), List.mem_of_getElem? (i := 768) (by decide +kernel)⟩
def lw_privs_4 : List (MethodName × Nat) := [(⟨"VaultMovementsModel", "mayWind", "()Z"⟩, 11), (⟨"VaultMovementsModel", "woundBy", "(I)I"⟩, 11), (⟨"VaultMovementsModel", "ofMovement", "(II)I"⟩, 11), (⟨"VaultMovementsModel", "counted", "(I)I"⟩, 11), (⟨"VaultMovementsModel", "late", "()I"⟩, 11), (⟨"VaultMovementsModel", "key", "()I"⟩, 11), (⟨"VaultMovementsModel", "right", "(I)I"⟩, 11), (⟨"VaultMovementsModel", "share", "()D"⟩, 11)]
theorem lw_r4 : ∀ q ∈ lw_privs_4, lw_okq q := List.forall_mem_cons.mpr ⟨lw_p48, List.forall_mem_cons.mpr ⟨lw_p49, List.forall_mem_cons.mpr ⟨lw_p50, List.forall_mem_cons.mpr ⟨lw_p51, List.forall_mem_cons.mpr ⟨lw_p52, List.forall_mem_cons.mpr ⟨lw_p53, List.forall_mem_cons.mpr ⟨lw_p54, List.forall_mem_cons.mpr ⟨lw_p55, fun _ h => absurd h List.not_mem_nil⟩⟩⟩⟩⟩⟩⟩⟩
def lw_privs : List (MethodName × Nat) := lw_privs_1 ++ (lw_privs_2 ++ (lw_privs_3 ++ (lw_privs_4)))
def lw_tbl : List Cond := k2_sels lw_privs ++ tables_1
theorem lw_privs_ok : ∀ q ∈ lw_privs, lw_okq q := by
  show ∀ q ∈ lw_privs_1 ++ (lw_privs_2 ++ (lw_privs_3 ++ (lw_privs_4))), lw_okq q
  exact List.forall_mem_append.mpr ⟨lw_r1, List.forall_mem_append.mpr ⟨lw_r2, List.forall_mem_append.mpr ⟨lw_r3, lw_r4⟩⟩⟩
/-- the streams that the claim lets the run draw from -/
abbrev lw_cs : List Choice := [Jvm.Choice.named "NaN.bits"]
theorem lw_bits : nanBits ∈ lw_cs := by first | decide | exact List.mem_cons_self | simp [lw_cs, nanBits]
-- ===== end of PART A; then your names; then what follows =====
end
section
/-! ===== BEGIN words of one list among another's, by their places ===== -/
theorem goodIn_r {big : List Cond} (ws : List Cond) (ps : List Nat) (hp : ws = ps.filterMap (fun i => big[i]?)) (h : ws.all goodWord = true) : GoodIn big ws := by
  intro w hw
  have h1 := List.all_eq_true.mp h w hw
  rw [hp] at hw
  obtain ⟨i, -, hi⟩ := List.mem_filterMap.mp hw
  have hm : w ∈ big := by first | exact List.mem_of_getElem? hi | exact List.getElem?_mem hi
  exact ⟨hm, good_of_word h1⟩
theorem goodIn_app {big a b : List Cond} (ha : GoodIn big a) (hb : GoodIn big b) : GoodIn big (a ++ b) := fun w h => (List.mem_append.mp h).elim (ha w) (hb w)
theorem goodIn_ca {big a b : List Cond} {c : Cond} (ha : GoodIn big (c :: a)) (hb : GoodIn big b) : GoodIn big (c :: (a ++ b)) := fun w h => (List.mem_cons.mp h).elim (fun e => ha w (List.mem_cons.mpr (Or.inl e))) (fun h => (List.mem_append.mp h).elim (fun h => ha w (List.mem_cons.mpr (Or.inr h))) (hb w))
theorem goodIn_sub {big ws : List Cond} (hm : ∀ w ∈ ws, w ∈ big) (h : ws.all goodWord = true) : GoodIn big ws := fun w hw => ⟨hm w hw, good_of_word (List.all_eq_true.mp h w hw)⟩
/-! ===== END ===== -/

/-! ===== BEGIN exceptions that leave a method, and their catching by the caller (launches without stack traces) ===== -/
section VXA
/-! The laws vx_back, vx_callV, vx_callS, vx_callSW, vx_throw0, vx_throwS follow proofs of the library, with one case more: JvmDerived/Free/Laws.lean (Back.of_free), Shelf42/LK1.lean (callV, callS), Shelf/KitTraced.lean (throwNew0V, throwNewS). -/
/-- where a method has thrown q: the class by its name, the cell, what was written, the world -/
def vx_T (XC : String → State → State → Prop) (st : State) (q : Addr) (t : State) (mc ms : Nat) (free : Addr → Prop) : Prop :=
  ∃ (E : String) (ce : Cell) (L : List Loc), XC E st t ∧ t.heap[q]? = some ce ∧ ce.vm = .none ∧ st.vm.findClass E = some ce.cls ∧ st.WarmedH t.vm ∧ st.sameButNew ({ t with vm := st.vm } : State) L mc ms ∧ ∀ z ∈ L, free z.base
def vx_Q (Qc : Array Value → State → Outcome → State → Prop) (XC : String → State → State → Prop) (mc ms : Nat) (free : Addr → Prop) : Array Value → State → Outcome → State → Prop := fun a st o t =>
  (Qc a st o t ∧ ∃ L, FrameEnd st o t L mc ms ∧ ∀ q ∈ L, free q.base) ∨ ∃ q, o = .threw q ∧ vx_T XC st q t mc ms free
/-- a callee that returns or throws -/
def vx_Met (l : Launch) (y : MethodName) (ws : List Cond) (rm : Room) (Pc : Array Value → State → Prop) (Qc : Array Value → State → Outcome → State → Prop) (XC : String → State → State → Prop) (mc ms : Nat) (free : Addr → Prop) : Prop :=
  MetFree l y (headSpec ws rm) Pc (fun _ _ _ _ _ => True) (vx_Q Qc XC mc ms free)
def vx_Post (XC : String → State → State → Prop) (mc ms : Nat) (free : Addr → Prop) : Pt → Array Value → Addr → Pt → Prop := fun A a q B =>
  ∃ (g : JFrame) (mk : MethodId) (t : State) (L : List Loc) (E : String) (ce : Cell), B.U.heap = t.heap ∧ B.U.vm = t.vm ∧ XC E (A.U.calling g mk a) t ∧ t.heap[q]? = some ce ∧ ce.vm = .none ∧ A.U.vm.findClass E = some ce.cls ∧ B.locs = A.locs ++ L ∧ (∀ z ∈ L, free z.base) ∧ B.cells = A.cells + mc ∧ B.slots = A.slots + ms
def vx_Back (l : Launch) (R : Room) (p : Program) (e : Env) (below : List Frame) (s : State) (sargs : Array Value) (y : MethodName) (len W9 : Nat)
    (Pre : Pt → Array Value → Prop) (Post : Pt → Array Value → Option Value → Pt → Prop) (PostX : Pt → Array Value → Addr → Pt → Prop) : Prop :=
  ∀ (m : MethodId) (meth : Method) (c : Code) (A : Pt) (g : JFrame) (ig : Instr) (mk : MethodId) (a : Array Value),
    Stand p l e R s m sargs below meth c A.U A.locs A.cells A.slots → g.method = m → g.locals.size = c.maxLocals → decode c.code g.pc = .ok (ig, len) →
    2 * g.monitorRoom + (g.stack.map fun v => v.category).sum ≤ W9 → A.U.methodNamed? y = some mk → Pre A a →
    (∃ (v : Option Value) (B : Pt), Stand p l e R s m sargs below meth c B.U B.locs B.cells B.slots ∧ Post A a v B ∧
      Steps p.tables e below (doInvoke e (A.U.setTop g) [] mk a).1 (B.U.setTop { g with pc := g.pc + len, stack := v.toList ++ g.stack })) ∨
    (∃ (q : Addr) (B : Pt), Stand p l e R s m sargs below meth c B.U B.locs B.cells B.slots ∧ PostX A a q B ∧
      Steps p.tables e below (doInvoke e (A.U.setTop g) [] mk a).1 ((B.U.setTop g).pushFrame (.throwing q)))
section Payer
variable {l : Launch} {R : Room} {p : Program} {e : Env} {below : List Frame} {s : State} {sargs : Array Value} {y : MethodName} {len W9 : Nat}
theorem vx_back {ws : List Cond} {rm : Room} {Pc : Array Value → State → Prop} {Qc : Array Value → State → Outcome → State → Prop} {XC : String → State → State → Prop} {mc ms : Nat} {free : Addr → Prop} {bytes : ByteArray} {maxL : Nat} {ret : Option FieldType}
    (hM : vx_Met l y ws rm Pc Qc XC mc ms free) (hblind : FrameBlind Pc) (hrc : rm.cells = mc) (hrs : rm.slots = ms)
    (hframes : rm.frames + 1 ≤ R.frames) (hlocals : W9 + (maxL + 11) + rm.locals ≤ R.locals)
    (hws : ∀ w ∈ ws, ∀ a' U, s.WarmedH U.vm → w.before a' U = true) (hcode : Cond.code y bytes maxL ret ∈ ws) (hinit : ∀ a' U, s.WarmedH U.vm → (Cond.initialized y.cls).before a' U = true) :
    vx_Back l R p e below s sargs y len W9 (PreOf R mc ms Pc) (PostOf Qc mc ms free) (vx_Post XC mc ms free) := by
  intro m meth c A g ig mk a X hg hsize hdg hW hn hp
  have h1 : (headSpec ws rm).pre.before a A.U = true := atoms_intro fun w hw => hws w hw _ _ X.warmed
  have h2 : (Cond.code y bytes maxL ret).before a A.U = true := hws _ hcode _ _ X.warmed
  have h3 : (Cond.initialized y.cls).before a A.U = true := hinit _ _ X.warmed
  have h4 : A.cells + (headSpec ws rm).room.cells ≤ R.cells := by rw [show (headSpec ws rm).room.cells = mc from hrc]; exact hp.1
  have h5 : A.slots + (headSpec ws rm).room.slots ≤ R.slots := by rw [show (headSpec ws rm).room.slots = ms from hrs]; exact hp.2.1
  have hPc : Pc a (A.U.calling g mk a) := hblind _ _ _ _ hp.2.2
  obtain ⟨U, Ls, c0, s0⟩ := A
  dsimp only [Pt.U, Pt.locs, Pt.cells, Pt.slots] at h1 h2 h3 h4 h5 X hn hPc ⊢
  obtain ⟨methY, cY, hmY, hcY, -, hlY, -, -, -, -⟩ := Cond.code_spec hn h2
  obtain ⟨kY, hkY, -⟩ := className_of_methodNamed hn
  have hinitY : kY.init = .initialized := Cond.initialized_spec (findClass_of_methodNamed hn) hkY h3
  have h : At U g.method c below := by rw [hg]; exact X.here
  have hlocals9 : W9 + (maxL + 11) + (headSpec ws rm).room.locals ≤ R.locals := hlocals
  have happ : (headSpec ws rm).appliesLoose y e.platform (U.calling g mk a) = true :=
    Spec.appliesLoose_calling (g := g) h hdg hn hkY hinitY
      (X.room_calling (g := g) (R' := (headSpec ws rm).room) hsize hmY hcY hframes (by rw [hlY]; omega) h4 h5) h1
  obtain ⟨mid, hmid⟩ := h.above
  have hfr : (U.setTop g).frames = (.java g :: mid) ++ below := by rw [State.frames_setTop' g h.top, hmid]; rfl
  obtain ⟨o, s₂, hsteps, -, hend, hq⟩ := Steps.callFree hM p X.admits X.cas X.clock (acts := []) hfr happ hPc trivial
  have hq' : vx_Q Qc XC mc ms free a (U.calling g mk a) o s₂ := hq
  rw [State.frames_setTop' g h.top] at hend
  obtain ⟨g₀, hg0⟩ := Option.isSome_iff_exists.mp h.top
  obtain ⟨r, hr⟩ := State.topJava?_eq_some.mp hg0
  have hr' : (({ U with heap := s₂.heap, slotsUsed := s₂.slotsUsed } : State).setVm s₂.vm).frames = .java g₀ :: r := hr
  rcases hq' with ⟨hqc, L, hfe, hL⟩ | ⟨q, rfl, E, ce, L, hx, hce, hcv, hcl, hW₂, hsm, hL⟩
  · obtain ⟨⟨v, rfl⟩, hW₂, e2, q2, q3, q4, q5, q6⟩ := id hfe
    have e3 : s₂ = ({ (U.calling g mk a).setFrames s₂.frames with heap := s₂.heap, slotsUsed := s₂.slotsUsed } : State).setVm s₂.vm := by
      have : s₂ = ({ s₂ with vm := (U.calling g mk a).vm } : State).setVm s₂.vm := rfl
      rw [e2] at this
      exact this
    obtain ⟨c₂, i₂, len₂, hc₂, hd₂, hf₂⟩ := hend
    have hW' : U.WarmedH s₂.vm := hW₂
    have hcc : c₂ = c := by
      have h1 : s₂.code? g.method = U.code? g.method := by
        rw [State.code?_eq, State.code?_eq, hW'.alike.method?]
      exact Option.some.inj (hc₂.symm.trans (h1.trans h.code))
    subst hcc
    have hlen : len₂ = len := by rw [hdg] at hd₂; cases hd₂; rfl
    subst hlen
    have hs₂ : s₂ = (({ U with heap := s₂.heap, slotsUsed := s₂.slotsUsed } : State).setVm s₂.vm).setTop { g with pc := g.pc + len₂, stack := v.toList ++ g.stack } := by
      refine e3.trans ?_
      rw [hf₂, State.calling_eq h.top, State.setFrames_setFrames, State.setTop_of_frames _ hr', hr]
      rfl
    have hsame : U.sameButNew ({ U with heap := s₂.heap, slotsUsed := s₂.slotsUsed } : State) L mc ms := by
      refine ⟨?_, q2, q3, q4, q5, q6⟩
      obtain ⟨t, ht, -⟩ := State.frames_cons hr
      show ({ U with heap := s₂.heap, slotsUsed := s₂.slotsUsed } : State) = { U.setFrames U.frames with heap := s₂.heap, slotsUsed := s₂.slotsUsed }
      rw [State.setFrames_self ht]
    subst hg
    refine Or.inl ⟨v, ⟨(({ U with heap := s₂.heap, slotsUsed := s₂.slotsUsed } : State).setVm s₂.vm), Ls ++ L, c0 + mc, s0 + ms⟩,
      ⟨X.admits, X.cas, X.clock, X.frames, X.room, X.hears, X.method, X.code, (X.here.setHeapUsed s₂.heap s₂.slotsUsed).setVm hW'.alike, X.tail, State.WarmedH.trans X.warmed hW', X.limits, X.bytes, X.same.trans (hsame.setVm s.vm)⟩,
      ⟨g, mk, s₂, L, rfl, rfl, hqc, rfl, hL, rfl, rfl⟩, ?_⟩
    show Steps p.tables e below _ ((({ U with heap := s₂.heap, slotsUsed := s₂.slotsUsed } : State).setVm s₂.vm).setTop { g with pc := g.pc + len₂, stack := v.toList ++ g.stack })
    rw [← hs₂]
    exact hsteps
  · obtain ⟨e2, q2, q3, q4, q5, q6⟩ := id hsm
    have e3 : s₂ = ({ (U.calling g mk a).setFrames s₂.frames with heap := s₂.heap, slotsUsed := s₂.slotsUsed } : State).setVm s₂.vm := by
      have : s₂ = ({ s₂ with vm := (U.calling g mk a).vm } : State).setVm s₂.vm := rfl
      rw [e2] at this
      exact this
    have hf₂ : s₂.frames = .throwing q :: .java g :: U.frames.tail := hend
    have hW' : U.WarmedH s₂.vm := hW₂
    have hs₂ : s₂ = ((({ U with heap := s₂.heap, slotsUsed := s₂.slotsUsed } : State).setVm s₂.vm).setTop g).pushFrame (.throwing q) := by
      refine e3.trans ?_
      rw [hf₂, State.calling_eq h.top, State.setFrames_setFrames, State.pushFrame, State.frames_setTop _ hr', State.setTop_of_frames _ hr', State.setFrames_setFrames, hr]
      rfl
    have hsame : U.sameButNew ({ U with heap := s₂.heap, slotsUsed := s₂.slotsUsed } : State) L mc ms := by
      refine ⟨?_, q2, q3, q4, q5, q6⟩
      obtain ⟨t, ht, -⟩ := State.frames_cons hr
      show ({ U with heap := s₂.heap, slotsUsed := s₂.slotsUsed } : State) = { U.setFrames U.frames with heap := s₂.heap, slotsUsed := s₂.slotsUsed }
      rw [State.setFrames_self ht]
    subst hg
    refine Or.inr ⟨q, ⟨(({ U with heap := s₂.heap, slotsUsed := s₂.slotsUsed } : State).setVm s₂.vm), Ls ++ L, c0 + mc, s0 + ms⟩,
      ⟨X.admits, X.cas, X.clock, X.frames, X.room, X.hears, X.method, X.code, (X.here.setHeapUsed s₂.heap s₂.slotsUsed).setVm hW'.alike, X.tail, State.WarmedH.trans X.warmed hW', X.limits, X.bytes, X.same.trans (hsame.setVm s.vm)⟩,
      ⟨g, mk, s₂, L, E, ce, rfl, rfl, hx, hce, hcv, hcl, rfl, hL, rfl, rfl⟩, ?_⟩
    show Steps p.tables e below _ (((({ U with heap := s₂.heap, slotsUsed := s₂.slotsUsed } : State).setVm s₂.vm).setTop g).pushFrame (.throwing q))
    rw [← hs₂]
    exact hsteps
end Payer
section Calls
variable {p : Program} {l : Launch} {e : Env} {R : Room} {s : State} {m : MethodId} {args : Array Value} {below : List Frame} {meth : Method} {c : Code} {T : State} {locs : List Loc} {cells slots : Nat}
theorem vx_callV (X : Stand p l e R s m args below meth c T locs cells slots) (hexec : p.tables.exec = Jvm.exec) {own C : String} {index : Nat} {y : MethodName} {bytes : ByteArray} {maxL : Nat} {ret : Option FieldType}
    (hown : s.vm.findClass own = some m.cls) (hlink : (Cond.methodLink own index y).before args s = true) (hinst : (Cond.instanceMethod y).before args s = true) (hsel : (Cond.selects C y y).before args s = true)
    (hcode : (Cond.code y bytes maxL ret).before args s = true) (hy : y.cls ≠ "java/lang/invoke/MethodHandle" ∧ y.cls ≠ "java/lang/invoke/VarHandle")
    {W9 : Nat} {Pre : Pt → Array Value → Prop} {Post : Pt → Array Value → Option Value → Pt → Prop} {PostX : Pt → Array Value → Addr → Pt → Prop} (hK : vx_Back l R p e below s args y 3 W9 Pre Post PostX)
    {b : Addr} {cellB : Cell} (hcell : T.heap[b]? = some cellB) (hobj : cellB.vm.isStatics = false) (hcls : s.vm.findClass C = some cellB.cls)
    {g : JFrame} (hg : g.method = m) (hsize : g.locals.size = c.maxLocals) {argsL rest : List Value} (hlen : ∀ sig, parseMethodDescriptor y.desc = some sig → argsL.length = sig.parameters.length)
    (hstack : g.stack = argsL.reverse ++ .ref b :: rest) (hW : 2 * g.monitorRoom + (rest.map fun v => v.category).sum ≤ W9) (hdg : decode c.code g.pc = .ok (.invokevirtual index, 3))
    (hpre : ∀ vm₁, s.WarmedH vm₁ → Pre ⟨T.setVm vm₁, locs, cells, slots⟩ (Value.ref b :: argsL).toArray) :
    (∃ (v : Option Value) (vm₁ : Vm) (B : Pt), s.WarmedH vm₁ ∧ Stand p l e R s m args below meth c B.U B.locs B.cells B.slots ∧ Post ⟨T.setVm vm₁, locs, cells, slots⟩ (Value.ref b :: argsL).toArray v B ∧
      ∀ target, Steps p.tables e below (B.U.setTop { g with pc := g.pc + 3, stack := v.toList ++ rest }) target → Steps p.tables e below (T.setTop g) target) ∨
    (∃ (q : Addr) (vm₁ : Vm) (B : Pt), s.WarmedH vm₁ ∧ Stand p l e R s m args below meth c B.U B.locs B.cells B.slots ∧ PostX ⟨T.setVm vm₁, locs, cells, slots⟩ (Value.ref b :: argsL).toArray q B ∧
      Steps p.tables e below (T.setTop g) ((B.U.setTop { g with stack := rest }).pushFrame (.throwing q))) := by
  obtain ⟨mk, methM, hnamed, hmethM, hstM, habM⟩ := Cond.instanceMethod_spec hinst
  obtain ⟨methM', cM, hmethM', -, -, -, -, -, -, hsigM⟩ := Cond.code_spec hnamed hcode
  cases hmethM.symm.trans hmethM'
  obtain ⟨c2, r2, m2, q1, q2, q3, q4, kP, hkP, hkPi⟩ := Cond.selects_spec hsel
  cases hcls.symm.trans q1
  cases (State.methodFound?_of_named hnamed hy).symm.trans q2
  cases hnamed.symm.trans q3
  have hselP : selectMethod e.platform s.vm cellB.cls mk = .method mk := by rw [Launch.admits_selectMethod X.admits]; exact q4
  obtain ⟨vm₁, X₁, hstep₁⟩ := X.invokevirtual hexec hown hlink hnamed hmethM hstM hkP hkPi hy (a := b) (cell := cellB) hcell
    (fun z h => by rw [h] at hobj; cases hobj) hselP hmethM habM hkP hkPi (g := g) hg (argsL := argsL) (rest := rest) (hlen _ hsigM) hstack hdg
  rcases hK m meth c ⟨T.setVm vm₁, locs, cells, slots⟩ { g with stack := rest } (.invokevirtual index) mk (Value.ref b :: argsL).toArray X₁ hg hsize hdg hW (X₁.named hnamed) (hpre vm₁ X₁.warmed) with ⟨v, B, X', hpost, hsteps⟩ | ⟨q, B, X', hpost, hsteps⟩
  · exact Or.inl ⟨v, vm₁, B, X₁.warmed, X', hpost, fun target h => hstep₁ _ fun acts => by rw [doInvoke_state]; exact hsteps.trans h⟩
  · exact Or.inr ⟨q, vm₁, B, X₁.warmed, X', hpost, hstep₁ _ fun acts => by rw [doInvoke_state]; exact hsteps⟩
theorem vx_callS (X : Stand p l e R s m args below meth c T locs cells slots) (hexec : p.tables.exec = Jvm.exec) {own : String} {index : Nat} {y : MethodName} {bytes : ByteArray} {maxL : Nat} {ret : Option FieldType}
    (hown : s.vm.findClass own = some m.cls) (hlink : (Cond.methodLink own index y).before args s = true) (hstat : (Cond.static y).before args s = true) (hinit : (Cond.initialized y.cls).before args s = true)
    (hcode : (Cond.code y bytes maxL ret).before args s = true) (hy : y.cls ≠ "java/lang/invoke/MethodHandle" ∧ y.cls ≠ "java/lang/invoke/VarHandle")
    {W9 : Nat} {Pre : Pt → Array Value → Prop} {Post : Pt → Array Value → Option Value → Pt → Prop} {PostX : Pt → Array Value → Addr → Pt → Prop} (hK : vx_Back l R p e below s args y 3 W9 Pre Post PostX)
    {g : JFrame} (hg : g.method = m) (hsize : g.locals.size = c.maxLocals) {argsL rest : List Value} (hlen : ∀ sig, parseMethodDescriptor y.desc = some sig → argsL.length = sig.parameters.length)
    (hstack : g.stack = argsL.reverse ++ rest) (hW : 2 * g.monitorRoom + (rest.map fun v => v.category).sum ≤ W9) (hdg : decode c.code g.pc = .ok (.invokestatic index, 3))
    (hpre : ∀ vm₁, s.WarmedH vm₁ → Pre ⟨T.setVm vm₁, locs, cells, slots⟩ argsL.toArray) :
    (∃ (v : Option Value) (vm₁ : Vm) (B : Pt), s.WarmedH vm₁ ∧ Stand p l e R s m args below meth c B.U B.locs B.cells B.slots ∧ Post ⟨T.setVm vm₁, locs, cells, slots⟩ argsL.toArray v B ∧
      ∀ target, Steps p.tables e below (B.U.setTop { g with pc := g.pc + 3, stack := v.toList ++ rest }) target → Steps p.tables e below (T.setTop g) target) ∨
    (∃ (q : Addr) (vm₁ : Vm) (B : Pt), s.WarmedH vm₁ ∧ Stand p l e R s m args below meth c B.U B.locs B.cells B.slots ∧ PostX ⟨T.setVm vm₁, locs, cells, slots⟩ argsL.toArray q B ∧
      Steps p.tables e below (T.setTop g) ((B.U.setTop { g with stack := rest }).pushFrame (.throwing q))) := by
  obtain ⟨mk, hnamed⟩ := Cond.code_named hcode
  obtain ⟨methM, cM, hmethM, -, -, -, -, -, -, hsigM⟩ := Cond.code_spec hnamed hcode
  have hstatic : methM.isStatic = true := Cond.static_spec hnamed hmethM hstat
  obtain ⟨kP, hkP, -⟩ := className_of_methodNamed hnamed
  have hinitP : kP.init = .initialized := Cond.initialized_spec (findClass_of_methodNamed hnamed) hkP hinit
  obtain ⟨vm₁, X₁, hstep₁⟩ := X.invokestatic hexec hown hlink hnamed hmethM hstatic hkP hinitP hy (g := g) hg (argsL := argsL) (rest := rest) (hlen _ hsigM) hstack hdg
  rcases hK m meth c ⟨T.setVm vm₁, locs, cells, slots⟩ { g with stack := rest } (.invokestatic index) mk argsL.toArray X₁ hg hsize hdg hW (X₁.named hnamed) (hpre vm₁ X₁.warmed) with ⟨v, B, X', hpost, hsteps⟩ | ⟨q, B, X', hpost, hsteps⟩
  · exact Or.inl ⟨v, vm₁, B, X₁.warmed, X', hpost, fun target h => hstep₁ _ fun acts => by rw [doInvoke_state]; exact hsteps.trans h⟩
  · exact Or.inr ⟨q, vm₁, B, X₁.warmed, X', hpost, hstep₁ _ fun acts => by rw [doInvoke_state]; exact hsteps⟩
end Calls
theorem vx_cls {s : State} {T : State} {vm₁ : Vm} {E : String} {k : ClassId} (hW : s.WarmedH vm₁) (h : (T.setVm vm₁).vm.findClass E = some k) : s.vm.findClass E = some k := by
  have h1 : vm₁.findClass E = some k := h
  rw [hW.alike.findClass] at h1
  exact h1
/-- the method's frame g, with q thrown over it -/
def vx_W (p : Program) (l : Launch) (e : Env) (R : Room) (s : State) (m : MethodId) (args : Array Value) (below : List Frame) (meth : Method) (c : Code) (H : Heap) (locs : List Loc) (cells slots : Nat) (Q : State → Prop) (g : JFrame) (q : Addr) : Prop :=
  ∀ T : State, T.heap = H → Stand p l e R s m args below meth c T locs cells slots → ∃ t, Steps p.tables e below ((T.setTop g).pushFrame (.throwing q)) t ∧ Q t
def vx_Run (p : Program) (l : Launch) (e : Env) (R : Room) (s : State) (m : MethodId) (args : Array Value) (below : List Frame) (meth : Method) (c : Code) (H : Heap) (locs : List Loc) (cells slots mc ms : Nat) (g : JFrame) (rest : List Value) (Qa : State → Outcome → State → Prop) (XC : String → State → State → Prop) (free : Addr → Prop) : Prop :=
  ∀ T : State, T.heap = H → Stand p l e R s m args below meth c T locs cells slots →
    (∃ (v : Option Value) (st₀ t T' : State) (L : List Loc), st₀.heap = H ∧ Stand p l e R s m args below meth c T' (locs ++ L) (cells + mc) (slots + ms) ∧ (∀ q ∈ L, free q.base) ∧ T'.heap = t.heap ∧ T'.vm = t.vm ∧ Qa st₀ (.returned v) t ∧
      Goes p e below T g T' { g with pc := g.pc + 3, stack := v.toList ++ rest }) ∨
    (∃ (q : Addr) (st₀ t T' : State) (L : List Loc) (E : String) (ce : Cell), st₀.heap = H ∧ Stand p l e R s m args below meth c T' (locs ++ L) (cells + mc) (slots + ms) ∧ (∀ z ∈ L, free z.base) ∧ T'.heap = t.heap ∧ T'.vm = t.vm ∧ XC E st₀ t ∧ t.heap[q]? = some ce ∧ ce.vm = .none ∧ s.vm.findClass E = some ce.cls ∧
      Steps p.tables e below (T.setTop g) ((T'.setTop { g with stack := rest }).pushFrame (.throwing q)))
def vx_X {S : Type} (px : S → Prop) (B : String → S → State → Prop) (A : Nat → Prop) : String → State → State → Prop := fun E st t => ∃ u : S, px u ∧ B E u t ∧ va_F A st t
section Runs
variable {p : Program} {l : Launch} {e : Env} {R : Room} {s : State} {m : MethodId} {args : Array Value} {below : List Frame} {meth : Method} {c : Code} {H : Heap} {locs : List Loc} {cells slots : Nat}
variable {y : MethodName} {bytes cc : ByteArray} {maxL nL mc ms n index : Nat} {ret : Option FieldType} {ws : List Cond} {rm : Room} {Pc : Array Value → State → Prop} {Qc : Array Value → State → Outcome → State → Prop} {XC : String → State → State → Prop} {free : Addr → Prop} {Ts : List Cond} {own C : String} {b : Addr} {As rest : List Value} {g : JFrame}
theorem vx_callBack (cb : CallB R s args own index y bytes maxL ret ws rm mc ms n) (hM : vx_Met l y ws rm Pc Qc XC mc ms free) (hbl : FrameBlind Pc) : vx_Back l R p e below s args y 3 8 (PreOf R mc ms Pc) (PostOf Qc mc ms free) (vx_Post XC mc ms free) := by
  obtain ⟨hrc, hrs, hfr, hlo, hws, hcw, -, hini, -⟩ := cb
  exact vx_back (bytes := bytes) (maxL := maxL) (ret := ret) hM hbl hrc hrs hfr hlo hws hcw (fun a' U hW => word_at hW (Or.inl (by first | rfl | simp [Cond.onTables, Cond.keeps, Cond.steady])) hini)
theorem vx_runV (S : CallFix p m c cc nL s args Ts own) (hM : vx_Met l y ws rm Pc Qc XC mc ms free) (cw : CallW R s args own C index y bytes maxL ret ws rm mc ms n) (hp : PreV s H C b Pc As)
    (hg : g.method = m) (hn : As.length = n) (hsize : g.locals.size = nL) (hstack : g.stack = As.reverse ++ .ref b :: rest) (hW : 2 * g.monitorRoom + (rest.map fun v => v.category).sum ≤ 8) (hdg : decode cc g.pc = .ok (.invokevirtual index, 3)) (hf : cells + mc ≤ R.cells ∧ slots + ms ≤ R.slots) :
    vx_Run p l e R s m args below meth c H locs cells slots mc ms g rest (Qc (Value.ref b :: As).toArray) XC free := by
  have hK : vx_Back l R p e below s args y 3 8 (PreOf R mc ms Pc) (PostOf Qc mc ms free) (vx_Post XC mc ms free) := vx_callBack cw.1 hM hp.1
  obtain ⟨⟨-, -, -, -, -, -, hcode, -, hy, hlen, hl⟩, hin, hse⟩ := cw
  obtain ⟨hx, hb, hml, ho, -⟩ := S
  obtain ⟨-, ⟨cellB, hcB, hoB, hclB⟩, hPc⟩ := hp
  intro T hT X
  rcases vx_callV X hx (C := C) (bytes := bytes) (maxL := maxL) (ret := ret) ho hl hin hse hcode hy hK (by rw [hT]; exact hcB) hoB hclB hg (hsize.trans hml.symm) (argsL := As) (rest := rest) (fun sig h => hn.trans (hlen sig h)) hstack hW (by rw [hb]; exact hdg)
    (fun vm₁ hW₁ => ⟨hf.1, hf.2, hPc (T.setVm vm₁) hT hW₁⟩) with ⟨v, vm₁, ⟨U', l2, c2, s2⟩, hW₁, X', ⟨g', mk, t, L, e1, e2, hq, h1, hL, h2, h3⟩, st⟩ | ⟨q, vm₁, ⟨U', l2, c2, s2⟩, hW₁, X', ⟨g', mk, t, L, E, ce, e1, e2, hq, hce, hcv, hcl, h1, hL, h2, h3⟩, st⟩
  · dsimp only [Pt.U, Pt.locs, Pt.cells, Pt.slots] at X' e1 e2 h1 h2 h3 st
    subst h1; subst h2; subst h3
    exact Or.inl ⟨v, (T.setVm vm₁).calling g' mk (Value.ref b :: As).toArray, t, U', L, hT, X', hL, e1, e2, hq, st⟩
  · dsimp only [Pt.U, Pt.locs, Pt.cells, Pt.slots] at X' e1 e2 h1 h2 h3 st hcl
    subst h1; subst h2; subst h3
    exact Or.inr ⟨q, (T.setVm vm₁).calling g' mk (Value.ref b :: As).toArray, t, U', L, E, ce, hT, X', hL, e1, e2, hq, hce, hcv, vx_cls hW₁ hcl, st⟩
theorem vx_runS (S : CallFix p m c cc nL s args Ts own) (hM : vx_Met l y ws rm Pc Qc XC mc ms free) (cw : CallB R s args own index y bytes maxL ret ws rm mc ms n ∧ (Cond.static y).before args s = true) (hp : PreS s H Pc As)
    (hg : g.method = m) (hn : As.length = n) (hsize : g.locals.size = nL) (hstack : g.stack = As.reverse ++ rest) (hW : 2 * g.monitorRoom + (rest.map fun v => v.category).sum ≤ 8) (hdg : decode cc g.pc = .ok (.invokestatic index, 3)) (hf : cells + mc ≤ R.cells ∧ slots + ms ≤ R.slots) :
    vx_Run p l e R s m args below meth c H locs cells slots mc ms g rest (Qc As.toArray) XC free := by
  have hK : vx_Back l R p e below s args y 3 8 (PreOf R mc ms Pc) (PostOf Qc mc ms free) (vx_Post XC mc ms free) := vx_callBack cw.1 hM hp.1
  obtain ⟨⟨-, -, -, -, -, -, hcode, hini, hy, hlen, hl⟩, hstt⟩ := cw
  obtain ⟨hx, hb, hml, ho, -⟩ := S
  intro T hT X
  rcases vx_callS X hx (bytes := bytes) (maxL := maxL) (ret := ret) ho hl hstt hini hcode hy hK hg (hsize.trans hml.symm) (argsL := As) (rest := rest) (fun sig h => hn.trans (hlen sig h)) hstack hW (by rw [hb]; exact hdg)
    (fun vm₁ hW₁ => ⟨hf.1, hf.2, hp.2 (T.setVm vm₁) hT hW₁⟩) with ⟨v, vm₁, ⟨U', l2, c2, s2⟩, hW₁, X', ⟨g', mk, t, L, e1, e2, hq, h1, hL, h2, h3⟩, st⟩ | ⟨q, vm₁, ⟨U', l2, c2, s2⟩, hW₁, X', ⟨g', mk, t, L, E, ce, e1, e2, hq, hce, hcv, hcl, h1, hL, h2, h3⟩, st⟩
  · dsimp only [Pt.U, Pt.locs, Pt.cells, Pt.slots] at X' e1 e2 h1 h2 h3 st
    subst h1; subst h2; subst h3
    exact Or.inl ⟨v, (T.setVm vm₁).calling g' mk As.toArray, t, U', L, hT, X', hL, e1, e2, hq, st⟩
  · dsimp only [Pt.U, Pt.locs, Pt.cells, Pt.slots] at X' e1 e2 h1 h2 h3 st hcl
    subst h1; subst h2; subst h3
    exact Or.inr ⟨q, (T.setVm vm₁).calling g' mk As.toArray, t, U', L, E, ce, hT, X', hL, e1, e2, hq, hce, hcv, vx_cls hW₁ hcl, st⟩
end Runs
section Rows
variable {p : Program} {l : Launch} {e : Env} {R : Room} {s : State} {m : MethodId} {args : Array Value} {below : List Frame} {meth : Method} {c : Code} {H : Heap} {locs : List Loc} {cells slots : Nat} {Q : State → Prop}
variable {mc ms : Nat} {free : Addr → Prop} {A0 A1 : Nat → Prop} {H0 : Heap} {a : Array Value} {pc : Nat} {ls : Array Slot} {st0 rest : List Value}
theorem vx_keep {st₀ t T' : State} {L : List Loc} (h0 : st₀.heap = H) (e1 : T'.heap = t.heap) (hS : va_S A0 H0 H locs) (hA : ∀ q, q < H.size → A1 q → A0 q) (hf : ∀ q, free q → A0 q) (hL : ∀ q ∈ L, free q.base) (hF : va_F A1 st₀ t) :
    H.size ≤ T'.heap.size ∧ (∀ q : Nat, q < H.size → ¬ A1 q → T'.heap[q]? = H[q]?) ∧ va_S A0 H0 T'.heap (locs ++ L) := by
  obtain ⟨hz, hk⟩ := hF
  rw [h0] at hz hk
  exact ⟨by rw [e1]; exact hz, fun q h1 h2 => by rw [e1]; exact hk q h1 h2,
    ⟨Nat.le_trans hS.1 (by rw [e1]; exact hz), fun q h1 h2 => by rw [e1, hk q (Nat.lt_of_lt_of_le h1 hS.1) (fun z => h2 (hA q (Nat.lt_of_lt_of_le h1 hS.1) z))]; exact hS.2.1 q h1 h2, fun q hq => by
      rcases List.mem_append.mp hq with h | h
      · exact hS.2.2 q h
      · exact hf _ (hL q h)⟩⟩
theorem vx_calli {S SX : Type} {post : Int32 → S → Prop} {px : SX → Prop} {B : S → State → Prop} {BX : String → SX → State → Prop} {AX : Nat → Prop} (hr : vx_Run p l e R s m args below meth c H locs cells slots mc ms (F0 m pc ls st0) rest (va_Qi post B A1 a) (vx_X px BX AX) free) (hS : va_S A0 H0 H locs) (hA : ∀ q, q < H.size → A1 q → A0 q) (hf : ∀ q, free q → A0 q) (hAX : ∀ q, q < H.size → AX q → A0 q)
    (kx : ∀ (E : String) (ce : Cell) (q9 : Addr) (u : SX) (t : State) (H1 : Heap) (locs1 : List Loc), t.heap = H1 → s.vm.Alike t.vm → px u → BX E u t → H.size ≤ H1.size → (∀ q : Nat, q < H.size → ¬ AX q → H1[q]? = H[q]?) → va_S A0 H0 H1 locs1 → H1[q9]? = some ce → ce.vm = .none → s.vm.findClass E = some ce.cls → vx_W p l e R s m args below meth c H1 locs1 (cells + mc) (slots + ms) Q (F0 m pc ls rest) q9)
    (kk : ∀ (r : Int32) (u : S) (t : State) (H1 : Heap) (locs1 : List Loc), t.heap = H1 → s.vm.Alike t.vm → post r u → B u t → H.size ≤ H1.size → (∀ q : Nat, q < H.size → ¬ A1 q → H1[q]? = H[q]?) → va_S A0 H0 H1 locs1 → W p l e R s m args below meth c H1 locs1 (cells + mc) (slots + ms) Q (F0 m (pc + 3) ls (.int r :: rest))) : W p l e R s m args below meth c H locs cells slots Q (F0 m pc ls st0) := by
  intro T hT X
  rcases hr T hT X with ⟨v, st₀, t, T', L, h0, X', hL, e1, e2, ⟨⟨r, u, hv, hp, hb⟩, hF⟩, st⟩ | ⟨q, st₀, t, T', L, E, ce, h0, X', hL, e1, e2, ⟨u, hp, hb, hF⟩, hce, hcv, hcl, st⟩
  · cases hv
    obtain ⟨k1, k2, k3⟩ := vx_keep h0 e1 hS hA hf hL hF
    obtain ⟨t2, a1, b1⟩ := kk r u t T'.heap (locs ++ L) e1.symm (by rw [← e2]; exact X'.warmed.alike) hp hb k1 k2 k3 T' rfl X'
    exact ⟨t2, st t2 a1, b1⟩
  · obtain ⟨k1, k2, k3⟩ := vx_keep h0 e1 hS hAX hf hL hF
    obtain ⟨t2, a1, b1⟩ := kx E ce q u t T'.heap (locs ++ L) e1.symm (by rw [← e2]; exact X'.warmed.alike) hp hb k1 k2 k3 (by rw [e1]; exact hce) hcv hcl T' rfl X'
    exact ⟨t2, st.trans a1, b1⟩
theorem vx_calll {S SX : Type} {post : Int64 → S → Prop} {px : SX → Prop} {B : S → State → Prop} {BX : String → SX → State → Prop} {AX : Nat → Prop} (hr : vx_Run p l e R s m args below meth c H locs cells slots mc ms (F0 m pc ls st0) rest (va_Ql post B A1 a) (vx_X px BX AX) free) (hS : va_S A0 H0 H locs) (hA : ∀ q, q < H.size → A1 q → A0 q) (hf : ∀ q, free q → A0 q) (hAX : ∀ q, q < H.size → AX q → A0 q)
    (kx : ∀ (E : String) (ce : Cell) (q9 : Addr) (u : SX) (t : State) (H1 : Heap) (locs1 : List Loc), t.heap = H1 → s.vm.Alike t.vm → px u → BX E u t → H.size ≤ H1.size → (∀ q : Nat, q < H.size → ¬ AX q → H1[q]? = H[q]?) → va_S A0 H0 H1 locs1 → H1[q9]? = some ce → ce.vm = .none → s.vm.findClass E = some ce.cls → vx_W p l e R s m args below meth c H1 locs1 (cells + mc) (slots + ms) Q (F0 m pc ls rest) q9)
    (kk : ∀ (r : Int64) (u : S) (t : State) (H1 : Heap) (locs1 : List Loc), t.heap = H1 → s.vm.Alike t.vm → post r u → B u t → H.size ≤ H1.size → (∀ q : Nat, q < H.size → ¬ A1 q → H1[q]? = H[q]?) → va_S A0 H0 H1 locs1 → W p l e R s m args below meth c H1 locs1 (cells + mc) (slots + ms) Q (F0 m (pc + 3) ls (.long r :: rest))) : W p l e R s m args below meth c H locs cells slots Q (F0 m pc ls st0) := by
  intro T hT X
  rcases hr T hT X with ⟨v, st₀, t, T', L, h0, X', hL, e1, e2, ⟨⟨r, u, hv, hp, hb⟩, hF⟩, st⟩ | ⟨q, st₀, t, T', L, E, ce, h0, X', hL, e1, e2, ⟨u, hp, hb, hF⟩, hce, hcv, hcl, st⟩
  · cases hv
    obtain ⟨k1, k2, k3⟩ := vx_keep h0 e1 hS hA hf hL hF
    obtain ⟨t2, a1, b1⟩ := kk r u t T'.heap (locs ++ L) e1.symm (by rw [← e2]; exact X'.warmed.alike) hp hb k1 k2 k3 T' rfl X'
    exact ⟨t2, st t2 a1, b1⟩
  · obtain ⟨k1, k2, k3⟩ := vx_keep h0 e1 hS hAX hf hL hF
    obtain ⟨t2, a1, b1⟩ := kx E ce q u t T'.heap (locs ++ L) e1.symm (by rw [← e2]; exact X'.warmed.alike) hp hb k1 k2 k3 (by rw [e1]; exact hce) hcv hcl T' rfl X'
    exact ⟨t2, st.trans a1, b1⟩
theorem vx_callf {S SX : Type} {post : UInt32 → S → Prop} {px : SX → Prop} {B : S → State → Prop} {BX : String → SX → State → Prop} {AX : Nat → Prop} (hr : vx_Run p l e R s m args below meth c H locs cells slots mc ms (F0 m pc ls st0) rest (va_Qf post B A1 a) (vx_X px BX AX) free) (hS : va_S A0 H0 H locs) (hA : ∀ q, q < H.size → A1 q → A0 q) (hf : ∀ q, free q → A0 q) (hAX : ∀ q, q < H.size → AX q → A0 q)
    (kx : ∀ (E : String) (ce : Cell) (q9 : Addr) (u : SX) (t : State) (H1 : Heap) (locs1 : List Loc), t.heap = H1 → s.vm.Alike t.vm → px u → BX E u t → H.size ≤ H1.size → (∀ q : Nat, q < H.size → ¬ AX q → H1[q]? = H[q]?) → va_S A0 H0 H1 locs1 → H1[q9]? = some ce → ce.vm = .none → s.vm.findClass E = some ce.cls → vx_W p l e R s m args below meth c H1 locs1 (cells + mc) (slots + ms) Q (F0 m pc ls rest) q9)
    (kk : ∀ (r : UInt32) (u : S) (t : State) (H1 : Heap) (locs1 : List Loc), t.heap = H1 → s.vm.Alike t.vm → post r u → B u t → H.size ≤ H1.size → (∀ q : Nat, q < H.size → ¬ A1 q → H1[q]? = H[q]?) → va_S A0 H0 H1 locs1 → W p l e R s m args below meth c H1 locs1 (cells + mc) (slots + ms) Q (F0 m (pc + 3) ls (.float r :: rest))) : W p l e R s m args below meth c H locs cells slots Q (F0 m pc ls st0) := by
  intro T hT X
  rcases hr T hT X with ⟨v, st₀, t, T', L, h0, X', hL, e1, e2, ⟨⟨r, u, hv, hp, hb⟩, hF⟩, st⟩ | ⟨q, st₀, t, T', L, E, ce, h0, X', hL, e1, e2, ⟨u, hp, hb, hF⟩, hce, hcv, hcl, st⟩
  · cases hv
    obtain ⟨k1, k2, k3⟩ := vx_keep h0 e1 hS hA hf hL hF
    obtain ⟨t2, a1, b1⟩ := kk r u t T'.heap (locs ++ L) e1.symm (by rw [← e2]; exact X'.warmed.alike) hp hb k1 k2 k3 T' rfl X'
    exact ⟨t2, st t2 a1, b1⟩
  · obtain ⟨k1, k2, k3⟩ := vx_keep h0 e1 hS hAX hf hL hF
    obtain ⟨t2, a1, b1⟩ := kx E ce q u t T'.heap (locs ++ L) e1.symm (by rw [← e2]; exact X'.warmed.alike) hp hb k1 k2 k3 (by rw [e1]; exact hce) hcv hcl T' rfl X'
    exact ⟨t2, st.trans a1, b1⟩
theorem vx_calld {S SX : Type} {post : UInt64 → S → Prop} {px : SX → Prop} {B : S → State → Prop} {BX : String → SX → State → Prop} {AX : Nat → Prop} (hr : vx_Run p l e R s m args below meth c H locs cells slots mc ms (F0 m pc ls st0) rest (va_Qd post B A1 a) (vx_X px BX AX) free) (hS : va_S A0 H0 H locs) (hA : ∀ q, q < H.size → A1 q → A0 q) (hf : ∀ q, free q → A0 q) (hAX : ∀ q, q < H.size → AX q → A0 q)
    (kx : ∀ (E : String) (ce : Cell) (q9 : Addr) (u : SX) (t : State) (H1 : Heap) (locs1 : List Loc), t.heap = H1 → s.vm.Alike t.vm → px u → BX E u t → H.size ≤ H1.size → (∀ q : Nat, q < H.size → ¬ AX q → H1[q]? = H[q]?) → va_S A0 H0 H1 locs1 → H1[q9]? = some ce → ce.vm = .none → s.vm.findClass E = some ce.cls → vx_W p l e R s m args below meth c H1 locs1 (cells + mc) (slots + ms) Q (F0 m pc ls rest) q9)
    (kk : ∀ (r : UInt64) (u : S) (t : State) (H1 : Heap) (locs1 : List Loc), t.heap = H1 → s.vm.Alike t.vm → post r u → B u t → H.size ≤ H1.size → (∀ q : Nat, q < H.size → ¬ A1 q → H1[q]? = H[q]?) → va_S A0 H0 H1 locs1 → W p l e R s m args below meth c H1 locs1 (cells + mc) (slots + ms) Q (F0 m (pc + 3) ls (.double r :: rest))) : W p l e R s m args below meth c H locs cells slots Q (F0 m pc ls st0) := by
  intro T hT X
  rcases hr T hT X with ⟨v, st₀, t, T', L, h0, X', hL, e1, e2, ⟨⟨r, u, hv, hp, hb⟩, hF⟩, st⟩ | ⟨q, st₀, t, T', L, E, ce, h0, X', hL, e1, e2, ⟨u, hp, hb, hF⟩, hce, hcv, hcl, st⟩
  · cases hv
    obtain ⟨k1, k2, k3⟩ := vx_keep h0 e1 hS hA hf hL hF
    obtain ⟨t2, a1, b1⟩ := kk r u t T'.heap (locs ++ L) e1.symm (by rw [← e2]; exact X'.warmed.alike) hp hb k1 k2 k3 T' rfl X'
    exact ⟨t2, st t2 a1, b1⟩
  · obtain ⟨k1, k2, k3⟩ := vx_keep h0 e1 hS hAX hf hL hF
    obtain ⟨t2, a1, b1⟩ := kx E ce q u t T'.heap (locs ++ L) e1.symm (by rw [← e2]; exact X'.warmed.alike) hp hb k1 k2 k3 (by rw [e1]; exact hce) hcv hcl T' rfl X'
    exact ⟨t2, st.trans a1, b1⟩
theorem vx_callv {S SX : Type} {post : S → Prop} {px : SX → Prop} {B : S → State → Prop} {BX : String → SX → State → Prop} {AX : Nat → Prop} (hr : vx_Run p l e R s m args below meth c H locs cells slots mc ms (F0 m pc ls st0) rest (va_Qv post B A1 a) (vx_X px BX AX) free) (hS : va_S A0 H0 H locs) (hA : ∀ q, q < H.size → A1 q → A0 q) (hf : ∀ q, free q → A0 q) (hAX : ∀ q, q < H.size → AX q → A0 q)
    (kx : ∀ (E : String) (ce : Cell) (q9 : Addr) (u : SX) (t : State) (H1 : Heap) (locs1 : List Loc), t.heap = H1 → s.vm.Alike t.vm → px u → BX E u t → H.size ≤ H1.size → (∀ q : Nat, q < H.size → ¬ AX q → H1[q]? = H[q]?) → va_S A0 H0 H1 locs1 → H1[q9]? = some ce → ce.vm = .none → s.vm.findClass E = some ce.cls → vx_W p l e R s m args below meth c H1 locs1 (cells + mc) (slots + ms) Q (F0 m pc ls rest) q9)
    (kk : ∀ (u : S) (t : State) (H1 : Heap) (locs1 : List Loc), t.heap = H1 → s.vm.Alike t.vm → post u → B u t → H.size ≤ H1.size → (∀ q : Nat, q < H.size → ¬ A1 q → H1[q]? = H[q]?) → va_S A0 H0 H1 locs1 → W p l e R s m args below meth c H1 locs1 (cells + mc) (slots + ms) Q (F0 m (pc + 3) ls (rest))) : W p l e R s m args below meth c H locs cells slots Q (F0 m pc ls st0) := by
  intro T hT X
  rcases hr T hT X with ⟨v, st₀, t, T', L, h0, X', hL, e1, e2, ⟨⟨u, hv, hp, hb⟩, hF⟩, st⟩ | ⟨q, st₀, t, T', L, E, ce, h0, X', hL, e1, e2, ⟨u, hp, hb, hF⟩, hce, hcv, hcl, st⟩
  · cases hv
    obtain ⟨k1, k2, k3⟩ := vx_keep h0 e1 hS hA hf hL hF
    obtain ⟨t2, a1, b1⟩ := kk u t T'.heap (locs ++ L) e1.symm (by rw [← e2]; exact X'.warmed.alike) hp hb k1 k2 k3 T' rfl X'
    exact ⟨t2, st t2 a1, b1⟩
  · obtain ⟨k1, k2, k3⟩ := vx_keep h0 e1 hS hAX hf hL hF
    obtain ⟨t2, a1, b1⟩ := kx E ce q u t T'.heap (locs ++ L) e1.symm (by rw [← e2]; exact X'.warmed.alike) hp hb k1 k2 k3 (by rw [e1]; exact hce) hcv hcl T' rfl X'
    exact ⟨t2, st.trans a1, b1⟩
/-- caught by the row x of this method's table; the rows ahead don't take it -/
theorem vx_catch {own name : String} {E : String} {ce : Cell} {q : Addr} (hown : s.vm.findClass own = some m.cls) (pre : List ExceptionTableEntry) (x : ExceptionTableEntry) (suf : List ExceptionTableEntry) (hsplit : c.exceptionTable.toList = pre ++ x :: suf)
    (hpass : ∀ z ∈ pre, covers z pc = false ∨ (z.catchType ≠ 0 ∧ ∃ nm : String, (Cond.classLink own z.catchType nm).before args s = true ∧ va_Nc E nm s)) (hx : covers x pc = true) (h0 : x.catchType ≠ 0)
    (hlink : (Cond.classLink own x.catchType name).before args s = true) (hcast : (Cond.castable E name).before args s = true) (hcell : H[q]? = some ce) (hv : ce.vm = .none) (hcl : s.vm.findClass E = some ce.cls)
    (kk : W p l e R s m args below meth c H locs cells slots Q (F0 m x.handlerPc ls [.ref q])) : vx_W p l e R s m args below meth c H locs cells slots Q (F0 m pc ls rest) q := by
  intro T hT X
  have hpl : e.platform.magicAccessors = ({} : Platform).magicAccessors := by rw [X.admits.platform]
  obtain ⟨c3, c4, hc3, hc4, hasg⟩ := Cond.castable_spec hcast
  cases Option.some.inj (hc3.symm.trans hcl)
  obtain ⟨c5, hc5, hcl5⟩ := Cond.classLink_spec hown hlink e.platform hpl
  cases Option.some.inj (hc4.symm.trans hc5)
  obtain ⟨vm', X', st⟩ := X.thenCaughtThrough q (g := F0 m pc ls rest) rfl (Steps.refl _) (by rw [hT]; exact hcell) (by rw [hv]; rfl) (by obtain ⟨k9, h9, -⟩ := Vm.findClass_spec hcl; exact ⟨k9, h9⟩) pre x suf hsplit
    (fun z hz => by
      rcases hpass z hz with h | ⟨hz0, nm, hl1, hn1⟩
      · exact Or.inl h
      · obtain ⟨c6, hc6, hcl6⟩ := Cond.classLink_spec hown hl1 e.platform hpl
        obtain ⟨a8, b8, h1, h2, h3⟩ := hn1
        cases Option.some.inj (h1.symm.trans hcl)
        cases Option.some.inj (h2.symm.trans hc6)
        exact Or.inr ⟨hz0, _, hcl6, h3⟩) hx (Or.inr ⟨h0, c4, hcl5, hasg⟩)
  obtain ⟨t, a1, b1⟩ := kk (T.setVm vm') hT X'
  exact ⟨t, st.trans a1, b1⟩
end Rows
section Ends
variable {p : Program} {l : Launch} {e : Env} {R : Room} {s : State} {m : MethodId} {args : Array Value} {below : List Frame} {meth : Method} {c : Code} {H : Heap} {locs : List Loc} {cells slots : Nat} {Q : State → Prop}
variable {mc ms : Nat} {free : Addr → Prop} {A0 A1 : Nat → Prop} {H0 : Heap} {a : Array Value} {ls : Array Slot} {st0 rest : List Value}
variable {Qc : Array Value → State → Outcome → State → Prop} {XC : String → State → State → Prop}
/-- what a body that may throw owes at its end -/
def vx_MQ (below : List Frame) (Qc : Array Value → State → Outcome → State → Prop) (XC : String → State → State → Prop) (a : Array Value) (s : State) (mc ms : Nat) (free : Addr → Prop) : State → Prop := fun t =>
  ∃ o, t.status = .running ∧ Ended t below o ∧ vx_Q Qc XC mc ms free a s o t
theorem vx_ret {g : JFrame} {mc ms : Nat} (k : W p l e R s m args below meth c H locs cells slots (MQ below Qc args s mc ms free) g) : W p l e R s m args below meth c H locs cells slots (vx_MQ below Qc XC args s mc ms free) g := by
  intro T hT X
  obtain ⟨t, a1, o, b1, b2, b3, b4⟩ := k T hT X
  exact ⟨t, a1, o, b1, b2, Or.inl ⟨b3, b4⟩⟩
/-- not caught here: it goes on to the caller -/
theorem vx_widen {g : JFrame} {q : Addr} {k n : Nat} (h1 : cells ≤ k) (h2 : slots ≤ n) (kk : vx_W p l e R s m args below meth c H locs k n Q g q) : vx_W p l e R s m args below meth c H locs cells slots Q g q := fun T hT X => kk T hT (stand_widen X h1 h2)
theorem vx_out {pc : Nat} {E : String} {ce : Cell} {q : Addr} {mc ms : Nat} (hout : ∀ x ∈ c.exceptionTable.toList, covers x pc = false) (hlocks : meth.locks = false) (hcell : H[q]? = some ce) (hv : ce.vm = .none) (hcl : s.vm.findClass E = some ce.cls)
    (hx : ∀ t : State, t.heap = H → s.vm.Alike t.vm → XC E s t) (hf : ∀ z ∈ locs, free z.base) (hc : cells ≤ mc) (hs : slots ≤ ms) :
    vx_W p l e R s m args below meth c H locs cells slots (vx_MQ below Qc XC args s mc ms free) (F0 m pc ls rest) q := by
  intro T hT X
  obtain ⟨st1, hrun, hend, hW, hsm⟩ := X.leaveThrown q (g := F0 m pc ls rest) rfl rfl rfl hout hlocks
  have hcell9 : (T.setFrames (.throwing q :: below)).heap[q]? = some ce := by
    show T.heap[q]? = some ce
    rw [hT]; exact hcell
  exact ⟨_, st1, .threw q, hrun, hend, Or.inr ⟨q, rfl, E, ce, locs, hx _ hT hW.alike, hcell9, hv, hcl, hW, hsm.mono hc hs, hf⟩⟩
theorem vx_frame {U : State} {k n : Nat} (h : s.sameButNew ({ U with vm := s.vm } : State) locs k n) : s.heap.size ≤ U.heap.size ∧ ∀ q : Nat, q < s.heap.size → (∀ z ∈ locs, z.base ≠ q) → U.heap[q]? = s.heap[q]? := by
  obtain ⟨-, h2, -, -, -, h6⟩ := h
  refine ⟨h2, fun q hq hz => ?_⟩
  obtain ⟨c9, e1, e2, e3, e4⟩ := h6 q _ (Array.getElem?_eq_getElem hq)
  have hs : c9.slots = (s.heap[q]).slots := Array.ext_getElem? fun i => e4 i fun hm => hz _ hm rfl
  have h9 : c9 = s.heap[q] := by
    rw [hs] at e2
    exact e2
  have e5 : U.heap[q]? = some c9 := e1
  rw [e5, h9, Array.getElem?_eq_getElem hq]
/-- the words of a throw but the four that speak of the heap -/
def vx_no (w : Cond) : Bool := decide (w ≠ .isRef (.static Bundle.tN "UNASSIGNED_STACK" Bundle.steD)) && decide (w ≠ .isRef (.static Bundle.tN "SUPPRESSED_SENTINEL" Bundle.listD)) && decide (w ≠ .laysStatic Bundle.tN "UNASSIGNED_STACK" Bundle.steD) && decide (w ≠ .laysStatic Bundle.tN "SUPPRESSED_SENTINEL" Bundle.listD)
def vx_at0 (own : String) (ic : Nat) (X : String) (names : List String) : List Cond := (Bundle.ownAtoms0 own ic X names).filter vx_no
def vx_atS (own : String) (ic : Nat) (X : String) (names : List String) : List Cond := (Bundle.ownAtoms own ic X names).filter vx_no
/-- a word that the tables alone decide, or a good one -/
def vx_ot (w : Cond) : Bool := w.onTables || goodWord w
theorem vx_ot_at {args a' : Array Value} {s U : State} {w : Cond} (hW : s.WarmedH U.vm) (hvm : s.vm = U.vm) (hg : vx_ot w = true) (h : w.before args s = true) : w.before a' U = true := by
  simp only [vx_ot, Bool.or_eq_true] at hg
  rcases hg with hg | hg
  · exact va_tabs hg hvm h
  · exact word_at hW (good_of_word hg) h
/-- a list's words: the good ones out of the method's own list, the others by premises of their own -/
theorem vx_hat {args : Array Value} {s : State} {L B : List Cond} (h1 : ∀ w ∈ L.filter goodWord, w.before args s = true) (h2 : ∀ w ∈ L.filter (fun w => !goodWord w), w ∈ B) (h3 : ∀ w ∈ B, w.before args s = true) : ∀ w ∈ L, w.before args s = true := by
  intro w hw
  by_cases g : goodWord w = true
  · exact h1 w (List.mem_filter.mpr ⟨hw, g⟩)
  · refine h3 w (h2 w (List.mem_filter.mpr ⟨hw, ?_⟩))
    show (!goodWord w) = true
    cases hgw : goodWord w
    · rfl
    · exact absurd hgw g
theorem vx_c {args : Array Value} {s : State} {w : Cond} {B : List Cond} (h : w.before args s = true) (t : ∀ w ∈ B, w.before args s = true) : ∀ w' ∈ w :: B, w'.before args s = true := fun w' h' => (List.mem_cons.mp h').elim (fun e => by rw [e]; exact h) (t w')
theorem vx_n {args : Array Value} {s : State} : ∀ w ∈ ([] : List Cond), w.before args s = true := fun _ h => nomatch h
theorem vx_own {args : Array Value} {s : State} {L : List Cond} (h1 : ∀ w ∈ L.filter vx_no, w.before args s = true)
    (hU : (Cond.isRef (.static Bundle.tN "UNASSIGNED_STACK" Bundle.steD)).before args s = true) (hN : (Cond.isRef (.static Bundle.tN "SUPPRESSED_SENTINEL" Bundle.listD)).before args s = true)
    (lU : (Cond.laysStatic Bundle.tN "UNASSIGNED_STACK" Bundle.steD).before args s = true) (lN : (Cond.laysStatic Bundle.tN "SUPPRESSED_SENTINEL" Bundle.listD).before args s = true) : ∀ w ∈ L, w.before args s = true := by
  intro w hw
  by_cases e1 : w = .isRef (.static Bundle.tN "UNASSIGNED_STACK" Bundle.steD)
  · rw [e1]; exact hU
  · by_cases e2 : w = .isRef (.static Bundle.tN "SUPPRESSED_SENTINEL" Bundle.listD)
    · rw [e2]; exact hN
    · by_cases e3 : w = .laysStatic Bundle.tN "UNASSIGNED_STACK" Bundle.steD
      · rw [e3]; exact lU
      · by_cases e4 : w = .laysStatic Bundle.tN "SUPPRESSED_SENTINEL" Bundle.listD
        · rw [e4]; exact lN
        · exact h1 w (List.mem_filter.mpr ⟨hw, by unfold vx_no; rw [decide_eq_true e1, decide_eq_true e2, decide_eq_true e3, decide_eq_true e4]; rfl⟩)
/-- where a static field lies, its class's statics cell in H -/
def vx_L (C n d : String) (A : Nat → Prop) (U : State) (H : Heap) : Prop := ∃ (c : ClassId) (k : Class) (i : Nat) (f : Field) (a : Nat) (cell : Cell), U.vm.findClass C = some c ∧ U.fieldFound? C n d = some (c, k, i, f) ∧ f.isStatic = true ∧ k.statics = some a ∧ H[a]? = some cell ∧ cell.vm.isStatics = true ∧ cell.cls = c ∧ f.slot < cell.slots.size ∧ k.staticTypes[f.slot]? = some f.type ∧ ¬ A a
theorem vx_L.moved {C n d : String} {A : Nat → Prop} {u U : State} {H : Heap} (hvm : u.vm.Alike U.vm) (h : vx_L C n d A u H) : vx_L C n d A U H := by
  obtain ⟨c, k, i, f, a, cell, h1, h2, h3, h4, h5, h6, h7, h8, h9, h10⟩ := h
  obtain ⟨k', hi', he⟩ := State.fieldFound?_setVm hvm h2
  exact ⟨c, k', i, f, a, cell, by rw [hvm.findClass]; exact h1, hi', h3, by rw [he]; exact h4, h5, h6, h7, h8, by rw [he]; exact h9, h10⟩
theorem vx_L.kept {C n d : String} {A : Nat → Prop} {U : State} {H H1 : Heap} (h : vx_L C n d A U H) (hq : ∀ a : Nat, a < H.size → ¬ A a → H1[a]? = H[a]?) : vx_L C n d A U H1 := by
  obtain ⟨c, k, i, f, a, cell, h1, h2, h3, h4, h5, h6, h7, h8, h9, h10⟩ := h
  exact ⟨c, k, i, f, a, cell, h1, h2, h3, h4, by rw [hq a (Array.getElem?_eq_some_iff.mp h5).1 h10]; exact h5, h6, h7, h8, h9, h10⟩
theorem vx_L.narrow {C n d : String} {A B : Nat → Prop} {U : State} {H : Heap} (h : vx_L C n d A U H) (hAB : ∀ q, B q → A q) : vx_L C n d B U H := by
  obtain ⟨c, k, i, f, a, cell, h1, h2, h3, h4, h5, h6, h7, h8, h9, h10⟩ := h
  exact ⟨c, k, i, f, a, cell, h1, h2, h3, h4, h5, h6, h7, h8, h9, fun z => h10 (hAB _ z)⟩
theorem vx_L.word {C n d : String} {A : Nat → Prop} {s : State} {args : Array Value} (h : vx_L C n d A s s.heap) : (Cond.laysStatic C n d).before args s = true := by
  obtain ⟨c, k, i, f, a, cell, h1, h2, h3, h4, h5, h6, h7, h8, h9, -⟩ := h
  show (Cond.laysStatic C n d).holds args s none s [] = true
  exact Cond.laysStatic_of h1 h2 h3 h4 h5 h6 h7 h8 h9
/-- .. and what it holds: null or some reference -/
def vx_Zq (C n d : String) (A : Nat → Prop) (U : State) (H : Heap) : Prop := va_Zq C n d A U H ∧ vx_L C n d A U H
theorem vx_Zq.moved {C n d : String} {A : Nat → Prop} {u U : State} {H : Heap} (hvm : u.vm.Alike U.vm) (h : vx_Zq C n d A u H) : vx_Zq C n d A U H := ⟨va_Zq.moved hvm h.1, vx_L.moved hvm h.2⟩
theorem vx_Zq.kept {C n d : String} {A : Nat → Prop} {U : State} {H H1 : Heap} (h : vx_Zq C n d A U H) (hq : ∀ a : Nat, a < H.size → ¬ A a → H1[a]? = H[a]?) : vx_Zq C n d A U H1 := ⟨va_Zq.kept h.1 hq, vx_L.kept h.2 hq⟩
theorem vx_Zq.narrow {C n d : String} {A B : Nat → Prop} {U : State} {H : Heap} (h : vx_Zq C n d A U H) (hAB : ∀ q, B q → A q) : vx_Zq C n d B U H := ⟨va_Zq.narrow h.1 hAB, vx_L.narrow h.2 hAB⟩
theorem vx_Zqof {args : Array Value} {s : State} {C n d : String} {A : Nat → Prop} (hl : (Cond.laysStatic C n d).before args s = true) (hini : (Cond.initialized C).before args s = true) (h : (Cond.isRef (.static C n d)).before args s = true) (hA : ∀ a : Nat, a < s.heap.size → ¬ A a) : vx_Zq C n d A s s.heap := by
  refine ⟨va_Zqof hl hini h hA, ?_⟩
  obtain ⟨c, k, i, f, a, cell, h1, h2, h3, h4, h5, h6, h7, h8, h9⟩ := Cond.laysStatic_spec hl
  exact ⟨c, k, i, f, a, cell, h1, h2, h3, h4, h5, h6, h7, h8, h9, hA a (Array.getElem?_eq_some_iff.mp h5).1⟩
theorem vx_isRef {C n d : String} {v : Value} {A : Nat → Prop} {s : State} {args : Array Value} (h : va_Z C n d v A s s.heap) (hv : v.isRef = true) : (Cond.isRef (.static C n d)).before args s = true := by
  obtain ⟨cf, kf, fi, f, a, cell, h1, h2, h3, h4, h5, h6, h7, -⟩ := h
  have he : (Term.static C n d).eval args s none [] s = some v := by
    simp [Term.eval, State.fieldNamed?, h1, h2, h4, h5, h6, h7]
  simp only [Cond.before, Cond.holds, Cond.value, he]
  cases v <;> simp_all [Value.isRef]
theorem vx_isRefq {C n d : String} {A : Nat → Prop} {s : State} {args : Array Value} (h : va_Zq C n d A s s.heap) : (Cond.isRef (.static C n d)).before args s = true := by
  rcases h with h | ⟨t, h⟩
  · exact vx_isRef h rfl
  · exact vx_isRef h rfl
/-- the same frame, seen from here: as if the method were called anew in this heap -/
theorem vx_rebase {T : State} (X : Stand p l e R s m args below meth c T locs cells slots) {R' : Room} (hf : R'.frames ≤ R.frames) (hl : R'.locals ≤ R.locals) (hc : cells + R'.cells ≤ R.cells) (hs : slots + R'.slots ≤ R.slots) :
    Stand p l e R' ((T.setVm s.vm).setFrames (.invoking m args :: below)) m args below meth c T [] 0 0 := by
  have htop : (T.setVm s.vm).topJava?.isSome := X.here.top
  have hF : ((T.setVm s.vm).setFrames (.invoking m args :: below)).frames = .invoking m args :: below := State.frames_setFrames _ (State.cur_lt_of_top htop)
  obtain ⟨g₀, hg0⟩ := Option.isSome_iff_exists.mp htop
  obtain ⟨r, hr⟩ := State.topJava?_eq_some.mp hg0
  have hl9 : e.platform.stackLimits (T.setVm s.vm).me = e.platform.stackLimits s.me := X.limits
  have hb9 : (T.setVm s.vm).me.stackBytes = s.me.stackBytes := X.bytes
  refine ⟨X.admits, X.cas, X.clock, hF, ?_, X.hears, X.method, X.code, X.here, X.tail, X.warmed, ?_, ?_, ?_⟩
  · have h := X.room
    have hU : ((T.setVm s.vm).setFrames (.invoking m args :: below)).localsInUse = s.localsInUse := by
      rw [State.localsInUse_invoking hF (meth := meth) (c := c) X.method X.code, State.localsInUse_invoking X.frames X.method X.code]
    simp only [State.hasRoom, Bool.and_eq_true, decide_eq_true_eq] at h ⊢
    obtain ⟨⟨⟨⟨h1, h2, h3, h4, h5, h6⟩, h7⟩, h8⟩, h9⟩ := h
    rw [X.frames, List.length_cons] at h2 h3
    have q1 := X.heapSize
    have q2 := X.used
    simp only [hF, hU, List.length_cons, State.stackLimits_setFrames, State.stackBytes_setFrames, hl9, hb9]
    refine ⟨⟨⟨⟨by omega, by omega, by omega, by omega, by omega, h6⟩, ?_⟩, ?_⟩, X.book⟩
    · show T.heap.size + R'.cells ≤ e.platform.maxCells
      omega
    · show T.slotsUsed + R'.slots ≤ e.platform.maxSlots
      omega
  · rw [State.stackLimits_setFrames]; rfl
  · rw [State.stackBytes_setFrames]; rfl
  · refine ⟨?_, Nat.le_refl _, Nat.le_refl _, ?_, ?_, fun a c9 h9 => ⟨c9, h9, rfl, rfl, fun _ _ => rfl⟩⟩
    · obtain ⟨t, ht, -⟩ := State.frames_cons hr
      show T.setVm s.vm = { ((T.setVm s.vm).setFrames (.invoking m args :: below)).setFrames (T.setVm s.vm).frames with heap := T.heap, slotsUsed := T.slotsUsed }
      rw [State.setFrames_setFrames, State.setFrames_self ht]
      rfl
    · show T.slotsUsed = T.slotsUsed + ((T.heap.toList.drop T.heap.size).map (·.slots.size)).sum
      rw [List.drop_eq_nil_of_le (Nat.le_of_eq Array.length_toList)]
      rfl
    · show ((T.heap.toList.drop T.heap.size).map (·.slots.size)).sum ≤ 0
      rw [List.drop_eq_nil_of_le (Nat.le_of_eq Array.length_toList)]
      exact Nat.le_refl _
/-- 'throw new E()': new; dup; invokespecial; athrow -/
theorem vx_throw0 {cc : ByteArray} {pc : Nat} (hexec : p.tables.exec = Jvm.exec) (hb : c.code = cc) (hl : l.stackTraces = false) {own cls : String} {names : List String} {ik ic mc ms : Nat} {A : Nat → Prop}
    (hown : s.vm.findClass own = some m.cls) (hcls : Bundle.fit cls = true) (hnames : ∀ n ∈ names, Bundle.fit n = true)
    (hk : (Cond.classLink own ik cls).before args s = true) (hini : (Cond.initialized cls).before args s = true) (hat : ∀ w ∈ vx_at0 own ic cls names, w.before args s = true)
    (hgood : ∀ w ∈ Cond.classLink own ik cls :: Cond.initialized cls :: vx_at0 own ic cls names, vx_ot w = true)
    (hU : vx_Zq Bundle.tN "UNASSIGNED_STACK" Bundle.steD A s s.heap) (hN : vx_Zq Bundle.tN "SUPPRESSED_SENTINEL" Bundle.listD A s s.heap) (hS : va_S A s.heap H locs) (hsize : ls.size = c.maxLocals)
    (d0 : decode cc pc = .ok (.new ik, 3)) (d3 : decode cc (pc + 3) = .ok (.dup, 1)) (d4 : decode cc (pc + 4) = .ok (.invokespecial ic, 3)) (d7 : decode cc (pc + 7) = .ok (.athrow, 1))
    (hout : ∀ x ∈ c.exceptionTable.toList, covers x (pc + 7) = false)
    (hRframes : names.length + 3 < R.frames) (hRlocals : (rest.map fun v => v.category).sum + (13 * (names.length + 1) + 42) ≤ R.locals) (hRcells : cells + 1 ≤ R.cells) (hRslots : slots + 6 ≤ R.slots) (hlocks : meth.locks = false)
    (hx : ∀ t : State, s.vm.Alike t.vm → H.size ≤ t.heap.size → (∀ q : Nat, q < H.size → t.heap[q]? = H[q]?) → XC cls s t)
    (hf : ∀ z ∈ locs, free z.base) (hc : cells + 1 ≤ mc) (hs : slots + 6 ≤ ms) :
    W p l e R s m args below meth c H locs cells slots (vx_MQ below Qc XC args s mc ms free) (F0 m pc ls rest) := by
  intro T hT X
  have htr : e.platform.stackTraces = false := (show e.platform.stackTraces = l.stackTraces by rw [X.admits.platform]).trans hl
  have Y := vx_rebase X (R' := { frames := R.frames, locals := R.locals, cells := 1, slots := 6 }) (Nat.le_refl _) (Nat.le_refl _) hRcells hRslots
  obtain ⟨s', hA⟩ : ∃ z, z = (T.setVm s.vm).setFrames (.invoking m args :: below) := ⟨_, rfl⟩
  rw [← hA] at Y
  have hvm : s'.vm = s.vm := by rw [hA]; rfl
  have hhp : s'.heap = H := by rw [hA]; exact hT
  have hW0 : s.WarmedH s'.vm := by rw [hvm]; exact State.WarmedH.refl s
  have hat' : ∀ w ∈ vx_at0 own ic cls names, w.before args s' = true := fun w hw => vx_ot_at hW0 hvm.symm (hgood w (List.mem_cons_of_mem _ (List.mem_cons_of_mem _ hw))) (hat w hw)
  have hk' : (Cond.classLink own ik cls).before args s' = true := vx_ot_at hW0 hvm.symm (hgood _ List.mem_cons_self) hk
  have hini' : (Cond.initialized cls).before args s' = true := vx_ot_at hW0 hvm.symm (hgood _ (List.mem_cons_of_mem _ List.mem_cons_self)) hini
  have hU' : vx_Zq Bundle.tN "UNASSIGNED_STACK" Bundle.steD A s' s'.heap := by rw [hhp]; exact vx_Zq.moved hW0.alike (hU.kept hS.2.1)
  have hN' : vx_Zq Bundle.tN "SUPPRESSED_SENTINEL" Bundle.listD A s' s'.heap := by rw [hhp]; exact vx_Zq.moved hW0.alike (hN.kept hS.2.1)
  have h : ∀ w ∈ Bundle.ownAtoms0 own ic cls names, w.before args s' = true := vx_own hat' (vx_isRefq hU'.1) (vx_isRefq hN'.1) hU'.2.word hN'.2.word
  have hown' : s'.vm.findClass own = some m.cls := by rw [hvm]; exact hown
  have hins : (Cond.instantiable cls 6).before args s' = true := h _ (by simp [Bundle.ownAtoms0])
  obtain ⟨vm₁, cX, kX, hfX, hkX, -, -, X₁, st1⟩ := Y.newCold hexec (own := own) (C := cls) (index := ik) (n := 6) hown' hk' hins hini'
    (g := F0 m pc ls rest) rfl (by rw [hb]; exact d0) (Nat.le_refl _) (Nat.le_refl _)
  generalize hT1 : (T.setVm vm₁).pushCell { cls := cX, slots := kX.instanceTypes.map defaultValue, vm := .none } = T1 at X₁ st1
  have hcat : (Value.ref T.heap.size).category = 1 := rfl
  have hcellA : T1.heap[T.heap.size]? = some (freshCell cX kX) := by rw [← hT1]; exact State.heap_pushCell_size _ _
  have d3' : decode c.code (pc + 3) = .ok (.dup, 1) := by rw [hb]; exact d3
  obtain ⟨U, hsteps, hrun, hend, hW, hsame, ce, hce, hO⟩ := X₁.ctorThrow0 hexec htr (own := own) (cls := cls) (names := names) (ic := ic) hown' hcls hnames h (fun x hx => nomatch hx) hfX hkX hcellA (by rw [hhp, hT]; exact Nat.le_refl _)
    (g := { method := m, pc := pc + 4, locals := ls, stack := .ref T.heap.size :: .ref T.heap.size :: rest, locked := none }) rfl hsize rfl rfl (rest := rest) rfl
    (by rw [hb]; exact d4) (by rw [hb]; exact d7) hout hRframes (by simp only [List.map_cons, List.sum_cons, hcat]; omega) hlocks
  obtain ⟨f1, f2⟩ := vx_frame hsame
  rw [hhp] at f1 f2
  have hWs : s.WarmedH U.vm := State.WarmedH.trans hW0 hW
  have hcl : s.vm.findClass cls = some ce.cls := by
    have h9 := hO.cls
    rw [hvm] at h9
    exact h9
  have hall : s.sameButNew ({ U with vm := s.vm } : State) locs mc ms := by
    subst hA
    obtain ⟨e1, e2⟩ := hsame
    rw [State.setFrames_setFrames] at e1
    have h2 : (T.setVm s.vm).sameButNew ({ U with vm := s.vm } : State) [] (0 + 1) (0 + 6) := ⟨e1, e2⟩
    have h3 := X.same.trans h2
    rw [List.append_nil] at h3
    exact h3.mono hc hs
  refine ⟨U, ?_, .threw T.heap.size, hrun, hend, Or.inr ⟨T.heap.size, rfl, cls, ce, locs, hx U hWs.alike f1 (fun q hq => f2 q hq (fun z hz => nomatch hz)), hce, hO.vm, hcl, hWs, hall, hf⟩⟩
  refine st1 _ ?_
  show Steps p.tables e below (T1.setTop { method := m, pc := pc + 3, locals := ls, stack := .ref T.heap.size :: rest, locked := none }) _
  jvm_step X₁.here [X₁.here.top, hexec, d3', Value.category]
  exact hsteps
/-- 'throw new E("text")': new; dup; ldc; invokespecial; athrow -/
theorem vx_throwS {cc : ByteArray} {pc : Nat} (hexec : p.tables.exec = Jvm.exec) (hb : c.code = cc) (hl : l.stackTraces = false) {own cls text : String} {names : List String} {ik is ic mc ms sa : Nat} {A : Nat → Prop}
    (hown : s.vm.findClass own = some m.cls) (hcls : Bundle.fit cls = true) (hnames : ∀ n ∈ names, Bundle.fit n = true)
    (hk : (Cond.classLink own ik cls).before args s = true) (hini : (Cond.initialized cls).before args s = true) (hstr : vk_R own is text sa s) (hat : ∀ w ∈ vx_atS own ic cls names, w.before args s = true)
    (hgood : ∀ w ∈ Cond.classLink own ik cls :: Cond.initialized cls :: vx_atS own ic cls names, vx_ot w = true)
    (hU : vx_Zq Bundle.tN "UNASSIGNED_STACK" Bundle.steD A s s.heap) (hN : vx_Zq Bundle.tN "SUPPRESSED_SENTINEL" Bundle.listD A s s.heap) (hS : va_S A s.heap H locs) (hsize : ls.size = c.maxLocals)
    (d0 : decode cc pc = .ok (.new ik, 3)) (d3 : decode cc (pc + 3) = .ok (.dup, 1)) (d4 : decode cc (pc + 4) = .ok (.ldc is, 2)) (d6 : decode cc (pc + 6) = .ok (.invokespecial ic, 3)) (d9 : decode cc (pc + 9) = .ok (.athrow, 1))
    (hout : ∀ x ∈ c.exceptionTable.toList, covers x (pc + 9) = false)
    (hRframes : names.length + 3 < R.frames) (hRlocals : (rest.map fun v => v.category).sum + (13 * (names.length + 1) + 43) ≤ R.locals) (hRcells : cells + 1 ≤ R.cells) (hRslots : slots + 6 ≤ R.slots) (hlocks : meth.locks = false)
    (hx : ∀ t : State, s.vm.Alike t.vm → H.size ≤ t.heap.size → (∀ q : Nat, q < H.size → t.heap[q]? = H[q]?) → XC cls s t)
    (hf : ∀ z ∈ locs, free z.base) (hc : cells + 1 ≤ mc) (hs : slots + 6 ≤ ms) :
    W p l e R s m args below meth c H locs cells slots (vx_MQ below Qc XC args s mc ms free) (F0 m pc ls rest) := by
  intro T hT X
  have htr : e.platform.stackTraces = false := (show e.platform.stackTraces = l.stackTraces by rw [X.admits.platform]).trans hl
  have Y := vx_rebase X (R' := { frames := R.frames, locals := R.locals, cells := 1, slots := 6 }) (Nat.le_refl _) (Nat.le_refl _) hRcells hRslots
  obtain ⟨s', hA⟩ : ∃ z, z = (T.setVm s.vm).setFrames (.invoking m args :: below) := ⟨_, rfl⟩
  rw [← hA] at Y
  have hvm : s'.vm = s.vm := by rw [hA]; rfl
  have hhp : s'.heap = H := by rw [hA]; exact hT
  have hW0 : s.WarmedH s'.vm := by rw [hvm]; exact State.WarmedH.refl s
  have hat' : ∀ w ∈ vx_atS own ic cls names, w.before args s' = true := fun w hw => vx_ot_at hW0 hvm.symm (hgood w (List.mem_cons_of_mem _ (List.mem_cons_of_mem _ hw))) (hat w hw)
  have hk' : (Cond.classLink own ik cls).before args s' = true := vx_ot_at hW0 hvm.symm (hgood _ List.mem_cons_self) hk
  have hini' : (Cond.initialized cls).before args s' = true := vx_ot_at hW0 hvm.symm (hgood _ (List.mem_cons_of_mem _ List.mem_cons_self)) hini
  have hU' : vx_Zq Bundle.tN "UNASSIGNED_STACK" Bundle.steD A s' s'.heap := by rw [hhp]; exact vx_Zq.moved hW0.alike (hU.kept hS.2.1)
  have hN' : vx_Zq Bundle.tN "SUPPRESSED_SENTINEL" Bundle.listD A s' s'.heap := by rw [hhp]; exact vx_Zq.moved hW0.alike (hN.kept hS.2.1)
  have h : ∀ w ∈ Bundle.ownAtoms own ic cls names, w.before args s' = true := vx_own hat' (vx_isRefq hU'.1) (vx_isRefq hN'.1) hU'.2.word hN'.2.word
  have hown' : s'.vm.findClass own = some m.cls := by rw [hvm]; exact hown
  have hins : (Cond.instantiable cls 6).before args s' = true := h _ (by simp [Bundle.ownAtoms])
  obtain ⟨vm₁, cX, kX, hfX, hkX, -, -, X₁, st1⟩ := Y.newCold hexec (own := own) (C := cls) (index := ik) (n := 6) hown' hk' hins hini'
    (g := F0 m pc ls rest) rfl (by rw [hb]; exact d0) (Nat.le_refl _) (Nat.le_refl _)
  generalize hT1 : (T.setVm vm₁).pushCell { cls := cX, slots := kX.instanceTypes.map defaultValue, vm := .none } = T1 at X₁ st1
  have hcat : (Value.ref T.heap.size).category = 1 := rfl
  have hcellA : T1.heap[T.heap.size]? = some (freshCell cX kX) := by rw [← hT1]; exact State.heap_pushCell_size _ _
  have d3' : decode c.code (pc + 3) = .ok (.dup, 1) := by rw [hb]; exact d3
  have d4' : decode c.code (pc + 4) = .ok (.ldc is, 2) := by rw [hb]; exact d4
  have hstr' : vk_R own is text sa s' := vk_R.warm hW0 hstr
  obtain ⟨U, hsteps, hrun, hend, hW, hsame, ce, hce, hO⟩ := X₁.ctorThrowS hexec htr (own := own) (cls := cls) (names := names) (ic := ic) hown' hcls hnames h (fun x hx => nomatch hx) hfX hkX hcellA (by rw [hhp, hT]; exact Nat.le_refl _) (msg := .ref sa) rfl
    (g := { method := m, pc := pc + 6, locals := ls, stack := .ref sa :: .ref T.heap.size :: .ref T.heap.size :: rest, locked := none }) rfl hsize rfl rfl (rest := rest) rfl
    (by rw [hb]; exact d6) (by rw [hb]; exact d9) hout hRframes (by simp only [List.map_cons, List.sum_cons, hcat]; omega) hlocks
  obtain ⟨f1, f2⟩ := vx_frame hsame
  rw [hhp] at f1 f2
  have hWs : s.WarmedH U.vm := State.WarmedH.trans hW0 hW
  have hcl : s.vm.findClass cls = some ce.cls := by
    have h9 := hO.cls
    rw [hvm] at h9
    exact h9
  have hall : s.sameButNew ({ U with vm := s.vm } : State) locs mc ms := by
    subst hA
    obtain ⟨e1, e2⟩ := hsame
    rw [State.setFrames_setFrames] at e1
    have h2 : (T.setVm s.vm).sameButNew ({ U with vm := s.vm } : State) [] (0 + 1) (0 + 6) := ⟨e1, e2⟩
    have h3 := X.same.trans h2
    rw [List.append_nil] at h3
    exact h3.mono hc hs
  refine ⟨U, ?_, .threw T.heap.size, hrun, hend, Or.inr ⟨T.heap.size, rfl, cls, ce, locs, hx U hWs.alike f1 (fun q hq => f2 q hq (fun z hz => nomatch hz)), hce, hO.vm, hcl, hWs, hall, hf⟩⟩
  refine st1 _ ?_
  show Steps p.tables e below (T1.setTop { method := m, pc := pc + 3, locals := ls, stack := .ref T.heap.size :: rest, locked := none }) _
  jvm_step X₁.here [X₁.here.top, hexec, d3', Value.category]
  exact X₁.ldcString hexec (own := own) (text := text) (index := is) (a := sa) hown' hstr'.1 hstr'.2
    (g := { method := m, pc := pc + 4, locals := ls, stack := .ref T.heap.size :: .ref T.heap.size :: rest, locked := none }) rfl d4' _ hsteps
/-- 'throw new E("text")', the text by a wide index -/
theorem vx_throwSW {cc : ByteArray} {pc : Nat} (hexec : p.tables.exec = Jvm.exec) (hb : c.code = cc) (hl : l.stackTraces = false) {own cls text : String} {names : List String} {ik is ic mc ms sa : Nat} {A : Nat → Prop}
    (hown : s.vm.findClass own = some m.cls) (hcls : Bundle.fit cls = true) (hnames : ∀ n ∈ names, Bundle.fit n = true)
    (hk : (Cond.classLink own ik cls).before args s = true) (hini : (Cond.initialized cls).before args s = true) (hstr : vk_R own is text sa s) (hat : ∀ w ∈ vx_atS own ic cls names, w.before args s = true)
    (hgood : ∀ w ∈ Cond.classLink own ik cls :: Cond.initialized cls :: vx_atS own ic cls names, vx_ot w = true)
    (hU : vx_Zq Bundle.tN "UNASSIGNED_STACK" Bundle.steD A s s.heap) (hN : vx_Zq Bundle.tN "SUPPRESSED_SENTINEL" Bundle.listD A s s.heap) (hS : va_S A s.heap H locs) (hsize : ls.size = c.maxLocals)
    (d0 : decode cc pc = .ok (.new ik, 3)) (d3 : decode cc (pc + 3) = .ok (.dup, 1)) (d4 : decode cc (pc + 4) = .ok (.ldc_w is, 3)) (d7 : decode cc (pc + 7) = .ok (.invokespecial ic, 3)) (d10 : decode cc (pc + 10) = .ok (.athrow, 1))
    (hout : ∀ x ∈ c.exceptionTable.toList, covers x (pc + 10) = false)
    (hRframes : names.length + 3 < R.frames) (hRlocals : (rest.map fun v => v.category).sum + (13 * (names.length + 1) + 43) ≤ R.locals) (hRcells : cells + 1 ≤ R.cells) (hRslots : slots + 6 ≤ R.slots) (hlocks : meth.locks = false)
    (hx : ∀ t : State, s.vm.Alike t.vm → H.size ≤ t.heap.size → (∀ q : Nat, q < H.size → t.heap[q]? = H[q]?) → XC cls s t)
    (hf : ∀ z ∈ locs, free z.base) (hc : cells + 1 ≤ mc) (hs : slots + 6 ≤ ms) :
    W p l e R s m args below meth c H locs cells slots (vx_MQ below Qc XC args s mc ms free) (F0 m pc ls rest) := by
  intro T hT X
  have htr : e.platform.stackTraces = false := (show e.platform.stackTraces = l.stackTraces by rw [X.admits.platform]).trans hl
  have Y := vx_rebase X (R' := { frames := R.frames, locals := R.locals, cells := 1, slots := 6 }) (Nat.le_refl _) (Nat.le_refl _) hRcells hRslots
  obtain ⟨s', hA⟩ : ∃ z, z = (T.setVm s.vm).setFrames (.invoking m args :: below) := ⟨_, rfl⟩
  rw [← hA] at Y
  have hvm : s'.vm = s.vm := by rw [hA]; rfl
  have hhp : s'.heap = H := by rw [hA]; exact hT
  have hW0 : s.WarmedH s'.vm := by rw [hvm]; exact State.WarmedH.refl s
  have hat' : ∀ w ∈ vx_atS own ic cls names, w.before args s' = true := fun w hw => vx_ot_at hW0 hvm.symm (hgood w (List.mem_cons_of_mem _ (List.mem_cons_of_mem _ hw))) (hat w hw)
  have hk' : (Cond.classLink own ik cls).before args s' = true := vx_ot_at hW0 hvm.symm (hgood _ List.mem_cons_self) hk
  have hini' : (Cond.initialized cls).before args s' = true := vx_ot_at hW0 hvm.symm (hgood _ (List.mem_cons_of_mem _ List.mem_cons_self)) hini
  have hU' : vx_Zq Bundle.tN "UNASSIGNED_STACK" Bundle.steD A s' s'.heap := by rw [hhp]; exact vx_Zq.moved hW0.alike (hU.kept hS.2.1)
  have hN' : vx_Zq Bundle.tN "SUPPRESSED_SENTINEL" Bundle.listD A s' s'.heap := by rw [hhp]; exact vx_Zq.moved hW0.alike (hN.kept hS.2.1)
  have h : ∀ w ∈ Bundle.ownAtoms own ic cls names, w.before args s' = true := vx_own hat' (vx_isRefq hU'.1) (vx_isRefq hN'.1) hU'.2.word hN'.2.word
  have hown' : s'.vm.findClass own = some m.cls := by rw [hvm]; exact hown
  have hins : (Cond.instantiable cls 6).before args s' = true := h _ (by simp [Bundle.ownAtoms])
  obtain ⟨vm₁, cX, kX, hfX, hkX, -, -, X₁, st1⟩ := Y.newCold hexec (own := own) (C := cls) (index := ik) (n := 6) hown' hk' hins hini'
    (g := F0 m pc ls rest) rfl (by rw [hb]; exact d0) (Nat.le_refl _) (Nat.le_refl _)
  generalize hT1 : (T.setVm vm₁).pushCell { cls := cX, slots := kX.instanceTypes.map defaultValue, vm := .none } = T1 at X₁ st1
  have hcat : (Value.ref T.heap.size).category = 1 := rfl
  have hcellA : T1.heap[T.heap.size]? = some (freshCell cX kX) := by rw [← hT1]; exact State.heap_pushCell_size _ _
  have d3' : decode c.code (pc + 3) = .ok (.dup, 1) := by rw [hb]; exact d3
  have d4' : decode c.code (pc + 4) = .ok (.ldc_w is, 3) := by rw [hb]; exact d4
  have hstr' : vk_R own is text sa s' := vk_R.warm hW0 hstr
  obtain ⟨U, hsteps, hrun, hend, hW, hsame, ce, hce, hO⟩ := X₁.ctorThrowS hexec htr (own := own) (cls := cls) (names := names) (ic := ic) hown' hcls hnames h (fun x hx => nomatch hx) hfX hkX hcellA (by rw [hhp, hT]; exact Nat.le_refl _) (msg := .ref sa) rfl
    (g := { method := m, pc := pc + 7, locals := ls, stack := .ref sa :: .ref T.heap.size :: .ref T.heap.size :: rest, locked := none }) rfl hsize rfl rfl (rest := rest) rfl
    (by rw [hb]; exact d7) (by rw [hb]; exact d10) hout hRframes (by simp only [List.map_cons, List.sum_cons, hcat]; omega) hlocks
  obtain ⟨f1, f2⟩ := vx_frame hsame
  rw [hhp] at f1 f2
  have hWs : s.WarmedH U.vm := State.WarmedH.trans hW0 hW
  have hcl : s.vm.findClass cls = some ce.cls := by
    have h9 := hO.cls
    rw [hvm] at h9
    exact h9
  have hall : s.sameButNew ({ U with vm := s.vm } : State) locs mc ms := by
    subst hA
    obtain ⟨e1, e2⟩ := hsame
    rw [State.setFrames_setFrames] at e1
    have h2 : (T.setVm s.vm).sameButNew ({ U with vm := s.vm } : State) [] (0 + 1) (0 + 6) := ⟨e1, e2⟩
    have h3 := X.same.trans h2
    rw [List.append_nil] at h3
    exact h3.mono hc hs
  refine ⟨U, ?_, .threw T.heap.size, hrun, hend, Or.inr ⟨T.heap.size, rfl, cls, ce, locs, hx U hWs.alike f1 (fun q hq => f2 q hq (fun z hz => nomatch hz)), hce, hO.vm, hcl, hWs, hall, hf⟩⟩
  refine st1 _ ?_
  show Steps p.tables e below (T1.setTop { method := m, pc := pc + 3, locals := ls, stack := .ref T.heap.size :: rest, locked := none }) _
  jvm_step X₁.here [X₁.here.top, hexec, d3', Value.category]
  exact X₁.ldcStringW hexec (own := own) (text := text) (index := is) (a := sa) hown' hstr'.1 hstr'.2
    (g := { method := m, pc := pc + 4, locals := ls, stack := .ref T.heap.size :: .ref T.heap.size :: rest, locked := none }) rfl d4' _ hsteps
end Ends
section Bodies
variable {l : Launch}
theorem vx_ofW {y : MethodName} {ws ws' : List Cond} {rm : Room} {Pc : Array Value → State → Prop} {Qc : Array Value → State → Outcome → State → Prop} {XC : String → State → State → Prop} {mc ms : Nat} {free : Addr → Prop} {cc : ByteArray} {maxL : Nat} {ret : Option FieldType}
    (hy : plainName y.cls = true) (hw : ws = Cond.code y cc maxL ret :: ws')
    (body : ∀ p e s m args below meth c s₁, BodyLoose p l y (headSpec ws rm) cc maxL ret e s m args below meth c s₁ → c.maxLocals = maxL → (∀ x ∈ c.exceptionTable.toList, False) → Pc args s →
      W p l e (headSpec ws rm).room s m args below meth c s.heap [] 0 0 (vx_MQ below Qc XC args s mc ms free) (entryFrame m args maxL)) : vx_Met l y ws rm Pc Qc XC mc ms free := by
  refine MetFree.of_bodyS (code := cc) (maxLocals := maxL) (ret := ret) hy ?_ ?_
  · intro args s m h hn
    obtain ⟨meth, c, h1, h2, h3, h4, h5, h6, -, -⟩ := Cond.code_spec hn (atoms_spec (ws := ws) h _ (by rw [hw]; exact List.mem_cons_self))
    exact ⟨meth, c, h1, h2, h3, h4, h5, h6⟩
  · intro p e s m args below meth c s₁ B hml hP _
    have hh0 : s₁.heap = s.heap := by rw [B.state]; rfl
    have ht : ∀ x ∈ c.exceptionTable.toList, False := by
      obtain ⟨meth9, c9, h1, h2, -, -, -, -, h7, -⟩ := Cond.code_spec B.named (atoms_spec (ws := ws) B.pre _ (by rw [hw]; exact List.mem_cons_self))
      cases Option.some.inj (h1.symm.trans B.method)
      cases Option.some.inj (h2.symm.trans (Stand.of_body B).code)
      intro x hx
      rw [Array.isEmpty_iff.mp h7] at hx
      cases hx
    obtain ⟨t, a1, o, b1, b2, b3⟩ := body p e s m args below meth c s₁ B hml ht hP s₁ hh0 (Stand.of_body B)
    exact ⟨t, o, a1, b1, b2, b3⟩
/-- the table of a body with handlers -/
theorem vx_table {p : Program} {x y : MethodName} {S : Spec} {cc bytes : ByteArray} {maxL maxL' : Nat} {ret ret' : Option FieldType} {e : Env} {s s₁ : State} {m : MethodId} {args : Array Value} {below : List Frame} {meth : Method} {c : Code} {hh : List (Nat × Nat × Nat × Nat)}
    (B : BodyLoose p l y S cc maxL ret e s m args below meth c s₁) (h : (Cond.codeWith y bytes maxL' ret' hh).before args s = true) : c.exceptionTable.toList = tableOf hh := by
  obtain ⟨m9, meth9, c9, hn9, h1, h2, -, -, h6, -⟩ := Cond.codeWith_spec h
  cases Option.some.inj (hn9.symm.trans B.named)
  cases Option.some.inj (h1.symm.trans B.method)
  cases Option.some.inj (h2.symm.trans (Stand.of_body B).code)
  rw [← h6, table_eq]
end Bodies
end VXA
/-! ===== END ===== -/
/-! ===== BEGIN a static call of a method with an exception table ===== -/
section VXS
variable {p : Program} {l : Launch} {e : Env} {R : Room} {s : State} {m : MethodId} {args : Array Value} {below : List Frame} {meth : Method} {c : Code} {T : State} {H : Heap} {locs : List Loc} {cells slots : Nat}
abbrev vx_CSW (R : Room) (s : State) (args : Array Value) (own : String) (index : Nat) (y : MethodName) (bytes : ByteArray) (maxL : Nat) (ret : Option FieldType) (hh : List (Nat × Nat × Nat × Nat)) (ws : List Cond) (rm : Room) (mc ms n : Nat) : Prop :=
  (rm.cells = mc ∧ rm.slots = ms ∧ rm.frames + 1 ≤ R.frames ∧ 8 + (maxL + 11) + rm.locals ≤ R.locals ∧ (∀ w ∈ ws, ∀ (a' : Array Value) (U : State), s.WarmedH U.vm → w.before a' U = true) ∧ Cond.codeWith y bytes maxL ret hh ∈ ws) ∧
  (Cond.codeWith y bytes maxL ret hh).before args s = true ∧ (Cond.initialized y.cls).before args s = true ∧ (y.cls ≠ "java/lang/invoke/MethodHandle" ∧ y.cls ≠ "java/lang/invoke/VarHandle") ∧
  (∀ sig, parseMethodDescriptor y.desc = some sig → n = sig.parameters.length) ∧ (Cond.methodLink own index y).before args s = true ∧ (Cond.static y).before args s = true
theorem vx_cwSW {own : String} {index maxL mc ms : Nat} {y : MethodName} {bytes : ByteArray} {ret : Option FieldType} {hh : List (Nat × Nat × Nat × Nat)} {Ts ws ws' : List Cond} {rm : Room} (n : Nat) (ht : ∀ w ∈ Ts, w.before args s = true) (hT : GoodIn Ts (va_wsS own index y ws)) (hw : ws = Cond.codeWith y bytes maxL ret hh :: ws') (hrc : rm.cells = mc) (hrs : rm.slots = ms)
    (hd : y.cls ≠ "java/lang/invoke/MethodHandle" ∧ y.cls ≠ "java/lang/invoke/VarHandle" ∧ (parseMethodDescriptor y.desc).map (fun d => d.parameters.length) = some n) (hR : rm.frames + 1 ≤ R.frames ∧ 8 + (maxL + 11) + rm.locals ≤ R.locals) :
    vx_CSW R s args own index y bytes maxL ret hh ws rm mc ms n := by
  have ok : ∀ w ∈ va_wsS own index y ws, w.before args s = true := fun w h => ht w (hT w h).1
  have hG : GoodIn Ts ws := fun w h => hT w (by unfold va_wsS; exact List.mem_append_right _ h)
  have hc : Cond.codeWith y bytes maxL ret hh ∈ ws := by rw [hw]; exact List.mem_cons_self
  refine ⟨⟨hrc, hrs, hR.1, hR.2, pay_in ht hG, hc⟩, ht _ (hG _ hc).1, ok _ (by simp [va_wsS]), ⟨hd.1, hd.2.1⟩, fun sig h => ?_, ok _ (by simp [va_wsS]), ok _ (by simp [va_wsS])⟩
  have h2 := hd.2.2
  rw [h] at h2
  exact (Option.some.inj h2).symm
theorem vx_callSW (X : Stand p l e R s m args below meth c T locs cells slots) (hexec : p.tables.exec = Jvm.exec) {own : String} {index : Nat} {y : MethodName} {bytes : ByteArray} {maxL : Nat} {ret : Option FieldType} {hh : List (Nat × Nat × Nat × Nat)}
    (hown : s.vm.findClass own = some m.cls) (hlink : (Cond.methodLink own index y).before args s = true) (hstat : (Cond.static y).before args s = true) (hinit : (Cond.initialized y.cls).before args s = true)
    (hcode : (Cond.codeWith y bytes maxL ret hh).before args s = true) (hy : y.cls ≠ "java/lang/invoke/MethodHandle" ∧ y.cls ≠ "java/lang/invoke/VarHandle")
    {W9 : Nat} {Pre : Pt → Array Value → Prop} {Post : Pt → Array Value → Option Value → Pt → Prop} (hK : Back l R p e below s args y 3 W9 Pre Post)
    {g : JFrame} (hg : g.method = m) (hsize : g.locals.size = c.maxLocals) {argsL rest : List Value} (hlen : ∀ sig, parseMethodDescriptor y.desc = some sig → argsL.length = sig.parameters.length)
    (hstack : g.stack = argsL.reverse ++ rest) (hW : 2 * g.monitorRoom + (rest.map fun v => v.category).sum ≤ W9) (hdg : decode c.code g.pc = .ok (.invokestatic index, 3))
    (hpre : ∀ vm₁, s.WarmedH vm₁ → Pre ⟨T.setVm vm₁, locs, cells, slots⟩ argsL.toArray) :
    ∃ (v : Option Value) (vm₁ : Vm) (B : Pt), s.WarmedH vm₁ ∧ Stand p l e R s m args below meth c B.U B.locs B.cells B.slots ∧ Post ⟨T.setVm vm₁, locs, cells, slots⟩ argsL.toArray v B ∧
      ∀ target, Steps p.tables e below (B.U.setTop { g with pc := g.pc + 3, stack := v.toList ++ rest }) target → Steps p.tables e below (T.setTop g) target := by
  obtain ⟨mk, methM, cM, hnamed, hmethM, -, -, -, -, -, -, hsigM⟩ := Cond.codeWith_spec hcode
  have hstatic : methM.isStatic = true := Cond.static_spec hnamed hmethM hstat
  obtain ⟨kP, hkP, -⟩ := className_of_methodNamed hnamed
  have hinitP : kP.init = .initialized := Cond.initialized_spec (findClass_of_methodNamed hnamed) hkP hinit
  obtain ⟨vm₁, X₁, hstep₁⟩ := X.invokestatic hexec hown hlink hnamed hmethM hstatic hkP hinitP hy (g := g) hg (argsL := argsL) (rest := rest) (hlen _ hsigM) hstack hdg
  obtain ⟨v, B, X', hpost, hsteps⟩ := hK m meth c ⟨T.setVm vm₁, locs, cells, slots⟩ { g with stack := rest } (.invokestatic index) mk argsL.toArray X₁ hg hsize hdg hW (X₁.named hnamed) (hpre vm₁ X₁.warmed)
  exact ⟨v, vm₁, B, X₁.warmed, X', hpost, fun target h => hstep₁ _ fun acts => by rw [doInvoke_state]; exact hsteps.trans h⟩
theorem vx_runSW {y : MethodName} {bytes cc : ByteArray} {maxL nL mc ms n index : Nat} {ret : Option FieldType} {hh : List (Nat × Nat × Nat × Nat)} {ws : List Cond} {rm : Room} {Pc : Array Value → State → Prop} {Qc : Array Value → State → Outcome → State → Prop} {free : Addr → Prop} {Ts : List Cond} {own : String} {As rest : List Value} {g : JFrame}
    (S : CallFix p m c cc nL s args Ts own) (hM : Met l y ws rm Pc Qc mc ms free) (cw : vx_CSW R s args own index y bytes maxL ret hh ws rm mc ms n) (hp : PreS s H Pc As)
    (hg : g.method = m) (hn : As.length = n) (hsize : g.locals.size = nL) (hstack : g.stack = As.reverse ++ rest) (hW : 2 * g.monitorRoom + (rest.map fun v => v.category).sum ≤ 8) (hdg : decode cc g.pc = .ok (.invokestatic index, 3)) (hf : cells + mc ≤ R.cells ∧ slots + ms ≤ R.slots) :
    va_Run p l e R s m args below meth c H locs cells slots mc ms g rest (Qc As.toArray) (free) := by
  obtain ⟨⟨hrc, hrs, hfr, hlo, hws, hcw⟩, hcode, hini, hy, hlen, hl, hstt⟩ := cw
  have hK : Back l R p e below s args y 3 8 (PreOf R mc ms Pc) (PostOf Qc mc ms free) := va_backW (hh := hh) (bytes := bytes) (maxL := maxL) (ret := ret) hM hp.1 hrc hrs hfr hlo hws hcw (fun a' U hW => word_at hW (Or.inl (by first | rfl | simp [Cond.onTables, Cond.keeps, Cond.steady])) hini)
  obtain ⟨hx, hb, hml, ho, -⟩ := S
  intro T hT X
  obtain ⟨v, vm₁, ⟨U', l2, c2, s2⟩, hW₁, X', ⟨g', mk, t, L, e1, e2, hq, h1, hL, h2, h3⟩, st⟩ := vx_callSW X hx (hh := hh) (bytes := bytes) (maxL := maxL) (ret := ret) ho hl hstt hini hcode hy hK hg (hsize.trans hml.symm) (argsL := As) (rest := rest) (fun sig h => hn.trans (hlen sig h)) hstack hW (by rw [hb]; exact hdg)
    (fun vm₁ hW₁ => ⟨hf.1, hf.2, hp.2 (T.setVm vm₁) hT hW₁⟩)
  dsimp only [Pt.U, Pt.locs, Pt.cells, Pt.slots] at X' e1 e2 h1 h2 h3 st
  subst h1; subst h2; subst h3
  exact ⟨v, (T.setVm vm₁).calling g' mk As.toArray, t, U', L, hT, X', hL, e1, e2, hq, st⟩
/-- not caught here, past rows that name other classes: it goes on to the caller -/
theorem vx_outP {p : Program} {l : Launch} {e : Env} {R : Room} {s : State} {m : MethodId} {args : Array Value} {below : List Frame} {meth : Method} {c : Code} {H : Heap} {locs : List Loc} {cells slots : Nat} {free : Addr → Prop} {ls : Array Slot} {rest : List Value} {Qc : Array Value → State → Outcome → State → Prop} {XC : String → State → State → Prop}
    {pc : Nat} {own E : String} {ce : Cell} {q : Addr} {mc ms : Nat} (hown : s.vm.findClass own = some m.cls) (hlocks : meth.locks = false)
    (hpass : ∀ z ∈ c.exceptionTable.toList, covers z pc = false ∨ (z.catchType ≠ 0 ∧ ∃ nm : String, (Cond.classLink own z.catchType nm).before args s = true ∧ va_Nc E nm s)) (hcell : H[q]? = some ce) (hv : ce.vm = .none) (hcl : s.vm.findClass E = some ce.cls)
    (hx : ∀ t : State, t.heap = H → s.vm.Alike t.vm → XC E s t) (hf : ∀ z ∈ locs, free z.base) (hc : cells ≤ mc) (hs : slots ≤ ms) :
    vx_W p l e R s m args below meth c H locs cells slots (vx_MQ below Qc XC args s mc ms free) (F0 m pc ls rest) q := by
  intro T hT X
  have hpl : e.platform.magicAccessors = ({} : Platform).magicAccessors := by rw [X.admits.platform]
  obtain ⟨vm', hW', X', st⟩ := X.outThrough hlocks q (g := F0 m pc ls rest) rfl rfl rfl (cell := ce) (by rw [hT]; exact hcell) (by rw [hv]; rfl)
    (by obtain ⟨k9, h9, -⟩ := Vm.findClass_spec hcl; exact ⟨k9, h9⟩) (fun z hz => by
      rcases hpass z hz with h | ⟨hz0, nm, hl1, hn1⟩
      · exact Or.inl h
      · obtain ⟨c6, hc6, hcl6⟩ := Cond.classLink_spec hown hl1 e.platform hpl
        obtain ⟨a8, b8, h1, h2, h3⟩ := hn1
        cases Option.some.inj (h1.symm.trans hcl)
        cases Option.some.inj (h2.symm.trans hc6)
        exact Or.inr ⟨hz0, _, hcl6, h3⟩)
  obtain ⟨g₀, hfr⟩ := X'.frames_eq
  have hcell9 : ((T.setVm vm').setFrames (.throwing q :: below)).heap[q]? = some ce := by
    show T.heap[q]? = some ce
    rw [hT]; exact hcell
  have hend : Ended ((T.setVm vm').setFrames (.throwing q :: below)) below (.threw q) := State.frames_setFrames _ (State.cur_lt_of_frames hfr)
  refine ⟨(T.setVm vm').setFrames (.throwing q :: below), ?_, .threw q, X'.here.running, hend, Or.inr ⟨q, rfl, E, ce, locs, hx _ hT (X'.ends _).1.alike, hcell9, hv, hcl, (X'.ends _).1, (X'.ends _).2.mono hc hs, hf⟩⟩
  rw [X.pushThrowing_eq]
  exact st
/-- a thing of a world lies in the heap -/
theorem vx_lt {D : va_G} {cl : List vw_C} {ws : va_W} {H1 : Heap} (h : va_P D cl ws H1) {k : Nat} {q : Nat × va_E} (hk : ws[k]? = some q) : q.1 < H1.size := (h k q hk).lt
end VXS
/-! ===== END ===== -/
/-! ===== BEGIN methods with a table of their own: called by a name, returning or throwing ===== -/
section VXH
/-! vx_backW, vx_callVX, vx_callSX, vx_callVW, vx_runVW, vx_runVX, vx_runSX, vx_ofWH follow the same proofs as their sisters above (Free/Laws.lean, Shelf42/LK1.lean); vx_outP calls Shelf42/NT130.lean (outThrough). -/
section
variable {l : Launch} {R : Room} {p : Program} {e : Env} {below : List Frame} {s : State} {sargs : Array Value} {y : MethodName} {len W9 : Nat}
theorem vx_backW {ws : List Cond} {rm : Room} {Pc : Array Value → State → Prop} {Qc : Array Value → State → Outcome → State → Prop} {XC : String → State → State → Prop} {mc ms : Nat} {free : Addr → Prop} {bytes : ByteArray} {maxL : Nat} {ret : Option FieldType} {hh : List (Nat × Nat × Nat × Nat)}
    (hM : vx_Met l y ws rm Pc Qc XC mc ms free) (hblind : FrameBlind Pc) (hrc : rm.cells = mc) (hrs : rm.slots = ms)
    (hframes : rm.frames + 1 ≤ R.frames) (hlocals : W9 + (maxL + 11) + rm.locals ≤ R.locals)
    (hws : ∀ w ∈ ws, ∀ a' U, s.WarmedH U.vm → w.before a' U = true) (hcode : Cond.codeWith y bytes maxL ret hh ∈ ws) (hinit : ∀ a' U, s.WarmedH U.vm → (Cond.initialized y.cls).before a' U = true) :
    vx_Back l R p e below s sargs y len W9 (PreOf R mc ms Pc) (PostOf Qc mc ms free) (vx_Post XC mc ms free) := by
  intro m meth c A g ig mk a X hg hsize hdg hW hn hp
  have h1 : (headSpec ws rm).pre.before a A.U = true := atoms_intro fun w hw => hws w hw _ _ X.warmed
  have h2 : (Cond.codeWith y bytes maxL ret hh).before a A.U = true := hws _ hcode _ _ X.warmed
  have h3 : (Cond.initialized y.cls).before a A.U = true := hinit _ _ X.warmed
  have h4 : A.cells + (headSpec ws rm).room.cells ≤ R.cells := by rw [show (headSpec ws rm).room.cells = mc from hrc]; exact hp.1
  have h5 : A.slots + (headSpec ws rm).room.slots ≤ R.slots := by rw [show (headSpec ws rm).room.slots = ms from hrs]; exact hp.2.1
  have hPc : Pc a (A.U.calling g mk a) := hblind _ _ _ _ hp.2.2
  obtain ⟨U, Ls, c0, s0⟩ := A
  dsimp only [Pt.U, Pt.locs, Pt.cells, Pt.slots] at h1 h2 h3 h4 h5 X hn hPc ⊢
  obtain ⟨m9, methY, cY, hn9, hmY, hcY, -, hlY, -⟩ := Cond.codeWith_spec h2
  cases Option.some.inj (hn9.symm.trans hn)
  obtain ⟨kY, hkY, -⟩ := className_of_methodNamed hn
  have hinitY : kY.init = .initialized := Cond.initialized_spec (findClass_of_methodNamed hn) hkY h3
  have h : At U g.method c below := by rw [hg]; exact X.here
  have hlocals9 : W9 + (maxL + 11) + (headSpec ws rm).room.locals ≤ R.locals := hlocals
  have happ : (headSpec ws rm).appliesLoose y e.platform (U.calling g mk a) = true :=
    Spec.appliesLoose_calling (g := g) h hdg hn hkY hinitY
      (X.room_calling (g := g) (R' := (headSpec ws rm).room) hsize hmY hcY hframes (by rw [hlY]; omega) h4 h5) h1
  obtain ⟨mid, hmid⟩ := h.above
  have hfr : (U.setTop g).frames = (.java g :: mid) ++ below := by rw [State.frames_setTop' g h.top, hmid]; rfl
  obtain ⟨o, s₂, hsteps, -, hend, hq⟩ := Steps.callFree hM p X.admits X.cas X.clock (acts := []) hfr happ hPc trivial
  have hq' : vx_Q Qc XC mc ms free a (U.calling g mk a) o s₂ := hq
  rw [State.frames_setTop' g h.top] at hend
  obtain ⟨g₀, hg0⟩ := Option.isSome_iff_exists.mp h.top
  obtain ⟨r, hr⟩ := State.topJava?_eq_some.mp hg0
  have hr' : (({ U with heap := s₂.heap, slotsUsed := s₂.slotsUsed } : State).setVm s₂.vm).frames = .java g₀ :: r := hr
  rcases hq' with ⟨hqc, L, hfe, hL⟩ | ⟨q, rfl, E, ce, L, hx, hce, hcv, hcl, hW₂, hsm, hL⟩
  · obtain ⟨⟨v, rfl⟩, hW₂, e2, q2, q3, q4, q5, q6⟩ := id hfe
    have e3 : s₂ = ({ (U.calling g mk a).setFrames s₂.frames with heap := s₂.heap, slotsUsed := s₂.slotsUsed } : State).setVm s₂.vm := by
      have : s₂ = ({ s₂ with vm := (U.calling g mk a).vm } : State).setVm s₂.vm := rfl
      rw [e2] at this
      exact this
    obtain ⟨c₂, i₂, len₂, hc₂, hd₂, hf₂⟩ := hend
    have hW' : U.WarmedH s₂.vm := hW₂
    have hcc : c₂ = c := by
      have h1 : s₂.code? g.method = U.code? g.method := by
        rw [State.code?_eq, State.code?_eq, hW'.alike.method?]
      exact Option.some.inj (hc₂.symm.trans (h1.trans h.code))
    subst hcc
    have hlen : len₂ = len := by rw [hdg] at hd₂; cases hd₂; rfl
    subst hlen
    have hs₂ : s₂ = (({ U with heap := s₂.heap, slotsUsed := s₂.slotsUsed } : State).setVm s₂.vm).setTop { g with pc := g.pc + len₂, stack := v.toList ++ g.stack } := by
      refine e3.trans ?_
      rw [hf₂, State.calling_eq h.top, State.setFrames_setFrames, State.setTop_of_frames _ hr', hr]
      rfl
    have hsame : U.sameButNew ({ U with heap := s₂.heap, slotsUsed := s₂.slotsUsed } : State) L mc ms := by
      refine ⟨?_, q2, q3, q4, q5, q6⟩
      obtain ⟨t, ht, -⟩ := State.frames_cons hr
      show ({ U with heap := s₂.heap, slotsUsed := s₂.slotsUsed } : State) = { U.setFrames U.frames with heap := s₂.heap, slotsUsed := s₂.slotsUsed }
      rw [State.setFrames_self ht]
    subst hg
    refine Or.inl ⟨v, ⟨(({ U with heap := s₂.heap, slotsUsed := s₂.slotsUsed } : State).setVm s₂.vm), Ls ++ L, c0 + mc, s0 + ms⟩,
      ⟨X.admits, X.cas, X.clock, X.frames, X.room, X.hears, X.method, X.code, (X.here.setHeapUsed s₂.heap s₂.slotsUsed).setVm hW'.alike, X.tail, State.WarmedH.trans X.warmed hW', X.limits, X.bytes, X.same.trans (hsame.setVm s.vm)⟩,
      ⟨g, mk, s₂, L, rfl, rfl, hqc, rfl, hL, rfl, rfl⟩, ?_⟩
    show Steps p.tables e below _ ((({ U with heap := s₂.heap, slotsUsed := s₂.slotsUsed } : State).setVm s₂.vm).setTop { g with pc := g.pc + len₂, stack := v.toList ++ g.stack })
    rw [← hs₂]
    exact hsteps
  · obtain ⟨e2, q2, q3, q4, q5, q6⟩ := id hsm
    have e3 : s₂ = ({ (U.calling g mk a).setFrames s₂.frames with heap := s₂.heap, slotsUsed := s₂.slotsUsed } : State).setVm s₂.vm := by
      have : s₂ = ({ s₂ with vm := (U.calling g mk a).vm } : State).setVm s₂.vm := rfl
      rw [e2] at this
      exact this
    have hf₂ : s₂.frames = .throwing q :: .java g :: U.frames.tail := hend
    have hW' : U.WarmedH s₂.vm := hW₂
    have hs₂ : s₂ = ((({ U with heap := s₂.heap, slotsUsed := s₂.slotsUsed } : State).setVm s₂.vm).setTop g).pushFrame (.throwing q) := by
      refine e3.trans ?_
      rw [hf₂, State.calling_eq h.top, State.setFrames_setFrames, State.pushFrame, State.frames_setTop _ hr', State.setTop_of_frames _ hr', State.setFrames_setFrames, hr]
      rfl
    have hsame : U.sameButNew ({ U with heap := s₂.heap, slotsUsed := s₂.slotsUsed } : State) L mc ms := by
      refine ⟨?_, q2, q3, q4, q5, q6⟩
      obtain ⟨t, ht, -⟩ := State.frames_cons hr
      show ({ U with heap := s₂.heap, slotsUsed := s₂.slotsUsed } : State) = { U.setFrames U.frames with heap := s₂.heap, slotsUsed := s₂.slotsUsed }
      rw [State.setFrames_self ht]
    subst hg
    refine Or.inr ⟨q, ⟨(({ U with heap := s₂.heap, slotsUsed := s₂.slotsUsed } : State).setVm s₂.vm), Ls ++ L, c0 + mc, s0 + ms⟩,
      ⟨X.admits, X.cas, X.clock, X.frames, X.room, X.hears, X.method, X.code, (X.here.setHeapUsed s₂.heap s₂.slotsUsed).setVm hW'.alike, X.tail, State.WarmedH.trans X.warmed hW', X.limits, X.bytes, X.same.trans (hsame.setVm s.vm)⟩,
      ⟨g, mk, s₂, L, E, ce, rfl, rfl, hx, hce, hcv, hcl, rfl, hL, rfl, rfl⟩, ?_⟩
    show Steps p.tables e below _ (((({ U with heap := s₂.heap, slotsUsed := s₂.slotsUsed } : State).setVm s₂.vm).setTop g).pushFrame (.throwing q))
    rw [← hs₂]
    exact hsteps
end
variable {p : Program} {l : Launch} {e : Env} {R : Room} {s : State} {m : MethodId} {args : Array Value} {below : List Frame} {meth : Method} {c : Code} {T : State} {H : Heap} {locs : List Loc} {cells slots : Nat}
theorem vx_callVX (X : Stand p l e R s m args below meth c T locs cells slots) (hexec : p.tables.exec = Jvm.exec) {own C : String} {index : Nat} {y : MethodName} {bytes : ByteArray} {maxL : Nat} {ret : Option FieldType} {hh : List (Nat × Nat × Nat × Nat)}
    (hown : s.vm.findClass own = some m.cls) (hlink : (Cond.methodLink own index y).before args s = true) (hinst : (Cond.instanceMethod y).before args s = true) (hsel : (Cond.selects C y y).before args s = true)
    (hcode : (Cond.codeWith y bytes maxL ret hh).before args s = true) (hy : y.cls ≠ "java/lang/invoke/MethodHandle" ∧ y.cls ≠ "java/lang/invoke/VarHandle")
    {W9 : Nat} {Pre : Pt → Array Value → Prop} {Post : Pt → Array Value → Option Value → Pt → Prop} {PostX : Pt → Array Value → Addr → Pt → Prop} (hK : vx_Back l R p e below s args y 3 W9 Pre Post PostX)
    {b : Addr} {cellB : Cell} (hcell : T.heap[b]? = some cellB) (hobj : cellB.vm.isStatics = false) (hcls : s.vm.findClass C = some cellB.cls)
    {g : JFrame} (hg : g.method = m) (hsize : g.locals.size = c.maxLocals) {argsL rest : List Value} (hlen : ∀ sig, parseMethodDescriptor y.desc = some sig → argsL.length = sig.parameters.length)
    (hstack : g.stack = argsL.reverse ++ .ref b :: rest) (hW : 2 * g.monitorRoom + (rest.map fun v => v.category).sum ≤ W9) (hdg : decode c.code g.pc = .ok (.invokevirtual index, 3))
    (hpre : ∀ vm₁, s.WarmedH vm₁ → Pre ⟨T.setVm vm₁, locs, cells, slots⟩ (Value.ref b :: argsL).toArray) :
    (∃ (v : Option Value) (vm₁ : Vm) (B : Pt), s.WarmedH vm₁ ∧ Stand p l e R s m args below meth c B.U B.locs B.cells B.slots ∧ Post ⟨T.setVm vm₁, locs, cells, slots⟩ (Value.ref b :: argsL).toArray v B ∧
      ∀ target, Steps p.tables e below (B.U.setTop { g with pc := g.pc + 3, stack := v.toList ++ rest }) target → Steps p.tables e below (T.setTop g) target) ∨
    (∃ (q : Addr) (vm₁ : Vm) (B : Pt), s.WarmedH vm₁ ∧ Stand p l e R s m args below meth c B.U B.locs B.cells B.slots ∧ PostX ⟨T.setVm vm₁, locs, cells, slots⟩ (Value.ref b :: argsL).toArray q B ∧
      Steps p.tables e below (T.setTop g) ((B.U.setTop { g with stack := rest }).pushFrame (.throwing q))) := by
  obtain ⟨mk, methM, hnamed, hmethM, hstM, habM⟩ := Cond.instanceMethod_spec hinst
  obtain ⟨m8, methM', cM, hn8, hmethM', -, -, -, -, -, -, hsigM⟩ := Cond.codeWith_spec hcode
  cases Option.some.inj (hn8.symm.trans hnamed)
  cases hmethM.symm.trans hmethM'
  obtain ⟨c2, r2, m2, q1, q2, q3, q4, kP, hkP, hkPi⟩ := Cond.selects_spec hsel
  cases hcls.symm.trans q1
  cases (State.methodFound?_of_named hnamed hy).symm.trans q2
  cases hnamed.symm.trans q3
  have hselP : selectMethod e.platform s.vm cellB.cls mk = .method mk := by rw [Launch.admits_selectMethod X.admits]; exact q4
  obtain ⟨vm₁, X₁, hstep₁⟩ := X.invokevirtual hexec hown hlink hnamed hmethM hstM hkP hkPi hy (a := b) (cell := cellB) hcell
    (fun z h => by rw [h] at hobj; cases hobj) hselP hmethM habM hkP hkPi (g := g) hg (argsL := argsL) (rest := rest) (hlen _ hsigM) hstack hdg
  rcases hK m meth c ⟨T.setVm vm₁, locs, cells, slots⟩ { g with stack := rest } (.invokevirtual index) mk (Value.ref b :: argsL).toArray X₁ hg hsize hdg hW (X₁.named hnamed) (hpre vm₁ X₁.warmed) with ⟨v, B, X', hpost, hsteps⟩ | ⟨q, B, X', hpost, hsteps⟩
  · exact Or.inl ⟨v, vm₁, B, X₁.warmed, X', hpost, fun target h => hstep₁ _ fun acts => by rw [doInvoke_state]; exact hsteps.trans h⟩
  · exact Or.inr ⟨q, vm₁, B, X₁.warmed, X', hpost, hstep₁ _ fun acts => by rw [doInvoke_state]; exact hsteps⟩
theorem vx_callSX (X : Stand p l e R s m args below meth c T locs cells slots) (hexec : p.tables.exec = Jvm.exec) {own : String} {index : Nat} {y : MethodName} {bytes : ByteArray} {maxL : Nat} {ret : Option FieldType} {hh : List (Nat × Nat × Nat × Nat)}
    (hown : s.vm.findClass own = some m.cls) (hlink : (Cond.methodLink own index y).before args s = true) (hstat : (Cond.static y).before args s = true) (hinit : (Cond.initialized y.cls).before args s = true)
    (hcode : (Cond.codeWith y bytes maxL ret hh).before args s = true) (hy : y.cls ≠ "java/lang/invoke/MethodHandle" ∧ y.cls ≠ "java/lang/invoke/VarHandle")
    {W9 : Nat} {Pre : Pt → Array Value → Prop} {Post : Pt → Array Value → Option Value → Pt → Prop} {PostX : Pt → Array Value → Addr → Pt → Prop} (hK : vx_Back l R p e below s args y 3 W9 Pre Post PostX)
    {g : JFrame} (hg : g.method = m) (hsize : g.locals.size = c.maxLocals) {argsL rest : List Value} (hlen : ∀ sig, parseMethodDescriptor y.desc = some sig → argsL.length = sig.parameters.length)
    (hstack : g.stack = argsL.reverse ++ rest) (hW : 2 * g.monitorRoom + (rest.map fun v => v.category).sum ≤ W9) (hdg : decode c.code g.pc = .ok (.invokestatic index, 3))
    (hpre : ∀ vm₁, s.WarmedH vm₁ → Pre ⟨T.setVm vm₁, locs, cells, slots⟩ argsL.toArray) :
    (∃ (v : Option Value) (vm₁ : Vm) (B : Pt), s.WarmedH vm₁ ∧ Stand p l e R s m args below meth c B.U B.locs B.cells B.slots ∧ Post ⟨T.setVm vm₁, locs, cells, slots⟩ argsL.toArray v B ∧
      ∀ target, Steps p.tables e below (B.U.setTop { g with pc := g.pc + 3, stack := v.toList ++ rest }) target → Steps p.tables e below (T.setTop g) target) ∨
    (∃ (q : Addr) (vm₁ : Vm) (B : Pt), s.WarmedH vm₁ ∧ Stand p l e R s m args below meth c B.U B.locs B.cells B.slots ∧ PostX ⟨T.setVm vm₁, locs, cells, slots⟩ argsL.toArray q B ∧
      Steps p.tables e below (T.setTop g) ((B.U.setTop { g with stack := rest }).pushFrame (.throwing q))) := by
  obtain ⟨mk, methM, cM, hnamed, hmethM, -, -, -, -, -, -, hsigM⟩ := Cond.codeWith_spec hcode
  have hstatic : methM.isStatic = true := Cond.static_spec hnamed hmethM hstat
  obtain ⟨kP, hkP, -⟩ := className_of_methodNamed hnamed
  have hinitP : kP.init = .initialized := Cond.initialized_spec (findClass_of_methodNamed hnamed) hkP hinit
  obtain ⟨vm₁, X₁, hstep₁⟩ := X.invokestatic hexec hown hlink hnamed hmethM hstatic hkP hinitP hy (g := g) hg (argsL := argsL) (rest := rest) (hlen _ hsigM) hstack hdg
  rcases hK m meth c ⟨T.setVm vm₁, locs, cells, slots⟩ { g with stack := rest } (.invokestatic index) mk argsL.toArray X₁ hg hsize hdg hW (X₁.named hnamed) (hpre vm₁ X₁.warmed) with ⟨v, B, X', hpost, hsteps⟩ | ⟨q, B, X', hpost, hsteps⟩
  · exact Or.inl ⟨v, vm₁, B, X₁.warmed, X', hpost, fun target h => hstep₁ _ fun acts => by rw [doInvoke_state]; exact hsteps.trans h⟩
  · exact Or.inr ⟨q, vm₁, B, X₁.warmed, X', hpost, hstep₁ _ fun acts => by rw [doInvoke_state]; exact hsteps⟩
theorem vx_callVW (X : Stand p l e R s m args below meth c T locs cells slots) (hexec : p.tables.exec = Jvm.exec) {own C : String} {index : Nat} {y : MethodName} {bytes : ByteArray} {maxL : Nat} {ret : Option FieldType} {hh : List (Nat × Nat × Nat × Nat)}
    (hown : s.vm.findClass own = some m.cls) (hlink : (Cond.methodLink own index y).before args s = true) (hinst : (Cond.instanceMethod y).before args s = true) (hsel : (Cond.selects C y y).before args s = true)
    (hcode : (Cond.codeWith y bytes maxL ret hh).before args s = true) (hy : y.cls ≠ "java/lang/invoke/MethodHandle" ∧ y.cls ≠ "java/lang/invoke/VarHandle")
    {W9 : Nat} {Pre : Pt → Array Value → Prop} {Post : Pt → Array Value → Option Value → Pt → Prop} (hK : Back l R p e below s args y 3 W9 Pre Post)
    {b : Addr} {cellB : Cell} (hcell : T.heap[b]? = some cellB) (hobj : cellB.vm.isStatics = false) (hcls : s.vm.findClass C = some cellB.cls)
    {g : JFrame} (hg : g.method = m) (hsize : g.locals.size = c.maxLocals) {argsL rest : List Value} (hlen : ∀ sig, parseMethodDescriptor y.desc = some sig → argsL.length = sig.parameters.length)
    (hstack : g.stack = argsL.reverse ++ .ref b :: rest) (hW : 2 * g.monitorRoom + (rest.map fun v => v.category).sum ≤ W9) (hdg : decode c.code g.pc = .ok (.invokevirtual index, 3))
    (hpre : ∀ vm₁, s.WarmedH vm₁ → Pre ⟨T.setVm vm₁, locs, cells, slots⟩ (Value.ref b :: argsL).toArray) :
    ∃ (v : Option Value) (vm₁ : Vm) (B : Pt), s.WarmedH vm₁ ∧ Stand p l e R s m args below meth c B.U B.locs B.cells B.slots ∧ Post ⟨T.setVm vm₁, locs, cells, slots⟩ (Value.ref b :: argsL).toArray v B ∧
      ∀ target, Steps p.tables e below (B.U.setTop { g with pc := g.pc + 3, stack := v.toList ++ rest }) target → Steps p.tables e below (T.setTop g) target := by
  obtain ⟨mk, methM, hnamed, hmethM, hstM, habM⟩ := Cond.instanceMethod_spec hinst
  obtain ⟨m8, methM', cM, hn8, hmethM', -, -, -, -, -, -, hsigM⟩ := Cond.codeWith_spec hcode
  cases Option.some.inj (hn8.symm.trans hnamed)
  cases hmethM.symm.trans hmethM'
  obtain ⟨c2, r2, m2, q1, q2, q3, q4, kP, hkP, hkPi⟩ := Cond.selects_spec hsel
  cases hcls.symm.trans q1
  cases (State.methodFound?_of_named hnamed hy).symm.trans q2
  cases hnamed.symm.trans q3
  have hselP : selectMethod e.platform s.vm cellB.cls mk = .method mk := by rw [Launch.admits_selectMethod X.admits]; exact q4
  obtain ⟨vm₁, X₁, hstep₁⟩ := X.invokevirtual hexec hown hlink hnamed hmethM hstM hkP hkPi hy (a := b) (cell := cellB) hcell
    (fun z h => by rw [h] at hobj; cases hobj) hselP hmethM habM hkP hkPi (g := g) hg (argsL := argsL) (rest := rest) (hlen _ hsigM) hstack hdg
  obtain ⟨v, B, X', hpost, hsteps⟩ := hK m meth c ⟨T.setVm vm₁, locs, cells, slots⟩ { g with stack := rest } (.invokevirtual index) mk (Value.ref b :: argsL).toArray X₁ hg hsize hdg hW (X₁.named hnamed) (hpre vm₁ X₁.warmed)
  exact ⟨v, vm₁, B, X₁.warmed, X', hpost, fun target h => hstep₁ _ fun acts => by rw [doInvoke_state]; exact hsteps.trans h⟩
abbrev vx_CVW (R : Room) (s : State) (args : Array Value) (own C : String) (index : Nat) (y : MethodName) (bytes : ByteArray) (maxL : Nat) (ret : Option FieldType) (hh : List (Nat × Nat × Nat × Nat)) (ws : List Cond) (rm : Room) (mc ms n : Nat) : Prop :=
  (rm.cells = mc ∧ rm.slots = ms ∧ rm.frames + 1 ≤ R.frames ∧ 8 + (maxL + 11) + rm.locals ≤ R.locals ∧ (∀ w ∈ ws, ∀ (a' : Array Value) (U : State), s.WarmedH U.vm → w.before a' U = true) ∧ Cond.codeWith y bytes maxL ret hh ∈ ws) ∧
  (Cond.codeWith y bytes maxL ret hh).before args s = true ∧ (Cond.initialized y.cls).before args s = true ∧ (y.cls ≠ "java/lang/invoke/MethodHandle" ∧ y.cls ≠ "java/lang/invoke/VarHandle") ∧
  (∀ sig, parseMethodDescriptor y.desc = some sig → n = sig.parameters.length) ∧ (Cond.methodLink own index y).before args s = true ∧ (Cond.instanceMethod y).before args s = true ∧ (Cond.selects C y y).before args s = true
theorem vx_cwVW {own C : String} {index maxL mc ms : Nat} {y : MethodName} {bytes : ByteArray} {ret : Option FieldType} {hh : List (Nat × Nat × Nat × Nat)} {Ts ws ws' : List Cond} {rm : Room} (n : Nat) (ht : ∀ w ∈ Ts, w.before args s = true) (hT : GoodIn Ts (wsV own index C y ws)) (hw : ws = Cond.codeWith y bytes maxL ret hh :: ws') (hrc : rm.cells = mc) (hrs : rm.slots = ms)
    (hd : y.cls = C ∧ y.cls ≠ "java/lang/invoke/MethodHandle" ∧ y.cls ≠ "java/lang/invoke/VarHandle" ∧ (parseMethodDescriptor y.desc).map (fun d => d.parameters.length) = some n) (hR : rm.frames + 1 ≤ R.frames ∧ 8 + (maxL + 11) + rm.locals ≤ R.locals) :
    vx_CVW R s args own C index y bytes maxL ret hh ws rm mc ms n := by
  obtain ⟨hC, hd⟩ := hd
  subst hC
  have ok : ∀ w ∈ wsV own index y.cls y ws, w.before args s = true := fun w h => ht w (hT w h).1
  have hG : GoodIn Ts ws := fun w h => hT w (by unfold wsV; exact List.mem_append_right _ h)
  have hc : Cond.codeWith y bytes maxL ret hh ∈ ws := by rw [hw]; exact List.mem_cons_self
  refine ⟨⟨hrc, hrs, hR.1, hR.2, pay_in ht hG, hc⟩, ht _ (hG _ hc).1, ok _ (by simp [wsV]), ⟨hd.1, hd.2.1⟩, fun sig h => ?_, ok _ (by simp [wsV]), ok _ (by simp [wsV]), ok _ (by simp [wsV])⟩
  have h2 := hd.2.2
  rw [h] at h2
  exact (Option.some.inj h2).symm
theorem vx_runVW {y : MethodName} {bytes cc : ByteArray} {maxL nL mc ms n index : Nat} {ret : Option FieldType} {hh : List (Nat × Nat × Nat × Nat)} {ws : List Cond} {rm : Room} {Pc : Array Value → State → Prop} {Qc : Array Value → State → Outcome → State → Prop} {free : Addr → Prop} {Ts : List Cond} {own C : String} {b : Addr} {As rest : List Value} {g : JFrame}
    (S : CallFix p m c cc nL s args Ts own) (hM : Met l y ws rm Pc Qc mc ms free) (cw : vx_CVW R s args own C index y bytes maxL ret hh ws rm mc ms n) (hp : PreV s H C b Pc As)
    (hg : g.method = m) (hn : As.length = n) (hsize : g.locals.size = nL) (hstack : g.stack = As.reverse ++ .ref b :: rest) (hW : 2 * g.monitorRoom + (rest.map fun v => v.category).sum ≤ 8) (hdg : decode cc g.pc = .ok (.invokevirtual index, 3)) (hf : cells + mc ≤ R.cells ∧ slots + ms ≤ R.slots) :
    va_Run p l e R s m args below meth c H locs cells slots mc ms g rest (Qc (Value.ref b :: As).toArray) free := by
  obtain ⟨⟨hrc, hrs, hfr, hlo, hws, hcw⟩, hcode, hini, hy, hlen, hl, hin, hse⟩ := cw
  have hK : Back l R p e below s args y 3 8 (PreOf R mc ms Pc) (PostOf Qc mc ms free) := va_backW (hh := hh) (bytes := bytes) (maxL := maxL) (ret := ret) hM hp.1 hrc hrs hfr hlo hws hcw (fun a' U hW => word_at hW (Or.inl (by first | rfl | simp [Cond.onTables, Cond.keeps, Cond.steady])) hini)
  obtain ⟨hx, hb, hml, ho, -⟩ := S
  obtain ⟨-, ⟨cellB, hcB, hoB, hclB⟩, hPc⟩ := hp
  intro T hT X
  obtain ⟨v, vm₁, ⟨U', l2, c2, s2⟩, hW₁, X', ⟨g', mk, t, L, e1, e2, hq, h1, hL, h2, h3⟩, st⟩ := vx_callVW X hx (C := C) (hh := hh) (bytes := bytes) (maxL := maxL) (ret := ret) ho hl hin hse hcode hy hK (by rw [hT]; exact hcB) hoB hclB hg (hsize.trans hml.symm) (argsL := As) (rest := rest) (fun sig h => hn.trans (hlen sig h)) hstack hW (by rw [hb]; exact hdg)
    (fun vm₁ hW₁ => ⟨hf.1, hf.2, hPc (T.setVm vm₁) hT hW₁⟩)
  dsimp only [Pt.U, Pt.locs, Pt.cells, Pt.slots] at X' e1 e2 h1 h2 h3 st
  subst h1; subst h2; subst h3
  exact ⟨v, (T.setVm vm₁).calling g' mk (Value.ref b :: As).toArray, t, U', L, hT, X', hL, e1, e2, hq, st⟩
section
variable {y : MethodName} {bytes cc : ByteArray} {maxL nL mc ms n index : Nat} {ret : Option FieldType} {ws : List Cond} {rm : Room} {Pc : Array Value → State → Prop} {Qc : Array Value → State → Outcome → State → Prop} {XC : String → State → State → Prop} {free : Addr → Prop} {Ts : List Cond} {own C : String} {b : Addr} {As rest : List Value} {g : JFrame}
theorem vx_runVX {hh : List (Nat × Nat × Nat × Nat)} (S : CallFix p m c cc nL s args Ts own) (hM : vx_Met l y ws rm Pc Qc XC mc ms free) (cw : vx_CVW R s args own C index y bytes maxL ret hh ws rm mc ms n) (hp : PreV s H C b Pc As)
    (hg : g.method = m) (hn : As.length = n) (hsize : g.locals.size = nL) (hstack : g.stack = As.reverse ++ .ref b :: rest) (hW : 2 * g.monitorRoom + (rest.map fun v => v.category).sum ≤ 8) (hdg : decode cc g.pc = .ok (.invokevirtual index, 3)) (hf : cells + mc ≤ R.cells ∧ slots + ms ≤ R.slots) :
    vx_Run p l e R s m args below meth c H locs cells slots mc ms g rest (Qc (Value.ref b :: As).toArray) XC free := by
  obtain ⟨⟨hrc, hrs, hfr, hlo, hws, hcw⟩, hcode, hini, hy, hlen, hl, hin, hse⟩ := cw
  have hK : vx_Back l R p e below s args y 3 8 (PreOf R mc ms Pc) (PostOf Qc mc ms free) (vx_Post XC mc ms free) := vx_backW (hh := hh) (bytes := bytes) (maxL := maxL) (ret := ret) hM hp.1 hrc hrs hfr hlo hws hcw (fun a' U hW => word_at hW (Or.inl (by first | rfl | simp [Cond.onTables, Cond.keeps, Cond.steady])) hini)
  obtain ⟨hx, hb, hml, ho, -⟩ := S
  obtain ⟨-, ⟨cellB, hcB, hoB, hclB⟩, hPc⟩ := hp
  intro T hT X
  rcases vx_callVX X hx (C := C) (hh := hh) (bytes := bytes) (maxL := maxL) (ret := ret) ho hl hin hse hcode hy hK (by rw [hT]; exact hcB) hoB hclB hg (hsize.trans hml.symm) (argsL := As) (rest := rest) (fun sig h => hn.trans (hlen sig h)) hstack hW (by rw [hb]; exact hdg)
    (fun vm₁ hW₁ => ⟨hf.1, hf.2, hPc (T.setVm vm₁) hT hW₁⟩) with ⟨v, vm₁, ⟨U', l2, c2, s2⟩, hW₁, X', ⟨g', mk, t, L, e1, e2, hq, h1, hL, h2, h3⟩, st⟩ | ⟨q, vm₁, ⟨U', l2, c2, s2⟩, hW₁, X', ⟨g', mk, t, L, E, ce, e1, e2, hq, hce, hcv, hcl, h1, hL, h2, h3⟩, st⟩
  · dsimp only [Pt.U, Pt.locs, Pt.cells, Pt.slots] at X' e1 e2 h1 h2 h3 st
    subst h1; subst h2; subst h3
    exact Or.inl ⟨v, (T.setVm vm₁).calling g' mk (Value.ref b :: As).toArray, t, U', L, hT, X', hL, e1, e2, hq, st⟩
  · dsimp only [Pt.U, Pt.locs, Pt.cells, Pt.slots] at X' e1 e2 h1 h2 h3 st hcl
    subst h1; subst h2; subst h3
    exact Or.inr ⟨q, (T.setVm vm₁).calling g' mk (Value.ref b :: As).toArray, t, U', L, E, ce, hT, X', hL, e1, e2, hq, hce, hcv, vx_cls hW₁ hcl, st⟩
theorem vx_runSX {hh : List (Nat × Nat × Nat × Nat)} (S : CallFix p m c cc nL s args Ts own) (hM : vx_Met l y ws rm Pc Qc XC mc ms free) (cw : vx_CSW R s args own index y bytes maxL ret hh ws rm mc ms n) (hp : PreS s H Pc As)
    (hg : g.method = m) (hn : As.length = n) (hsize : g.locals.size = nL) (hstack : g.stack = As.reverse ++ rest) (hW : 2 * g.monitorRoom + (rest.map fun v => v.category).sum ≤ 8) (hdg : decode cc g.pc = .ok (.invokestatic index, 3)) (hf : cells + mc ≤ R.cells ∧ slots + ms ≤ R.slots) :
    vx_Run p l e R s m args below meth c H locs cells slots mc ms g rest (Qc As.toArray) XC free := by
  obtain ⟨⟨hrc, hrs, hfr, hlo, hws, hcw⟩, hcode, hini, hy, hlen, hl, hstt⟩ := cw
  have hK : vx_Back l R p e below s args y 3 8 (PreOf R mc ms Pc) (PostOf Qc mc ms free) (vx_Post XC mc ms free) := vx_backW (hh := hh) (bytes := bytes) (maxL := maxL) (ret := ret) hM hp.1 hrc hrs hfr hlo hws hcw (fun a' U hW => word_at hW (Or.inl (by first | rfl | simp [Cond.onTables, Cond.keeps, Cond.steady])) hini)
  obtain ⟨hx, hb, hml, ho, -⟩ := S
  intro T hT X
  rcases vx_callSX X hx (hh := hh) (bytes := bytes) (maxL := maxL) (ret := ret) ho hl hstt hini hcode hy hK hg (hsize.trans hml.symm) (argsL := As) (rest := rest) (fun sig h => hn.trans (hlen sig h)) hstack hW (by rw [hb]; exact hdg)
    (fun vm₁ hW₁ => ⟨hf.1, hf.2, hp.2 (T.setVm vm₁) hT hW₁⟩) with ⟨v, vm₁, ⟨U', l2, c2, s2⟩, hW₁, X', ⟨g', mk, t, L, e1, e2, hq, h1, hL, h2, h3⟩, st⟩ | ⟨q, vm₁, ⟨U', l2, c2, s2⟩, hW₁, X', ⟨g', mk, t, L, E, ce, e1, e2, hq, hce, hcv, hcl, h1, hL, h2, h3⟩, st⟩
  · dsimp only [Pt.U, Pt.locs, Pt.cells, Pt.slots] at X' e1 e2 h1 h2 h3 st
    subst h1; subst h2; subst h3
    exact Or.inl ⟨v, (T.setVm vm₁).calling g' mk As.toArray, t, U', L, hT, X', hL, e1, e2, hq, st⟩
  · dsimp only [Pt.U, Pt.locs, Pt.cells, Pt.slots] at X' e1 e2 h1 h2 h3 st hcl
    subst h1; subst h2; subst h3
    exact Or.inr ⟨q, (T.setVm vm₁).calling g' mk As.toArray, t, U', L, E, ce, hT, X', hL, e1, e2, hq, hce, hcv, vx_cls hW₁ hcl, st⟩
end
end VXH
theorem vx_ofWH {l : Launch} {y : MethodName} {ws ws' : List Cond} {rm : Room} {Pc : Array Value → State → Prop} {Qc : Array Value → State → Outcome → State → Prop} {XC : String → State → State → Prop} {mc ms : Nat} {free : Addr → Prop} {cc : ByteArray} {maxL : Nat} {ret : Option FieldType} {hh : List (Nat × Nat × Nat × Nat)}
    (hy : plainName y.cls = true) (hw : ws = Cond.codeWith y cc maxL ret hh :: ws')
    (body : ∀ p e s m args below meth c s₁, BodyLoose p l y (headSpec ws rm) cc maxL ret e s m args below meth c s₁ → c.maxLocals = maxL → Pc args s →
      W p l e (headSpec ws rm).room s m args below meth c s.heap [] 0 0 (vx_MQ below Qc XC args s mc ms free) (entryFrame m args maxL)) : vx_Met l y ws rm Pc Qc XC mc ms free := by
  refine MetFree.of_bodyS (code := cc) (maxLocals := maxL) (ret := ret) hy ?_ ?_
  · intro args s m h hn
    obtain ⟨m9, meth, c, hn9, h1, h2, h3, h4, -, h5, h6, -⟩ := Cond.codeWith_spec (atoms_spec (ws := ws) h _ (by rw [hw]; exact List.mem_cons_self))
    cases hn.symm.trans hn9
    exact ⟨meth, c, h1, h2, h3, h4, h5, h6⟩
  · intro p e s m args below meth c s₁ B hml hP _
    have hh0 : s₁.heap = s.heap := by rw [B.state]; rfl
    obtain ⟨t, a1, o, b1, b2, b3⟩ := body p e s m args below meth c s₁ B hml hP s₁ hh0 (Stand.of_body B)
    exact ⟨t, o, a1, b1, b2, b3⟩
/-! ===== END ===== -/
end
section
/-! ===== BEGIN printed: names, fields, word lists, decode rows ===== -/
def RX0 : String := "VaultMovements$Windings"
def TX0 : u_T := fun k => match k with
  | 0 => ("VaultMovements$Windings", "kinds", "[I", true)
  | 1 => ("VaultMovements$Windings", "signs", "[I", true)
  | 2 => ("VaultMovements$Windings", "numbers", "[I", true)
  | _ => ("VaultMovements$Windings", "part", "I", false)
def tyX0 : Nat → FieldType := fun k => match k with
  | 0 => .array .int
  | 1 => .array .int
  | 2 => .array .int
  | _ => .int
abbrev wsX00 : List Cond := u_ws RX0 TX0 4
theorem nmX0 : ∀ a, a < 4 → ∀ b, b < 4 → a ≠ b → (TX0 a).2.1 ≠ (TX0 b).2.1 := by decide +kernel
theorem tyX0_ok : ∀ k, k < 4 → parseFieldDescriptor (TX0 k).2.2.1 = some (tyX0 k) := by decide +kernel
abbrev cX0_init : ByteArray := prog_2_method_1_code
def yX0_init : MethodName := ⟨RX0, "<init>", "()V"⟩
abbrev cX0_restart : ByteArray := prog_2_method_2_code
def yX0_restart : MethodName := ⟨RX0, "restart", "()V"⟩
abbrev cX0_areComplete : ByteArray := prog_2_method_3_code
def yX0_areComplete : MethodName := ⟨RX0, "areComplete", "()Z"⟩
abbrev cX0_winds : ByteArray := prog_2_method_4_code
def yX0_winds : MethodName := ⟨RX0, "winds", "(I)Z"⟩
abbrev cX0_hours : ByteArray := prog_2_method_5_code
def yX0_hours : MethodName := ⟨RX0, "hours", "(II)I"⟩
abbrev cX0_take : ByteArray := prog_2_method_6_code
def yX0_take : MethodName := ⟨RX0, "take", "(I)Z"⟩
abbrev cX0_isPartComplete : ByteArray := prog_2_method_7_code
def yX0_isPartComplete : MethodName := ⟨RX0, "isPartComplete", "()Z"⟩
abbrev cX0_takeComma : ByteArray := prog_2_method_8_code
def yX0_takeComma : MethodName := ⟨RX0, "takeComma", "()Z"⟩
abbrev cX0_takeFirst : ByteArray := prog_2_method_9_code
def yX0_takeFirst : MethodName := ⟨RX0, "takeFirst", "(I)Z"⟩
abbrev cX0_takeNextDigit : ByteArray := prog_2_method_10_code
def yX0_takeNextDigit : MethodName := ⟨RX0, "takeNextDigit", "(I)Z"⟩
abbrev cX0_takeMoreOrLess : ByteArray := prog_2_method_11_code
def yX0_takeMoreOrLess : MethodName := ⟨RX0, "takeMoreOrLess", "(I)Z"⟩
def RX1 : String := "VaultMovements"
def TX1 : u_T := fun k => match k with
  | 0 => ("VaultMovements", "now", "[I", true)
  | 1 => ("VaultMovements", "saved", "[I", true)
  | 2 => ("VaultMovements", "savedStates", "I", false)
  | 3 => ("VaultMovements", "buffer", "[I", true)
  | 4 => ("VaultMovements", "length", "I", false)
  | _ => ("VaultMovements", "windings", "LVaultMovements$Windings;", true)
def tyX1 : Nat → FieldType := fun k => match k with
  | 0 => .array .int
  | 1 => .array .int
  | 2 => .int
  | 3 => .array .int
  | 4 => .int
  | _ => .object "VaultMovements$Windings"
abbrev wsX10 : List Cond := u_ws RX1 TX1 6
theorem nmX1 : ∀ a, a < 6 → ∀ b, b < 6 → a ≠ b → (TX1 a).2.1 ≠ (TX1 b).2.1 := by decide +kernel
theorem tyX1_ok : ∀ k, k < 6 → parseFieldDescriptor (TX1 k).2.2.1 = some (tyX1 k) := by decide +kernel
abbrev cX1_init : ByteArray := prog_1_method_1_code
def yX1_init : MethodName := ⟨RX1, "<init>", "()V"⟩
abbrev cX1_opening : ByteArray := prog_1_method_2_code
def yX1_opening : MethodName := ⟨RX1, "opening", "(II)I"⟩
abbrev cX1_set : ByteArray := prog_1_method_3_code
def yX1_set : MethodName := ⟨RX1, "set", "(II)I"⟩
abbrev cX1_wind : ByteArray := prog_1_method_4_code
def yX1_wind : MethodName := ⟨RX1, "wind", "(II)I"⟩
abbrev cX1_fault : ByteArray := prog_1_method_5_code
def yX1_fault : MethodName := ⟨RX1, "fault", "(IZ)I"⟩
abbrev cX1_loss : ByteArray := prog_1_method_6_code
def yX1_loss : MethodName := ⟨RX1, "loss", "(II)I"⟩
abbrev cX1_service : ByteArray := prog_1_method_7_code
def yX1_service : MethodName := ⟨RX1, "service", "(I)I"⟩
abbrev cX1_lock : ByteArray := prog_1_method_8_code
def yX1_lock : MethodName := ⟨RX1, "lock", "()I"⟩
abbrev cX1_open : ByteArray := prog_1_method_9_code
def yX1_open : MethodName := ⟨RX1, "open", "()I"⟩
abbrev cX1_drill : ByteArray := prog_1_method_10_code
def yX1_drill : MethodName := ⟨RX1, "drill", "()I"⟩
abbrev cX1_pass : ByteArray := prog_1_method_11_code
def yX1_pass : MethodName := ⟨RX1, "pass", "(I)I"⟩
abbrev cX1_append : ByteArray := prog_1_method_12_code
def yX1_append : MethodName := ⟨RX1, "append", "(I)I"⟩
abbrev cX1_clearBuffer : ByteArray := prog_1_method_13_code
def yX1_clearBuffer : MethodName := ⟨RX1, "clearBuffer", "()I"⟩
abbrev cX1_firstError : ByteArray := prog_1_method_14_code
def yX1_firstError : MethodName := ⟨RX1, "firstError", "()I"⟩
abbrev cX1_windAll : ByteArray := prog_1_method_15_code
def yX1_windAll : MethodName := ⟨RX1, "windAll", "()I"⟩
abbrev cX1_undo : ByteArray := prog_1_method_16_code
def yX1_undo : MethodName := ⟨RX1, "undo", "()I"⟩
abbrev cX1_movement : ByteArray := prog_1_method_17_code
def yX1_movement : MethodName := ⟨RX1, "movement", "(II)I"⟩
abbrev cX1_day : ByteArray := prog_1_method_18_code
def yX1_day : MethodName := ⟨RX1, "day", "(I)I"⟩
abbrev cX1_count : ByteArray := prog_1_method_19_code
def yX1_count : MethodName := ⟨RX1, "count", "(I)I"⟩
abbrev cX1_setting : ByteArray := prog_1_method_20_code
def yX1_setting : MethodName := ⟨RX1, "setting", "(I)I"⟩
abbrev cX1_opensIn : ByteArray := prog_1_method_21_code
def yX1_opensIn : MethodName := ⟨RX1, "opensIn", "()I"⟩
abbrev cX1_lateness : ByteArray := prog_1_method_22_code
def yX1_lateness : MethodName := ⟨RX1, "lateness", "()I"⟩
abbrev cX1_keyMovement : ByteArray := prog_1_method_23_code
def yX1_keyMovement : MethodName := ⟨RX1, "keyMovement", "()I"⟩
abbrev cX1_rightWinding : ByteArray := prog_1_method_24_code
def yX1_rightWinding : MethodName := ⟨RX1, "rightWinding", "(I)I"⟩
abbrev cX1_punctuality : ByteArray := prog_1_method_25_code
def yX1_punctuality : MethodName := ⟨RX1, "punctuality", "()D"⟩
abbrev cX1_digest : ByteArray := prog_1_method_26_code
def yX1_digest : MethodName := ⟨RX1, "digest", "()J"⟩
abbrev cX1_isDay : ByteArray := prog_1_method_27_code
def yX1_isDay : MethodName := ⟨RX1, "isDay", "(I)Z"⟩
abbrev cX1_isSetting : ByteArray := prog_1_method_28_code
def yX1_isSetting : MethodName := ⟨RX1, "isSetting", "(I)Z"⟩
abbrev cX1_isMovement : ByteArray := prog_1_method_29_code
def yX1_isMovement : MethodName := ⟨RX1, "isMovement", "(I)Z"⟩
abbrev cX1_areWindingHours : ByteArray := prog_1_method_30_code
def yX1_areWindingHours : MethodName := ⟨RX1, "areWindingHours", "(I)Z"⟩
abbrev cX1_isLostHour : ByteArray := prog_1_method_31_code
def yX1_isLostHour : MethodName := ⟨RX1, "isLostHour", "(II)Z"⟩
abbrev cX1_bitsOfShare : ByteArray := prog_1_method_32_code
def yX1_bitsOfShare : MethodName := ⟨RX1, "bitsOfShare", "(D)J"⟩
abbrev cX1_change : ByteArray := prog_1_method_33_code
def yX1_change : MethodName := ⟨RX1, "change", "(II)I"⟩
abbrev cX1_save : ByteArray := prog_1_method_34_code
def yX1_save : MethodName := ⟨RX1, "save", "()V"⟩
abbrev cX1_today : ByteArray := prog_1_method_35_code
def yX1_today : MethodName := ⟨RX1, "today", "()I"⟩
abbrev cX1_timeOfDay : ByteArray := prog_1_method_36_code
def yX1_timeOfDay : MethodName := ⟨RX1, "timeOfDay", "()I"⟩
abbrev cX1_hoursToOpening : ByteArray := prog_1_method_37_code
def yX1_hoursToOpening : MethodName := ⟨RX1, "hoursToOpening", "()I"⟩
abbrev cX1_place : ByteArray := prog_1_method_38_code
def yX1_place : MethodName := ⟨RX1, "place", "(II)I"⟩
abbrev cX1_goes : ByteArray := prog_1_method_39_code
def yX1_goes : MethodName := ⟨RX1, "goes", "(I)Z"⟩
abbrev cX1_property : ByteArray := prog_1_method_40_code
def yX1_property : MethodName := ⟨RX1, "property", "(II)I"⟩
abbrev cX1_someMovementRuns : ByteArray := prog_1_method_41_code
def yX1_someMovementRuns : MethodName := ⟨RX1, "someMovementRuns", "()Z"⟩
abbrev cX1_movementsRunDown : ByteArray := prog_1_method_42_code
def yX1_movementsRunDown : MethodName := ⟨RX1, "movementsRunDown", "()I"⟩
abbrev cX1_hoursToRunDown : ByteArray := prog_1_method_43_code
def yX1_hoursToRunDown : MethodName := ⟨RX1, "hoursToRunDown", "(IZ)I"⟩
abbrev cX1_hoursToWind : ByteArray := prog_1_method_44_code
def yX1_hoursToWind : MethodName := ⟨RX1, "hoursToWind", "(I)I"⟩
abbrev cX1_canWindAll : ByteArray := prog_1_method_45_code
def yX1_canWindAll : MethodName := ⟨RX1, "canWindAll", "(I)Z"⟩
abbrev cX1_isLocked : ByteArray := prog_1_method_46_code
def yX1_isLocked : MethodName := ⟨RX1, "isLocked", "()Z"⟩
abbrev cX1_passHour : ByteArray := prog_1_method_47_code
def yX1_passHour : MethodName := ⟨RX1, "passHour", "()V"⟩
abbrev cX1_runHour : ByteArray := prog_1_method_48_code
def yX1_runHour : MethodName := ⟨RX1, "runHour", "(I)V"⟩
abbrev cX1_hoursToWait : ByteArray := prog_1_method_49_code
def yX1_hoursToWait : MethodName := ⟨RX1, "hoursToWait", "()I"⟩
abbrev cX1_hoursToOpen : ByteArray := prog_1_method_50_code
def yX1_hoursToOpen : MethodName := ⟨RX1, "hoursToOpen", "(I)I"⟩
abbrev cX1_latenessAfter : ByteArray := prog_1_method_51_code
def yX1_latenessAfter : MethodName := ⟨RX1, "latenessAfter", "(I)I"⟩
abbrev cX1_countEarlyTry : ByteArray := prog_1_method_52_code
def yX1_countEarlyTry : MethodName := ⟨RX1, "countEarlyTry", "()V"⟩
abbrev cX1_countOpening : ByteArray := prog_1_method_53_code
def yX1_countOpening : MethodName := ⟨RX1, "countOpening", "(I)V"⟩
abbrev cX1_leaveOpen : ByteArray := prog_1_method_54_code
def yX1_leaveOpen : MethodName := ⟨RX1, "leaveOpen", "()V"⟩
abbrev cX1_number : ByteArray := prog_1_method_55_code
def yX1_number : MethodName := ⟨RX1, "number", "(I)I"⟩
abbrev cX1_readBuffer : ByteArray := prog_1_method_56_code
def yX1_readBuffer : MethodName := ⟨RX1, "readBuffer", "()I"⟩
def RX2 : String := "VaultMovementsModel"
def TX2 : u_T := fun k => match k with
  | 0 => ("VaultMovementsModel", "now", "[I", true)
  | 1 => ("VaultMovementsModel", "past", "[I", true)
  | 2 => ("VaultMovementsModel", "kept", "I", false)
  | 3 => ("VaultMovementsModel", "text", "[I", true)
  | 4 => ("VaultMovementsModel", "typed", "I", false)
  | 5 => ("VaultMovementsModel", "thrown", "I", false)
  | 6 => ("VaultMovementsModel", "at", "I", false)
  | 7 => ("VaultMovementsModel", "isFault", "Z", false)
  | 8 => ("VaultMovementsModel", "value", "I", false)
  | 9 => ("VaultMovementsModel", "sorts", "[I", true)
  | _ => ("VaultMovementsModel", "many", "[I", true)
def tyX2 : Nat → FieldType := fun k => match k with
  | 0 => .array .int
  | 1 => .array .int
  | 2 => .int
  | 3 => .array .int
  | 4 => .int
  | 5 => .int
  | 6 => .int
  | 7 => .boolean
  | 8 => .int
  | 9 => .array .int
  | _ => .array .int
abbrev wsX20 : List Cond := u_ws RX2 TX2 11
theorem nmX2 : ∀ a, a < 11 → ∀ b, b < 11 → a ≠ b → (TX2 a).2.1 ≠ (TX2 b).2.1 := by decide +kernel
theorem tyX2_ok : ∀ k, k < 11 → parseFieldDescriptor (TX2 k).2.2.1 = some (tyX2 k) := by decide +kernel
abbrev cX2_init : ByteArray := prog_4_method_1_code
def yX2_init : MethodName := ⟨RX2, "<init>", "()V"⟩
abbrev cX2_thrown : ByteArray := prog_4_method_2_code
def yX2_thrown : MethodName := ⟨RX2, "thrown", "()I"⟩
abbrev cX2_fails : ByteArray := prog_4_method_3_code
def yX2_fails : MethodName := ⟨RX2, "fails", "(I)I"⟩
abbrev cX2_in : ByteArray := prog_4_method_4_code
def yX2_in : MethodName := ⟨RX2, "in", "(III)Z"⟩
abbrev cX2_isMovement : ByteArray := prog_4_method_5_code
def yX2_isMovement : MethodName := ⟨RX2, "isMovement", "(I)Z"⟩
abbrev cX2_isDay : ByteArray := prog_4_method_6_code
def yX2_isDay : MethodName := ⟨RX2, "isDay", "(I)Z"⟩
abbrev cX2_saves : ByteArray := prog_4_method_7_code
def yX2_saves : MethodName := ⟨RX2, "saves", "()V"⟩
abbrev cX2_undo : ByteArray := prog_4_method_8_code
def yX2_undo : MethodName := ⟨RX2, "undo", "()I"⟩
abbrev cX2_hours : ByteArray := prog_4_method_9_code
def yX2_hours : MethodName := ⟨RX2, "hours", "(I)I"⟩
abbrev cX2_goes : ByteArray := prog_4_method_10_code
def yX2_goes : MethodName := ⟨RX2, "goes", "(I)Z"⟩
abbrev cX2_lossOf : ByteArray := prog_4_method_11_code
def yX2_lossOf : MethodName := ⟨RX2, "lossOf", "(I)I"⟩
abbrev cX2_ran : ByteArray := prog_4_method_12_code
def yX2_ran : MethodName := ⟨RX2, "ran", "(I)I"⟩
abbrev cX2_toOpening : ByteArray := prog_4_method_13_code
def yX2_toOpening : MethodName := ⟨RX2, "toOpening", "()I"⟩
abbrev cX2_downIn : ByteArray := prog_4_method_14_code
def yX2_downIn : MethodName := ⟨RX2, "downIn", "(II)I"⟩
abbrev cX2_waits : ByteArray := prog_4_method_15_code
def yX2_waits : MethodName := ⟨RX2, "waits", "()I"⟩
abbrev cX2_opensBut : ByteArray := prog_4_method_16_code
def yX2_opensBut : MethodName := ⟨RX2, "opensBut", "(I)I"⟩
abbrev cX2_hourGoes : ByteArray := prog_4_method_17_code
def yX2_hourGoes : MethodName := ⟨RX2, "hourGoes", "()V"⟩
abbrev cX2_changes : ByteArray := prog_4_method_18_code
def yX2_changes : MethodName := ⟨RX2, "changes", "(II)I"⟩
abbrev cX2_opening : ByteArray := prog_4_method_19_code
def yX2_opening : MethodName := ⟨RX2, "opening", "(II)I"⟩
abbrev cX2_isFor : ByteArray := prog_4_method_20_code
def yX2_isFor : MethodName := ⟨RX2, "isFor", "(II)Z"⟩
abbrev cX2_set : ByteArray := prog_4_method_21_code
def yX2_set : MethodName := ⟨RX2, "set", "(II)I"⟩
abbrev cX2_wind : ByteArray := prog_4_method_22_code
def yX2_wind : MethodName := ⟨RX2, "wind", "(II)I"⟩
abbrev cX2_fault : ByteArray := prog_4_method_23_code
def yX2_fault : MethodName := ⟨RX2, "fault", "(IZ)I"⟩
abbrev cX2_loss : ByteArray := prog_4_method_24_code
def yX2_loss : MethodName := ⟨RX2, "loss", "(II)I"⟩
abbrev cX2_service : ByteArray := prog_4_method_25_code
def yX2_service : MethodName := ⟨RX2, "service", "(I)I"⟩
abbrev cX2_lock : ByteArray := prog_4_method_26_code
def yX2_lock : MethodName := ⟨RX2, "lock", "()I"⟩
abbrev cX2_unlocks : ByteArray := prog_4_method_27_code
def yX2_unlocks : MethodName := ⟨RX2, "unlocks", "()V"⟩
abbrev cX2_open : ByteArray := prog_4_method_28_code
def yX2_open : MethodName := ⟨RX2, "open", "()I"⟩
abbrev cX2_drill : ByteArray := prog_4_method_29_code
def yX2_drill : MethodName := ⟨RX2, "drill", "()I"⟩
abbrev cX2_pass : ByteArray := prog_4_method_30_code
def yX2_pass : MethodName := ⟨RX2, "pass", "(I)I"⟩
abbrev cX2_append : ByteArray := prog_4_method_31_code
def yX2_append : MethodName := ⟨RX2, "append", "(I)I"⟩
abbrev cX2_clearBuffer : ByteArray := prog_4_method_32_code
def yX2_clearBuffer : MethodName := ⟨RX2, "clearBuffer", "()I"⟩
abbrev cX2_isAt : ByteArray := prog_4_method_33_code
def yX2_isAt : MethodName := ⟨RX2, "isAt", "(II)Z"⟩
abbrev cX2_stops : ByteArray := prog_4_method_34_code
def yX2_stops : MethodName := ⟨RX2, "stops", "()Z"⟩
abbrev cX2_isSign : ByteArray := prog_4_method_35_code
def yX2_isSign : MethodName := ⟨RX2, "isSign", "(I)Z"⟩
abbrev cX2_isNumber : ByteArray := prog_4_method_36_code
def yX2_isNumber : MethodName := ⟨RX2, "isNumber", "()Z"⟩
abbrev cX2_isWinding : ByteArray := prog_4_method_37_code
def yX2_isWinding : MethodName := ⟨RX2, "isWinding", "(I)Z"⟩
abbrev cX2_isText : ByteArray := prog_4_method_38_code
def yX2_isText : MethodName := ⟨RX2, "isText", "()Z"⟩
abbrev cX2_firstError : ByteArray := prog_4_method_39_code
def yX2_firstError : MethodName := ⟨RX2, "firstError", "()I"⟩
abbrev cX2_woundBy : ByteArray := prog_4_method_40_code
def yX2_woundBy : MethodName := ⟨RX2, "woundBy", "(I)I"⟩
abbrev cX2_mayWind : ByteArray := prog_4_method_41_code
def yX2_mayWind : MethodName := ⟨RX2, "mayWind", "()Z"⟩
abbrev cX2_windAll : ByteArray := prog_4_method_42_code
def yX2_windAll : MethodName := ⟨RX2, "windAll", "()I"⟩
abbrev cX2_ofMovement : ByteArray := prog_4_method_43_code
def yX2_ofMovement : MethodName := ⟨RX2, "ofMovement", "(II)I"⟩
abbrev cX2_movement : ByteArray := prog_4_method_44_code
def yX2_movement : MethodName := ⟨RX2, "movement", "(II)I"⟩
abbrev cX2_day : ByteArray := prog_4_method_45_code
def yX2_day : MethodName := ⟨RX2, "day", "(I)I"⟩
abbrev cX2_counted : ByteArray := prog_4_method_46_code
def yX2_counted : MethodName := ⟨RX2, "counted", "(I)I"⟩
abbrev cX2_count : ByteArray := prog_4_method_47_code
def yX2_count : MethodName := ⟨RX2, "count", "(I)I"⟩
abbrev cX2_setting : ByteArray := prog_4_method_48_code
def yX2_setting : MethodName := ⟨RX2, "setting", "(I)I"⟩
abbrev cX2_opensIn : ByteArray := prog_4_method_49_code
def yX2_opensIn : MethodName := ⟨RX2, "opensIn", "()I"⟩
abbrev cX2_late : ByteArray := prog_4_method_50_code
def yX2_late : MethodName := ⟨RX2, "late", "()I"⟩
abbrev cX2_lateness : ByteArray := prog_4_method_51_code
def yX2_lateness : MethodName := ⟨RX2, "lateness", "()I"⟩
abbrev cX2_key : ByteArray := prog_4_method_52_code
def yX2_key : MethodName := ⟨RX2, "key", "()I"⟩
abbrev cX2_keyMovement : ByteArray := prog_4_method_53_code
def yX2_keyMovement : MethodName := ⟨RX2, "keyMovement", "()I"⟩
abbrev cX2_right : ByteArray := prog_4_method_54_code
def yX2_right : MethodName := ⟨RX2, "right", "(I)I"⟩
abbrev cX2_rightWinding : ByteArray := prog_4_method_55_code
def yX2_rightWinding : MethodName := ⟨RX2, "rightWinding", "(I)I"⟩
abbrev cX2_share : ByteArray := prog_4_method_56_code
def yX2_share : MethodName := ⟨RX2, "share", "()D"⟩
abbrev cX2_punctuality : ByteArray := prog_4_method_57_code
def yX2_punctuality : MethodName := ⟨RX2, "punctuality", "()D"⟩
abbrev cX2_digest : ByteArray := prog_4_method_58_code
def yX2_digest : MethodName := ⟨RX2, "digest", "()J"⟩
def RJxe99ae : String := "java/lang/Double"
def TJxe99ae : u_T := fun k => match k with
  | _ => ("", "", "", false)
def tyJxe99ae : Nat → FieldType := fun k => match k with
  | _ => .int
abbrev wsJxe99ae0 : List Cond := u_ws RJxe99ae TJxe99ae 0
theorem nmJxe99ae : ∀ a, a < 0 → ∀ b, b < 0 → a ≠ b → (TJxe99ae a).2.1 ≠ (TJxe99ae b).2.1 := by decide +kernel
theorem tyJxe99ae_ok : ∀ k, k < 0 → parseFieldDescriptor (TJxe99ae k).2.2.1 = some (tyJxe99ae k) := by decide +kernel
abbrev cJxe99ae_isNaN_b9ae7 : ByteArray := prog_5_method_6_code
def yJxe99ae_isNaN_b9ae7 : MethodName := ⟨RJxe99ae, "isNaN", "(D)Z"⟩
abbrev cJxe99ae_doubleToLongBits_ccdee : ByteArray := prog_5_method_23_code
def yJxe99ae_doubleToLongBits_ccdee : MethodName := ⟨RJxe99ae, "doubleToLongBits", "(D)J"⟩
def RJ9 : String := "java/lang/Math"
def TJ9 : u_T := fun k => match k with
  | _ => ("", "", "", false)
def tyJ9 : Nat → FieldType := fun k => match k with
  | _ => .int
abbrev wsJ90 : List Cond := u_ws RJ9 TJ9 0
theorem nmJ9 : ∀ a, a < 0 → ∀ b, b < 0 → a ≠ b → (TJ9 a).2.1 ≠ (TJ9 b).2.1 := by decide +kernel
theorem tyJ9_ok : ∀ k, k < 0 → parseFieldDescriptor (TJ9 k).2.2.1 = some (tyJ9 k) := by decide +kernel
abbrev cJ9_max_7cf53 : ByteArray := prog_10_method_65_code
def yJ9_max_7cf53 : MethodName := ⟨RJ9, "max", "(II)I"⟩
def RJ0 : String := "java/lang/String"
def TJ0 : u_T := fun k => match k with
  | _ => ("", "", "", false)
def tyJ0 : Nat → FieldType := fun k => match k with
  | _ => .int
abbrev wsJ00 : List Cond := u_ws RJ0 TJ0 0
theorem nmJ0 : ∀ a, a < 0 → ∀ b, b < 0 → a ≠ b → (TJ0 a).2.1 ≠ (TJ0 b).2.1 := by decide +kernel
theorem tyJ0_ok : ∀ k, k < 0 → parseFieldDescriptor (TJ0 k).2.2.1 = some (tyJ0 k) := by decide +kernel
def RJ10 : String := "java/lang/System"
def TJ10 : u_T := fun k => match k with
  | _ => ("", "", "", false)
def tyJ10 : Nat → FieldType := fun k => match k with
  | _ => .int
abbrev wsJ100 : List Cond := u_ws RJ10 TJ10 0
theorem nmJ10 : ∀ a, a < 0 → ∀ b, b < 0 → a ≠ b → (TJ10 a).2.1 ≠ (TJ10 b).2.1 := by decide +kernel
theorem tyJ10_ok : ∀ k, k < 0 → parseFieldDescriptor (TJ10 k).2.2.1 = some (tyJ10 k) := by decide +kernel
def RL : String := "VaultMovementsLaw"
abbrev cL_opening : ByteArray := method_3_code
def yL_opening : MethodName := ⟨RL, "opening", "(LVaultMovements;II[J)I"⟩
abbrev cL_set : ByteArray := method_4_code
def yL_set : MethodName := ⟨RL, "set", "(LVaultMovements;II[J)I"⟩
abbrev cL_wind : ByteArray := method_5_code
def yL_wind : MethodName := ⟨RL, "wind", "(LVaultMovements;II[J)I"⟩
abbrev cL_fault : ByteArray := method_6_code
def yL_fault : MethodName := ⟨RL, "fault", "(LVaultMovements;IZ[J)I"⟩
abbrev cL_loss : ByteArray := method_7_code
def yL_loss : MethodName := ⟨RL, "loss", "(LVaultMovements;II[J)I"⟩
abbrev cL_service : ByteArray := method_8_code
def yL_service : MethodName := ⟨RL, "service", "(LVaultMovements;I[J)I"⟩
abbrev cL_lock : ByteArray := method_9_code
def yL_lock : MethodName := ⟨RL, "lock", "(LVaultMovements;[J)I"⟩
abbrev cL_open : ByteArray := method_10_code
def yL_open : MethodName := ⟨RL, "open", "(LVaultMovements;[J)I"⟩
abbrev cL_drill : ByteArray := method_11_code
def yL_drill : MethodName := ⟨RL, "drill", "(LVaultMovements;[J)I"⟩
abbrev cL_pass : ByteArray := method_12_code
def yL_pass : MethodName := ⟨RL, "pass", "(LVaultMovements;I[J)I"⟩
abbrev cL_append : ByteArray := method_13_code
def yL_append : MethodName := ⟨RL, "append", "(LVaultMovements;I[J)I"⟩
abbrev cL_windAll : ByteArray := method_14_code
def yL_windAll : MethodName := ⟨RL, "windAll", "(LVaultMovements;[J)I"⟩
abbrev cL_undo : ByteArray := method_15_code
def yL_undo : MethodName := ⟨RL, "undo", "(LVaultMovements;[J)I"⟩
abbrev cL_movement : ByteArray := method_16_code
def yL_movement : MethodName := ⟨RL, "movement", "(LVaultMovements;II[J)I"⟩
abbrev cL_day : ByteArray := method_17_code
def yL_day : MethodName := ⟨RL, "day", "(LVaultMovements;I[J)I"⟩
abbrev cL_count : ByteArray := method_18_code
def yL_count : MethodName := ⟨RL, "count", "(LVaultMovements;I[J)I"⟩
abbrev cL_setting : ByteArray := method_19_code
def yL_setting : MethodName := ⟨RL, "setting", "(LVaultMovements;I[J)I"⟩
abbrev cL_rightWinding : ByteArray := method_20_code
def yL_rightWinding : MethodName := ⟨RL, "rightWinding", "(LVaultMovements;I[J)I"⟩
abbrev cL_law : ByteArray := code
def yL_law : MethodName := ⟨RL, "law", "([I)Z"⟩
def wsX0_init : List Cond := .code yX0_init cX0_init 1 none :: ([.methodLink RX0 3 objectInit, .instanceMethod objectInit, .code objectInit ⟨#[0xb1]⟩ 1 none, .arrayClass .int, .fieldLink RX0 9 "VaultMovements$Windings" "kinds" "[I", .fieldLink RX0 15 "VaultMovements$Windings" "signs" "[I", .fieldLink RX0 18 "VaultMovements$Windings" "numbers" "[I", .fieldLink RX0 21 "VaultMovements$Windings" "part" "I"] ++ wsX00)
def wsX0_restart : List Cond := .code yX0_restart cX0_restart 2 none :: ([.fieldLink RX0 21 "VaultMovements$Windings" "part" "I", .fieldLink RX0 9 "VaultMovements$Windings" "kinds" "[I", .fieldLink RX0 15 "VaultMovements$Windings" "signs" "[I", .fieldLink RX0 18 "VaultMovements$Windings" "numbers" "[I"] ++ wsX00)
def wsX0_isPartComplete : List Cond := .code yX0_isPartComplete cX0_isPartComplete 1 (some .boolean) :: ([.fieldLink RX0 9 "VaultMovements$Windings" "kinds" "[I", .fieldLink RX0 21 "VaultMovements$Windings" "part" "I", .fieldLink RX0 15 "VaultMovements$Windings" "signs" "[I", .fieldLink RX0 18 "VaultMovements$Windings" "numbers" "[I"] ++ wsX00)
def wsX0_areComplete : List Cond := .code yX0_areComplete cX0_areComplete 1 (some .boolean) :: ([.fieldLink RX0 21 "VaultMovements$Windings" "part" "I", .methodLink RX0 25 yX0_isPartComplete, .instanceMethod yX0_isPartComplete, .selects RX0 yX0_isPartComplete yX0_isPartComplete, .initialized RX0, .code yX0_isPartComplete cX0_isPartComplete 1 (some .boolean), .fieldLink RX0 9 "VaultMovements$Windings" "kinds" "[I", .fieldLink RX0 15 "VaultMovements$Windings" "signs" "[I", .fieldLink RX0 18 "VaultMovements$Windings" "numbers" "[I"] ++ wsX00)
def wsX0_winds : List Cond := .code yX0_winds cX0_winds 2 (some .boolean) :: ([.fieldLink RX0 9 "VaultMovements$Windings" "kinds" "[I"] ++ wsX00)
def wsX0_hours : List Cond := .code yX0_hours cX0_hours 3 (some .int) :: ([.fieldLink RX0 9 "VaultMovements$Windings" "kinds" "[I", .fieldLink RX0 18 "VaultMovements$Windings" "numbers" "[I", .fieldLink RX0 15 "VaultMovements$Windings" "signs" "[I"] ++ wsX00)
def wsX0_takeComma : List Cond := .code yX0_takeComma cX0_takeComma 1 (some .boolean) :: ([.fieldLink RX0 21 "VaultMovements$Windings" "part" "I", .methodLink RX0 25 yX0_isPartComplete, .instanceMethod yX0_isPartComplete, .selects RX0 yX0_isPartComplete yX0_isPartComplete, .initialized RX0, .code yX0_isPartComplete cX0_isPartComplete 1 (some .boolean), .fieldLink RX0 9 "VaultMovements$Windings" "kinds" "[I", .fieldLink RX0 15 "VaultMovements$Windings" "signs" "[I", .fieldLink RX0 18 "VaultMovements$Windings" "numbers" "[I"] ++ wsX00)
def wsX0_takeFirst : List Cond := .code yX0_takeFirst cX0_takeFirst 2 (some .boolean) :: ([.fieldLink RX0 9 "VaultMovements$Windings" "kinds" "[I", .fieldLink RX0 21 "VaultMovements$Windings" "part" "I", .fieldLink RX0 18 "VaultMovements$Windings" "numbers" "[I"] ++ wsX00)
def wsX0_takeNextDigit : List Cond := .code yX0_takeNextDigit cX0_takeNextDigit 3 (some .boolean) :: ([.fieldLink RX0 18 "VaultMovements$Windings" "numbers" "[I", .fieldLink RX0 21 "VaultMovements$Windings" "part" "I"] ++ wsX00)
def wsX0_takeMoreOrLess : List Cond := .code yX0_takeMoreOrLess cX0_takeMoreOrLess 2 (some .boolean) :: ([.fieldLink RX0 15 "VaultMovements$Windings" "signs" "[I", .fieldLink RX0 21 "VaultMovements$Windings" "part" "I", .fieldLink RX0 18 "VaultMovements$Windings" "numbers" "[I"] ++ wsX00)
def wsX0_take_r1 : List Cond := [Cond.fieldLink RX0 9 "VaultMovements$Windings" "kinds" "[I", Cond.fieldLink RX0 21 "VaultMovements$Windings" "part" "I", Cond.methodLink RX0 29 yX0_takeComma, Cond.instanceMethod yX0_takeComma, Cond.selects RX0 yX0_takeComma yX0_takeComma, Cond.initialized RX0, Cond.code yX0_takeComma cX0_takeComma 1 (some .boolean), Cond.methodLink RX0 25 yX0_isPartComplete, Cond.instanceMethod yX0_isPartComplete, Cond.selects RX0 yX0_isPartComplete yX0_isPartComplete, Cond.code yX0_isPartComplete cX0_isPartComplete 1 (some .boolean), Cond.fieldLink RX0 15 "VaultMovements$Windings" "signs" "[I", Cond.fieldLink RX0 18 "VaultMovements$Windings" "numbers" "[I", Cond.methodLink RX0 32 yX0_takeFirst, Cond.instanceMethod yX0_takeFirst, Cond.selects RX0 yX0_takeFirst yX0_takeFirst, Cond.code yX0_takeFirst cX0_takeFirst 2 (some .boolean), Cond.methodLink RX0 36 yX0_takeNextDigit, Cond.instanceMethod yX0_takeNextDigit, Cond.selects RX0 yX0_takeNextDigit yX0_takeNextDigit, Cond.code yX0_takeNextDigit cX0_takeNextDigit 3 (some .boolean), Cond.methodLink RX0 39 yX0_takeMoreOrLess, Cond.instanceMethod yX0_takeMoreOrLess, Cond.selects RX0 yX0_takeMoreOrLess yX0_takeMoreOrLess]
def wsX0_take_r2 : List Cond := [Cond.code yX0_takeMoreOrLess cX0_takeMoreOrLess 2 (some .boolean)]
def wsX0_take : List Cond := .code yX0_take cX0_take 2 (some .boolean) :: ((wsX0_take_r1 ++ wsX0_take_r2) ++ wsX00)
def wsX1_init : List Cond := .code yX1_init cX1_init 2 none :: ([.methodLink RX1 3 objectInit, .instanceMethod objectInit, .code objectInit ⟨#[0xb1]⟩ 1 none, .arrayClass .int, .fieldLink RX1 9 "VaultMovements" "now" "[I", .fieldLink RX1 13 "VaultMovements" "saved" "[I", .fieldLink RX1 16 "VaultMovements" "savedStates" "I", .fieldLink RX1 20 "VaultMovements" "buffer" "[I", .fieldLink RX1 23 "VaultMovements" "length" "I", .classLink RX1 26 RX0, .instantiable RX0 4, .initialized RX0, .fieldLink RX1 29 "VaultMovements" "windings" "LVaultMovements$Windings;", .fieldLink RX1 33 "VaultMovements" "SETTING_AT_FIRST" "[I", .instanceMethod yX0_init, .code yX0_init cX0_init 1 none, .methodLink RX0 3 objectInit, .fieldLink RX0 9 "VaultMovements$Windings" "kinds" "[I", .fieldLink RX0 15 "VaultMovements$Windings" "signs" "[I", .fieldLink RX0 18 "VaultMovements$Windings" "numbers" "[I", .fieldLink RX0 21 "VaultMovements$Windings" "part" "I"] ++ wsX10 ++ wsX00)
def wsX1_isDay : List Cond := .code yX1_isDay cX1_isDay 1 (some .boolean) :: ([])
def wsX1_save : List Cond := .code yX1_save cX1_save 1 none :: ([.fieldLink RX1 16 "VaultMovements" "savedStates" "I", .fieldLink RX1 13 "VaultMovements" "saved" "[I", .methodLink RX1 163 arraycopyName, .native arraycopyName, .static arraycopyName, .initialized "java/lang/System", .fieldLink RX1 9 "VaultMovements" "now" "[I"] ++ wsX10)
def wsX1_change : List Cond := .code yX1_change cX1_change 4 (some .int) :: ([.fieldLink RX1 9 "VaultMovements" "now" "[I", .methodLink RX1 103 yX1_save, .instanceMethod yX1_save, .selects RX1 yX1_save yX1_save, .initialized RX1, .code yX1_save cX1_save 1 none, .fieldLink RX1 16 "VaultMovements" "savedStates" "I", .fieldLink RX1 13 "VaultMovements" "saved" "[I", .methodLink RX1 163 arraycopyName, .native arraycopyName, .static arraycopyName, .initialized "java/lang/System"] ++ wsX10)
def wsX1_opening : List Cond := .code yX1_opening cX1_opening 3 (some .int) :: ([.classLink RX1 40 "java/lang/IndexOutOfBoundsException", .initialized "java/lang/IndexOutOfBoundsException", .classLink RX1 47 "java/lang/IllegalArgumentException", .initialized "java/lang/IllegalArgumentException", .methodLink RX1 36 yX1_isDay, .static yX1_isDay, .initialized RX1, .code yX1_isDay cX1_isDay 1 (some .boolean), .methodLink RX1 52 yX1_change, .instanceMethod yX1_change, .selects RX1 yX1_change yX1_change, .code yX1_change cX1_change 4 (some .int), .fieldLink RX1 9 "VaultMovements" "now" "[I", .methodLink RX1 103 yX1_save, .instanceMethod yX1_save, .selects RX1 yX1_save yX1_save, .code yX1_save cX1_save 1 none, .fieldLink RX1 16 "VaultMovements" "savedStates" "I", .fieldLink RX1 13 "VaultMovements" "saved" "[I", .methodLink RX1 163 arraycopyName, .native arraycopyName, .static arraycopyName, .initialized "java/lang/System"] ++ wsX10 ++ (vx_atS RX1 44 "java/lang/IndexOutOfBoundsException" ["java/lang/RuntimeException", "java/lang/Exception"]).filter goodWord ++ (vx_atS RX1 51 "java/lang/IllegalArgumentException" ["java/lang/RuntimeException", "java/lang/Exception"]).filter goodWord)
def wsX1_isSetting : List Cond := .code yX1_isSetting cX1_isSetting 1 (some .boolean) :: ([])
def wsX1_set_r1 : List Cond := [Cond.classLink RX1 40 "java/lang/IndexOutOfBoundsException", Cond.initialized "java/lang/IndexOutOfBoundsException", Cond.classLink RX1 47 "java/lang/IllegalArgumentException", Cond.initialized "java/lang/IllegalArgumentException", Cond.fieldLink RX1 61 "VaultMovements" "SETTING_LEAST" "[I", Cond.fieldLink RX1 64 "VaultMovements" "SETTING_MOST" "[I", Cond.methodLink RX1 56 yX1_isSetting, Cond.static yX1_isSetting, Cond.initialized RX1, Cond.code yX1_isSetting cX1_isSetting 1 (some .boolean), Cond.methodLink RX1 52 yX1_change, Cond.instanceMethod yX1_change, Cond.selects RX1 yX1_change yX1_change, Cond.code yX1_change cX1_change 4 (some .int), Cond.fieldLink RX1 9 "VaultMovements" "now" "[I", Cond.methodLink RX1 103 yX1_save, Cond.instanceMethod yX1_save, Cond.selects RX1 yX1_save yX1_save, Cond.code yX1_save cX1_save 1 none, Cond.fieldLink RX1 16 "VaultMovements" "savedStates" "I", Cond.fieldLink RX1 13 "VaultMovements" "saved" "[I", Cond.methodLink RX1 163 arraycopyName, Cond.native arraycopyName, Cond.static arraycopyName]
def wsX1_set_r2 : List Cond := [Cond.initialized "java/lang/System"]
def wsX1_set : List Cond := .code yX1_set cX1_set 3 (some .int) :: ((wsX1_set_r1 ++ wsX1_set_r2) ++ wsX10 ++ (vx_atS RX1 44 "java/lang/IndexOutOfBoundsException" ["java/lang/RuntimeException", "java/lang/Exception"]).filter goodWord ++ (vx_atS RX1 51 "java/lang/IllegalArgumentException" ["java/lang/RuntimeException", "java/lang/Exception"]).filter goodWord)
def wsX1_isMovement : List Cond := .code yX1_isMovement cX1_isMovement 1 (some .boolean) :: ([])
def wsX1_areWindingHours : List Cond := .code yX1_areWindingHours cX1_areWindingHours 1 (some .boolean) :: ([])
def wsX1_isLocked : List Cond := .code yX1_isLocked cX1_isLocked 1 (some .boolean) :: ([.fieldLink RX1 9 "VaultMovements" "now" "[I"] ++ wsX10)
def wsX1_place : List Cond := .code yX1_place cX1_place 2 (some .int) :: ([])
def wsX1_goes : List Cond := .code yX1_goes cX1_goes 2 (some .boolean) :: ([.fieldLink RX1 9 "VaultMovements" "now" "[I", .methodLink RX1 91 yX1_place, .static yX1_place, .initialized RX1, .code yX1_place cX1_place 2 (some .int)] ++ wsX10)
def wsX1_wind_r1 : List Cond := [Cond.classLink RX1 40 "java/lang/IndexOutOfBoundsException", Cond.initialized "java/lang/IndexOutOfBoundsException", Cond.classLink RX1 47 "java/lang/IllegalArgumentException", Cond.initialized "java/lang/IllegalArgumentException", Cond.classLink RX1 86 "java/lang/IllegalStateException", Cond.initialized "java/lang/IllegalStateException", Cond.methodLink RX1 69 yX1_isMovement, Cond.static yX1_isMovement, Cond.initialized RX1, Cond.code yX1_isMovement cX1_isMovement 1 (some .boolean), Cond.methodLink RX1 74 yX1_areWindingHours, Cond.static yX1_areWindingHours, Cond.code yX1_areWindingHours cX1_areWindingHours 1 (some .boolean), Cond.methodLink RX1 79 yX1_isLocked, Cond.instanceMethod yX1_isLocked, Cond.selects RX1 yX1_isLocked yX1_isLocked, Cond.code yX1_isLocked cX1_isLocked 1 (some .boolean), Cond.fieldLink RX1 9 "VaultMovements" "now" "[I", Cond.methodLink RX1 83 yX1_goes, Cond.instanceMethod yX1_goes, Cond.selects RX1 yX1_goes yX1_goes, Cond.code yX1_goes cX1_goes 2 (some .boolean), Cond.methodLink RX1 91 yX1_place, Cond.static yX1_place]
def wsX1_wind_r2 : List Cond := [Cond.code yX1_place cX1_place 2 (some .int), Cond.methodLink RX1 52 yX1_change, Cond.instanceMethod yX1_change, Cond.selects RX1 yX1_change yX1_change, Cond.code yX1_change cX1_change 4 (some .int), Cond.methodLink RX1 103 yX1_save, Cond.instanceMethod yX1_save, Cond.selects RX1 yX1_save yX1_save, Cond.code yX1_save cX1_save 1 none, Cond.fieldLink RX1 16 "VaultMovements" "savedStates" "I", Cond.fieldLink RX1 13 "VaultMovements" "saved" "[I", Cond.methodLink RX1 163 arraycopyName, Cond.native arraycopyName, Cond.static arraycopyName, Cond.initialized "java/lang/System"]
def wsX1_wind : List Cond := .code yX1_wind cX1_wind 3 (some .int) :: ((wsX1_wind_r1 ++ wsX1_wind_r2) ++ wsX10 ++ (vx_atS RX1 44 "java/lang/IndexOutOfBoundsException" ["java/lang/RuntimeException", "java/lang/Exception"]).filter goodWord ++ (vx_atS RX1 51 "java/lang/IllegalArgumentException" ["java/lang/RuntimeException", "java/lang/Exception"]).filter goodWord ++ (vx_atS RX1 90 "java/lang/IllegalStateException" ["java/lang/RuntimeException", "java/lang/Exception"]).filter goodWord)
def wsX1_fault : List Cond := .code yX1_fault cX1_fault 3 (some .int) :: ([.classLink RX1 40 "java/lang/IndexOutOfBoundsException", .initialized "java/lang/IndexOutOfBoundsException", .methodLink RX1 69 yX1_isMovement, .static yX1_isMovement, .initialized RX1, .code yX1_isMovement cX1_isMovement 1 (some .boolean), .methodLink RX1 91 yX1_place, .static yX1_place, .code yX1_place cX1_place 2 (some .int), .methodLink RX1 52 yX1_change, .instanceMethod yX1_change, .selects RX1 yX1_change yX1_change, .code yX1_change cX1_change 4 (some .int), .fieldLink RX1 9 "VaultMovements" "now" "[I", .methodLink RX1 103 yX1_save, .instanceMethod yX1_save, .selects RX1 yX1_save yX1_save, .code yX1_save cX1_save 1 none, .fieldLink RX1 16 "VaultMovements" "savedStates" "I", .fieldLink RX1 13 "VaultMovements" "saved" "[I", .methodLink RX1 163 arraycopyName, .native arraycopyName, .static arraycopyName, .initialized "java/lang/System"] ++ wsX10 ++ (vx_atS RX1 44 "java/lang/IndexOutOfBoundsException" ["java/lang/RuntimeException", "java/lang/Exception"]).filter goodWord)
def wsX1_loss_r1 : List Cond := [Cond.classLink RX1 40 "java/lang/IndexOutOfBoundsException", Cond.initialized "java/lang/IndexOutOfBoundsException", Cond.classLink RX1 47 "java/lang/IllegalArgumentException", Cond.initialized "java/lang/IllegalArgumentException", Cond.methodLink RX1 69 yX1_isMovement, Cond.static yX1_isMovement, Cond.initialized RX1, Cond.code yX1_isMovement cX1_isMovement 1 (some .boolean), Cond.methodLink RX1 91 yX1_place, Cond.static yX1_place, Cond.code yX1_place cX1_place 2 (some .int), Cond.methodLink RX1 52 yX1_change, Cond.instanceMethod yX1_change, Cond.selects RX1 yX1_change yX1_change, Cond.code yX1_change cX1_change 4 (some .int), Cond.fieldLink RX1 9 "VaultMovements" "now" "[I", Cond.methodLink RX1 103 yX1_save, Cond.instanceMethod yX1_save, Cond.selects RX1 yX1_save yX1_save, Cond.code yX1_save cX1_save 1 none, Cond.fieldLink RX1 16 "VaultMovements" "savedStates" "I", Cond.fieldLink RX1 13 "VaultMovements" "saved" "[I", Cond.methodLink RX1 163 arraycopyName, Cond.native arraycopyName]
def wsX1_loss_r2 : List Cond := [Cond.static arraycopyName, Cond.initialized "java/lang/System"]
def wsX1_loss : List Cond := .code yX1_loss cX1_loss 3 (some .int) :: ((wsX1_loss_r1 ++ wsX1_loss_r2) ++ wsX10 ++ (vx_atS RX1 44 "java/lang/IndexOutOfBoundsException" ["java/lang/RuntimeException", "java/lang/Exception"]).filter goodWord ++ (vx_atS RX1 51 "java/lang/IllegalArgumentException" ["java/lang/RuntimeException", "java/lang/Exception"]).filter goodWord)
def wsX1_service_r1 : List Cond := [Cond.classLink RX1 40 "java/lang/IndexOutOfBoundsException", Cond.initialized "java/lang/IndexOutOfBoundsException", Cond.classLink RX1 86 "java/lang/IllegalStateException", Cond.initialized "java/lang/IllegalStateException", Cond.fieldLink RX1 9 "VaultMovements" "now" "[I", Cond.methodLink RX1 69 yX1_isMovement, Cond.static yX1_isMovement, Cond.initialized RX1, Cond.code yX1_isMovement cX1_isMovement 1 (some .boolean), Cond.methodLink RX1 79 yX1_isLocked, Cond.instanceMethod yX1_isLocked, Cond.selects RX1 yX1_isLocked yX1_isLocked, Cond.code yX1_isLocked cX1_isLocked 1 (some .boolean), Cond.methodLink RX1 91 yX1_place, Cond.static yX1_place, Cond.code yX1_place cX1_place 2 (some .int), Cond.methodLink RX1 52 yX1_change, Cond.instanceMethod yX1_change, Cond.selects RX1 yX1_change yX1_change, Cond.code yX1_change cX1_change 4 (some .int), Cond.methodLink RX1 103 yX1_save, Cond.instanceMethod yX1_save, Cond.selects RX1 yX1_save yX1_save, Cond.code yX1_save cX1_save 1 none]
def wsX1_service_r2 : List Cond := [Cond.fieldLink RX1 16 "VaultMovements" "savedStates" "I", Cond.fieldLink RX1 13 "VaultMovements" "saved" "[I", Cond.methodLink RX1 163 arraycopyName, Cond.native arraycopyName, Cond.static arraycopyName, Cond.initialized "java/lang/System"]
def wsX1_service : List Cond := .code yX1_service cX1_service 3 (some .int) :: ((wsX1_service_r1 ++ wsX1_service_r2) ++ wsX10 ++ (vx_atS RX1 44 "java/lang/IndexOutOfBoundsException" ["java/lang/RuntimeException", "java/lang/Exception"]).filter goodWord ++ (vx_atS RX1 90 "java/lang/IllegalStateException" ["java/lang/RuntimeException", "java/lang/Exception"]).filter goodWord)
def wsX1_someMovementRuns : List Cond := .code yX1_someMovementRuns cX1_someMovementRuns 2 (some .boolean) :: ([.fieldLink RX1 9 "VaultMovements" "now" "[I", .methodLink RX1 83 yX1_goes, .instanceMethod yX1_goes, .selects RX1 yX1_goes yX1_goes, .initialized RX1, .code yX1_goes cX1_goes 2 (some .boolean), .methodLink RX1 91 yX1_place, .static yX1_place, .code yX1_place cX1_place 2 (some .int)] ++ wsX10)
def wsX1_today : List Cond := .code yX1_today cX1_today 1 (some .int) :: ([.fieldLink RX1 9 "VaultMovements" "now" "[I"] ++ wsX10)
def wsX1_timeOfDay : List Cond := .code yX1_timeOfDay cX1_timeOfDay 1 (some .int) :: ([.fieldLink RX1 9 "VaultMovements" "now" "[I"] ++ wsX10)
def wsX1_hoursToOpening : List Cond := .code yX1_hoursToOpening cX1_hoursToOpening 4 (some .int) :: ([.fieldLink RX1 9 "VaultMovements" "now" "[I", .methodLink RX1 214 yX1_today, .instanceMethod yX1_today, .selects RX1 yX1_today yX1_today, .initialized RX1, .code yX1_today cX1_today 1 (some .int), .methodLink RX1 217 yX1_timeOfDay, .instanceMethod yX1_timeOfDay, .selects RX1 yX1_timeOfDay yX1_timeOfDay, .code yX1_timeOfDay cX1_timeOfDay 1 (some .int)] ++ wsX10)
def wsX1_lock_r1 : List Cond := [Cond.classLink RX1 86 "java/lang/IllegalStateException", Cond.initialized "java/lang/IllegalStateException", Cond.fieldLink RX1 9 "VaultMovements" "now" "[I", Cond.methodLink RX1 79 yX1_isLocked, Cond.instanceMethod yX1_isLocked, Cond.selects RX1 yX1_isLocked yX1_isLocked, Cond.initialized RX1, Cond.code yX1_isLocked cX1_isLocked 1 (some .boolean), Cond.methodLink RX1 98 yX1_someMovementRuns, Cond.instanceMethod yX1_someMovementRuns, Cond.selects RX1 yX1_someMovementRuns yX1_someMovementRuns, Cond.code yX1_someMovementRuns cX1_someMovementRuns 2 (some .boolean), Cond.methodLink RX1 83 yX1_goes, Cond.instanceMethod yX1_goes, Cond.selects RX1 yX1_goes yX1_goes, Cond.code yX1_goes cX1_goes 2 (some .boolean), Cond.methodLink RX1 91 yX1_place, Cond.static yX1_place, Cond.code yX1_place cX1_place 2 (some .int), Cond.methodLink RX1 103 yX1_save, Cond.instanceMethod yX1_save, Cond.selects RX1 yX1_save yX1_save, Cond.code yX1_save cX1_save 1 none, Cond.fieldLink RX1 16 "VaultMovements" "savedStates" "I"]
def wsX1_lock_r2 : List Cond := [Cond.fieldLink RX1 13 "VaultMovements" "saved" "[I", Cond.methodLink RX1 163 arraycopyName, Cond.native arraycopyName, Cond.static arraycopyName, Cond.initialized "java/lang/System", Cond.methodLink RX1 106 yX1_hoursToOpening, Cond.instanceMethod yX1_hoursToOpening, Cond.selects RX1 yX1_hoursToOpening yX1_hoursToOpening, Cond.code yX1_hoursToOpening cX1_hoursToOpening 4 (some .int), Cond.methodLink RX1 214 yX1_today, Cond.instanceMethod yX1_today, Cond.selects RX1 yX1_today yX1_today, Cond.code yX1_today cX1_today 1 (some .int), Cond.methodLink RX1 217 yX1_timeOfDay, Cond.instanceMethod yX1_timeOfDay, Cond.selects RX1 yX1_timeOfDay yX1_timeOfDay, Cond.code yX1_timeOfDay cX1_timeOfDay 1 (some .int)]
def wsX1_lock : List Cond := .code yX1_lock cX1_lock 2 (some .int) :: ((wsX1_lock_r1 ++ wsX1_lock_r2) ++ wsX10 ++ (vx_atS RX1 90 "java/lang/IllegalStateException" ["java/lang/RuntimeException", "java/lang/Exception"]).filter goodWord)
def wsX1_hoursToRunDown : List Cond := .code yX1_hoursToRunDown cX1_hoursToRunDown 6 (some .int) :: ([.fieldLink RX1 9 "VaultMovements" "now" "[I", .methodLink RX1 91 yX1_place, .static yX1_place, .initialized RX1, .code yX1_place cX1_place 2 (some .int)] ++ wsX10)
def wsX1_hoursToWait : List Cond := .code yX1_hoursToWait cX1_hoursToWait 1 (some .int) :: ([.fieldLink RX1 9 "VaultMovements" "now" "[I", .methodLink RX1 179 Lib.Math.max.name, .static Lib.Math.max.name, .initialized "java/lang/Math", .code Lib.Math.max.name Lib.Math.max.code 2 (some .int)] ++ wsX10)
def wsX1_hoursToOpen_r1 : List Cond := [Cond.methodLink RX1 179 Lib.Math.max.name, Cond.static Lib.Math.max.name, Cond.initialized "java/lang/Math", Cond.code Lib.Math.max.name Lib.Math.max.code 2 (some .int), Cond.methodLink RX1 79 yX1_isLocked, Cond.instanceMethod yX1_isLocked, Cond.selects RX1 yX1_isLocked yX1_isLocked, Cond.initialized RX1, Cond.code yX1_isLocked cX1_isLocked 1 (some .boolean), Cond.fieldLink RX1 9 "VaultMovements" "now" "[I", Cond.methodLink RX1 83 yX1_goes, Cond.instanceMethod yX1_goes, Cond.selects RX1 yX1_goes yX1_goes, Cond.code yX1_goes cX1_goes 2 (some .boolean), Cond.methodLink RX1 91 yX1_place, Cond.static yX1_place, Cond.code yX1_place cX1_place 2 (some .int), Cond.methodLink RX1 220 yX1_hoursToRunDown, Cond.instanceMethod yX1_hoursToRunDown, Cond.selects RX1 yX1_hoursToRunDown yX1_hoursToRunDown, Cond.code yX1_hoursToRunDown cX1_hoursToRunDown 6 (some .int), Cond.methodLink RX1 231 yX1_hoursToWait, Cond.instanceMethod yX1_hoursToWait, Cond.selects RX1 yX1_hoursToWait yX1_hoursToWait]
def wsX1_hoursToOpen_r2 : List Cond := [Cond.code yX1_hoursToWait cX1_hoursToWait 1 (some .int)]
def wsX1_hoursToOpen : List Cond := .code yX1_hoursToOpen cX1_hoursToOpen 5 (some .int) :: ((wsX1_hoursToOpen_r1 ++ wsX1_hoursToOpen_r2) ++ wsX10)
def wsX1_countEarlyTry : List Cond := .code yX1_countEarlyTry cX1_countEarlyTry 1 none :: ([.fieldLink RX1 9 "VaultMovements" "now" "[I"] ++ wsX10)
def wsX1_latenessAfter : List Cond := .code yX1_latenessAfter cX1_latenessAfter 2 (some .int) :: ([.fieldLink RX1 9 "VaultMovements" "now" "[I"] ++ wsX10)
def wsX1_countOpening : List Cond := .code yX1_countOpening cX1_countOpening 2 none :: ([.fieldLink RX1 9 "VaultMovements" "now" "[I"] ++ wsX10)
def wsX1_leaveOpen : List Cond := .code yX1_leaveOpen cX1_leaveOpen 1 none :: ([.fieldLink RX1 9 "VaultMovements" "now" "[I"] ++ wsX10)
def wsX1_open_r1 : List Cond := [Cond.classLink RX1 86 "java/lang/IllegalStateException", Cond.initialized "java/lang/IllegalStateException", Cond.methodLink RX1 79 yX1_isLocked, Cond.instanceMethod yX1_isLocked, Cond.selects RX1 yX1_isLocked yX1_isLocked, Cond.initialized RX1, Cond.code yX1_isLocked cX1_isLocked 1 (some .boolean), Cond.fieldLink RX1 9 "VaultMovements" "now" "[I", Cond.methodLink RX1 103 yX1_save, Cond.instanceMethod yX1_save, Cond.selects RX1 yX1_save yX1_save, Cond.code yX1_save cX1_save 1 none, Cond.fieldLink RX1 16 "VaultMovements" "savedStates" "I", Cond.fieldLink RX1 13 "VaultMovements" "saved" "[I", Cond.methodLink RX1 163 arraycopyName, Cond.native arraycopyName, Cond.static arraycopyName, Cond.initialized "java/lang/System", Cond.methodLink RX1 112 yX1_hoursToOpen, Cond.instanceMethod yX1_hoursToOpen, Cond.selects RX1 yX1_hoursToOpen yX1_hoursToOpen, Cond.code yX1_hoursToOpen cX1_hoursToOpen 5 (some .int), Cond.methodLink RX1 179 Lib.Math.max.name, Cond.static Lib.Math.max.name]
def wsX1_open_r2 : List Cond := [Cond.initialized "java/lang/Math", Cond.code Lib.Math.max.name Lib.Math.max.code 2 (some .int), Cond.methodLink RX1 83 yX1_goes, Cond.instanceMethod yX1_goes, Cond.selects RX1 yX1_goes yX1_goes, Cond.code yX1_goes cX1_goes 2 (some .boolean), Cond.methodLink RX1 91 yX1_place, Cond.static yX1_place, Cond.code yX1_place cX1_place 2 (some .int), Cond.methodLink RX1 220 yX1_hoursToRunDown, Cond.instanceMethod yX1_hoursToRunDown, Cond.selects RX1 yX1_hoursToRunDown yX1_hoursToRunDown, Cond.code yX1_hoursToRunDown cX1_hoursToRunDown 6 (some .int), Cond.methodLink RX1 231 yX1_hoursToWait, Cond.instanceMethod yX1_hoursToWait, Cond.selects RX1 yX1_hoursToWait yX1_hoursToWait, Cond.code yX1_hoursToWait cX1_hoursToWait 1 (some .int), Cond.methodLink RX1 116 yX1_countEarlyTry, Cond.instanceMethod yX1_countEarlyTry, Cond.selects RX1 yX1_countEarlyTry yX1_countEarlyTry, Cond.code yX1_countEarlyTry cX1_countEarlyTry 1 none, Cond.methodLink RX1 119 yX1_latenessAfter, Cond.instanceMethod yX1_latenessAfter, Cond.selects RX1 yX1_latenessAfter yX1_latenessAfter]
def wsX1_open_r3 : List Cond := [Cond.code yX1_latenessAfter cX1_latenessAfter 2 (some .int), Cond.methodLink RX1 122 yX1_countOpening, Cond.instanceMethod yX1_countOpening, Cond.selects RX1 yX1_countOpening yX1_countOpening, Cond.code yX1_countOpening cX1_countOpening 2 none, Cond.methodLink RX1 126 yX1_leaveOpen, Cond.instanceMethod yX1_leaveOpen, Cond.selects RX1 yX1_leaveOpen yX1_leaveOpen, Cond.code yX1_leaveOpen cX1_leaveOpen 1 none]
def wsX1_open : List Cond := .code yX1_open cX1_open 1 (some .int) :: ((wsX1_open_r1 ++ (wsX1_open_r2 ++ wsX1_open_r3)) ++ wsX10 ++ (vx_atS RX1 90 "java/lang/IllegalStateException" ["java/lang/RuntimeException", "java/lang/Exception"]).filter goodWord)
def wsX1_drill_r1 : List Cond := [Cond.classLink RX1 86 "java/lang/IllegalStateException", Cond.initialized "java/lang/IllegalStateException", Cond.fieldLink RX1 9 "VaultMovements" "now" "[I", Cond.methodLink RX1 79 yX1_isLocked, Cond.instanceMethod yX1_isLocked, Cond.selects RX1 yX1_isLocked yX1_isLocked, Cond.initialized RX1, Cond.code yX1_isLocked cX1_isLocked 1 (some .boolean), Cond.methodLink RX1 103 yX1_save, Cond.instanceMethod yX1_save, Cond.selects RX1 yX1_save yX1_save, Cond.code yX1_save cX1_save 1 none, Cond.fieldLink RX1 16 "VaultMovements" "savedStates" "I", Cond.fieldLink RX1 13 "VaultMovements" "saved" "[I", Cond.methodLink RX1 163 arraycopyName, Cond.native arraycopyName, Cond.static arraycopyName, Cond.initialized "java/lang/System", Cond.methodLink RX1 91 yX1_place, Cond.static yX1_place, Cond.code yX1_place cX1_place 2 (some .int), Cond.methodLink RX1 126 yX1_leaveOpen, Cond.instanceMethod yX1_leaveOpen, Cond.selects RX1 yX1_leaveOpen yX1_leaveOpen]
def wsX1_drill_r2 : List Cond := [Cond.code yX1_leaveOpen cX1_leaveOpen 1 none]
def wsX1_drill : List Cond := .code yX1_drill cX1_drill 2 (some .int) :: ((wsX1_drill_r1 ++ wsX1_drill_r2) ++ wsX10 ++ (vx_atS RX1 90 "java/lang/IllegalStateException" ["java/lang/RuntimeException", "java/lang/Exception"]).filter goodWord)
def wsX1_isLostHour : List Cond := .code yX1_isLostHour cX1_isLostHour 2 (some .boolean) :: ([])
def wsX1_runHour : List Cond := .code yX1_runHour cX1_runHour 2 none :: ([.fieldLink RX1 9 "VaultMovements" "now" "[I", .methodLink RX1 83 yX1_goes, .instanceMethod yX1_goes, .selects RX1 yX1_goes yX1_goes, .initialized RX1, .code yX1_goes cX1_goes 2 (some .boolean), .methodLink RX1 91 yX1_place, .static yX1_place, .code yX1_place cX1_place 2 (some .int), .methodLink RX1 224 yX1_isLostHour, .static yX1_isLostHour, .code yX1_isLostHour cX1_isLostHour 2 (some .boolean)] ++ wsX10)
def wsX1_passHour : List Cond := .code yX1_passHour cX1_passHour 2 none :: ([.fieldLink RX1 9 "VaultMovements" "now" "[I", .methodLink RX1 79 yX1_isLocked, .instanceMethod yX1_isLocked, .selects RX1 yX1_isLocked yX1_isLocked, .initialized RX1, .code yX1_isLocked cX1_isLocked 1 (some .boolean), .methodLink RX1 228 yX1_runHour, .instanceMethod yX1_runHour, .selects RX1 yX1_runHour yX1_runHour, .code yX1_runHour cX1_runHour 2 none, .methodLink RX1 83 yX1_goes, .instanceMethod yX1_goes, .selects RX1 yX1_goes yX1_goes, .code yX1_goes cX1_goes 2 (some .boolean), .methodLink RX1 91 yX1_place, .static yX1_place, .code yX1_place cX1_place 2 (some .int), .methodLink RX1 224 yX1_isLostHour, .static yX1_isLostHour, .code yX1_isLostHour cX1_isLostHour 2 (some .boolean)] ++ wsX10)
def wsX1_movementsRunDown : List Cond := .code yX1_movementsRunDown cX1_movementsRunDown 3 (some .int) :: ([.fieldLink RX1 9 "VaultMovements" "now" "[I", .methodLink RX1 91 yX1_place, .static yX1_place, .initialized RX1, .code yX1_place cX1_place 2 (some .int)] ++ wsX10)
def wsX1_pass_r1 : List Cond := [Cond.classLink RX1 47 "java/lang/IllegalArgumentException", Cond.initialized "java/lang/IllegalArgumentException", Cond.classLink RX1 86 "java/lang/IllegalStateException", Cond.initialized "java/lang/IllegalStateException", Cond.fieldLink RX1 9 "VaultMovements" "now" "[I", Cond.constant RX1 129 (99999), Cond.methodLink RX1 103 yX1_save, Cond.instanceMethod yX1_save, Cond.selects RX1 yX1_save yX1_save, Cond.initialized RX1, Cond.code yX1_save cX1_save 1 none, Cond.fieldLink RX1 16 "VaultMovements" "savedStates" "I", Cond.fieldLink RX1 13 "VaultMovements" "saved" "[I", Cond.methodLink RX1 163 arraycopyName, Cond.native arraycopyName, Cond.static arraycopyName, Cond.initialized "java/lang/System", Cond.methodLink RX1 132 yX1_passHour, Cond.instanceMethod yX1_passHour, Cond.selects RX1 yX1_passHour yX1_passHour, Cond.code yX1_passHour cX1_passHour 2 none, Cond.methodLink RX1 79 yX1_isLocked, Cond.instanceMethod yX1_isLocked, Cond.selects RX1 yX1_isLocked yX1_isLocked]
def wsX1_pass_r2 : List Cond := [Cond.code yX1_isLocked cX1_isLocked 1 (some .boolean), Cond.methodLink RX1 228 yX1_runHour, Cond.instanceMethod yX1_runHour, Cond.selects RX1 yX1_runHour yX1_runHour, Cond.code yX1_runHour cX1_runHour 2 none, Cond.methodLink RX1 83 yX1_goes, Cond.instanceMethod yX1_goes, Cond.selects RX1 yX1_goes yX1_goes, Cond.code yX1_goes cX1_goes 2 (some .boolean), Cond.methodLink RX1 91 yX1_place, Cond.static yX1_place, Cond.code yX1_place cX1_place 2 (some .int), Cond.methodLink RX1 224 yX1_isLostHour, Cond.static yX1_isLostHour, Cond.code yX1_isLostHour cX1_isLostHour 2 (some .boolean), Cond.methodLink RX1 135 yX1_movementsRunDown, Cond.instanceMethod yX1_movementsRunDown, Cond.selects RX1 yX1_movementsRunDown yX1_movementsRunDown, Cond.code yX1_movementsRunDown cX1_movementsRunDown 3 (some .int)]
def wsX1_pass : List Cond := .code yX1_pass cX1_pass 3 (some .int) :: ((wsX1_pass_r1 ++ wsX1_pass_r2) ++ wsX10 ++ (vx_atS RX1 51 "java/lang/IllegalArgumentException" ["java/lang/RuntimeException", "java/lang/Exception"]).filter goodWord ++ (vx_atS RX1 90 "java/lang/IllegalStateException" ["java/lang/RuntimeException", "java/lang/Exception"]).filter goodWord)
def wsX1_append : List Cond := .code yX1_append cX1_append 2 (some .int) :: ([.classLink RX1 47 "java/lang/IllegalArgumentException", .initialized "java/lang/IllegalArgumentException", .classLink RX1 86 "java/lang/IllegalStateException", .initialized "java/lang/IllegalStateException", .fieldLink RX1 23 "VaultMovements" "length" "I", .fieldLink RX1 20 "VaultMovements" "buffer" "[I"] ++ wsX10 ++ (vx_atS RX1 51 "java/lang/IllegalArgumentException" ["java/lang/RuntimeException", "java/lang/Exception"]).filter goodWord ++ (vx_atS RX1 90 "java/lang/IllegalStateException" ["java/lang/RuntimeException", "java/lang/Exception"]).filter goodWord)
def wsX1_clearBuffer : List Cond := .code yX1_clearBuffer cX1_clearBuffer 2 (some .int) :: ([.fieldLink RX1 23 "VaultMovements" "length" "I"] ++ wsX10)
def wsX1_readBuffer_r1 : List Cond := [Cond.fieldLink RX1 29 "VaultMovements" "windings" "LVaultMovements$Windings;", Cond.fieldLink RX1 23 "VaultMovements" "length" "I", Cond.fieldLink RX1 20 "VaultMovements" "buffer" "[I", Cond.methodLink RX1 234 yX0_restart, Cond.instanceMethod yX0_restart, Cond.selects RX0 yX0_restart yX0_restart, Cond.initialized RX0, Cond.code yX0_restart cX0_restart 2 none, Cond.fieldLink RX0 21 "VaultMovements$Windings" "part" "I", Cond.fieldLink RX0 9 "VaultMovements$Windings" "kinds" "[I", Cond.fieldLink RX0 15 "VaultMovements$Windings" "signs" "[I", Cond.fieldLink RX0 18 "VaultMovements$Windings" "numbers" "[I", Cond.methodLink RX1 237 yX0_take, Cond.instanceMethod yX0_take, Cond.selects RX0 yX0_take yX0_take, Cond.code yX0_take cX0_take 2 (some .boolean), Cond.methodLink RX0 29 yX0_takeComma, Cond.instanceMethod yX0_takeComma, Cond.selects RX0 yX0_takeComma yX0_takeComma, Cond.code yX0_takeComma cX0_takeComma 1 (some .boolean), Cond.methodLink RX0 25 yX0_isPartComplete, Cond.instanceMethod yX0_isPartComplete, Cond.selects RX0 yX0_isPartComplete yX0_isPartComplete, Cond.code yX0_isPartComplete cX0_isPartComplete 1 (some .boolean)]
def wsX1_readBuffer_r2 : List Cond := [Cond.methodLink RX0 32 yX0_takeFirst, Cond.instanceMethod yX0_takeFirst, Cond.selects RX0 yX0_takeFirst yX0_takeFirst, Cond.code yX0_takeFirst cX0_takeFirst 2 (some .boolean), Cond.methodLink RX0 36 yX0_takeNextDigit, Cond.instanceMethod yX0_takeNextDigit, Cond.selects RX0 yX0_takeNextDigit yX0_takeNextDigit, Cond.code yX0_takeNextDigit cX0_takeNextDigit 3 (some .boolean), Cond.methodLink RX0 39 yX0_takeMoreOrLess, Cond.instanceMethod yX0_takeMoreOrLess, Cond.selects RX0 yX0_takeMoreOrLess yX0_takeMoreOrLess, Cond.code yX0_takeMoreOrLess cX0_takeMoreOrLess 2 (some .boolean)]
def wsX1_readBuffer : List Cond := .code yX1_readBuffer cX1_readBuffer 2 (some .int) :: ((wsX1_readBuffer_r1 ++ wsX1_readBuffer_r2) ++ wsX10 ++ wsX00)
def wsX1_firstError_r1 : List Cond := [Cond.methodLink RX1 142 yX1_readBuffer, Cond.instanceMethod yX1_readBuffer, Cond.selects RX1 yX1_readBuffer yX1_readBuffer, Cond.initialized RX1, Cond.code yX1_readBuffer cX1_readBuffer 2 (some .int), Cond.fieldLink RX1 29 "VaultMovements" "windings" "LVaultMovements$Windings;", Cond.fieldLink RX1 23 "VaultMovements" "length" "I", Cond.fieldLink RX1 20 "VaultMovements" "buffer" "[I", Cond.methodLink RX1 234 yX0_restart, Cond.instanceMethod yX0_restart, Cond.selects RX0 yX0_restart yX0_restart, Cond.initialized RX0, Cond.code yX0_restart cX0_restart 2 none, Cond.fieldLink RX0 21 "VaultMovements$Windings" "part" "I", Cond.fieldLink RX0 9 "VaultMovements$Windings" "kinds" "[I", Cond.fieldLink RX0 15 "VaultMovements$Windings" "signs" "[I", Cond.fieldLink RX0 18 "VaultMovements$Windings" "numbers" "[I", Cond.methodLink RX1 237 yX0_take, Cond.instanceMethod yX0_take, Cond.selects RX0 yX0_take yX0_take, Cond.code yX0_take cX0_take 2 (some .boolean), Cond.methodLink RX0 29 yX0_takeComma, Cond.instanceMethod yX0_takeComma, Cond.selects RX0 yX0_takeComma yX0_takeComma]
def wsX1_firstError_r2 : List Cond := [Cond.code yX0_takeComma cX0_takeComma 1 (some .boolean), Cond.methodLink RX0 25 yX0_isPartComplete, Cond.instanceMethod yX0_isPartComplete, Cond.selects RX0 yX0_isPartComplete yX0_isPartComplete, Cond.code yX0_isPartComplete cX0_isPartComplete 1 (some .boolean), Cond.methodLink RX0 32 yX0_takeFirst, Cond.instanceMethod yX0_takeFirst, Cond.selects RX0 yX0_takeFirst yX0_takeFirst, Cond.code yX0_takeFirst cX0_takeFirst 2 (some .boolean), Cond.methodLink RX0 36 yX0_takeNextDigit, Cond.instanceMethod yX0_takeNextDigit, Cond.selects RX0 yX0_takeNextDigit yX0_takeNextDigit, Cond.code yX0_takeNextDigit cX0_takeNextDigit 3 (some .boolean), Cond.methodLink RX0 39 yX0_takeMoreOrLess, Cond.instanceMethod yX0_takeMoreOrLess, Cond.selects RX0 yX0_takeMoreOrLess yX0_takeMoreOrLess, Cond.code yX0_takeMoreOrLess cX0_takeMoreOrLess 2 (some .boolean)]
def wsX1_firstError : List Cond := .code yX1_firstError cX1_firstError 1 (some .int) :: ((wsX1_firstError_r1 ++ wsX1_firstError_r2) ++ wsX10 ++ wsX00)
def wsX1_canWindAll_r1 : List Cond := [Cond.fieldLink RX1 29 "VaultMovements" "windings" "LVaultMovements$Windings;", Cond.methodLink RX1 155 yX0_winds, Cond.instanceMethod yX0_winds, Cond.selects RX0 yX0_winds yX0_winds, Cond.initialized RX0, Cond.code yX0_winds cX0_winds 2 (some .boolean), Cond.fieldLink RX0 9 "VaultMovements$Windings" "kinds" "[I", Cond.methodLink RX1 83 yX1_goes, Cond.instanceMethod yX1_goes, Cond.selects RX1 yX1_goes yX1_goes, Cond.initialized RX1, Cond.code yX1_goes cX1_goes 2 (some .boolean), Cond.fieldLink RX1 9 "VaultMovements" "now" "[I", Cond.methodLink RX1 91 yX1_place, Cond.static yX1_place, Cond.code yX1_place cX1_place 2 (some .int), Cond.methodLink RX1 158 yX0_hours, Cond.instanceMethod yX0_hours, Cond.selects RX0 yX0_hours yX0_hours, Cond.code yX0_hours cX0_hours 3 (some .int), Cond.fieldLink RX0 18 "VaultMovements$Windings" "numbers" "[I", Cond.fieldLink RX0 15 "VaultMovements$Windings" "signs" "[I", Cond.methodLink RX1 74 yX1_areWindingHours, Cond.static yX1_areWindingHours]
def wsX1_canWindAll_r2 : List Cond := [Cond.code yX1_areWindingHours cX1_areWindingHours 1 (some .boolean)]
def wsX1_canWindAll : List Cond := .code yX1_canWindAll cX1_canWindAll 3 (some .boolean) :: ((wsX1_canWindAll_r1 ++ wsX1_canWindAll_r2) ++ wsX10 ++ wsX00)
def wsX1_windAll_r1 : List Cond := [Cond.classLink RX1 47 "java/lang/IllegalArgumentException", Cond.initialized "java/lang/IllegalArgumentException", Cond.classLink RX1 86 "java/lang/IllegalStateException", Cond.initialized "java/lang/IllegalStateException", Cond.fieldLink RX1 23 "VaultMovements" "length" "I", Cond.fieldLink RX1 29 "VaultMovements" "windings" "LVaultMovements$Windings;", Cond.fieldLink RX1 9 "VaultMovements" "now" "[I", Cond.methodLink RX1 142 yX1_readBuffer, Cond.instanceMethod yX1_readBuffer, Cond.selects RX1 yX1_readBuffer yX1_readBuffer, Cond.initialized RX1, Cond.code yX1_readBuffer cX1_readBuffer 2 (some .int), Cond.fieldLink RX1 20 "VaultMovements" "buffer" "[I", Cond.methodLink RX1 234 yX0_restart, Cond.instanceMethod yX0_restart, Cond.selects RX0 yX0_restart yX0_restart, Cond.initialized RX0, Cond.code yX0_restart cX0_restart 2 none, Cond.fieldLink RX0 21 "VaultMovements$Windings" "part" "I", Cond.fieldLink RX0 9 "VaultMovements$Windings" "kinds" "[I", Cond.fieldLink RX0 15 "VaultMovements$Windings" "signs" "[I", Cond.fieldLink RX0 18 "VaultMovements$Windings" "numbers" "[I", Cond.methodLink RX1 237 yX0_take, Cond.instanceMethod yX0_take]
def wsX1_windAll_r2 : List Cond := [Cond.selects RX0 yX0_take yX0_take, Cond.code yX0_take cX0_take 2 (some .boolean), Cond.methodLink RX0 29 yX0_takeComma, Cond.instanceMethod yX0_takeComma, Cond.selects RX0 yX0_takeComma yX0_takeComma, Cond.code yX0_takeComma cX0_takeComma 1 (some .boolean), Cond.methodLink RX0 25 yX0_isPartComplete, Cond.instanceMethod yX0_isPartComplete, Cond.selects RX0 yX0_isPartComplete yX0_isPartComplete, Cond.code yX0_isPartComplete cX0_isPartComplete 1 (some .boolean), Cond.methodLink RX0 32 yX0_takeFirst, Cond.instanceMethod yX0_takeFirst, Cond.selects RX0 yX0_takeFirst yX0_takeFirst, Cond.code yX0_takeFirst cX0_takeFirst 2 (some .boolean), Cond.methodLink RX0 36 yX0_takeNextDigit, Cond.instanceMethod yX0_takeNextDigit, Cond.selects RX0 yX0_takeNextDigit yX0_takeNextDigit, Cond.code yX0_takeNextDigit cX0_takeNextDigit 3 (some .boolean), Cond.methodLink RX0 39 yX0_takeMoreOrLess, Cond.instanceMethod yX0_takeMoreOrLess, Cond.selects RX0 yX0_takeMoreOrLess yX0_takeMoreOrLess, Cond.code yX0_takeMoreOrLess cX0_takeMoreOrLess 2 (some .boolean), Cond.methodLink RX1 145 yX0_areComplete, Cond.instanceMethod yX0_areComplete]
def wsX1_windAll_r3 : List Cond := [Cond.selects RX0 yX0_areComplete yX0_areComplete, Cond.code yX0_areComplete cX0_areComplete 1 (some .boolean), Cond.methodLink RX1 106 yX1_hoursToOpening, Cond.instanceMethod yX1_hoursToOpening, Cond.selects RX1 yX1_hoursToOpening yX1_hoursToOpening, Cond.code yX1_hoursToOpening cX1_hoursToOpening 4 (some .int), Cond.methodLink RX1 214 yX1_today, Cond.instanceMethod yX1_today, Cond.selects RX1 yX1_today yX1_today, Cond.code yX1_today cX1_today 1 (some .int), Cond.methodLink RX1 217 yX1_timeOfDay, Cond.instanceMethod yX1_timeOfDay, Cond.selects RX1 yX1_timeOfDay yX1_timeOfDay, Cond.code yX1_timeOfDay cX1_timeOfDay 1 (some .int), Cond.methodLink RX1 79 yX1_isLocked, Cond.instanceMethod yX1_isLocked, Cond.selects RX1 yX1_isLocked yX1_isLocked, Cond.code yX1_isLocked cX1_isLocked 1 (some .boolean), Cond.methodLink RX1 150 yX1_canWindAll, Cond.instanceMethod yX1_canWindAll, Cond.selects RX1 yX1_canWindAll yX1_canWindAll, Cond.code yX1_canWindAll cX1_canWindAll 3 (some .boolean), Cond.methodLink RX1 155 yX0_winds, Cond.instanceMethod yX0_winds]
def wsX1_windAll_r4 : List Cond := [Cond.selects RX0 yX0_winds yX0_winds, Cond.code yX0_winds cX0_winds 2 (some .boolean), Cond.methodLink RX1 83 yX1_goes, Cond.instanceMethod yX1_goes, Cond.selects RX1 yX1_goes yX1_goes, Cond.code yX1_goes cX1_goes 2 (some .boolean), Cond.methodLink RX1 91 yX1_place, Cond.static yX1_place, Cond.code yX1_place cX1_place 2 (some .int), Cond.methodLink RX1 158 yX0_hours, Cond.instanceMethod yX0_hours, Cond.selects RX0 yX0_hours yX0_hours, Cond.code yX0_hours cX0_hours 3 (some .int), Cond.methodLink RX1 74 yX1_areWindingHours, Cond.static yX1_areWindingHours, Cond.code yX1_areWindingHours cX1_areWindingHours 1 (some .boolean), Cond.methodLink RX1 103 yX1_save, Cond.instanceMethod yX1_save, Cond.selects RX1 yX1_save yX1_save, Cond.code yX1_save cX1_save 1 none, Cond.fieldLink RX1 16 "VaultMovements" "savedStates" "I", Cond.fieldLink RX1 13 "VaultMovements" "saved" "[I", Cond.methodLink RX1 163 arraycopyName, Cond.native arraycopyName]
def wsX1_windAll_r5 : List Cond := [Cond.static arraycopyName, Cond.initialized "java/lang/System"]
def wsX1_windAll : List Cond := .code yX1_windAll cX1_windAll 4 (some .int) :: ((wsX1_windAll_r1 ++ (wsX1_windAll_r2 ++ (wsX1_windAll_r3 ++ (wsX1_windAll_r4 ++ wsX1_windAll_r5)))) ++ wsX10 ++ wsX00 ++ (vx_atS RX1 51 "java/lang/IllegalArgumentException" ["java/lang/RuntimeException", "java/lang/Exception"]).filter goodWord ++ (vx_atS RX1 90 "java/lang/IllegalStateException" ["java/lang/RuntimeException", "java/lang/Exception"]).filter goodWord)
def wsX1_undo : List Cond := .code yX1_undo cX1_undo 1 (some .int) :: ([.classLink RX1 86 "java/lang/IllegalStateException", .initialized "java/lang/IllegalStateException", .fieldLink RX1 16 "VaultMovements" "savedStates" "I", .fieldLink RX1 13 "VaultMovements" "saved" "[I", .fieldLink RX1 9 "VaultMovements" "now" "[I", .methodLink RX1 163 arraycopyName, .native arraycopyName, .static arraycopyName, .initialized "java/lang/System"] ++ wsX10 ++ (vx_atS RX1 90 "java/lang/IllegalStateException" ["java/lang/RuntimeException", "java/lang/Exception"]).filter goodWord)
def wsX1_property : List Cond := .code yX1_property cX1_property 3 (some .int) :: ([.fieldLink RX1 9 "VaultMovements" "now" "[I", .methodLink RX1 91 yX1_place, .static yX1_place, .initialized RX1, .code yX1_place cX1_place 2 (some .int), .methodLink RX1 83 yX1_goes, .instanceMethod yX1_goes, .selects RX1 yX1_goes yX1_goes, .code yX1_goes cX1_goes 2 (some .boolean), .methodLink RX1 220 yX1_hoursToRunDown, .instanceMethod yX1_hoursToRunDown, .selects RX1 yX1_hoursToRunDown yX1_hoursToRunDown, .code yX1_hoursToRunDown cX1_hoursToRunDown 6 (some .int)] ++ wsX10)
def wsX1_movement : List Cond := .code yX1_movement cX1_movement 3 (some .int) :: ([.classLink RX1 40 "java/lang/IndexOutOfBoundsException", .initialized "java/lang/IndexOutOfBoundsException", .classLink RX1 47 "java/lang/IllegalArgumentException", .initialized "java/lang/IllegalArgumentException", .methodLink RX1 69 yX1_isMovement, .static yX1_isMovement, .initialized RX1, .code yX1_isMovement cX1_isMovement 1 (some .boolean), .methodLink RX1 171 yX1_property, .instanceMethod yX1_property, .selects RX1 yX1_property yX1_property, .code yX1_property cX1_property 3 (some .int), .fieldLink RX1 9 "VaultMovements" "now" "[I", .methodLink RX1 91 yX1_place, .static yX1_place, .code yX1_place cX1_place 2 (some .int), .methodLink RX1 83 yX1_goes, .instanceMethod yX1_goes, .selects RX1 yX1_goes yX1_goes, .code yX1_goes cX1_goes 2 (some .boolean), .methodLink RX1 220 yX1_hoursToRunDown, .instanceMethod yX1_hoursToRunDown, .selects RX1 yX1_hoursToRunDown yX1_hoursToRunDown, .code yX1_hoursToRunDown cX1_hoursToRunDown 6 (some .int)] ++ wsX10 ++ (vx_atS RX1 44 "java/lang/IndexOutOfBoundsException" ["java/lang/RuntimeException", "java/lang/Exception"]).filter goodWord ++ (vx_atS RX1 51 "java/lang/IllegalArgumentException" ["java/lang/RuntimeException", "java/lang/Exception"]).filter goodWord)
def wsX1_day : List Cond := .code yX1_day cX1_day 2 (some .int) :: ([.classLink RX1 40 "java/lang/IndexOutOfBoundsException", .initialized "java/lang/IndexOutOfBoundsException", .fieldLink RX1 9 "VaultMovements" "now" "[I", .methodLink RX1 36 yX1_isDay, .static yX1_isDay, .initialized RX1, .code yX1_isDay cX1_isDay 1 (some .boolean)] ++ wsX10 ++ (vx_atS RX1 44 "java/lang/IndexOutOfBoundsException" ["java/lang/RuntimeException", "java/lang/Exception"]).filter goodWord)
def wsX1_number : List Cond := .code yX1_number cX1_number 2 (some .int) :: ([.fieldLink RX1 9 "VaultMovements" "now" "[I", .fieldLink RX1 16 "VaultMovements" "savedStates" "I", .methodLink RX1 214 yX1_today, .instanceMethod yX1_today, .selects RX1 yX1_today yX1_today, .initialized RX1, .code yX1_today cX1_today 1 (some .int), .methodLink RX1 217 yX1_timeOfDay, .instanceMethod yX1_timeOfDay, .selects RX1 yX1_timeOfDay yX1_timeOfDay, .code yX1_timeOfDay cX1_timeOfDay 1 (some .int), .methodLink RX1 106 yX1_hoursToOpening, .instanceMethod yX1_hoursToOpening, .selects RX1 yX1_hoursToOpening yX1_hoursToOpening, .code yX1_hoursToOpening cX1_hoursToOpening 4 (some .int), .methodLink RX1 231 yX1_hoursToWait, .instanceMethod yX1_hoursToWait, .selects RX1 yX1_hoursToWait yX1_hoursToWait, .code yX1_hoursToWait cX1_hoursToWait 1 (some .int), .methodLink RX1 179 Lib.Math.max.name, .static Lib.Math.max.name, .initialized "java/lang/Math", .code Lib.Math.max.name Lib.Math.max.code 2 (some .int)] ++ wsX10)
def wsX1_count_r1 : List Cond := [Cond.classLink RX1 47 "java/lang/IllegalArgumentException", Cond.initialized "java/lang/IllegalArgumentException", Cond.methodLink RX1 176 yX1_number, Cond.instanceMethod yX1_number, Cond.selects RX1 yX1_number yX1_number, Cond.initialized RX1, Cond.code yX1_number cX1_number 2 (some .int), Cond.fieldLink RX1 9 "VaultMovements" "now" "[I", Cond.fieldLink RX1 16 "VaultMovements" "savedStates" "I", Cond.methodLink RX1 214 yX1_today, Cond.instanceMethod yX1_today, Cond.selects RX1 yX1_today yX1_today, Cond.code yX1_today cX1_today 1 (some .int), Cond.methodLink RX1 217 yX1_timeOfDay, Cond.instanceMethod yX1_timeOfDay, Cond.selects RX1 yX1_timeOfDay yX1_timeOfDay, Cond.code yX1_timeOfDay cX1_timeOfDay 1 (some .int), Cond.methodLink RX1 106 yX1_hoursToOpening, Cond.instanceMethod yX1_hoursToOpening, Cond.selects RX1 yX1_hoursToOpening yX1_hoursToOpening, Cond.code yX1_hoursToOpening cX1_hoursToOpening 4 (some .int), Cond.methodLink RX1 231 yX1_hoursToWait, Cond.instanceMethod yX1_hoursToWait, Cond.selects RX1 yX1_hoursToWait yX1_hoursToWait]
def wsX1_count_r2 : List Cond := [Cond.code yX1_hoursToWait cX1_hoursToWait 1 (some .int), Cond.methodLink RX1 179 Lib.Math.max.name, Cond.static Lib.Math.max.name, Cond.initialized "java/lang/Math", Cond.code Lib.Math.max.name Lib.Math.max.code 2 (some .int)]
def wsX1_count : List Cond := .code yX1_count cX1_count 2 (some .int) :: ((wsX1_count_r1 ++ wsX1_count_r2) ++ wsX10 ++ (vx_atS RX1 51 "java/lang/IllegalArgumentException" ["java/lang/RuntimeException", "java/lang/Exception"]).filter goodWord)
def wsX1_setting : List Cond := .code yX1_setting cX1_setting 2 (some .int) :: ([.classLink RX1 40 "java/lang/IndexOutOfBoundsException", .initialized "java/lang/IndexOutOfBoundsException", .fieldLink RX1 9 "VaultMovements" "now" "[I", .methodLink RX1 56 yX1_isSetting, .static yX1_isSetting, .initialized RX1, .code yX1_isSetting cX1_isSetting 1 (some .boolean)] ++ wsX10 ++ (vx_atS RX1 44 "java/lang/IndexOutOfBoundsException" ["java/lang/RuntimeException", "java/lang/Exception"]).filter goodWord)
def wsX1_opensIn_r1 : List Cond := [Cond.methodLink RX1 112 yX1_hoursToOpen, Cond.instanceMethod yX1_hoursToOpen, Cond.selects RX1 yX1_hoursToOpen yX1_hoursToOpen, Cond.initialized RX1, Cond.code yX1_hoursToOpen cX1_hoursToOpen 5 (some .int), Cond.methodLink RX1 179 Lib.Math.max.name, Cond.static Lib.Math.max.name, Cond.initialized "java/lang/Math", Cond.code Lib.Math.max.name Lib.Math.max.code 2 (some .int), Cond.methodLink RX1 79 yX1_isLocked, Cond.instanceMethod yX1_isLocked, Cond.selects RX1 yX1_isLocked yX1_isLocked, Cond.code yX1_isLocked cX1_isLocked 1 (some .boolean), Cond.fieldLink RX1 9 "VaultMovements" "now" "[I", Cond.methodLink RX1 83 yX1_goes, Cond.instanceMethod yX1_goes, Cond.selects RX1 yX1_goes yX1_goes, Cond.code yX1_goes cX1_goes 2 (some .boolean), Cond.methodLink RX1 91 yX1_place, Cond.static yX1_place, Cond.code yX1_place cX1_place 2 (some .int), Cond.methodLink RX1 220 yX1_hoursToRunDown, Cond.instanceMethod yX1_hoursToRunDown, Cond.selects RX1 yX1_hoursToRunDown yX1_hoursToRunDown]
def wsX1_opensIn_r2 : List Cond := [Cond.code yX1_hoursToRunDown cX1_hoursToRunDown 6 (some .int), Cond.methodLink RX1 231 yX1_hoursToWait, Cond.instanceMethod yX1_hoursToWait, Cond.selects RX1 yX1_hoursToWait yX1_hoursToWait, Cond.code yX1_hoursToWait cX1_hoursToWait 1 (some .int)]
def wsX1_opensIn : List Cond := .code yX1_opensIn cX1_opensIn 1 (some .int) :: ((wsX1_opensIn_r1 ++ wsX1_opensIn_r2) ++ wsX10)
def wsX1_lateness_r1 : List Cond := [Cond.methodLink RX1 179 Lib.Math.max.name, Cond.static Lib.Math.max.name, Cond.initialized "java/lang/Math", Cond.code Lib.Math.max.name Lib.Math.max.code 2 (some .int), Cond.methodLink RX1 79 yX1_isLocked, Cond.instanceMethod yX1_isLocked, Cond.selects RX1 yX1_isLocked yX1_isLocked, Cond.initialized RX1, Cond.code yX1_isLocked cX1_isLocked 1 (some .boolean), Cond.fieldLink RX1 9 "VaultMovements" "now" "[I", Cond.methodLink RX1 112 yX1_hoursToOpen, Cond.instanceMethod yX1_hoursToOpen, Cond.selects RX1 yX1_hoursToOpen yX1_hoursToOpen, Cond.code yX1_hoursToOpen cX1_hoursToOpen 5 (some .int), Cond.methodLink RX1 83 yX1_goes, Cond.instanceMethod yX1_goes, Cond.selects RX1 yX1_goes yX1_goes, Cond.code yX1_goes cX1_goes 2 (some .boolean), Cond.methodLink RX1 91 yX1_place, Cond.static yX1_place, Cond.code yX1_place cX1_place 2 (some .int), Cond.methodLink RX1 220 yX1_hoursToRunDown, Cond.instanceMethod yX1_hoursToRunDown, Cond.selects RX1 yX1_hoursToRunDown yX1_hoursToRunDown]
def wsX1_lateness_r2 : List Cond := [Cond.code yX1_hoursToRunDown cX1_hoursToRunDown 6 (some .int), Cond.methodLink RX1 231 yX1_hoursToWait, Cond.instanceMethod yX1_hoursToWait, Cond.selects RX1 yX1_hoursToWait yX1_hoursToWait, Cond.code yX1_hoursToWait cX1_hoursToWait 1 (some .int), Cond.methodLink RX1 119 yX1_latenessAfter, Cond.instanceMethod yX1_latenessAfter, Cond.selects RX1 yX1_latenessAfter yX1_latenessAfter, Cond.code yX1_latenessAfter cX1_latenessAfter 2 (some .int)]
def wsX1_lateness : List Cond := .code yX1_lateness cX1_lateness 2 (some .int) :: ((wsX1_lateness_r1 ++ wsX1_lateness_r2) ++ wsX10)
def wsX1_keyMovement_r1 : List Cond := [Cond.methodLink RX1 112 yX1_hoursToOpen, Cond.instanceMethod yX1_hoursToOpen, Cond.selects RX1 yX1_hoursToOpen yX1_hoursToOpen, Cond.initialized RX1, Cond.code yX1_hoursToOpen cX1_hoursToOpen 5 (some .int), Cond.methodLink RX1 179 Lib.Math.max.name, Cond.static Lib.Math.max.name, Cond.initialized "java/lang/Math", Cond.code Lib.Math.max.name Lib.Math.max.code 2 (some .int), Cond.methodLink RX1 79 yX1_isLocked, Cond.instanceMethod yX1_isLocked, Cond.selects RX1 yX1_isLocked yX1_isLocked, Cond.code yX1_isLocked cX1_isLocked 1 (some .boolean), Cond.fieldLink RX1 9 "VaultMovements" "now" "[I", Cond.methodLink RX1 83 yX1_goes, Cond.instanceMethod yX1_goes, Cond.selects RX1 yX1_goes yX1_goes, Cond.code yX1_goes cX1_goes 2 (some .boolean), Cond.methodLink RX1 91 yX1_place, Cond.static yX1_place, Cond.code yX1_place cX1_place 2 (some .int), Cond.methodLink RX1 220 yX1_hoursToRunDown, Cond.instanceMethod yX1_hoursToRunDown, Cond.selects RX1 yX1_hoursToRunDown yX1_hoursToRunDown]
def wsX1_keyMovement_r2 : List Cond := [Cond.code yX1_hoursToRunDown cX1_hoursToRunDown 6 (some .int), Cond.methodLink RX1 231 yX1_hoursToWait, Cond.instanceMethod yX1_hoursToWait, Cond.selects RX1 yX1_hoursToWait yX1_hoursToWait, Cond.code yX1_hoursToWait cX1_hoursToWait 1 (some .int)]
def wsX1_keyMovement : List Cond := .code yX1_keyMovement cX1_keyMovement 3 (some .int) :: ((wsX1_keyMovement_r1 ++ wsX1_keyMovement_r2) ++ wsX10)
def wsX1_hoursToWind_r1 : List Cond := [Cond.fieldLink RX1 9 "VaultMovements" "now" "[I", Cond.methodLink RX1 106 yX1_hoursToOpening, Cond.instanceMethod yX1_hoursToOpening, Cond.selects RX1 yX1_hoursToOpening yX1_hoursToOpening, Cond.initialized RX1, Cond.code yX1_hoursToOpening cX1_hoursToOpening 4 (some .int), Cond.methodLink RX1 214 yX1_today, Cond.instanceMethod yX1_today, Cond.selects RX1 yX1_today yX1_today, Cond.code yX1_today cX1_today 1 (some .int), Cond.methodLink RX1 217 yX1_timeOfDay, Cond.instanceMethod yX1_timeOfDay, Cond.selects RX1 yX1_timeOfDay yX1_timeOfDay, Cond.code yX1_timeOfDay cX1_timeOfDay 1 (some .int), Cond.methodLink RX1 91 yX1_place, Cond.static yX1_place, Cond.code yX1_place cX1_place 2 (some .int), Cond.methodLink RX1 83 yX1_goes, Cond.instanceMethod yX1_goes, Cond.selects RX1 yX1_goes yX1_goes, Cond.code yX1_goes cX1_goes 2 (some .boolean), Cond.methodLink RX1 224 yX1_isLostHour, Cond.static yX1_isLostHour, Cond.code yX1_isLostHour cX1_isLostHour 2 (some .boolean)]
def wsX1_hoursToWind_r2 : List Cond := [Cond.methodLink RX1 74 yX1_areWindingHours, Cond.static yX1_areWindingHours, Cond.code yX1_areWindingHours cX1_areWindingHours 1 (some .boolean)]
def wsX1_hoursToWind : List Cond := .code yX1_hoursToWind cX1_hoursToWind 6 (some .int) :: ((wsX1_hoursToWind_r1 ++ wsX1_hoursToWind_r2) ++ wsX10)
def wsX1_rightWinding_r1 : List Cond := [Cond.classLink RX1 40 "java/lang/IndexOutOfBoundsException", Cond.initialized "java/lang/IndexOutOfBoundsException", Cond.methodLink RX1 69 yX1_isMovement, Cond.static yX1_isMovement, Cond.initialized RX1, Cond.code yX1_isMovement cX1_isMovement 1 (some .boolean), Cond.methodLink RX1 184 yX1_hoursToWind, Cond.instanceMethod yX1_hoursToWind, Cond.selects RX1 yX1_hoursToWind yX1_hoursToWind, Cond.code yX1_hoursToWind cX1_hoursToWind 6 (some .int), Cond.fieldLink RX1 9 "VaultMovements" "now" "[I", Cond.methodLink RX1 106 yX1_hoursToOpening, Cond.instanceMethod yX1_hoursToOpening, Cond.selects RX1 yX1_hoursToOpening yX1_hoursToOpening, Cond.code yX1_hoursToOpening cX1_hoursToOpening 4 (some .int), Cond.methodLink RX1 214 yX1_today, Cond.instanceMethod yX1_today, Cond.selects RX1 yX1_today yX1_today, Cond.code yX1_today cX1_today 1 (some .int), Cond.methodLink RX1 217 yX1_timeOfDay, Cond.instanceMethod yX1_timeOfDay, Cond.selects RX1 yX1_timeOfDay yX1_timeOfDay, Cond.code yX1_timeOfDay cX1_timeOfDay 1 (some .int), Cond.methodLink RX1 91 yX1_place]
def wsX1_rightWinding_r2 : List Cond := [Cond.static yX1_place, Cond.code yX1_place cX1_place 2 (some .int), Cond.methodLink RX1 83 yX1_goes, Cond.instanceMethod yX1_goes, Cond.selects RX1 yX1_goes yX1_goes, Cond.code yX1_goes cX1_goes 2 (some .boolean), Cond.methodLink RX1 224 yX1_isLostHour, Cond.static yX1_isLostHour, Cond.code yX1_isLostHour cX1_isLostHour 2 (some .boolean), Cond.methodLink RX1 74 yX1_areWindingHours, Cond.static yX1_areWindingHours, Cond.code yX1_areWindingHours cX1_areWindingHours 1 (some .boolean)]
def wsX1_rightWinding : List Cond := .code yX1_rightWinding cX1_rightWinding 2 (some .int) :: ((wsX1_rightWinding_r1 ++ wsX1_rightWinding_r2) ++ wsX10 ++ (vx_atS RX1 44 "java/lang/IndexOutOfBoundsException" ["java/lang/RuntimeException", "java/lang/Exception"]).filter goodWord)
def wsX1_punctuality : List Cond := .code yX1_punctuality cX1_punctuality 2 (some .double) :: ([.fieldLink RX1 9 "VaultMovements" "now" "[I"] ++ wsX10)
def wsX1_bitsOfShare : List Cond := .code yX1_bitsOfShare cX1_bitsOfShare 8 (some .long) :: ([.constantLong RX1 208 (1023), .constantDouble RX1 210 (4611686018427387904), .constantDouble RX1 212 (4841369599423283200)])
def wsX1_digest_r1 : List Cond := [Cond.constantLong RX1 187 (2699), Cond.constantLong RX1 189 (31), Cond.fieldLink RX1 9 "VaultMovements" "now" "[I", Cond.fieldLink RX1 23 "VaultMovements" "length" "I", Cond.fieldLink RX1 20 "VaultMovements" "buffer" "[I", Cond.methodLink RX1 176 yX1_number, Cond.instanceMethod yX1_number, Cond.selects RX1 yX1_number yX1_number, Cond.initialized RX1, Cond.code yX1_number cX1_number 2 (some .int), Cond.fieldLink RX1 16 "VaultMovements" "savedStates" "I", Cond.methodLink RX1 214 yX1_today, Cond.instanceMethod yX1_today, Cond.selects RX1 yX1_today yX1_today, Cond.code yX1_today cX1_today 1 (some .int), Cond.methodLink RX1 217 yX1_timeOfDay, Cond.instanceMethod yX1_timeOfDay, Cond.selects RX1 yX1_timeOfDay yX1_timeOfDay, Cond.code yX1_timeOfDay cX1_timeOfDay 1 (some .int), Cond.methodLink RX1 106 yX1_hoursToOpening, Cond.instanceMethod yX1_hoursToOpening, Cond.selects RX1 yX1_hoursToOpening yX1_hoursToOpening, Cond.code yX1_hoursToOpening cX1_hoursToOpening 4 (some .int), Cond.methodLink RX1 231 yX1_hoursToWait]
def wsX1_digest_r2 : List Cond := [Cond.instanceMethod yX1_hoursToWait, Cond.selects RX1 yX1_hoursToWait yX1_hoursToWait, Cond.code yX1_hoursToWait cX1_hoursToWait 1 (some .int), Cond.methodLink RX1 179 Lib.Math.max.name, Cond.static Lib.Math.max.name, Cond.initialized "java/lang/Math", Cond.code Lib.Math.max.name Lib.Math.max.code 2 (some .int), Cond.methodLink RX1 171 yX1_property, Cond.instanceMethod yX1_property, Cond.selects RX1 yX1_property yX1_property, Cond.code yX1_property cX1_property 3 (some .int), Cond.methodLink RX1 91 yX1_place, Cond.static yX1_place, Cond.code yX1_place cX1_place 2 (some .int), Cond.methodLink RX1 83 yX1_goes, Cond.instanceMethod yX1_goes, Cond.selects RX1 yX1_goes yX1_goes, Cond.code yX1_goes cX1_goes 2 (some .boolean), Cond.methodLink RX1 220 yX1_hoursToRunDown, Cond.instanceMethod yX1_hoursToRunDown, Cond.selects RX1 yX1_hoursToRunDown yX1_hoursToRunDown, Cond.code yX1_hoursToRunDown cX1_hoursToRunDown 6 (some .int), Cond.methodLink RX1 184 yX1_hoursToWind, Cond.instanceMethod yX1_hoursToWind]
def wsX1_digest_r3 : List Cond := [Cond.selects RX1 yX1_hoursToWind yX1_hoursToWind, Cond.code yX1_hoursToWind cX1_hoursToWind 6 (some .int), Cond.methodLink RX1 224 yX1_isLostHour, Cond.static yX1_isLostHour, Cond.code yX1_isLostHour cX1_isLostHour 2 (some .boolean), Cond.methodLink RX1 74 yX1_areWindingHours, Cond.static yX1_areWindingHours, Cond.code yX1_areWindingHours cX1_areWindingHours 1 (some .boolean), Cond.methodLink RX1 191 yX1_opensIn, Cond.instanceMethod yX1_opensIn, Cond.selects RX1 yX1_opensIn yX1_opensIn, Cond.code yX1_opensIn cX1_opensIn 1 (some .int), Cond.methodLink RX1 112 yX1_hoursToOpen, Cond.instanceMethod yX1_hoursToOpen, Cond.selects RX1 yX1_hoursToOpen yX1_hoursToOpen, Cond.code yX1_hoursToOpen cX1_hoursToOpen 5 (some .int), Cond.methodLink RX1 79 yX1_isLocked, Cond.instanceMethod yX1_isLocked, Cond.selects RX1 yX1_isLocked yX1_isLocked, Cond.code yX1_isLocked cX1_isLocked 1 (some .boolean), Cond.methodLink RX1 194 yX1_lateness, Cond.instanceMethod yX1_lateness, Cond.selects RX1 yX1_lateness yX1_lateness, Cond.code yX1_lateness cX1_lateness 2 (some .int)]
def wsX1_digest_r4 : List Cond := [Cond.methodLink RX1 119 yX1_latenessAfter, Cond.instanceMethod yX1_latenessAfter, Cond.selects RX1 yX1_latenessAfter yX1_latenessAfter, Cond.code yX1_latenessAfter cX1_latenessAfter 2 (some .int), Cond.methodLink RX1 197 yX1_keyMovement, Cond.instanceMethod yX1_keyMovement, Cond.selects RX1 yX1_keyMovement yX1_keyMovement, Cond.code yX1_keyMovement cX1_keyMovement 3 (some .int), Cond.methodLink RX1 200 yX1_punctuality, Cond.instanceMethod yX1_punctuality, Cond.selects RX1 yX1_punctuality yX1_punctuality, Cond.code yX1_punctuality cX1_punctuality 2 (some .double), Cond.methodLink RX1 204 yX1_bitsOfShare, Cond.static yX1_bitsOfShare, Cond.code yX1_bitsOfShare cX1_bitsOfShare 8 (some .long), Cond.constantLong RX1 208 (1023), Cond.constantDouble RX1 210 (4611686018427387904), Cond.constantDouble RX1 212 (4841369599423283200)]
def wsX1_digest : List Cond := .code yX1_digest cX1_digest 5 (some .long) :: ((wsX1_digest_r1 ++ (wsX1_digest_r2 ++ (wsX1_digest_r3 ++ wsX1_digest_r4))) ++ wsX10)
def wsX2_init : List Cond := .code yX2_init cX2_init 2 none :: ([.methodLink RX2 1 objectInit, .instanceMethod objectInit, .code objectInit ⟨#[0xb1]⟩ 1 none, .arrayClass .int, .fieldLink RX2 7 "VaultMovementsModel" "now" "[I", .fieldLink RX2 13 "VaultMovementsModel" "past" "[I", .fieldLink RX2 16 "VaultMovementsModel" "text" "[I", .fieldLink RX2 19 "VaultMovementsModel" "sorts" "[I", .fieldLink RX2 22 "VaultMovementsModel" "many" "[I"] ++ wsX20)
def wsX2_thrown : List Cond := .code yX2_thrown cX2_thrown 1 (some .int) :: ([.fieldLink RX2 25 "VaultMovementsModel" "thrown" "I"] ++ wsX20)
def wsX2_fails : List Cond := .code yX2_fails cX2_fails 2 (some .int) :: ([.fieldLink RX2 25 "VaultMovementsModel" "thrown" "I"] ++ wsX20)
def wsX2_in : List Cond := .code yX2_in cX2_in 3 (some .boolean) :: ([])
def wsX2_isMovement : List Cond := .code yX2_isMovement cX2_isMovement 1 (some .boolean) :: ([.methodLink RX2 29 yX2_in, .static yX2_in, .initialized RX2, .code yX2_in cX2_in 3 (some .boolean)])
def wsX2_isDay : List Cond := .code yX2_isDay cX2_isDay 1 (some .boolean) :: ([.methodLink RX2 29 yX2_in, .static yX2_in, .initialized RX2, .code yX2_in cX2_in 3 (some .boolean)])
def wsX2_saves : List Cond := .code yX2_saves cX2_saves 2 none :: ([.fieldLink RX2 33 "VaultMovementsModel" "kept" "I", .fieldLink RX2 13 "VaultMovementsModel" "past" "[I", .fieldLink RX2 7 "VaultMovementsModel" "now" "[I"] ++ wsX20)
def wsX2_undo : List Cond := .code yX2_undo cX2_undo 2 (some .int) :: ([.fieldLink RX2 25 "VaultMovementsModel" "thrown" "I", .fieldLink RX2 33 "VaultMovementsModel" "kept" "I", .fieldLink RX2 7 "VaultMovementsModel" "now" "[I", .fieldLink RX2 13 "VaultMovementsModel" "past" "[I", .methodLink RX2 36 yX2_fails, .instanceMethod yX2_fails, .selects RX2 yX2_fails yX2_fails, .initialized RX2, .code yX2_fails cX2_fails 2 (some .int)] ++ wsX20)
def wsX2_hours : List Cond := .code yX2_hours cX2_hours 2 (some .int) :: ([.fieldLink RX2 7 "VaultMovementsModel" "now" "[I"] ++ wsX20)
def wsX2_goes : List Cond := .code yX2_goes cX2_goes 2 (some .boolean) :: ([.fieldLink RX2 7 "VaultMovementsModel" "now" "[I"] ++ wsX20)
def wsX2_lossOf : List Cond := .code yX2_lossOf cX2_lossOf 2 (some .int) :: ([.fieldLink RX2 7 "VaultMovementsModel" "now" "[I"] ++ wsX20)
def wsX2_ran : List Cond := .code yX2_ran cX2_ran 2 (some .int) :: ([.fieldLink RX2 7 "VaultMovementsModel" "now" "[I"] ++ wsX20)
def wsX2_toOpening : List Cond := .code yX2_toOpening cX2_toOpening 3 (some .int) :: ([.fieldLink RX2 7 "VaultMovementsModel" "now" "[I"] ++ wsX20)
def wsX2_downIn : List Cond := .code yX2_downIn cX2_downIn 6 (some .int) :: ([.methodLink RX2 40 yX2_goes, .instanceMethod yX2_goes, .selects RX2 yX2_goes yX2_goes, .initialized RX2, .code yX2_goes cX2_goes 2 (some .boolean), .fieldLink RX2 7 "VaultMovementsModel" "now" "[I", .methodLink RX2 44 yX2_lossOf, .instanceMethod yX2_lossOf, .selects RX2 yX2_lossOf yX2_lossOf, .code yX2_lossOf cX2_lossOf 2 (some .int), .methodLink RX2 47 yX2_ran, .instanceMethod yX2_ran, .selects RX2 yX2_ran yX2_ran, .code yX2_ran cX2_ran 2 (some .int)] ++ wsX20)
def wsX2_waits : List Cond := .code yX2_waits cX2_waits 2 (some .int) :: ([.fieldLink RX2 7 "VaultMovementsModel" "now" "[I"] ++ wsX20)
def wsX2_opensBut_r1 : List Cond := [Cond.constant RX2 50 (1000000), Cond.fieldLink RX2 7 "VaultMovementsModel" "now" "[I", Cond.methodLink RX2 51 yX2_hours, Cond.instanceMethod yX2_hours, Cond.selects RX2 yX2_hours yX2_hours, Cond.initialized RX2, Cond.code yX2_hours cX2_hours 2 (some .int), Cond.methodLink RX2 54 yX2_downIn, Cond.instanceMethod yX2_downIn, Cond.selects RX2 yX2_downIn yX2_downIn, Cond.code yX2_downIn cX2_downIn 6 (some .int), Cond.methodLink RX2 40 yX2_goes, Cond.instanceMethod yX2_goes, Cond.selects RX2 yX2_goes yX2_goes, Cond.code yX2_goes cX2_goes 2 (some .boolean), Cond.methodLink RX2 44 yX2_lossOf, Cond.instanceMethod yX2_lossOf, Cond.selects RX2 yX2_lossOf yX2_lossOf, Cond.code yX2_lossOf cX2_lossOf 2 (some .int), Cond.methodLink RX2 47 yX2_ran, Cond.instanceMethod yX2_ran, Cond.selects RX2 yX2_ran yX2_ran, Cond.code yX2_ran cX2_ran 2 (some .int), Cond.methodLink RX2 58 yX2_waits]
def wsX2_opensBut_r2 : List Cond := [Cond.instanceMethod yX2_waits, Cond.selects RX2 yX2_waits yX2_waits, Cond.code yX2_waits cX2_waits 2 (some .int)]
def wsX2_opensBut : List Cond := .code yX2_opensBut cX2_opensBut 5 (some .int) :: ((wsX2_opensBut_r1 ++ wsX2_opensBut_r2) ++ wsX20)
def wsX2_hourGoes : List Cond := .code yX2_hourGoes cX2_hourGoes 3 none :: ([.fieldLink RX2 7 "VaultMovementsModel" "now" "[I", .methodLink RX2 40 yX2_goes, .instanceMethod yX2_goes, .selects RX2 yX2_goes yX2_goes, .initialized RX2, .code yX2_goes cX2_goes 2 (some .boolean), .methodLink RX2 51 yX2_hours, .instanceMethod yX2_hours, .selects RX2 yX2_hours yX2_hours, .code yX2_hours cX2_hours 2 (some .int), .methodLink RX2 44 yX2_lossOf, .instanceMethod yX2_lossOf, .selects RX2 yX2_lossOf yX2_lossOf, .code yX2_lossOf cX2_lossOf 2 (some .int), .methodLink RX2 47 yX2_ran, .instanceMethod yX2_ran, .selects RX2 yX2_ran yX2_ran, .code yX2_ran cX2_ran 2 (some .int)] ++ wsX20)
def wsX2_changes : List Cond := .code yX2_changes cX2_changes 4 (some .int) :: ([.fieldLink RX2 7 "VaultMovementsModel" "now" "[I"] ++ wsX20)
def wsX2_opening : List Cond := .code yX2_opening cX2_opening 3 (some .int) :: ([.fieldLink RX2 25 "VaultMovementsModel" "thrown" "I", .methodLink RX2 62 yX2_isDay, .static yX2_isDay, .initialized RX2, .code yX2_isDay cX2_isDay 1 (some .boolean), .methodLink RX2 29 yX2_in, .static yX2_in, .code yX2_in cX2_in 3 (some .boolean), .methodLink RX2 36 yX2_fails, .instanceMethod yX2_fails, .selects RX2 yX2_fails yX2_fails, .code yX2_fails cX2_fails 2 (some .int), .methodLink RX2 65 yX2_saves, .instanceMethod yX2_saves, .selects RX2 yX2_saves yX2_saves, .code yX2_saves cX2_saves 2 none, .fieldLink RX2 33 "VaultMovementsModel" "kept" "I", .fieldLink RX2 13 "VaultMovementsModel" "past" "[I", .fieldLink RX2 7 "VaultMovementsModel" "now" "[I", .methodLink RX2 68 yX2_changes, .instanceMethod yX2_changes, .selects RX2 yX2_changes yX2_changes, .code yX2_changes cX2_changes 4 (some .int)] ++ wsX20)
def wsX2_isFor : List Cond := .code yX2_isFor cX2_isFor 2 (some .boolean) :: ([.methodLink RX2 29 yX2_in, .static yX2_in, .initialized RX2, .code yX2_in cX2_in 3 (some .boolean)])
def wsX2_set : List Cond := .code yX2_set cX2_set 3 (some .int) :: ([.fieldLink RX2 25 "VaultMovementsModel" "thrown" "I", .methodLink RX2 29 yX2_in, .static yX2_in, .initialized RX2, .code yX2_in cX2_in 3 (some .boolean), .methodLink RX2 36 yX2_fails, .instanceMethod yX2_fails, .selects RX2 yX2_fails yX2_fails, .code yX2_fails cX2_fails 2 (some .int), .methodLink RX2 71 yX2_isFor, .static yX2_isFor, .code yX2_isFor cX2_isFor 2 (some .boolean), .methodLink RX2 65 yX2_saves, .instanceMethod yX2_saves, .selects RX2 yX2_saves yX2_saves, .code yX2_saves cX2_saves 2 none, .fieldLink RX2 33 "VaultMovementsModel" "kept" "I", .fieldLink RX2 13 "VaultMovementsModel" "past" "[I", .fieldLink RX2 7 "VaultMovementsModel" "now" "[I", .methodLink RX2 68 yX2_changes, .instanceMethod yX2_changes, .selects RX2 yX2_changes yX2_changes, .code yX2_changes cX2_changes 4 (some .int)] ++ wsX20)
def wsX2_wind_r1 : List Cond := [Cond.fieldLink RX2 25 "VaultMovementsModel" "thrown" "I", Cond.fieldLink RX2 7 "VaultMovementsModel" "now" "[I", Cond.methodLink RX2 75 yX2_isMovement, Cond.static yX2_isMovement, Cond.initialized RX2, Cond.code yX2_isMovement cX2_isMovement 1 (some .boolean), Cond.methodLink RX2 29 yX2_in, Cond.static yX2_in, Cond.code yX2_in cX2_in 3 (some .boolean), Cond.methodLink RX2 36 yX2_fails, Cond.instanceMethod yX2_fails, Cond.selects RX2 yX2_fails yX2_fails, Cond.code yX2_fails cX2_fails 2 (some .int), Cond.methodLink RX2 40 yX2_goes, Cond.instanceMethod yX2_goes, Cond.selects RX2 yX2_goes yX2_goes, Cond.code yX2_goes cX2_goes 2 (some .boolean), Cond.methodLink RX2 65 yX2_saves, Cond.instanceMethod yX2_saves, Cond.selects RX2 yX2_saves yX2_saves, Cond.code yX2_saves cX2_saves 2 none, Cond.fieldLink RX2 33 "VaultMovementsModel" "kept" "I", Cond.fieldLink RX2 13 "VaultMovementsModel" "past" "[I", Cond.methodLink RX2 68 yX2_changes]
def wsX2_wind_r2 : List Cond := [Cond.instanceMethod yX2_changes, Cond.selects RX2 yX2_changes yX2_changes, Cond.code yX2_changes cX2_changes 4 (some .int)]
def wsX2_wind : List Cond := .code yX2_wind cX2_wind 3 (some .int) :: ((wsX2_wind_r1 ++ wsX2_wind_r2) ++ wsX20)
def wsX2_fault : List Cond := .code yX2_fault cX2_fault 3 (some .int) :: ([.fieldLink RX2 25 "VaultMovementsModel" "thrown" "I", .methodLink RX2 75 yX2_isMovement, .static yX2_isMovement, .initialized RX2, .code yX2_isMovement cX2_isMovement 1 (some .boolean), .methodLink RX2 29 yX2_in, .static yX2_in, .code yX2_in cX2_in 3 (some .boolean), .methodLink RX2 36 yX2_fails, .instanceMethod yX2_fails, .selects RX2 yX2_fails yX2_fails, .code yX2_fails cX2_fails 2 (some .int), .methodLink RX2 65 yX2_saves, .instanceMethod yX2_saves, .selects RX2 yX2_saves yX2_saves, .code yX2_saves cX2_saves 2 none, .fieldLink RX2 33 "VaultMovementsModel" "kept" "I", .fieldLink RX2 13 "VaultMovementsModel" "past" "[I", .fieldLink RX2 7 "VaultMovementsModel" "now" "[I", .methodLink RX2 68 yX2_changes, .instanceMethod yX2_changes, .selects RX2 yX2_changes yX2_changes, .code yX2_changes cX2_changes 4 (some .int)] ++ wsX20)
def wsX2_loss : List Cond := .code yX2_loss cX2_loss 3 (some .int) :: ([.fieldLink RX2 25 "VaultMovementsModel" "thrown" "I", .methodLink RX2 75 yX2_isMovement, .static yX2_isMovement, .initialized RX2, .code yX2_isMovement cX2_isMovement 1 (some .boolean), .methodLink RX2 29 yX2_in, .static yX2_in, .code yX2_in cX2_in 3 (some .boolean), .methodLink RX2 36 yX2_fails, .instanceMethod yX2_fails, .selects RX2 yX2_fails yX2_fails, .code yX2_fails cX2_fails 2 (some .int), .methodLink RX2 65 yX2_saves, .instanceMethod yX2_saves, .selects RX2 yX2_saves yX2_saves, .code yX2_saves cX2_saves 2 none, .fieldLink RX2 33 "VaultMovementsModel" "kept" "I", .fieldLink RX2 13 "VaultMovementsModel" "past" "[I", .fieldLink RX2 7 "VaultMovementsModel" "now" "[I", .methodLink RX2 68 yX2_changes, .instanceMethod yX2_changes, .selects RX2 yX2_changes yX2_changes, .code yX2_changes cX2_changes 4 (some .int)] ++ wsX20)
def wsX2_service : List Cond := .code yX2_service cX2_service 2 (some .int) :: ([.fieldLink RX2 25 "VaultMovementsModel" "thrown" "I", .fieldLink RX2 7 "VaultMovementsModel" "now" "[I", .methodLink RX2 75 yX2_isMovement, .static yX2_isMovement, .initialized RX2, .code yX2_isMovement cX2_isMovement 1 (some .boolean), .methodLink RX2 29 yX2_in, .static yX2_in, .code yX2_in cX2_in 3 (some .boolean), .methodLink RX2 36 yX2_fails, .instanceMethod yX2_fails, .selects RX2 yX2_fails yX2_fails, .code yX2_fails cX2_fails 2 (some .int), .methodLink RX2 65 yX2_saves, .instanceMethod yX2_saves, .selects RX2 yX2_saves yX2_saves, .code yX2_saves cX2_saves 2 none, .fieldLink RX2 33 "VaultMovementsModel" "kept" "I", .fieldLink RX2 13 "VaultMovementsModel" "past" "[I", .methodLink RX2 68 yX2_changes, .instanceMethod yX2_changes, .selects RX2 yX2_changes yX2_changes, .code yX2_changes cX2_changes 4 (some .int)] ++ wsX20)
def wsX2_lock_r1 : List Cond := [Cond.fieldLink RX2 25 "VaultMovementsModel" "thrown" "I", Cond.fieldLink RX2 7 "VaultMovementsModel" "now" "[I", Cond.methodLink RX2 40 yX2_goes, Cond.instanceMethod yX2_goes, Cond.selects RX2 yX2_goes yX2_goes, Cond.initialized RX2, Cond.code yX2_goes cX2_goes 2 (some .boolean), Cond.methodLink RX2 51 yX2_hours, Cond.instanceMethod yX2_hours, Cond.selects RX2 yX2_hours yX2_hours, Cond.code yX2_hours cX2_hours 2 (some .int), Cond.methodLink RX2 36 yX2_fails, Cond.instanceMethod yX2_fails, Cond.selects RX2 yX2_fails yX2_fails, Cond.code yX2_fails cX2_fails 2 (some .int), Cond.methodLink RX2 65 yX2_saves, Cond.instanceMethod yX2_saves, Cond.selects RX2 yX2_saves yX2_saves, Cond.code yX2_saves cX2_saves 2 none, Cond.fieldLink RX2 33 "VaultMovementsModel" "kept" "I", Cond.fieldLink RX2 13 "VaultMovementsModel" "past" "[I", Cond.methodLink RX2 78 yX2_toOpening, Cond.instanceMethod yX2_toOpening, Cond.selects RX2 yX2_toOpening yX2_toOpening]
def wsX2_lock_r2 : List Cond := [Cond.code yX2_toOpening cX2_toOpening 3 (some .int)]
def wsX2_lock : List Cond := .code yX2_lock cX2_lock 3 (some .int) :: ((wsX2_lock_r1 ++ wsX2_lock_r2) ++ wsX20)
def wsX2_unlocks : List Cond := .code yX2_unlocks cX2_unlocks 1 none :: ([.fieldLink RX2 7 "VaultMovementsModel" "now" "[I"] ++ wsX20)
def wsX2_open_r1 : List Cond := [Cond.fieldLink RX2 25 "VaultMovementsModel" "thrown" "I", Cond.fieldLink RX2 7 "VaultMovementsModel" "now" "[I", Cond.methodLink RX2 36 yX2_fails, Cond.instanceMethod yX2_fails, Cond.selects RX2 yX2_fails yX2_fails, Cond.initialized RX2, Cond.code yX2_fails cX2_fails 2 (some .int), Cond.methodLink RX2 65 yX2_saves, Cond.instanceMethod yX2_saves, Cond.selects RX2 yX2_saves yX2_saves, Cond.code yX2_saves cX2_saves 2 none, Cond.fieldLink RX2 33 "VaultMovementsModel" "kept" "I", Cond.fieldLink RX2 13 "VaultMovementsModel" "past" "[I", Cond.methodLink RX2 81 yX2_opensBut, Cond.instanceMethod yX2_opensBut, Cond.selects RX2 yX2_opensBut yX2_opensBut, Cond.code yX2_opensBut cX2_opensBut 5 (some .int), Cond.constant RX2 50 (1000000), Cond.methodLink RX2 51 yX2_hours, Cond.instanceMethod yX2_hours, Cond.selects RX2 yX2_hours yX2_hours, Cond.code yX2_hours cX2_hours 2 (some .int), Cond.methodLink RX2 54 yX2_downIn, Cond.instanceMethod yX2_downIn]
def wsX2_open_r2 : List Cond := [Cond.selects RX2 yX2_downIn yX2_downIn, Cond.code yX2_downIn cX2_downIn 6 (some .int), Cond.methodLink RX2 40 yX2_goes, Cond.instanceMethod yX2_goes, Cond.selects RX2 yX2_goes yX2_goes, Cond.code yX2_goes cX2_goes 2 (some .boolean), Cond.methodLink RX2 44 yX2_lossOf, Cond.instanceMethod yX2_lossOf, Cond.selects RX2 yX2_lossOf yX2_lossOf, Cond.code yX2_lossOf cX2_lossOf 2 (some .int), Cond.methodLink RX2 47 yX2_ran, Cond.instanceMethod yX2_ran, Cond.selects RX2 yX2_ran yX2_ran, Cond.code yX2_ran cX2_ran 2 (some .int), Cond.methodLink RX2 58 yX2_waits, Cond.instanceMethod yX2_waits, Cond.selects RX2 yX2_waits yX2_waits, Cond.code yX2_waits cX2_waits 2 (some .int), Cond.methodLink RX2 84 yX2_unlocks, Cond.instanceMethod yX2_unlocks, Cond.selects RX2 yX2_unlocks yX2_unlocks, Cond.code yX2_unlocks cX2_unlocks 1 none]
def wsX2_open : List Cond := .code yX2_open cX2_open 2 (some .int) :: ((wsX2_open_r1 ++ wsX2_open_r2) ++ wsX20)
def wsX2_drill : List Cond := .code yX2_drill cX2_drill 2 (some .int) :: ([.fieldLink RX2 25 "VaultMovementsModel" "thrown" "I", .fieldLink RX2 7 "VaultMovementsModel" "now" "[I", .methodLink RX2 36 yX2_fails, .instanceMethod yX2_fails, .selects RX2 yX2_fails yX2_fails, .initialized RX2, .code yX2_fails cX2_fails 2 (some .int), .methodLink RX2 65 yX2_saves, .instanceMethod yX2_saves, .selects RX2 yX2_saves yX2_saves, .code yX2_saves cX2_saves 2 none, .fieldLink RX2 33 "VaultMovementsModel" "kept" "I", .fieldLink RX2 13 "VaultMovementsModel" "past" "[I", .methodLink RX2 84 yX2_unlocks, .instanceMethod yX2_unlocks, .selects RX2 yX2_unlocks yX2_unlocks, .code yX2_unlocks cX2_unlocks 1 none] ++ wsX20)
def wsX2_pass_r1 : List Cond := [Cond.fieldLink RX2 25 "VaultMovementsModel" "thrown" "I", Cond.fieldLink RX2 7 "VaultMovementsModel" "now" "[I", Cond.constant RX2 87 (99999), Cond.methodLink RX2 29 yX2_in, Cond.static yX2_in, Cond.initialized RX2, Cond.code yX2_in cX2_in 3 (some .boolean), Cond.methodLink RX2 36 yX2_fails, Cond.instanceMethod yX2_fails, Cond.selects RX2 yX2_fails yX2_fails, Cond.code yX2_fails cX2_fails 2 (some .int), Cond.methodLink RX2 65 yX2_saves, Cond.instanceMethod yX2_saves, Cond.selects RX2 yX2_saves yX2_saves, Cond.code yX2_saves cX2_saves 2 none, Cond.fieldLink RX2 33 "VaultMovementsModel" "kept" "I", Cond.fieldLink RX2 13 "VaultMovementsModel" "past" "[I", Cond.methodLink RX2 88 yX2_hourGoes, Cond.instanceMethod yX2_hourGoes, Cond.selects RX2 yX2_hourGoes yX2_hourGoes, Cond.code yX2_hourGoes cX2_hourGoes 3 none, Cond.methodLink RX2 40 yX2_goes, Cond.instanceMethod yX2_goes, Cond.selects RX2 yX2_goes yX2_goes]
def wsX2_pass_r2 : List Cond := [Cond.code yX2_goes cX2_goes 2 (some .boolean), Cond.methodLink RX2 51 yX2_hours, Cond.instanceMethod yX2_hours, Cond.selects RX2 yX2_hours yX2_hours, Cond.code yX2_hours cX2_hours 2 (some .int), Cond.methodLink RX2 44 yX2_lossOf, Cond.instanceMethod yX2_lossOf, Cond.selects RX2 yX2_lossOf yX2_lossOf, Cond.code yX2_lossOf cX2_lossOf 2 (some .int), Cond.methodLink RX2 47 yX2_ran, Cond.instanceMethod yX2_ran, Cond.selects RX2 yX2_ran yX2_ran, Cond.code yX2_ran cX2_ran 2 (some .int)]
def wsX2_pass : List Cond := .code yX2_pass cX2_pass 4 (some .int) :: ((wsX2_pass_r1 ++ wsX2_pass_r2) ++ wsX20)
def wsX2_append : List Cond := .code yX2_append cX2_append 2 (some .int) :: ([.fieldLink RX2 25 "VaultMovementsModel" "thrown" "I", .fieldLink RX2 91 "VaultMovementsModel" "typed" "I", .fieldLink RX2 16 "VaultMovementsModel" "text" "[I", .methodLink RX2 29 yX2_in, .static yX2_in, .initialized RX2, .code yX2_in cX2_in 3 (some .boolean), .methodLink RX2 36 yX2_fails, .instanceMethod yX2_fails, .selects RX2 yX2_fails yX2_fails, .code yX2_fails cX2_fails 2 (some .int)] ++ wsX20)
def wsX2_clearBuffer : List Cond := .code yX2_clearBuffer cX2_clearBuffer 2 (some .int) :: ([.fieldLink RX2 25 "VaultMovementsModel" "thrown" "I", .fieldLink RX2 91 "VaultMovementsModel" "typed" "I"] ++ wsX20)
def wsX2_isAt : List Cond := .code yX2_isAt cX2_isAt 3 (some .boolean) :: ([.fieldLink RX2 94 "VaultMovementsModel" "at" "I", .fieldLink RX2 91 "VaultMovementsModel" "typed" "I", .fieldLink RX2 16 "VaultMovementsModel" "text" "[I", .methodLink RX2 29 yX2_in, .static yX2_in, .initialized RX2, .code yX2_in cX2_in 3 (some .boolean)] ++ wsX20)
def wsX2_stops : List Cond := .code yX2_stops cX2_stops 1 (some .boolean) :: ([.fieldLink RX2 94 "VaultMovementsModel" "at" "I", .fieldLink RX2 91 "VaultMovementsModel" "typed" "I", .fieldLink RX2 97 "VaultMovementsModel" "isFault" "Z"] ++ wsX20)
def wsX2_isSign : List Cond := .code yX2_isSign cX2_isSign 3 (some .boolean) :: ([.fieldLink RX2 94 "VaultMovementsModel" "at" "I", .methodLink RX2 101 yX2_isAt, .instanceMethod yX2_isAt, .selects RX2 yX2_isAt yX2_isAt, .initialized RX2, .code yX2_isAt cX2_isAt 3 (some .boolean), .fieldLink RX2 91 "VaultMovementsModel" "typed" "I", .fieldLink RX2 16 "VaultMovementsModel" "text" "[I", .methodLink RX2 29 yX2_in, .static yX2_in, .code yX2_in cX2_in 3 (some .boolean)] ++ wsX20)
def wsX2_isNumber : List Cond := .code yX2_isNumber cX2_isNumber 1 (some .boolean) :: ([.fieldLink RX2 108 "VaultMovementsModel" "value" "I", .fieldLink RX2 16 "VaultMovementsModel" "text" "[I", .fieldLink RX2 94 "VaultMovementsModel" "at" "I", .methodLink RX2 101 yX2_isAt, .instanceMethod yX2_isAt, .selects RX2 yX2_isAt yX2_isAt, .initialized RX2, .code yX2_isAt cX2_isAt 3 (some .boolean), .fieldLink RX2 91 "VaultMovementsModel" "typed" "I", .methodLink RX2 29 yX2_in, .static yX2_in, .code yX2_in cX2_in 3 (some .boolean), .methodLink RX2 104 yX2_stops, .instanceMethod yX2_stops, .selects RX2 yX2_stops yX2_stops, .code yX2_stops cX2_stops 1 (some .boolean), .fieldLink RX2 97 "VaultMovementsModel" "isFault" "Z"] ++ wsX20)
def wsX2_isWinding_r1 : List Cond := [Cond.fieldLink RX2 19 "VaultMovementsModel" "sorts" "[I", Cond.fieldLink RX2 22 "VaultMovementsModel" "many" "[I", Cond.fieldLink RX2 108 "VaultMovementsModel" "value" "I", Cond.fieldLink RX2 94 "VaultMovementsModel" "at" "I", Cond.fieldLink RX2 16 "VaultMovementsModel" "text" "[I", Cond.methodLink RX2 111 yX2_isSign, Cond.instanceMethod yX2_isSign, Cond.selects RX2 yX2_isSign yX2_isSign, Cond.initialized RX2, Cond.code yX2_isSign cX2_isSign 3 (some .boolean), Cond.methodLink RX2 101 yX2_isAt, Cond.instanceMethod yX2_isAt, Cond.selects RX2 yX2_isAt yX2_isAt, Cond.code yX2_isAt cX2_isAt 3 (some .boolean), Cond.fieldLink RX2 91 "VaultMovementsModel" "typed" "I", Cond.methodLink RX2 29 yX2_in, Cond.static yX2_in, Cond.code yX2_in cX2_in 3 (some .boolean), Cond.methodLink RX2 114 yX2_isNumber, Cond.instanceMethod yX2_isNumber, Cond.selects RX2 yX2_isNumber yX2_isNumber, Cond.code yX2_isNumber cX2_isNumber 1 (some .boolean), Cond.methodLink RX2 104 yX2_stops, Cond.instanceMethod yX2_stops]
def wsX2_isWinding_r2 : List Cond := [Cond.selects RX2 yX2_stops yX2_stops, Cond.code yX2_stops cX2_stops 1 (some .boolean), Cond.fieldLink RX2 97 "VaultMovementsModel" "isFault" "Z"]
def wsX2_isWinding : List Cond := .code yX2_isWinding cX2_isWinding 3 (some .boolean) :: ((wsX2_isWinding_r1 ++ wsX2_isWinding_r2) ++ wsX20)
def wsX2_isText_r1 : List Cond := [Cond.fieldLink RX2 94 "VaultMovementsModel" "at" "I", Cond.fieldLink RX2 97 "VaultMovementsModel" "isFault" "Z", Cond.fieldLink RX2 91 "VaultMovementsModel" "typed" "I", Cond.methodLink RX2 111 yX2_isSign, Cond.instanceMethod yX2_isSign, Cond.selects RX2 yX2_isSign yX2_isSign, Cond.initialized RX2, Cond.code yX2_isSign cX2_isSign 3 (some .boolean), Cond.methodLink RX2 101 yX2_isAt, Cond.instanceMethod yX2_isAt, Cond.selects RX2 yX2_isAt yX2_isAt, Cond.code yX2_isAt cX2_isAt 3 (some .boolean), Cond.fieldLink RX2 16 "VaultMovementsModel" "text" "[I", Cond.methodLink RX2 29 yX2_in, Cond.static yX2_in, Cond.code yX2_in cX2_in 3 (some .boolean), Cond.methodLink RX2 104 yX2_stops, Cond.instanceMethod yX2_stops, Cond.selects RX2 yX2_stops yX2_stops, Cond.code yX2_stops cX2_stops 1 (some .boolean), Cond.methodLink RX2 117 yX2_isWinding, Cond.instanceMethod yX2_isWinding, Cond.selects RX2 yX2_isWinding yX2_isWinding, Cond.code yX2_isWinding cX2_isWinding 3 (some .boolean)]
def wsX2_isText_r2 : List Cond := [Cond.fieldLink RX2 19 "VaultMovementsModel" "sorts" "[I", Cond.fieldLink RX2 22 "VaultMovementsModel" "many" "[I", Cond.fieldLink RX2 108 "VaultMovementsModel" "value" "I", Cond.methodLink RX2 114 yX2_isNumber, Cond.instanceMethod yX2_isNumber, Cond.selects RX2 yX2_isNumber yX2_isNumber, Cond.code yX2_isNumber cX2_isNumber 1 (some .boolean)]
def wsX2_isText : List Cond := .code yX2_isText cX2_isText 2 (some .boolean) :: ((wsX2_isText_r1 ++ wsX2_isText_r2) ++ wsX20)
def wsX2_firstError_r1 : List Cond := [Cond.fieldLink RX2 25 "VaultMovementsModel" "thrown" "I", Cond.fieldLink RX2 97 "VaultMovementsModel" "isFault" "Z", Cond.fieldLink RX2 94 "VaultMovementsModel" "at" "I", Cond.fieldLink RX2 91 "VaultMovementsModel" "typed" "I", Cond.methodLink RX2 120 yX2_isText, Cond.instanceMethod yX2_isText, Cond.selects RX2 yX2_isText yX2_isText, Cond.initialized RX2, Cond.code yX2_isText cX2_isText 2 (some .boolean), Cond.methodLink RX2 111 yX2_isSign, Cond.instanceMethod yX2_isSign, Cond.selects RX2 yX2_isSign yX2_isSign, Cond.code yX2_isSign cX2_isSign 3 (some .boolean), Cond.methodLink RX2 101 yX2_isAt, Cond.instanceMethod yX2_isAt, Cond.selects RX2 yX2_isAt yX2_isAt, Cond.code yX2_isAt cX2_isAt 3 (some .boolean), Cond.fieldLink RX2 16 "VaultMovementsModel" "text" "[I", Cond.methodLink RX2 29 yX2_in, Cond.static yX2_in, Cond.code yX2_in cX2_in 3 (some .boolean), Cond.methodLink RX2 104 yX2_stops, Cond.instanceMethod yX2_stops, Cond.selects RX2 yX2_stops yX2_stops]
def wsX2_firstError_r2 : List Cond := [Cond.code yX2_stops cX2_stops 1 (some .boolean), Cond.methodLink RX2 117 yX2_isWinding, Cond.instanceMethod yX2_isWinding, Cond.selects RX2 yX2_isWinding yX2_isWinding, Cond.code yX2_isWinding cX2_isWinding 3 (some .boolean), Cond.fieldLink RX2 19 "VaultMovementsModel" "sorts" "[I", Cond.fieldLink RX2 22 "VaultMovementsModel" "many" "[I", Cond.fieldLink RX2 108 "VaultMovementsModel" "value" "I", Cond.methodLink RX2 114 yX2_isNumber, Cond.instanceMethod yX2_isNumber, Cond.selects RX2 yX2_isNumber yX2_isNumber, Cond.code yX2_isNumber cX2_isNumber 1 (some .boolean)]
def wsX2_firstError : List Cond := .code yX2_firstError cX2_firstError 2 (some .int) :: ((wsX2_firstError_r1 ++ wsX2_firstError_r2) ++ wsX20)
def wsX2_woundBy : List Cond := .code yX2_woundBy cX2_woundBy 2 (some .int) :: ([.fieldLink RX2 19 "VaultMovementsModel" "sorts" "[I", .fieldLink RX2 22 "VaultMovementsModel" "many" "[I", .methodLink RX2 78 yX2_toOpening, .instanceMethod yX2_toOpening, .selects RX2 yX2_toOpening yX2_toOpening, .initialized RX2, .code yX2_toOpening cX2_toOpening 3 (some .int), .fieldLink RX2 7 "VaultMovementsModel" "now" "[I"] ++ wsX20)
def wsX2_mayWind : List Cond := .code yX2_mayWind cX2_mayWind 4 (some .boolean) :: ([.fieldLink RX2 7 "VaultMovementsModel" "now" "[I", .fieldLink RX2 19 "VaultMovementsModel" "sorts" "[I", .methodLink RX2 40 yX2_goes, .instanceMethod yX2_goes, .selects RX2 yX2_goes yX2_goes, .initialized RX2, .code yX2_goes cX2_goes 2 (some .boolean), .methodLink RX2 78 yX2_toOpening, .instanceMethod yX2_toOpening, .selects RX2 yX2_toOpening yX2_toOpening, .code yX2_toOpening cX2_toOpening 3 (some .int), .methodLink RX2 123 yX2_woundBy, .instanceMethod yX2_woundBy, .selects RX2 yX2_woundBy yX2_woundBy, .code yX2_woundBy cX2_woundBy 2 (some .int), .fieldLink RX2 22 "VaultMovementsModel" "many" "[I", .methodLink RX2 29 yX2_in, .static yX2_in, .code yX2_in cX2_in 3 (some .boolean)] ++ wsX20)
def wsX2_windAll_r1 : List Cond := [Cond.fieldLink RX2 25 "VaultMovementsModel" "thrown" "I", Cond.fieldLink RX2 91 "VaultMovementsModel" "typed" "I", Cond.fieldLink RX2 19 "VaultMovementsModel" "sorts" "[I", Cond.fieldLink RX2 7 "VaultMovementsModel" "now" "[I", Cond.methodLink RX2 120 yX2_isText, Cond.instanceMethod yX2_isText, Cond.selects RX2 yX2_isText yX2_isText, Cond.initialized RX2, Cond.code yX2_isText cX2_isText 2 (some .boolean), Cond.fieldLink RX2 94 "VaultMovementsModel" "at" "I", Cond.fieldLink RX2 97 "VaultMovementsModel" "isFault" "Z", Cond.methodLink RX2 111 yX2_isSign, Cond.instanceMethod yX2_isSign, Cond.selects RX2 yX2_isSign yX2_isSign, Cond.code yX2_isSign cX2_isSign 3 (some .boolean), Cond.methodLink RX2 101 yX2_isAt, Cond.instanceMethod yX2_isAt, Cond.selects RX2 yX2_isAt yX2_isAt, Cond.code yX2_isAt cX2_isAt 3 (some .boolean), Cond.fieldLink RX2 16 "VaultMovementsModel" "text" "[I", Cond.methodLink RX2 29 yX2_in, Cond.static yX2_in, Cond.code yX2_in cX2_in 3 (some .boolean), Cond.methodLink RX2 104 yX2_stops]
def wsX2_windAll_r2 : List Cond := [Cond.instanceMethod yX2_stops, Cond.selects RX2 yX2_stops yX2_stops, Cond.code yX2_stops cX2_stops 1 (some .boolean), Cond.methodLink RX2 117 yX2_isWinding, Cond.instanceMethod yX2_isWinding, Cond.selects RX2 yX2_isWinding yX2_isWinding, Cond.code yX2_isWinding cX2_isWinding 3 (some .boolean), Cond.fieldLink RX2 22 "VaultMovementsModel" "many" "[I", Cond.fieldLink RX2 108 "VaultMovementsModel" "value" "I", Cond.methodLink RX2 114 yX2_isNumber, Cond.instanceMethod yX2_isNumber, Cond.selects RX2 yX2_isNumber yX2_isNumber, Cond.code yX2_isNumber cX2_isNumber 1 (some .boolean), Cond.methodLink RX2 36 yX2_fails, Cond.instanceMethod yX2_fails, Cond.selects RX2 yX2_fails yX2_fails, Cond.code yX2_fails cX2_fails 2 (some .int), Cond.methodLink RX2 126 yX2_mayWind, Cond.instanceMethod yX2_mayWind, Cond.selects RX2 yX2_mayWind yX2_mayWind, Cond.code yX2_mayWind cX2_mayWind 4 (some .boolean), Cond.methodLink RX2 40 yX2_goes, Cond.instanceMethod yX2_goes, Cond.selects RX2 yX2_goes yX2_goes]
def wsX2_windAll_r3 : List Cond := [Cond.code yX2_goes cX2_goes 2 (some .boolean), Cond.methodLink RX2 78 yX2_toOpening, Cond.instanceMethod yX2_toOpening, Cond.selects RX2 yX2_toOpening yX2_toOpening, Cond.code yX2_toOpening cX2_toOpening 3 (some .int), Cond.methodLink RX2 123 yX2_woundBy, Cond.instanceMethod yX2_woundBy, Cond.selects RX2 yX2_woundBy yX2_woundBy, Cond.code yX2_woundBy cX2_woundBy 2 (some .int), Cond.methodLink RX2 65 yX2_saves, Cond.instanceMethod yX2_saves, Cond.selects RX2 yX2_saves yX2_saves, Cond.code yX2_saves cX2_saves 2 none, Cond.fieldLink RX2 33 "VaultMovementsModel" "kept" "I", Cond.fieldLink RX2 13 "VaultMovementsModel" "past" "[I"]
def wsX2_windAll : List Cond := .code yX2_windAll cX2_windAll 3 (some .int) :: ((wsX2_windAll_r1 ++ (wsX2_windAll_r2 ++ wsX2_windAll_r3)) ++ wsX20)
def wsX2_ofMovement : List Cond := .code yX2_ofMovement cX2_ofMovement 3 (some .int) :: ([.fieldLink RX2 7 "VaultMovementsModel" "now" "[I", .methodLink RX2 47 yX2_ran, .instanceMethod yX2_ran, .selects RX2 yX2_ran yX2_ran, .initialized RX2, .code yX2_ran cX2_ran 2 (some .int), .methodLink RX2 51 yX2_hours, .instanceMethod yX2_hours, .selects RX2 yX2_hours yX2_hours, .code yX2_hours cX2_hours 2 (some .int), .methodLink RX2 54 yX2_downIn, .instanceMethod yX2_downIn, .selects RX2 yX2_downIn yX2_downIn, .code yX2_downIn cX2_downIn 6 (some .int), .methodLink RX2 40 yX2_goes, .instanceMethod yX2_goes, .selects RX2 yX2_goes yX2_goes, .code yX2_goes cX2_goes 2 (some .boolean), .methodLink RX2 44 yX2_lossOf, .instanceMethod yX2_lossOf, .selects RX2 yX2_lossOf yX2_lossOf, .code yX2_lossOf cX2_lossOf 2 (some .int)] ++ wsX20)
def wsX2_movement_r1 : List Cond := [Cond.fieldLink RX2 25 "VaultMovementsModel" "thrown" "I", Cond.methodLink RX2 75 yX2_isMovement, Cond.static yX2_isMovement, Cond.initialized RX2, Cond.code yX2_isMovement cX2_isMovement 1 (some .boolean), Cond.methodLink RX2 29 yX2_in, Cond.static yX2_in, Cond.code yX2_in cX2_in 3 (some .boolean), Cond.methodLink RX2 36 yX2_fails, Cond.instanceMethod yX2_fails, Cond.selects RX2 yX2_fails yX2_fails, Cond.code yX2_fails cX2_fails 2 (some .int), Cond.methodLink RX2 129 yX2_ofMovement, Cond.instanceMethod yX2_ofMovement, Cond.selects RX2 yX2_ofMovement yX2_ofMovement, Cond.code yX2_ofMovement cX2_ofMovement 3 (some .int), Cond.fieldLink RX2 7 "VaultMovementsModel" "now" "[I", Cond.methodLink RX2 47 yX2_ran, Cond.instanceMethod yX2_ran, Cond.selects RX2 yX2_ran yX2_ran, Cond.code yX2_ran cX2_ran 2 (some .int), Cond.methodLink RX2 51 yX2_hours, Cond.instanceMethod yX2_hours, Cond.selects RX2 yX2_hours yX2_hours]
def wsX2_movement_r2 : List Cond := [Cond.code yX2_hours cX2_hours 2 (some .int), Cond.methodLink RX2 54 yX2_downIn, Cond.instanceMethod yX2_downIn, Cond.selects RX2 yX2_downIn yX2_downIn, Cond.code yX2_downIn cX2_downIn 6 (some .int), Cond.methodLink RX2 40 yX2_goes, Cond.instanceMethod yX2_goes, Cond.selects RX2 yX2_goes yX2_goes, Cond.code yX2_goes cX2_goes 2 (some .boolean), Cond.methodLink RX2 44 yX2_lossOf, Cond.instanceMethod yX2_lossOf, Cond.selects RX2 yX2_lossOf yX2_lossOf, Cond.code yX2_lossOf cX2_lossOf 2 (some .int)]
def wsX2_movement : List Cond := .code yX2_movement cX2_movement 3 (some .int) :: ((wsX2_movement_r1 ++ wsX2_movement_r2) ++ wsX20)
def wsX2_day : List Cond := .code yX2_day cX2_day 2 (some .int) :: ([.fieldLink RX2 25 "VaultMovementsModel" "thrown" "I", .fieldLink RX2 7 "VaultMovementsModel" "now" "[I", .methodLink RX2 62 yX2_isDay, .static yX2_isDay, .initialized RX2, .code yX2_isDay cX2_isDay 1 (some .boolean), .methodLink RX2 29 yX2_in, .static yX2_in, .code yX2_in cX2_in 3 (some .boolean), .methodLink RX2 36 yX2_fails, .instanceMethod yX2_fails, .selects RX2 yX2_fails yX2_fails, .code yX2_fails cX2_fails 2 (some .int)] ++ wsX20)
def wsX2_counted : List Cond := .code yX2_counted cX2_counted 2 (some .int) :: ([.fieldLink RX2 7 "VaultMovementsModel" "now" "[I", .fieldLink RX2 33 "VaultMovementsModel" "kept" "I", .methodLink RX2 78 yX2_toOpening, .instanceMethod yX2_toOpening, .selects RX2 yX2_toOpening yX2_toOpening, .initialized RX2, .code yX2_toOpening cX2_toOpening 3 (some .int), .methodLink RX2 58 yX2_waits, .instanceMethod yX2_waits, .selects RX2 yX2_waits yX2_waits, .code yX2_waits cX2_waits 2 (some .int)] ++ wsX20)
def wsX2_count : List Cond := .code yX2_count cX2_count 2 (some .int) :: ([.fieldLink RX2 25 "VaultMovementsModel" "thrown" "I", .methodLink RX2 29 yX2_in, .static yX2_in, .initialized RX2, .code yX2_in cX2_in 3 (some .boolean), .methodLink RX2 132 yX2_counted, .instanceMethod yX2_counted, .selects RX2 yX2_counted yX2_counted, .code yX2_counted cX2_counted 2 (some .int), .fieldLink RX2 7 "VaultMovementsModel" "now" "[I", .fieldLink RX2 33 "VaultMovementsModel" "kept" "I", .methodLink RX2 78 yX2_toOpening, .instanceMethod yX2_toOpening, .selects RX2 yX2_toOpening yX2_toOpening, .code yX2_toOpening cX2_toOpening 3 (some .int), .methodLink RX2 58 yX2_waits, .instanceMethod yX2_waits, .selects RX2 yX2_waits yX2_waits, .code yX2_waits cX2_waits 2 (some .int), .methodLink RX2 36 yX2_fails, .instanceMethod yX2_fails, .selects RX2 yX2_fails yX2_fails, .code yX2_fails cX2_fails 2 (some .int)] ++ wsX20)
def wsX2_setting : List Cond := .code yX2_setting cX2_setting 2 (some .int) :: ([.fieldLink RX2 25 "VaultMovementsModel" "thrown" "I", .fieldLink RX2 7 "VaultMovementsModel" "now" "[I", .methodLink RX2 29 yX2_in, .static yX2_in, .initialized RX2, .code yX2_in cX2_in 3 (some .boolean), .methodLink RX2 36 yX2_fails, .instanceMethod yX2_fails, .selects RX2 yX2_fails yX2_fails, .code yX2_fails cX2_fails 2 (some .int)] ++ wsX20)
def wsX2_opensIn_r1 : List Cond := [Cond.fieldLink RX2 25 "VaultMovementsModel" "thrown" "I", Cond.methodLink RX2 81 yX2_opensBut, Cond.instanceMethod yX2_opensBut, Cond.selects RX2 yX2_opensBut yX2_opensBut, Cond.initialized RX2, Cond.code yX2_opensBut cX2_opensBut 5 (some .int), Cond.constant RX2 50 (1000000), Cond.fieldLink RX2 7 "VaultMovementsModel" "now" "[I", Cond.methodLink RX2 51 yX2_hours, Cond.instanceMethod yX2_hours, Cond.selects RX2 yX2_hours yX2_hours, Cond.code yX2_hours cX2_hours 2 (some .int), Cond.methodLink RX2 54 yX2_downIn, Cond.instanceMethod yX2_downIn, Cond.selects RX2 yX2_downIn yX2_downIn, Cond.code yX2_downIn cX2_downIn 6 (some .int), Cond.methodLink RX2 40 yX2_goes, Cond.instanceMethod yX2_goes, Cond.selects RX2 yX2_goes yX2_goes, Cond.code yX2_goes cX2_goes 2 (some .boolean), Cond.methodLink RX2 44 yX2_lossOf, Cond.instanceMethod yX2_lossOf, Cond.selects RX2 yX2_lossOf yX2_lossOf, Cond.code yX2_lossOf cX2_lossOf 2 (some .int)]
def wsX2_opensIn_r2 : List Cond := [Cond.methodLink RX2 47 yX2_ran, Cond.instanceMethod yX2_ran, Cond.selects RX2 yX2_ran yX2_ran, Cond.code yX2_ran cX2_ran 2 (some .int), Cond.methodLink RX2 58 yX2_waits, Cond.instanceMethod yX2_waits, Cond.selects RX2 yX2_waits yX2_waits, Cond.code yX2_waits cX2_waits 2 (some .int)]
def wsX2_opensIn : List Cond := .code yX2_opensIn cX2_opensIn 1 (some .int) :: ((wsX2_opensIn_r1 ++ wsX2_opensIn_r2) ++ wsX20)
def wsX2_late_r1 : List Cond := [Cond.fieldLink RX2 7 "VaultMovementsModel" "now" "[I", Cond.methodLink RX2 81 yX2_opensBut, Cond.instanceMethod yX2_opensBut, Cond.selects RX2 yX2_opensBut yX2_opensBut, Cond.initialized RX2, Cond.code yX2_opensBut cX2_opensBut 5 (some .int), Cond.constant RX2 50 (1000000), Cond.methodLink RX2 51 yX2_hours, Cond.instanceMethod yX2_hours, Cond.selects RX2 yX2_hours yX2_hours, Cond.code yX2_hours cX2_hours 2 (some .int), Cond.methodLink RX2 54 yX2_downIn, Cond.instanceMethod yX2_downIn, Cond.selects RX2 yX2_downIn yX2_downIn, Cond.code yX2_downIn cX2_downIn 6 (some .int), Cond.methodLink RX2 40 yX2_goes, Cond.instanceMethod yX2_goes, Cond.selects RX2 yX2_goes yX2_goes, Cond.code yX2_goes cX2_goes 2 (some .boolean), Cond.methodLink RX2 44 yX2_lossOf, Cond.instanceMethod yX2_lossOf, Cond.selects RX2 yX2_lossOf yX2_lossOf, Cond.code yX2_lossOf cX2_lossOf 2 (some .int), Cond.methodLink RX2 47 yX2_ran]
def wsX2_late_r2 : List Cond := [Cond.instanceMethod yX2_ran, Cond.selects RX2 yX2_ran yX2_ran, Cond.code yX2_ran cX2_ran 2 (some .int), Cond.methodLink RX2 58 yX2_waits, Cond.instanceMethod yX2_waits, Cond.selects RX2 yX2_waits yX2_waits, Cond.code yX2_waits cX2_waits 2 (some .int)]
def wsX2_late : List Cond := .code yX2_late cX2_late 2 (some .int) :: ((wsX2_late_r1 ++ wsX2_late_r2) ++ wsX20)
def wsX2_lateness_r1 : List Cond := [Cond.fieldLink RX2 25 "VaultMovementsModel" "thrown" "I", Cond.methodLink RX2 135 yX2_late, Cond.instanceMethod yX2_late, Cond.selects RX2 yX2_late yX2_late, Cond.initialized RX2, Cond.code yX2_late cX2_late 2 (some .int), Cond.fieldLink RX2 7 "VaultMovementsModel" "now" "[I", Cond.methodLink RX2 81 yX2_opensBut, Cond.instanceMethod yX2_opensBut, Cond.selects RX2 yX2_opensBut yX2_opensBut, Cond.code yX2_opensBut cX2_opensBut 5 (some .int), Cond.constant RX2 50 (1000000), Cond.methodLink RX2 51 yX2_hours, Cond.instanceMethod yX2_hours, Cond.selects RX2 yX2_hours yX2_hours, Cond.code yX2_hours cX2_hours 2 (some .int), Cond.methodLink RX2 54 yX2_downIn, Cond.instanceMethod yX2_downIn, Cond.selects RX2 yX2_downIn yX2_downIn, Cond.code yX2_downIn cX2_downIn 6 (some .int), Cond.methodLink RX2 40 yX2_goes, Cond.instanceMethod yX2_goes, Cond.selects RX2 yX2_goes yX2_goes, Cond.code yX2_goes cX2_goes 2 (some .boolean)]
def wsX2_lateness_r2 : List Cond := [Cond.methodLink RX2 44 yX2_lossOf, Cond.instanceMethod yX2_lossOf, Cond.selects RX2 yX2_lossOf yX2_lossOf, Cond.code yX2_lossOf cX2_lossOf 2 (some .int), Cond.methodLink RX2 47 yX2_ran, Cond.instanceMethod yX2_ran, Cond.selects RX2 yX2_ran yX2_ran, Cond.code yX2_ran cX2_ran 2 (some .int), Cond.methodLink RX2 58 yX2_waits, Cond.instanceMethod yX2_waits, Cond.selects RX2 yX2_waits yX2_waits, Cond.code yX2_waits cX2_waits 2 (some .int)]
def wsX2_lateness : List Cond := .code yX2_lateness cX2_lateness 1 (some .int) :: ((wsX2_lateness_r1 ++ wsX2_lateness_r2) ++ wsX20)
def wsX2_key_r1 : List Cond := [Cond.fieldLink RX2 7 "VaultMovementsModel" "now" "[I", Cond.methodLink RX2 40 yX2_goes, Cond.instanceMethod yX2_goes, Cond.selects RX2 yX2_goes yX2_goes, Cond.initialized RX2, Cond.code yX2_goes cX2_goes 2 (some .boolean), Cond.methodLink RX2 81 yX2_opensBut, Cond.instanceMethod yX2_opensBut, Cond.selects RX2 yX2_opensBut yX2_opensBut, Cond.code yX2_opensBut cX2_opensBut 5 (some .int), Cond.constant RX2 50 (1000000), Cond.methodLink RX2 51 yX2_hours, Cond.instanceMethod yX2_hours, Cond.selects RX2 yX2_hours yX2_hours, Cond.code yX2_hours cX2_hours 2 (some .int), Cond.methodLink RX2 54 yX2_downIn, Cond.instanceMethod yX2_downIn, Cond.selects RX2 yX2_downIn yX2_downIn, Cond.code yX2_downIn cX2_downIn 6 (some .int), Cond.methodLink RX2 44 yX2_lossOf, Cond.instanceMethod yX2_lossOf, Cond.selects RX2 yX2_lossOf yX2_lossOf, Cond.code yX2_lossOf cX2_lossOf 2 (some .int), Cond.methodLink RX2 47 yX2_ran]
def wsX2_key_r2 : List Cond := [Cond.instanceMethod yX2_ran, Cond.selects RX2 yX2_ran yX2_ran, Cond.code yX2_ran cX2_ran 2 (some .int), Cond.methodLink RX2 58 yX2_waits, Cond.instanceMethod yX2_waits, Cond.selects RX2 yX2_waits yX2_waits, Cond.code yX2_waits cX2_waits 2 (some .int)]
def wsX2_key : List Cond := .code yX2_key cX2_key 2 (some .int) :: ((wsX2_key_r1 ++ wsX2_key_r2) ++ wsX20)
def wsX2_keyMovement_r1 : List Cond := [Cond.fieldLink RX2 25 "VaultMovementsModel" "thrown" "I", Cond.methodLink RX2 138 yX2_key, Cond.instanceMethod yX2_key, Cond.selects RX2 yX2_key yX2_key, Cond.initialized RX2, Cond.code yX2_key cX2_key 2 (some .int), Cond.fieldLink RX2 7 "VaultMovementsModel" "now" "[I", Cond.methodLink RX2 40 yX2_goes, Cond.instanceMethod yX2_goes, Cond.selects RX2 yX2_goes yX2_goes, Cond.code yX2_goes cX2_goes 2 (some .boolean), Cond.methodLink RX2 81 yX2_opensBut, Cond.instanceMethod yX2_opensBut, Cond.selects RX2 yX2_opensBut yX2_opensBut, Cond.code yX2_opensBut cX2_opensBut 5 (some .int), Cond.constant RX2 50 (1000000), Cond.methodLink RX2 51 yX2_hours, Cond.instanceMethod yX2_hours, Cond.selects RX2 yX2_hours yX2_hours, Cond.code yX2_hours cX2_hours 2 (some .int), Cond.methodLink RX2 54 yX2_downIn, Cond.instanceMethod yX2_downIn, Cond.selects RX2 yX2_downIn yX2_downIn, Cond.code yX2_downIn cX2_downIn 6 (some .int)]
def wsX2_keyMovement_r2 : List Cond := [Cond.methodLink RX2 44 yX2_lossOf, Cond.instanceMethod yX2_lossOf, Cond.selects RX2 yX2_lossOf yX2_lossOf, Cond.code yX2_lossOf cX2_lossOf 2 (some .int), Cond.methodLink RX2 47 yX2_ran, Cond.instanceMethod yX2_ran, Cond.selects RX2 yX2_ran yX2_ran, Cond.code yX2_ran cX2_ran 2 (some .int), Cond.methodLink RX2 58 yX2_waits, Cond.instanceMethod yX2_waits, Cond.selects RX2 yX2_waits yX2_waits, Cond.code yX2_waits cX2_waits 2 (some .int)]
def wsX2_keyMovement : List Cond := .code yX2_keyMovement cX2_keyMovement 1 (some .int) :: ((wsX2_keyMovement_r1 ++ wsX2_keyMovement_r2) ++ wsX20)
def wsX2_right : List Cond := .code yX2_right cX2_right 4 (some .int) :: ([.methodLink RX2 78 yX2_toOpening, .instanceMethod yX2_toOpening, .selects RX2 yX2_toOpening yX2_toOpening, .initialized RX2, .code yX2_toOpening cX2_toOpening 3 (some .int), .fieldLink RX2 7 "VaultMovementsModel" "now" "[I", .methodLink RX2 54 yX2_downIn, .instanceMethod yX2_downIn, .selects RX2 yX2_downIn yX2_downIn, .code yX2_downIn cX2_downIn 6 (some .int), .methodLink RX2 40 yX2_goes, .instanceMethod yX2_goes, .selects RX2 yX2_goes yX2_goes, .code yX2_goes cX2_goes 2 (some .boolean), .methodLink RX2 44 yX2_lossOf, .instanceMethod yX2_lossOf, .selects RX2 yX2_lossOf yX2_lossOf, .code yX2_lossOf cX2_lossOf 2 (some .int), .methodLink RX2 47 yX2_ran, .instanceMethod yX2_ran, .selects RX2 yX2_ran yX2_ran, .code yX2_ran cX2_ran 2 (some .int)] ++ wsX20)
def wsX2_rightWinding_r1 : List Cond := [Cond.fieldLink RX2 25 "VaultMovementsModel" "thrown" "I", Cond.methodLink RX2 75 yX2_isMovement, Cond.static yX2_isMovement, Cond.initialized RX2, Cond.code yX2_isMovement cX2_isMovement 1 (some .boolean), Cond.methodLink RX2 29 yX2_in, Cond.static yX2_in, Cond.code yX2_in cX2_in 3 (some .boolean), Cond.methodLink RX2 141 yX2_right, Cond.instanceMethod yX2_right, Cond.selects RX2 yX2_right yX2_right, Cond.code yX2_right cX2_right 4 (some .int), Cond.methodLink RX2 78 yX2_toOpening, Cond.instanceMethod yX2_toOpening, Cond.selects RX2 yX2_toOpening yX2_toOpening, Cond.code yX2_toOpening cX2_toOpening 3 (some .int), Cond.fieldLink RX2 7 "VaultMovementsModel" "now" "[I", Cond.methodLink RX2 54 yX2_downIn, Cond.instanceMethod yX2_downIn, Cond.selects RX2 yX2_downIn yX2_downIn, Cond.code yX2_downIn cX2_downIn 6 (some .int), Cond.methodLink RX2 40 yX2_goes, Cond.instanceMethod yX2_goes, Cond.selects RX2 yX2_goes yX2_goes]
def wsX2_rightWinding_r2 : List Cond := [Cond.code yX2_goes cX2_goes 2 (some .boolean), Cond.methodLink RX2 44 yX2_lossOf, Cond.instanceMethod yX2_lossOf, Cond.selects RX2 yX2_lossOf yX2_lossOf, Cond.code yX2_lossOf cX2_lossOf 2 (some .int), Cond.methodLink RX2 47 yX2_ran, Cond.instanceMethod yX2_ran, Cond.selects RX2 yX2_ran yX2_ran, Cond.code yX2_ran cX2_ran 2 (some .int), Cond.methodLink RX2 36 yX2_fails, Cond.instanceMethod yX2_fails, Cond.selects RX2 yX2_fails yX2_fails, Cond.code yX2_fails cX2_fails 2 (some .int)]
def wsX2_rightWinding : List Cond := .code yX2_rightWinding cX2_rightWinding 2 (some .int) :: ((wsX2_rightWinding_r1 ++ wsX2_rightWinding_r2) ++ wsX20)
def wsX2_share : List Cond := .code yX2_share cX2_share 2 (some .double) :: ([.fieldLink RX2 7 "VaultMovementsModel" "now" "[I"] ++ wsX20)
def wsX2_punctuality : List Cond := .code yX2_punctuality cX2_punctuality 1 (some .double) :: ([.fieldLink RX2 25 "VaultMovementsModel" "thrown" "I", .methodLink RX2 144 yX2_share, .instanceMethod yX2_share, .selects RX2 yX2_share yX2_share, .initialized RX2, .code yX2_share cX2_share 2 (some .double), .fieldLink RX2 7 "VaultMovementsModel" "now" "[I"] ++ wsX20)
def wsJxe99ae_isNaN_b9ae7 : List Cond := .code yJxe99ae_isNaN_b9ae7 cJxe99ae_isNaN_b9ae7 2 (some .boolean) :: ([])
def wsJxe99ae_doubleToLongBits_ccdee : List Cond := .code yJxe99ae_doubleToLongBits_ccdee cJxe99ae_doubleToLongBits_ccdee 2 (some .long) :: ([.methodLink RJxe99ae 134 ⟨"java/lang/Double", "doubleToRawLongBits", "(D)J"⟩, .native ⟨"java/lang/Double", "doubleToRawLongBits", "(D)J"⟩, .static ⟨"java/lang/Double", "doubleToRawLongBits", "(D)J"⟩, .initialized "java/lang/Double", .constantLong RJxe99ae 137 (9221120237041090560), .methodLink RJxe99ae 122 yJxe99ae_isNaN_b9ae7, .static yJxe99ae_isNaN_b9ae7, .initialized RJxe99ae, .code yJxe99ae_isNaN_b9ae7 cJxe99ae_isNaN_b9ae7 2 (some .boolean)])
def wsX2_digest_r1 : List Cond := [Cond.fieldLink RX2 25 "VaultMovementsModel" "thrown" "I", Cond.constantLong RX2 148 (2699), Cond.constantLong RX2 150 (31), Cond.fieldLink RX2 7 "VaultMovementsModel" "now" "[I", Cond.fieldLink RX2 91 "VaultMovementsModel" "typed" "I", Cond.fieldLink RX2 16 "VaultMovementsModel" "text" "[I", Cond.methodLink RX2 132 yX2_counted, Cond.instanceMethod yX2_counted, Cond.selects RX2 yX2_counted yX2_counted, Cond.initialized RX2, Cond.code yX2_counted cX2_counted 2 (some .int), Cond.fieldLink RX2 33 "VaultMovementsModel" "kept" "I", Cond.methodLink RX2 78 yX2_toOpening, Cond.instanceMethod yX2_toOpening, Cond.selects RX2 yX2_toOpening yX2_toOpening, Cond.code yX2_toOpening cX2_toOpening 3 (some .int), Cond.methodLink RX2 58 yX2_waits, Cond.instanceMethod yX2_waits, Cond.selects RX2 yX2_waits yX2_waits, Cond.code yX2_waits cX2_waits 2 (some .int), Cond.methodLink RX2 129 yX2_ofMovement, Cond.instanceMethod yX2_ofMovement, Cond.selects RX2 yX2_ofMovement yX2_ofMovement, Cond.code yX2_ofMovement cX2_ofMovement 3 (some .int)]
def wsX2_digest_r2 : List Cond := [Cond.methodLink RX2 47 yX2_ran, Cond.instanceMethod yX2_ran, Cond.selects RX2 yX2_ran yX2_ran, Cond.code yX2_ran cX2_ran 2 (some .int), Cond.methodLink RX2 51 yX2_hours, Cond.instanceMethod yX2_hours, Cond.selects RX2 yX2_hours yX2_hours, Cond.code yX2_hours cX2_hours 2 (some .int), Cond.methodLink RX2 54 yX2_downIn, Cond.instanceMethod yX2_downIn, Cond.selects RX2 yX2_downIn yX2_downIn, Cond.code yX2_downIn cX2_downIn 6 (some .int), Cond.methodLink RX2 40 yX2_goes, Cond.instanceMethod yX2_goes, Cond.selects RX2 yX2_goes yX2_goes, Cond.code yX2_goes cX2_goes 2 (some .boolean), Cond.methodLink RX2 44 yX2_lossOf, Cond.instanceMethod yX2_lossOf, Cond.selects RX2 yX2_lossOf yX2_lossOf, Cond.code yX2_lossOf cX2_lossOf 2 (some .int), Cond.methodLink RX2 141 yX2_right, Cond.instanceMethod yX2_right, Cond.selects RX2 yX2_right yX2_right, Cond.code yX2_right cX2_right 4 (some .int)]
def wsX2_digest_r3 : List Cond := [Cond.methodLink RX2 81 yX2_opensBut, Cond.instanceMethod yX2_opensBut, Cond.selects RX2 yX2_opensBut yX2_opensBut, Cond.code yX2_opensBut cX2_opensBut 5 (some .int), Cond.constant RX2 50 (1000000), Cond.methodLink RX2 135 yX2_late, Cond.instanceMethod yX2_late, Cond.selects RX2 yX2_late yX2_late, Cond.code yX2_late cX2_late 2 (some .int), Cond.methodLink RX2 138 yX2_key, Cond.instanceMethod yX2_key, Cond.selects RX2 yX2_key yX2_key, Cond.code yX2_key cX2_key 2 (some .int), Cond.methodLink RX2 144 yX2_share, Cond.instanceMethod yX2_share, Cond.selects RX2 yX2_share yX2_share, Cond.code yX2_share cX2_share 2 (some .double), Cond.methodLink RX2 152 yJxe99ae_doubleToLongBits_ccdee, Cond.static yJxe99ae_doubleToLongBits_ccdee, Cond.initialized RJxe99ae, Cond.code yJxe99ae_doubleToLongBits_ccdee cJxe99ae_doubleToLongBits_ccdee 2 (some .long), Cond.methodLink RJxe99ae 134 ⟨"java/lang/Double", "doubleToRawLongBits", "(D)J"⟩, Cond.native ⟨"java/lang/Double", "doubleToRawLongBits", "(D)J"⟩, Cond.static ⟨"java/lang/Double", "doubleToRawLongBits", "(D)J"⟩]
def wsX2_digest_r4 : List Cond := [Cond.initialized "java/lang/Double", Cond.constantLong RJxe99ae 137 (9221120237041090560), Cond.methodLink RJxe99ae 122 yJxe99ae_isNaN_b9ae7, Cond.static yJxe99ae_isNaN_b9ae7, Cond.code yJxe99ae_isNaN_b9ae7 cJxe99ae_isNaN_b9ae7 2 (some .boolean)]
def wsX2_digest : List Cond := .code yX2_digest cX2_digest 5 (some .long) :: ((wsX2_digest_r1 ++ (wsX2_digest_r2 ++ (wsX2_digest_r3 ++ wsX2_digest_r4))) ++ wsX20)
def wsJ9_max_7cf53 : List Cond := .code yJ9_max_7cf53 cJ9_max_7cf53 2 (some .int) :: ([])
def wsL_opening_r1 : List Cond := [Cond.classLink RL 13 "java/lang/IndexOutOfBoundsException", Cond.classLink RL 15 "java/lang/IllegalArgumentException", Cond.methodLink RL 7 yX1_opening, Cond.instanceMethod yX1_opening, Cond.selects RX1 yX1_opening yX1_opening, Cond.initialized RX1, Cond.code yX1_opening cX1_opening 3 (some .int), Cond.classLink RX1 40 "java/lang/IndexOutOfBoundsException", Cond.initialized "java/lang/IndexOutOfBoundsException", Cond.classLink RX1 47 "java/lang/IllegalArgumentException", Cond.initialized "java/lang/IllegalArgumentException", Cond.methodLink RX1 36 yX1_isDay, Cond.static yX1_isDay, Cond.code yX1_isDay cX1_isDay 1 (some .boolean), Cond.methodLink RX1 52 yX1_change, Cond.instanceMethod yX1_change, Cond.selects RX1 yX1_change yX1_change, Cond.code yX1_change cX1_change 4 (some .int), Cond.fieldLink RX1 9 "VaultMovements" "now" "[I", Cond.methodLink RX1 103 yX1_save, Cond.instanceMethod yX1_save, Cond.selects RX1 yX1_save yX1_save, Cond.code yX1_save cX1_save 1 none, Cond.fieldLink RX1 16 "VaultMovements" "savedStates" "I"]
def wsL_opening_r2 : List Cond := [Cond.fieldLink RX1 13 "VaultMovements" "saved" "[I", Cond.methodLink RX1 163 arraycopyName, Cond.native arraycopyName, Cond.static arraycopyName, Cond.initialized "java/lang/System"]
def wsL_opening : List Cond := .codeWith yL_opening cL_opening 5 (some .int) [(0, 10, 13, 13), (0, 10, 17, 15)] :: ((wsL_opening_r1 ++ wsL_opening_r2) ++ wsX10 ++ (vx_atS RX1 44 "java/lang/IndexOutOfBoundsException" ["java/lang/RuntimeException", "java/lang/Exception"]).filter goodWord ++ (vx_atS RX1 51 "java/lang/IllegalArgumentException" ["java/lang/RuntimeException", "java/lang/Exception"]).filter goodWord)
def wsL_set_r1 : List Cond := [Cond.classLink RL 13 "java/lang/IndexOutOfBoundsException", Cond.classLink RL 15 "java/lang/IllegalArgumentException", Cond.methodLink RL 17 yX1_set, Cond.instanceMethod yX1_set, Cond.selects RX1 yX1_set yX1_set, Cond.initialized RX1, Cond.code yX1_set cX1_set 3 (some .int), Cond.classLink RX1 40 "java/lang/IndexOutOfBoundsException", Cond.initialized "java/lang/IndexOutOfBoundsException", Cond.classLink RX1 47 "java/lang/IllegalArgumentException", Cond.initialized "java/lang/IllegalArgumentException", Cond.fieldLink RX1 61 "VaultMovements" "SETTING_LEAST" "[I", Cond.fieldLink RX1 64 "VaultMovements" "SETTING_MOST" "[I", Cond.methodLink RX1 56 yX1_isSetting, Cond.static yX1_isSetting, Cond.code yX1_isSetting cX1_isSetting 1 (some .boolean), Cond.methodLink RX1 52 yX1_change, Cond.instanceMethod yX1_change, Cond.selects RX1 yX1_change yX1_change, Cond.code yX1_change cX1_change 4 (some .int), Cond.fieldLink RX1 9 "VaultMovements" "now" "[I", Cond.methodLink RX1 103 yX1_save, Cond.instanceMethod yX1_save, Cond.selects RX1 yX1_save yX1_save]
def wsL_set_r2 : List Cond := [Cond.code yX1_save cX1_save 1 none, Cond.fieldLink RX1 16 "VaultMovements" "savedStates" "I", Cond.fieldLink RX1 13 "VaultMovements" "saved" "[I", Cond.methodLink RX1 163 arraycopyName, Cond.native arraycopyName, Cond.static arraycopyName, Cond.initialized "java/lang/System"]
def wsL_set : List Cond := .codeWith yL_set cL_set 5 (some .int) [(0, 10, 13, 13), (0, 10, 17, 15)] :: ((wsL_set_r1 ++ wsL_set_r2) ++ wsX10 ++ (vx_atS RX1 44 "java/lang/IndexOutOfBoundsException" ["java/lang/RuntimeException", "java/lang/Exception"]).filter goodWord ++ (vx_atS RX1 51 "java/lang/IllegalArgumentException" ["java/lang/RuntimeException", "java/lang/Exception"]).filter goodWord)
def wsL_wind_r1 : List Cond := [Cond.classLink RL 13 "java/lang/IndexOutOfBoundsException", Cond.classLink RL 15 "java/lang/IllegalArgumentException", Cond.classLink RL 23 "java/lang/IllegalStateException", Cond.methodLink RL 20 yX1_wind, Cond.instanceMethod yX1_wind, Cond.selects RX1 yX1_wind yX1_wind, Cond.initialized RX1, Cond.code yX1_wind cX1_wind 3 (some .int), Cond.classLink RX1 40 "java/lang/IndexOutOfBoundsException", Cond.initialized "java/lang/IndexOutOfBoundsException", Cond.classLink RX1 47 "java/lang/IllegalArgumentException", Cond.initialized "java/lang/IllegalArgumentException", Cond.classLink RX1 86 "java/lang/IllegalStateException", Cond.initialized "java/lang/IllegalStateException", Cond.methodLink RX1 69 yX1_isMovement, Cond.static yX1_isMovement, Cond.code yX1_isMovement cX1_isMovement 1 (some .boolean), Cond.methodLink RX1 74 yX1_areWindingHours, Cond.static yX1_areWindingHours, Cond.code yX1_areWindingHours cX1_areWindingHours 1 (some .boolean), Cond.methodLink RX1 79 yX1_isLocked, Cond.instanceMethod yX1_isLocked, Cond.selects RX1 yX1_isLocked yX1_isLocked, Cond.code yX1_isLocked cX1_isLocked 1 (some .boolean)]
def wsL_wind_r2 : List Cond := [Cond.fieldLink RX1 9 "VaultMovements" "now" "[I", Cond.methodLink RX1 83 yX1_goes, Cond.instanceMethod yX1_goes, Cond.selects RX1 yX1_goes yX1_goes, Cond.code yX1_goes cX1_goes 2 (some .boolean), Cond.methodLink RX1 91 yX1_place, Cond.static yX1_place, Cond.code yX1_place cX1_place 2 (some .int), Cond.methodLink RX1 52 yX1_change, Cond.instanceMethod yX1_change, Cond.selects RX1 yX1_change yX1_change, Cond.code yX1_change cX1_change 4 (some .int), Cond.methodLink RX1 103 yX1_save, Cond.instanceMethod yX1_save, Cond.selects RX1 yX1_save yX1_save, Cond.code yX1_save cX1_save 1 none, Cond.fieldLink RX1 16 "VaultMovements" "savedStates" "I", Cond.fieldLink RX1 13 "VaultMovements" "saved" "[I", Cond.methodLink RX1 163 arraycopyName, Cond.native arraycopyName, Cond.static arraycopyName, Cond.initialized "java/lang/System"]
def wsL_wind : List Cond := .codeWith yL_wind cL_wind 5 (some .int) [(0, 10, 13, 13), (0, 10, 17, 15), (0, 10, 21, 23)] :: ((wsL_wind_r1 ++ wsL_wind_r2) ++ wsX10 ++ (vx_atS RX1 44 "java/lang/IndexOutOfBoundsException" ["java/lang/RuntimeException", "java/lang/Exception"]).filter goodWord ++ (vx_atS RX1 51 "java/lang/IllegalArgumentException" ["java/lang/RuntimeException", "java/lang/Exception"]).filter goodWord ++ (vx_atS RX1 90 "java/lang/IllegalStateException" ["java/lang/RuntimeException", "java/lang/Exception"]).filter goodWord)
def wsL_fault_r1 : List Cond := [Cond.classLink RL 13 "java/lang/IndexOutOfBoundsException", Cond.methodLink RL 25 yX1_fault, Cond.instanceMethod yX1_fault, Cond.selects RX1 yX1_fault yX1_fault, Cond.initialized RX1, Cond.code yX1_fault cX1_fault 3 (some .int), Cond.classLink RX1 40 "java/lang/IndexOutOfBoundsException", Cond.initialized "java/lang/IndexOutOfBoundsException", Cond.methodLink RX1 69 yX1_isMovement, Cond.static yX1_isMovement, Cond.code yX1_isMovement cX1_isMovement 1 (some .boolean), Cond.methodLink RX1 91 yX1_place, Cond.static yX1_place, Cond.code yX1_place cX1_place 2 (some .int), Cond.methodLink RX1 52 yX1_change, Cond.instanceMethod yX1_change, Cond.selects RX1 yX1_change yX1_change, Cond.code yX1_change cX1_change 4 (some .int), Cond.fieldLink RX1 9 "VaultMovements" "now" "[I", Cond.methodLink RX1 103 yX1_save, Cond.instanceMethod yX1_save, Cond.selects RX1 yX1_save yX1_save, Cond.code yX1_save cX1_save 1 none, Cond.fieldLink RX1 16 "VaultMovements" "savedStates" "I"]
def wsL_fault_r2 : List Cond := [Cond.fieldLink RX1 13 "VaultMovements" "saved" "[I", Cond.methodLink RX1 163 arraycopyName, Cond.native arraycopyName, Cond.static arraycopyName, Cond.initialized "java/lang/System"]
def wsL_fault : List Cond := .codeWith yL_fault cL_fault 5 (some .int) [(0, 10, 13, 13)] :: ((wsL_fault_r1 ++ wsL_fault_r2) ++ wsX10 ++ (vx_atS RX1 44 "java/lang/IndexOutOfBoundsException" ["java/lang/RuntimeException", "java/lang/Exception"]).filter goodWord)
def wsL_loss_r1 : List Cond := [Cond.classLink RL 13 "java/lang/IndexOutOfBoundsException", Cond.classLink RL 15 "java/lang/IllegalArgumentException", Cond.methodLink RL 29 yX1_loss, Cond.instanceMethod yX1_loss, Cond.selects RX1 yX1_loss yX1_loss, Cond.initialized RX1, Cond.code yX1_loss cX1_loss 3 (some .int), Cond.classLink RX1 40 "java/lang/IndexOutOfBoundsException", Cond.initialized "java/lang/IndexOutOfBoundsException", Cond.classLink RX1 47 "java/lang/IllegalArgumentException", Cond.initialized "java/lang/IllegalArgumentException", Cond.methodLink RX1 69 yX1_isMovement, Cond.static yX1_isMovement, Cond.code yX1_isMovement cX1_isMovement 1 (some .boolean), Cond.methodLink RX1 91 yX1_place, Cond.static yX1_place, Cond.code yX1_place cX1_place 2 (some .int), Cond.methodLink RX1 52 yX1_change, Cond.instanceMethod yX1_change, Cond.selects RX1 yX1_change yX1_change, Cond.code yX1_change cX1_change 4 (some .int), Cond.fieldLink RX1 9 "VaultMovements" "now" "[I", Cond.methodLink RX1 103 yX1_save, Cond.instanceMethod yX1_save]
def wsL_loss_r2 : List Cond := [Cond.selects RX1 yX1_save yX1_save, Cond.code yX1_save cX1_save 1 none, Cond.fieldLink RX1 16 "VaultMovements" "savedStates" "I", Cond.fieldLink RX1 13 "VaultMovements" "saved" "[I", Cond.methodLink RX1 163 arraycopyName, Cond.native arraycopyName, Cond.static arraycopyName, Cond.initialized "java/lang/System"]
def wsL_loss : List Cond := .codeWith yL_loss cL_loss 5 (some .int) [(0, 10, 13, 13), (0, 10, 17, 15)] :: ((wsL_loss_r1 ++ wsL_loss_r2) ++ wsX10 ++ (vx_atS RX1 44 "java/lang/IndexOutOfBoundsException" ["java/lang/RuntimeException", "java/lang/Exception"]).filter goodWord ++ (vx_atS RX1 51 "java/lang/IllegalArgumentException" ["java/lang/RuntimeException", "java/lang/Exception"]).filter goodWord)
def wsL_service_r1 : List Cond := [Cond.classLink RL 13 "java/lang/IndexOutOfBoundsException", Cond.classLink RL 23 "java/lang/IllegalStateException", Cond.methodLink RL 32 yX1_service, Cond.instanceMethod yX1_service, Cond.selects RX1 yX1_service yX1_service, Cond.initialized RX1, Cond.code yX1_service cX1_service 3 (some .int), Cond.classLink RX1 40 "java/lang/IndexOutOfBoundsException", Cond.initialized "java/lang/IndexOutOfBoundsException", Cond.classLink RX1 86 "java/lang/IllegalStateException", Cond.initialized "java/lang/IllegalStateException", Cond.fieldLink RX1 9 "VaultMovements" "now" "[I", Cond.methodLink RX1 69 yX1_isMovement, Cond.static yX1_isMovement, Cond.code yX1_isMovement cX1_isMovement 1 (some .boolean), Cond.methodLink RX1 79 yX1_isLocked, Cond.instanceMethod yX1_isLocked, Cond.selects RX1 yX1_isLocked yX1_isLocked, Cond.code yX1_isLocked cX1_isLocked 1 (some .boolean), Cond.methodLink RX1 91 yX1_place, Cond.static yX1_place, Cond.code yX1_place cX1_place 2 (some .int), Cond.methodLink RX1 52 yX1_change, Cond.instanceMethod yX1_change]
def wsL_service_r2 : List Cond := [Cond.selects RX1 yX1_change yX1_change, Cond.code yX1_change cX1_change 4 (some .int), Cond.methodLink RX1 103 yX1_save, Cond.instanceMethod yX1_save, Cond.selects RX1 yX1_save yX1_save, Cond.code yX1_save cX1_save 1 none, Cond.fieldLink RX1 16 "VaultMovements" "savedStates" "I", Cond.fieldLink RX1 13 "VaultMovements" "saved" "[I", Cond.methodLink RX1 163 arraycopyName, Cond.native arraycopyName, Cond.static arraycopyName, Cond.initialized "java/lang/System"]
def wsL_service : List Cond := .codeWith yL_service cL_service 4 (some .int) [(0, 9, 12, 13), (0, 9, 15, 23)] :: ((wsL_service_r1 ++ wsL_service_r2) ++ wsX10 ++ (vx_atS RX1 44 "java/lang/IndexOutOfBoundsException" ["java/lang/RuntimeException", "java/lang/Exception"]).filter goodWord ++ (vx_atS RX1 90 "java/lang/IllegalStateException" ["java/lang/RuntimeException", "java/lang/Exception"]).filter goodWord)
def wsL_lock_r1 : List Cond := [Cond.classLink RL 23 "java/lang/IllegalStateException", Cond.methodLink RL 36 yX1_lock, Cond.instanceMethod yX1_lock, Cond.selects RX1 yX1_lock yX1_lock, Cond.initialized RX1, Cond.code yX1_lock cX1_lock 2 (some .int), Cond.classLink RX1 86 "java/lang/IllegalStateException", Cond.initialized "java/lang/IllegalStateException", Cond.fieldLink RX1 9 "VaultMovements" "now" "[I", Cond.methodLink RX1 79 yX1_isLocked, Cond.instanceMethod yX1_isLocked, Cond.selects RX1 yX1_isLocked yX1_isLocked, Cond.code yX1_isLocked cX1_isLocked 1 (some .boolean), Cond.methodLink RX1 98 yX1_someMovementRuns, Cond.instanceMethod yX1_someMovementRuns, Cond.selects RX1 yX1_someMovementRuns yX1_someMovementRuns, Cond.code yX1_someMovementRuns cX1_someMovementRuns 2 (some .boolean), Cond.methodLink RX1 83 yX1_goes, Cond.instanceMethod yX1_goes, Cond.selects RX1 yX1_goes yX1_goes, Cond.code yX1_goes cX1_goes 2 (some .boolean), Cond.methodLink RX1 91 yX1_place, Cond.static yX1_place, Cond.code yX1_place cX1_place 2 (some .int)]
def wsL_lock_r2 : List Cond := [Cond.methodLink RX1 103 yX1_save, Cond.instanceMethod yX1_save, Cond.selects RX1 yX1_save yX1_save, Cond.code yX1_save cX1_save 1 none, Cond.fieldLink RX1 16 "VaultMovements" "savedStates" "I", Cond.fieldLink RX1 13 "VaultMovements" "saved" "[I", Cond.methodLink RX1 163 arraycopyName, Cond.native arraycopyName, Cond.static arraycopyName, Cond.initialized "java/lang/System", Cond.methodLink RX1 106 yX1_hoursToOpening, Cond.instanceMethod yX1_hoursToOpening, Cond.selects RX1 yX1_hoursToOpening yX1_hoursToOpening, Cond.code yX1_hoursToOpening cX1_hoursToOpening 4 (some .int), Cond.methodLink RX1 214 yX1_today, Cond.instanceMethod yX1_today, Cond.selects RX1 yX1_today yX1_today, Cond.code yX1_today cX1_today 1 (some .int), Cond.methodLink RX1 217 yX1_timeOfDay, Cond.instanceMethod yX1_timeOfDay, Cond.selects RX1 yX1_timeOfDay yX1_timeOfDay, Cond.code yX1_timeOfDay cX1_timeOfDay 1 (some .int)]
def wsL_lock : List Cond := .codeWith yL_lock cL_lock 3 (some .int) [(0, 8, 11, 23)] :: ((wsL_lock_r1 ++ wsL_lock_r2) ++ wsX10 ++ (vx_atS RX1 90 "java/lang/IllegalStateException" ["java/lang/RuntimeException", "java/lang/Exception"]).filter goodWord)
def wsL_open_r1 : List Cond := [Cond.classLink RL 23 "java/lang/IllegalStateException", Cond.methodLink RL 40 yX1_open, Cond.instanceMethod yX1_open, Cond.selects RX1 yX1_open yX1_open, Cond.initialized RX1, Cond.code yX1_open cX1_open 1 (some .int), Cond.classLink RX1 86 "java/lang/IllegalStateException", Cond.initialized "java/lang/IllegalStateException", Cond.methodLink RX1 79 yX1_isLocked, Cond.instanceMethod yX1_isLocked, Cond.selects RX1 yX1_isLocked yX1_isLocked, Cond.code yX1_isLocked cX1_isLocked 1 (some .boolean), Cond.fieldLink RX1 9 "VaultMovements" "now" "[I", Cond.methodLink RX1 103 yX1_save, Cond.instanceMethod yX1_save, Cond.selects RX1 yX1_save yX1_save, Cond.code yX1_save cX1_save 1 none, Cond.fieldLink RX1 16 "VaultMovements" "savedStates" "I", Cond.fieldLink RX1 13 "VaultMovements" "saved" "[I", Cond.methodLink RX1 163 arraycopyName, Cond.native arraycopyName, Cond.static arraycopyName, Cond.initialized "java/lang/System", Cond.methodLink RX1 112 yX1_hoursToOpen]
def wsL_open_r2 : List Cond := [Cond.instanceMethod yX1_hoursToOpen, Cond.selects RX1 yX1_hoursToOpen yX1_hoursToOpen, Cond.code yX1_hoursToOpen cX1_hoursToOpen 5 (some .int), Cond.methodLink RX1 179 Lib.Math.max.name, Cond.static Lib.Math.max.name, Cond.initialized "java/lang/Math", Cond.code Lib.Math.max.name Lib.Math.max.code 2 (some .int), Cond.methodLink RX1 83 yX1_goes, Cond.instanceMethod yX1_goes, Cond.selects RX1 yX1_goes yX1_goes, Cond.code yX1_goes cX1_goes 2 (some .boolean), Cond.methodLink RX1 91 yX1_place, Cond.static yX1_place, Cond.code yX1_place cX1_place 2 (some .int), Cond.methodLink RX1 220 yX1_hoursToRunDown, Cond.instanceMethod yX1_hoursToRunDown, Cond.selects RX1 yX1_hoursToRunDown yX1_hoursToRunDown, Cond.code yX1_hoursToRunDown cX1_hoursToRunDown 6 (some .int), Cond.methodLink RX1 231 yX1_hoursToWait, Cond.instanceMethod yX1_hoursToWait, Cond.selects RX1 yX1_hoursToWait yX1_hoursToWait, Cond.code yX1_hoursToWait cX1_hoursToWait 1 (some .int), Cond.methodLink RX1 116 yX1_countEarlyTry, Cond.instanceMethod yX1_countEarlyTry]
def wsL_open_r3 : List Cond := [Cond.selects RX1 yX1_countEarlyTry yX1_countEarlyTry, Cond.code yX1_countEarlyTry cX1_countEarlyTry 1 none, Cond.methodLink RX1 119 yX1_latenessAfter, Cond.instanceMethod yX1_latenessAfter, Cond.selects RX1 yX1_latenessAfter yX1_latenessAfter, Cond.code yX1_latenessAfter cX1_latenessAfter 2 (some .int), Cond.methodLink RX1 122 yX1_countOpening, Cond.instanceMethod yX1_countOpening, Cond.selects RX1 yX1_countOpening yX1_countOpening, Cond.code yX1_countOpening cX1_countOpening 2 none, Cond.methodLink RX1 126 yX1_leaveOpen, Cond.instanceMethod yX1_leaveOpen, Cond.selects RX1 yX1_leaveOpen yX1_leaveOpen, Cond.code yX1_leaveOpen cX1_leaveOpen 1 none]
def wsL_open : List Cond := .codeWith yL_open cL_open 3 (some .int) [(0, 8, 11, 23)] :: ((wsL_open_r1 ++ (wsL_open_r2 ++ wsL_open_r3)) ++ wsX10 ++ (vx_atS RX1 90 "java/lang/IllegalStateException" ["java/lang/RuntimeException", "java/lang/Exception"]).filter goodWord)
def wsL_drill_r1 : List Cond := [Cond.classLink RL 23 "java/lang/IllegalStateException", Cond.methodLink RL 43 yX1_drill, Cond.instanceMethod yX1_drill, Cond.selects RX1 yX1_drill yX1_drill, Cond.initialized RX1, Cond.code yX1_drill cX1_drill 2 (some .int), Cond.classLink RX1 86 "java/lang/IllegalStateException", Cond.initialized "java/lang/IllegalStateException", Cond.fieldLink RX1 9 "VaultMovements" "now" "[I", Cond.methodLink RX1 79 yX1_isLocked, Cond.instanceMethod yX1_isLocked, Cond.selects RX1 yX1_isLocked yX1_isLocked, Cond.code yX1_isLocked cX1_isLocked 1 (some .boolean), Cond.methodLink RX1 103 yX1_save, Cond.instanceMethod yX1_save, Cond.selects RX1 yX1_save yX1_save, Cond.code yX1_save cX1_save 1 none, Cond.fieldLink RX1 16 "VaultMovements" "savedStates" "I", Cond.fieldLink RX1 13 "VaultMovements" "saved" "[I", Cond.methodLink RX1 163 arraycopyName, Cond.native arraycopyName, Cond.static arraycopyName, Cond.initialized "java/lang/System", Cond.methodLink RX1 91 yX1_place]
def wsL_drill_r2 : List Cond := [Cond.static yX1_place, Cond.code yX1_place cX1_place 2 (some .int), Cond.methodLink RX1 126 yX1_leaveOpen, Cond.instanceMethod yX1_leaveOpen, Cond.selects RX1 yX1_leaveOpen yX1_leaveOpen, Cond.code yX1_leaveOpen cX1_leaveOpen 1 none]
def wsL_drill : List Cond := .codeWith yL_drill cL_drill 3 (some .int) [(0, 8, 11, 23)] :: ((wsL_drill_r1 ++ wsL_drill_r2) ++ wsX10 ++ (vx_atS RX1 90 "java/lang/IllegalStateException" ["java/lang/RuntimeException", "java/lang/Exception"]).filter goodWord)
def wsL_pass_r1 : List Cond := [Cond.classLink RL 15 "java/lang/IllegalArgumentException", Cond.classLink RL 23 "java/lang/IllegalStateException", Cond.methodLink RL 46 yX1_pass, Cond.instanceMethod yX1_pass, Cond.selects RX1 yX1_pass yX1_pass, Cond.initialized RX1, Cond.code yX1_pass cX1_pass 3 (some .int), Cond.classLink RX1 47 "java/lang/IllegalArgumentException", Cond.initialized "java/lang/IllegalArgumentException", Cond.classLink RX1 86 "java/lang/IllegalStateException", Cond.initialized "java/lang/IllegalStateException", Cond.fieldLink RX1 9 "VaultMovements" "now" "[I", Cond.constant RX1 129 (99999), Cond.methodLink RX1 103 yX1_save, Cond.instanceMethod yX1_save, Cond.selects RX1 yX1_save yX1_save, Cond.code yX1_save cX1_save 1 none, Cond.fieldLink RX1 16 "VaultMovements" "savedStates" "I", Cond.fieldLink RX1 13 "VaultMovements" "saved" "[I", Cond.methodLink RX1 163 arraycopyName, Cond.native arraycopyName, Cond.static arraycopyName, Cond.initialized "java/lang/System", Cond.methodLink RX1 132 yX1_passHour]
def wsL_pass_r2 : List Cond := [Cond.instanceMethod yX1_passHour, Cond.selects RX1 yX1_passHour yX1_passHour, Cond.code yX1_passHour cX1_passHour 2 none, Cond.methodLink RX1 79 yX1_isLocked, Cond.instanceMethod yX1_isLocked, Cond.selects RX1 yX1_isLocked yX1_isLocked, Cond.code yX1_isLocked cX1_isLocked 1 (some .boolean), Cond.methodLink RX1 228 yX1_runHour, Cond.instanceMethod yX1_runHour, Cond.selects RX1 yX1_runHour yX1_runHour, Cond.code yX1_runHour cX1_runHour 2 none, Cond.methodLink RX1 83 yX1_goes, Cond.instanceMethod yX1_goes, Cond.selects RX1 yX1_goes yX1_goes, Cond.code yX1_goes cX1_goes 2 (some .boolean), Cond.methodLink RX1 91 yX1_place, Cond.static yX1_place, Cond.code yX1_place cX1_place 2 (some .int), Cond.methodLink RX1 224 yX1_isLostHour, Cond.static yX1_isLostHour, Cond.code yX1_isLostHour cX1_isLostHour 2 (some .boolean), Cond.methodLink RX1 135 yX1_movementsRunDown, Cond.instanceMethod yX1_movementsRunDown, Cond.selects RX1 yX1_movementsRunDown yX1_movementsRunDown]
def wsL_pass_r3 : List Cond := [Cond.code yX1_movementsRunDown cX1_movementsRunDown 3 (some .int)]
def wsL_pass : List Cond := .codeWith yL_pass cL_pass 4 (some .int) [(0, 9, 12, 15), (0, 9, 15, 23)] :: ((wsL_pass_r1 ++ (wsL_pass_r2 ++ wsL_pass_r3)) ++ wsX10 ++ (vx_atS RX1 51 "java/lang/IllegalArgumentException" ["java/lang/RuntimeException", "java/lang/Exception"]).filter goodWord ++ (vx_atS RX1 90 "java/lang/IllegalStateException" ["java/lang/RuntimeException", "java/lang/Exception"]).filter goodWord)
def wsL_append : List Cond := .codeWith yL_append cL_append 4 (some .int) [(0, 9, 12, 15), (0, 9, 15, 23)] :: ([.classLink RL 15 "java/lang/IllegalArgumentException", .classLink RL 23 "java/lang/IllegalStateException", .methodLink RL 49 yX1_append, .instanceMethod yX1_append, .selects RX1 yX1_append yX1_append, .initialized RX1, .code yX1_append cX1_append 2 (some .int), .classLink RX1 47 "java/lang/IllegalArgumentException", .initialized "java/lang/IllegalArgumentException", .classLink RX1 86 "java/lang/IllegalStateException", .initialized "java/lang/IllegalStateException", .fieldLink RX1 23 "VaultMovements" "length" "I", .fieldLink RX1 20 "VaultMovements" "buffer" "[I"] ++ wsX10 ++ (vx_atS RX1 51 "java/lang/IllegalArgumentException" ["java/lang/RuntimeException", "java/lang/Exception"]).filter goodWord ++ (vx_atS RX1 90 "java/lang/IllegalStateException" ["java/lang/RuntimeException", "java/lang/Exception"]).filter goodWord)
def wsL_windAll_r1 : List Cond := [Cond.classLink RL 15 "java/lang/IllegalArgumentException", Cond.classLink RL 23 "java/lang/IllegalStateException", Cond.methodLink RL 52 yX1_windAll, Cond.instanceMethod yX1_windAll, Cond.selects RX1 yX1_windAll yX1_windAll, Cond.initialized RX1, Cond.code yX1_windAll cX1_windAll 4 (some .int), Cond.classLink RX1 47 "java/lang/IllegalArgumentException", Cond.initialized "java/lang/IllegalArgumentException", Cond.classLink RX1 86 "java/lang/IllegalStateException", Cond.initialized "java/lang/IllegalStateException", Cond.fieldLink RX1 23 "VaultMovements" "length" "I", Cond.fieldLink RX1 29 "VaultMovements" "windings" "LVaultMovements$Windings;", Cond.fieldLink RX1 9 "VaultMovements" "now" "[I", Cond.methodLink RX1 142 yX1_readBuffer, Cond.instanceMethod yX1_readBuffer, Cond.selects RX1 yX1_readBuffer yX1_readBuffer, Cond.code yX1_readBuffer cX1_readBuffer 2 (some .int), Cond.fieldLink RX1 20 "VaultMovements" "buffer" "[I", Cond.methodLink RX1 234 yX0_restart, Cond.instanceMethod yX0_restart, Cond.selects RX0 yX0_restart yX0_restart, Cond.initialized RX0, Cond.code yX0_restart cX0_restart 2 none]
def wsL_windAll_r2 : List Cond := [Cond.fieldLink RX0 21 "VaultMovements$Windings" "part" "I", Cond.fieldLink RX0 9 "VaultMovements$Windings" "kinds" "[I", Cond.fieldLink RX0 15 "VaultMovements$Windings" "signs" "[I", Cond.fieldLink RX0 18 "VaultMovements$Windings" "numbers" "[I", Cond.methodLink RX1 237 yX0_take, Cond.instanceMethod yX0_take, Cond.selects RX0 yX0_take yX0_take, Cond.code yX0_take cX0_take 2 (some .boolean), Cond.methodLink RX0 29 yX0_takeComma, Cond.instanceMethod yX0_takeComma, Cond.selects RX0 yX0_takeComma yX0_takeComma, Cond.code yX0_takeComma cX0_takeComma 1 (some .boolean), Cond.methodLink RX0 25 yX0_isPartComplete, Cond.instanceMethod yX0_isPartComplete, Cond.selects RX0 yX0_isPartComplete yX0_isPartComplete, Cond.code yX0_isPartComplete cX0_isPartComplete 1 (some .boolean), Cond.methodLink RX0 32 yX0_takeFirst, Cond.instanceMethod yX0_takeFirst, Cond.selects RX0 yX0_takeFirst yX0_takeFirst, Cond.code yX0_takeFirst cX0_takeFirst 2 (some .boolean), Cond.methodLink RX0 36 yX0_takeNextDigit, Cond.instanceMethod yX0_takeNextDigit, Cond.selects RX0 yX0_takeNextDigit yX0_takeNextDigit, Cond.code yX0_takeNextDigit cX0_takeNextDigit 3 (some .boolean)]
def wsL_windAll_r3 : List Cond := [Cond.methodLink RX0 39 yX0_takeMoreOrLess, Cond.instanceMethod yX0_takeMoreOrLess, Cond.selects RX0 yX0_takeMoreOrLess yX0_takeMoreOrLess, Cond.code yX0_takeMoreOrLess cX0_takeMoreOrLess 2 (some .boolean), Cond.methodLink RX1 145 yX0_areComplete, Cond.instanceMethod yX0_areComplete, Cond.selects RX0 yX0_areComplete yX0_areComplete, Cond.code yX0_areComplete cX0_areComplete 1 (some .boolean), Cond.methodLink RX1 106 yX1_hoursToOpening, Cond.instanceMethod yX1_hoursToOpening, Cond.selects RX1 yX1_hoursToOpening yX1_hoursToOpening, Cond.code yX1_hoursToOpening cX1_hoursToOpening 4 (some .int), Cond.methodLink RX1 214 yX1_today, Cond.instanceMethod yX1_today, Cond.selects RX1 yX1_today yX1_today, Cond.code yX1_today cX1_today 1 (some .int), Cond.methodLink RX1 217 yX1_timeOfDay, Cond.instanceMethod yX1_timeOfDay, Cond.selects RX1 yX1_timeOfDay yX1_timeOfDay, Cond.code yX1_timeOfDay cX1_timeOfDay 1 (some .int), Cond.methodLink RX1 79 yX1_isLocked, Cond.instanceMethod yX1_isLocked, Cond.selects RX1 yX1_isLocked yX1_isLocked, Cond.code yX1_isLocked cX1_isLocked 1 (some .boolean)]
def wsL_windAll_r4 : List Cond := [Cond.methodLink RX1 150 yX1_canWindAll, Cond.instanceMethod yX1_canWindAll, Cond.selects RX1 yX1_canWindAll yX1_canWindAll, Cond.code yX1_canWindAll cX1_canWindAll 3 (some .boolean), Cond.methodLink RX1 155 yX0_winds, Cond.instanceMethod yX0_winds, Cond.selects RX0 yX0_winds yX0_winds, Cond.code yX0_winds cX0_winds 2 (some .boolean), Cond.methodLink RX1 83 yX1_goes, Cond.instanceMethod yX1_goes, Cond.selects RX1 yX1_goes yX1_goes, Cond.code yX1_goes cX1_goes 2 (some .boolean), Cond.methodLink RX1 91 yX1_place, Cond.static yX1_place, Cond.code yX1_place cX1_place 2 (some .int), Cond.methodLink RX1 158 yX0_hours, Cond.instanceMethod yX0_hours, Cond.selects RX0 yX0_hours yX0_hours, Cond.code yX0_hours cX0_hours 3 (some .int), Cond.methodLink RX1 74 yX1_areWindingHours, Cond.static yX1_areWindingHours, Cond.code yX1_areWindingHours cX1_areWindingHours 1 (some .boolean), Cond.methodLink RX1 103 yX1_save, Cond.instanceMethod yX1_save]
def wsL_windAll_r5 : List Cond := [Cond.selects RX1 yX1_save yX1_save, Cond.code yX1_save cX1_save 1 none, Cond.fieldLink RX1 16 "VaultMovements" "savedStates" "I", Cond.fieldLink RX1 13 "VaultMovements" "saved" "[I", Cond.methodLink RX1 163 arraycopyName, Cond.native arraycopyName, Cond.static arraycopyName, Cond.initialized "java/lang/System"]
def wsL_windAll : List Cond := .codeWith yL_windAll cL_windAll 3 (some .int) [(0, 8, 11, 15), (0, 8, 14, 23)] :: ((wsL_windAll_r1 ++ (wsL_windAll_r2 ++ (wsL_windAll_r3 ++ (wsL_windAll_r4 ++ wsL_windAll_r5)))) ++ wsX10 ++ wsX00 ++ (vx_atS RX1 51 "java/lang/IllegalArgumentException" ["java/lang/RuntimeException", "java/lang/Exception"]).filter goodWord ++ (vx_atS RX1 90 "java/lang/IllegalStateException" ["java/lang/RuntimeException", "java/lang/Exception"]).filter goodWord)
def wsL_undo : List Cond := .codeWith yL_undo cL_undo 3 (some .int) [(0, 8, 11, 23)] :: ([.classLink RL 23 "java/lang/IllegalStateException", .methodLink RL 55 yX1_undo, .instanceMethod yX1_undo, .selects RX1 yX1_undo yX1_undo, .initialized RX1, .code yX1_undo cX1_undo 1 (some .int), .classLink RX1 86 "java/lang/IllegalStateException", .initialized "java/lang/IllegalStateException", .fieldLink RX1 16 "VaultMovements" "savedStates" "I", .fieldLink RX1 13 "VaultMovements" "saved" "[I", .fieldLink RX1 9 "VaultMovements" "now" "[I", .methodLink RX1 163 arraycopyName, .native arraycopyName, .static arraycopyName, .initialized "java/lang/System"] ++ wsX10 ++ (vx_atS RX1 90 "java/lang/IllegalStateException" ["java/lang/RuntimeException", "java/lang/Exception"]).filter goodWord)
def wsL_movement_r1 : List Cond := [Cond.classLink RL 13 "java/lang/IndexOutOfBoundsException", Cond.classLink RL 15 "java/lang/IllegalArgumentException", Cond.methodLink RL 58 yX1_movement, Cond.instanceMethod yX1_movement, Cond.selects RX1 yX1_movement yX1_movement, Cond.initialized RX1, Cond.code yX1_movement cX1_movement 3 (some .int), Cond.classLink RX1 40 "java/lang/IndexOutOfBoundsException", Cond.initialized "java/lang/IndexOutOfBoundsException", Cond.classLink RX1 47 "java/lang/IllegalArgumentException", Cond.initialized "java/lang/IllegalArgumentException", Cond.methodLink RX1 69 yX1_isMovement, Cond.static yX1_isMovement, Cond.code yX1_isMovement cX1_isMovement 1 (some .boolean), Cond.methodLink RX1 171 yX1_property, Cond.instanceMethod yX1_property, Cond.selects RX1 yX1_property yX1_property, Cond.code yX1_property cX1_property 3 (some .int), Cond.fieldLink RX1 9 "VaultMovements" "now" "[I", Cond.methodLink RX1 91 yX1_place, Cond.static yX1_place, Cond.code yX1_place cX1_place 2 (some .int), Cond.methodLink RX1 83 yX1_goes, Cond.instanceMethod yX1_goes]
def wsL_movement_r2 : List Cond := [Cond.selects RX1 yX1_goes yX1_goes, Cond.code yX1_goes cX1_goes 2 (some .boolean), Cond.methodLink RX1 220 yX1_hoursToRunDown, Cond.instanceMethod yX1_hoursToRunDown, Cond.selects RX1 yX1_hoursToRunDown yX1_hoursToRunDown, Cond.code yX1_hoursToRunDown cX1_hoursToRunDown 6 (some .int)]
def wsL_movement : List Cond := .codeWith yL_movement cL_movement 5 (some .int) [(0, 10, 13, 13), (0, 10, 17, 15)] :: ((wsL_movement_r1 ++ wsL_movement_r2) ++ wsX10 ++ (vx_atS RX1 44 "java/lang/IndexOutOfBoundsException" ["java/lang/RuntimeException", "java/lang/Exception"]).filter goodWord ++ (vx_atS RX1 51 "java/lang/IllegalArgumentException" ["java/lang/RuntimeException", "java/lang/Exception"]).filter goodWord)
def wsL_day : List Cond := .codeWith yL_day cL_day 4 (some .int) [(0, 9, 12, 13)] :: ([.classLink RL 13 "java/lang/IndexOutOfBoundsException", .methodLink RL 61 yX1_day, .instanceMethod yX1_day, .selects RX1 yX1_day yX1_day, .initialized RX1, .code yX1_day cX1_day 2 (some .int), .classLink RX1 40 "java/lang/IndexOutOfBoundsException", .initialized "java/lang/IndexOutOfBoundsException", .fieldLink RX1 9 "VaultMovements" "now" "[I", .methodLink RX1 36 yX1_isDay, .static yX1_isDay, .code yX1_isDay cX1_isDay 1 (some .boolean)] ++ wsX10 ++ (vx_atS RX1 44 "java/lang/IndexOutOfBoundsException" ["java/lang/RuntimeException", "java/lang/Exception"]).filter goodWord)
def wsL_count_r1 : List Cond := [Cond.classLink RL 15 "java/lang/IllegalArgumentException", Cond.methodLink RL 64 yX1_count, Cond.instanceMethod yX1_count, Cond.selects RX1 yX1_count yX1_count, Cond.initialized RX1, Cond.code yX1_count cX1_count 2 (some .int), Cond.classLink RX1 47 "java/lang/IllegalArgumentException", Cond.initialized "java/lang/IllegalArgumentException", Cond.methodLink RX1 176 yX1_number, Cond.instanceMethod yX1_number, Cond.selects RX1 yX1_number yX1_number, Cond.code yX1_number cX1_number 2 (some .int), Cond.fieldLink RX1 9 "VaultMovements" "now" "[I", Cond.fieldLink RX1 16 "VaultMovements" "savedStates" "I", Cond.methodLink RX1 214 yX1_today, Cond.instanceMethod yX1_today, Cond.selects RX1 yX1_today yX1_today, Cond.code yX1_today cX1_today 1 (some .int), Cond.methodLink RX1 217 yX1_timeOfDay, Cond.instanceMethod yX1_timeOfDay, Cond.selects RX1 yX1_timeOfDay yX1_timeOfDay, Cond.code yX1_timeOfDay cX1_timeOfDay 1 (some .int), Cond.methodLink RX1 106 yX1_hoursToOpening, Cond.instanceMethod yX1_hoursToOpening]
def wsL_count_r2 : List Cond := [Cond.selects RX1 yX1_hoursToOpening yX1_hoursToOpening, Cond.code yX1_hoursToOpening cX1_hoursToOpening 4 (some .int), Cond.methodLink RX1 231 yX1_hoursToWait, Cond.instanceMethod yX1_hoursToWait, Cond.selects RX1 yX1_hoursToWait yX1_hoursToWait, Cond.code yX1_hoursToWait cX1_hoursToWait 1 (some .int), Cond.methodLink RX1 179 Lib.Math.max.name, Cond.static Lib.Math.max.name, Cond.initialized "java/lang/Math", Cond.code Lib.Math.max.name Lib.Math.max.code 2 (some .int)]
def wsL_count : List Cond := .codeWith yL_count cL_count 4 (some .int) [(0, 9, 12, 15)] :: ((wsL_count_r1 ++ wsL_count_r2) ++ wsX10 ++ (vx_atS RX1 51 "java/lang/IllegalArgumentException" ["java/lang/RuntimeException", "java/lang/Exception"]).filter goodWord)
def wsL_setting : List Cond := .codeWith yL_setting cL_setting 4 (some .int) [(0, 9, 12, 13)] :: ([.classLink RL 13 "java/lang/IndexOutOfBoundsException", .methodLink RL 67 yX1_setting, .instanceMethod yX1_setting, .selects RX1 yX1_setting yX1_setting, .initialized RX1, .code yX1_setting cX1_setting 2 (some .int), .classLink RX1 40 "java/lang/IndexOutOfBoundsException", .initialized "java/lang/IndexOutOfBoundsException", .fieldLink RX1 9 "VaultMovements" "now" "[I", .methodLink RX1 56 yX1_isSetting, .static yX1_isSetting, .code yX1_isSetting cX1_isSetting 1 (some .boolean)] ++ wsX10 ++ (vx_atS RX1 44 "java/lang/IndexOutOfBoundsException" ["java/lang/RuntimeException", "java/lang/Exception"]).filter goodWord)
def wsL_rightWinding_r1 : List Cond := [Cond.classLink RL 13 "java/lang/IndexOutOfBoundsException", Cond.methodLink RL 70 yX1_rightWinding, Cond.instanceMethod yX1_rightWinding, Cond.selects RX1 yX1_rightWinding yX1_rightWinding, Cond.initialized RX1, Cond.code yX1_rightWinding cX1_rightWinding 2 (some .int), Cond.classLink RX1 40 "java/lang/IndexOutOfBoundsException", Cond.initialized "java/lang/IndexOutOfBoundsException", Cond.methodLink RX1 69 yX1_isMovement, Cond.static yX1_isMovement, Cond.code yX1_isMovement cX1_isMovement 1 (some .boolean), Cond.methodLink RX1 184 yX1_hoursToWind, Cond.instanceMethod yX1_hoursToWind, Cond.selects RX1 yX1_hoursToWind yX1_hoursToWind, Cond.code yX1_hoursToWind cX1_hoursToWind 6 (some .int), Cond.fieldLink RX1 9 "VaultMovements" "now" "[I", Cond.methodLink RX1 106 yX1_hoursToOpening, Cond.instanceMethod yX1_hoursToOpening, Cond.selects RX1 yX1_hoursToOpening yX1_hoursToOpening, Cond.code yX1_hoursToOpening cX1_hoursToOpening 4 (some .int), Cond.methodLink RX1 214 yX1_today, Cond.instanceMethod yX1_today, Cond.selects RX1 yX1_today yX1_today, Cond.code yX1_today cX1_today 1 (some .int)]
def wsL_rightWinding_r2 : List Cond := [Cond.methodLink RX1 217 yX1_timeOfDay, Cond.instanceMethod yX1_timeOfDay, Cond.selects RX1 yX1_timeOfDay yX1_timeOfDay, Cond.code yX1_timeOfDay cX1_timeOfDay 1 (some .int), Cond.methodLink RX1 91 yX1_place, Cond.static yX1_place, Cond.code yX1_place cX1_place 2 (some .int), Cond.methodLink RX1 83 yX1_goes, Cond.instanceMethod yX1_goes, Cond.selects RX1 yX1_goes yX1_goes, Cond.code yX1_goes cX1_goes 2 (some .boolean), Cond.methodLink RX1 224 yX1_isLostHour, Cond.static yX1_isLostHour, Cond.code yX1_isLostHour cX1_isLostHour 2 (some .boolean), Cond.methodLink RX1 74 yX1_areWindingHours, Cond.static yX1_areWindingHours, Cond.code yX1_areWindingHours cX1_areWindingHours 1 (some .boolean)]
def wsL_rightWinding : List Cond := .codeWith yL_rightWinding cL_rightWinding 4 (some .int) [(0, 9, 12, 13)] :: ((wsL_rightWinding_r1 ++ wsL_rightWinding_r2) ++ wsX10 ++ (vx_atS RX1 44 "java/lang/IndexOutOfBoundsException" ["java/lang/RuntimeException", "java/lang/Exception"]).filter goodWord)
def wsL_law0_r1 : List Cond := [Cond.classLink RL 8 RX1, Cond.instantiable RX1 6, Cond.initialized RX1, Cond.classLink RL 74 RX2, Cond.instantiable RX2 11, Cond.initialized RX2, Cond.arrayClass .long, Cond.methodLink RL 73 yX1_init, Cond.instanceMethod yX1_init, Cond.code yX1_init cX1_init 2 none, Cond.methodLink RX1 3 objectInit, Cond.instanceMethod objectInit, Cond.code objectInit ⟨#[0xb1]⟩ 1 none, Cond.arrayClass .int, Cond.fieldLink RX1 9 "VaultMovements" "now" "[I", Cond.fieldLink RX1 13 "VaultMovements" "saved" "[I", Cond.fieldLink RX1 16 "VaultMovements" "savedStates" "I", Cond.fieldLink RX1 20 "VaultMovements" "buffer" "[I", Cond.fieldLink RX1 23 "VaultMovements" "length" "I", Cond.classLink RX1 26 RX0, Cond.instantiable RX0 4, Cond.initialized RX0, Cond.fieldLink RX1 29 "VaultMovements" "windings" "LVaultMovements$Windings;", Cond.fieldLink RX1 33 "VaultMovements" "SETTING_AT_FIRST" "[I"]
def wsL_law0_r2 : List Cond := [Cond.instanceMethod yX0_init, Cond.code yX0_init cX0_init 1 none, Cond.methodLink RX0 3 objectInit, Cond.fieldLink RX0 9 "VaultMovements$Windings" "kinds" "[I", Cond.fieldLink RX0 15 "VaultMovements$Windings" "signs" "[I", Cond.fieldLink RX0 18 "VaultMovements$Windings" "numbers" "[I", Cond.fieldLink RX0 21 "VaultMovements$Windings" "part" "I", Cond.methodLink RL 76 yX2_init, Cond.instanceMethod yX2_init, Cond.code yX2_init cX2_init 2 none, Cond.methodLink RX2 1 objectInit, Cond.fieldLink RX2 7 "VaultMovementsModel" "now" "[I", Cond.fieldLink RX2 13 "VaultMovementsModel" "past" "[I", Cond.fieldLink RX2 16 "VaultMovementsModel" "text" "[I", Cond.fieldLink RX2 19 "VaultMovementsModel" "sorts" "[I", Cond.fieldLink RX2 22 "VaultMovementsModel" "many" "[I", Cond.methodLink RL 77 yL_opening, Cond.static yL_opening, Cond.initialized RL, Cond.codeWith yL_opening cL_opening 5 (some .int) [(0, 10, 13, 13), (0, 10, 17, 15)], Cond.classLink RL 13 "java/lang/IndexOutOfBoundsException", Cond.classLink RL 15 "java/lang/IllegalArgumentException", Cond.methodLink RL 7 yX1_opening, Cond.instanceMethod yX1_opening]
def wsL_law0_r3 : List Cond := [Cond.selects RX1 yX1_opening yX1_opening, Cond.code yX1_opening cX1_opening 3 (some .int), Cond.classLink RX1 40 "java/lang/IndexOutOfBoundsException", Cond.initialized "java/lang/IndexOutOfBoundsException", Cond.classLink RX1 47 "java/lang/IllegalArgumentException", Cond.initialized "java/lang/IllegalArgumentException", Cond.methodLink RX1 36 yX1_isDay, Cond.static yX1_isDay, Cond.code yX1_isDay cX1_isDay 1 (some .boolean), Cond.methodLink RX1 52 yX1_change, Cond.instanceMethod yX1_change, Cond.selects RX1 yX1_change yX1_change, Cond.code yX1_change cX1_change 4 (some .int), Cond.methodLink RX1 103 yX1_save, Cond.instanceMethod yX1_save, Cond.selects RX1 yX1_save yX1_save, Cond.code yX1_save cX1_save 1 none, Cond.methodLink RX1 163 arraycopyName, Cond.native arraycopyName, Cond.static arraycopyName, Cond.initialized "java/lang/System", Cond.methodLink RL 82 yX2_opening, Cond.instanceMethod yX2_opening, Cond.selects RX2 yX2_opening yX2_opening]
def wsL_law0_r4 : List Cond := [Cond.code yX2_opening cX2_opening 3 (some .int), Cond.fieldLink RX2 25 "VaultMovementsModel" "thrown" "I", Cond.methodLink RX2 62 yX2_isDay, Cond.static yX2_isDay, Cond.code yX2_isDay cX2_isDay 1 (some .boolean), Cond.methodLink RX2 29 yX2_in, Cond.static yX2_in, Cond.code yX2_in cX2_in 3 (some .boolean), Cond.methodLink RX2 36 yX2_fails, Cond.instanceMethod yX2_fails, Cond.selects RX2 yX2_fails yX2_fails, Cond.code yX2_fails cX2_fails 2 (some .int), Cond.methodLink RX2 65 yX2_saves, Cond.instanceMethod yX2_saves, Cond.selects RX2 yX2_saves yX2_saves, Cond.code yX2_saves cX2_saves 2 none, Cond.fieldLink RX2 33 "VaultMovementsModel" "kept" "I", Cond.methodLink RX2 68 yX2_changes, Cond.instanceMethod yX2_changes, Cond.selects RX2 yX2_changes yX2_changes, Cond.code yX2_changes cX2_changes 4 (some .int), Cond.methodLink RL 83 yX2_thrown, Cond.instanceMethod yX2_thrown, Cond.selects RX2 yX2_thrown yX2_thrown]
def wsL_law0_r5 : List Cond := [Cond.code yX2_thrown cX2_thrown 1 (some .int), Cond.methodLink RL 86 yL_set, Cond.static yL_set, Cond.codeWith yL_set cL_set 5 (some .int) [(0, 10, 13, 13), (0, 10, 17, 15)], Cond.methodLink RL 17 yX1_set, Cond.instanceMethod yX1_set, Cond.selects RX1 yX1_set yX1_set, Cond.code yX1_set cX1_set 3 (some .int), Cond.fieldLink RX1 61 "VaultMovements" "SETTING_LEAST" "[I", Cond.fieldLink RX1 64 "VaultMovements" "SETTING_MOST" "[I", Cond.methodLink RX1 56 yX1_isSetting, Cond.static yX1_isSetting, Cond.code yX1_isSetting cX1_isSetting 1 (some .boolean), Cond.methodLink RL 88 yX2_set, Cond.instanceMethod yX2_set, Cond.selects RX2 yX2_set yX2_set, Cond.code yX2_set cX2_set 3 (some .int), Cond.methodLink RX2 71 yX2_isFor, Cond.static yX2_isFor, Cond.code yX2_isFor cX2_isFor 2 (some .boolean), Cond.methodLink RL 89 yL_wind, Cond.static yL_wind, Cond.codeWith yL_wind cL_wind 5 (some .int) [(0, 10, 13, 13), (0, 10, 17, 15), (0, 10, 21, 23)], Cond.classLink RL 23 "java/lang/IllegalStateException"]
def wsL_law0_r6 : List Cond := [Cond.methodLink RL 20 yX1_wind, Cond.instanceMethod yX1_wind, Cond.selects RX1 yX1_wind yX1_wind, Cond.code yX1_wind cX1_wind 3 (some .int), Cond.classLink RX1 86 "java/lang/IllegalStateException", Cond.initialized "java/lang/IllegalStateException", Cond.methodLink RX1 69 yX1_isMovement, Cond.static yX1_isMovement, Cond.code yX1_isMovement cX1_isMovement 1 (some .boolean), Cond.methodLink RX1 74 yX1_areWindingHours, Cond.static yX1_areWindingHours, Cond.code yX1_areWindingHours cX1_areWindingHours 1 (some .boolean), Cond.methodLink RX1 79 yX1_isLocked, Cond.instanceMethod yX1_isLocked, Cond.selects RX1 yX1_isLocked yX1_isLocked, Cond.code yX1_isLocked cX1_isLocked 1 (some .boolean), Cond.methodLink RX1 83 yX1_goes, Cond.instanceMethod yX1_goes, Cond.selects RX1 yX1_goes yX1_goes, Cond.code yX1_goes cX1_goes 2 (some .boolean), Cond.methodLink RX1 91 yX1_place, Cond.static yX1_place, Cond.code yX1_place cX1_place 2 (some .int), Cond.methodLink RL 91 yX2_wind]
def wsL_law0_r7 : List Cond := [Cond.instanceMethod yX2_wind, Cond.selects RX2 yX2_wind yX2_wind, Cond.code yX2_wind cX2_wind 3 (some .int), Cond.methodLink RX2 75 yX2_isMovement, Cond.static yX2_isMovement, Cond.code yX2_isMovement cX2_isMovement 1 (some .boolean), Cond.methodLink RX2 40 yX2_goes, Cond.instanceMethod yX2_goes, Cond.selects RX2 yX2_goes yX2_goes, Cond.code yX2_goes cX2_goes 2 (some .boolean), Cond.methodLink RL 92 yL_fault, Cond.static yL_fault, Cond.codeWith yL_fault cL_fault 5 (some .int) [(0, 10, 13, 13)], Cond.methodLink RL 25 yX1_fault, Cond.instanceMethod yX1_fault, Cond.selects RX1 yX1_fault yX1_fault, Cond.code yX1_fault cX1_fault 3 (some .int), Cond.methodLink RL 95 yX2_fault, Cond.instanceMethod yX2_fault, Cond.selects RX2 yX2_fault yX2_fault, Cond.code yX2_fault cX2_fault 3 (some .int), Cond.methodLink RL 96 yL_loss, Cond.static yL_loss, Cond.codeWith yL_loss cL_loss 5 (some .int) [(0, 10, 13, 13), (0, 10, 17, 15)]]
def wsL_law0_r8 : List Cond := [Cond.methodLink RL 29 yX1_loss, Cond.instanceMethod yX1_loss, Cond.selects RX1 yX1_loss yX1_loss, Cond.code yX1_loss cX1_loss 3 (some .int), Cond.methodLink RL 98 yX2_loss, Cond.instanceMethod yX2_loss, Cond.selects RX2 yX2_loss yX2_loss, Cond.code yX2_loss cX2_loss 3 (some .int), Cond.methodLink RL 99 yL_service, Cond.static yL_service, Cond.codeWith yL_service cL_service 4 (some .int) [(0, 9, 12, 13), (0, 9, 15, 23)], Cond.methodLink RL 32 yX1_service, Cond.instanceMethod yX1_service, Cond.selects RX1 yX1_service yX1_service, Cond.code yX1_service cX1_service 3 (some .int), Cond.methodLink RL 102 yX2_service, Cond.instanceMethod yX2_service, Cond.selects RX2 yX2_service yX2_service, Cond.code yX2_service cX2_service 2 (some .int), Cond.methodLink RL 103 yL_lock, Cond.static yL_lock, Cond.codeWith yL_lock cL_lock 3 (some .int) [(0, 8, 11, 23)], Cond.methodLink RL 36 yX1_lock, Cond.instanceMethod yX1_lock]
def wsL_law0_r9 : List Cond := [Cond.selects RX1 yX1_lock yX1_lock, Cond.code yX1_lock cX1_lock 2 (some .int), Cond.methodLink RX1 98 yX1_someMovementRuns, Cond.instanceMethod yX1_someMovementRuns, Cond.selects RX1 yX1_someMovementRuns yX1_someMovementRuns, Cond.code yX1_someMovementRuns cX1_someMovementRuns 2 (some .boolean), Cond.methodLink RX1 106 yX1_hoursToOpening, Cond.instanceMethod yX1_hoursToOpening, Cond.selects RX1 yX1_hoursToOpening yX1_hoursToOpening, Cond.code yX1_hoursToOpening cX1_hoursToOpening 4 (some .int), Cond.methodLink RX1 214 yX1_today, Cond.instanceMethod yX1_today, Cond.selects RX1 yX1_today yX1_today, Cond.code yX1_today cX1_today 1 (some .int), Cond.methodLink RX1 217 yX1_timeOfDay, Cond.instanceMethod yX1_timeOfDay, Cond.selects RX1 yX1_timeOfDay yX1_timeOfDay, Cond.code yX1_timeOfDay cX1_timeOfDay 1 (some .int), Cond.methodLink RL 106 yX2_lock, Cond.instanceMethod yX2_lock, Cond.selects RX2 yX2_lock yX2_lock, Cond.code yX2_lock cX2_lock 3 (some .int), Cond.methodLink RX2 51 yX2_hours, Cond.instanceMethod yX2_hours]
def wsL_law0_r10 : List Cond := [Cond.selects RX2 yX2_hours yX2_hours, Cond.code yX2_hours cX2_hours 2 (some .int), Cond.methodLink RX2 78 yX2_toOpening, Cond.instanceMethod yX2_toOpening, Cond.selects RX2 yX2_toOpening yX2_toOpening, Cond.code yX2_toOpening cX2_toOpening 3 (some .int), Cond.methodLink RL 107 yL_open, Cond.static yL_open, Cond.codeWith yL_open cL_open 3 (some .int) [(0, 8, 11, 23)], Cond.methodLink RL 40 yX1_open, Cond.instanceMethod yX1_open, Cond.selects RX1 yX1_open yX1_open, Cond.code yX1_open cX1_open 1 (some .int), Cond.methodLink RX1 112 yX1_hoursToOpen, Cond.instanceMethod yX1_hoursToOpen, Cond.selects RX1 yX1_hoursToOpen yX1_hoursToOpen, Cond.code yX1_hoursToOpen cX1_hoursToOpen 5 (some .int), Cond.methodLink RX1 179 Lib.Math.max.name, Cond.static Lib.Math.max.name, Cond.initialized "java/lang/Math", Cond.code Lib.Math.max.name Lib.Math.max.code 2 (some .int), Cond.methodLink RX1 220 yX1_hoursToRunDown, Cond.instanceMethod yX1_hoursToRunDown, Cond.selects RX1 yX1_hoursToRunDown yX1_hoursToRunDown]
def wsL_law0_r11 : List Cond := [Cond.code yX1_hoursToRunDown cX1_hoursToRunDown 6 (some .int), Cond.methodLink RX1 231 yX1_hoursToWait, Cond.instanceMethod yX1_hoursToWait, Cond.selects RX1 yX1_hoursToWait yX1_hoursToWait, Cond.code yX1_hoursToWait cX1_hoursToWait 1 (some .int), Cond.methodLink RX1 116 yX1_countEarlyTry, Cond.instanceMethod yX1_countEarlyTry, Cond.selects RX1 yX1_countEarlyTry yX1_countEarlyTry, Cond.code yX1_countEarlyTry cX1_countEarlyTry 1 none, Cond.methodLink RX1 119 yX1_latenessAfter, Cond.instanceMethod yX1_latenessAfter, Cond.selects RX1 yX1_latenessAfter yX1_latenessAfter, Cond.code yX1_latenessAfter cX1_latenessAfter 2 (some .int), Cond.methodLink RX1 122 yX1_countOpening, Cond.instanceMethod yX1_countOpening, Cond.selects RX1 yX1_countOpening yX1_countOpening, Cond.code yX1_countOpening cX1_countOpening 2 none, Cond.methodLink RX1 126 yX1_leaveOpen, Cond.instanceMethod yX1_leaveOpen, Cond.selects RX1 yX1_leaveOpen yX1_leaveOpen, Cond.code yX1_leaveOpen cX1_leaveOpen 1 none, Cond.methodLink RL 109 yX2_open, Cond.instanceMethod yX2_open, Cond.selects RX2 yX2_open yX2_open]
def wsL_law0_r12 : List Cond := [Cond.code yX2_open cX2_open 2 (some .int), Cond.methodLink RX2 81 yX2_opensBut, Cond.instanceMethod yX2_opensBut, Cond.selects RX2 yX2_opensBut yX2_opensBut, Cond.code yX2_opensBut cX2_opensBut 5 (some .int), Cond.constant RX2 50 (1000000), Cond.methodLink RX2 54 yX2_downIn, Cond.instanceMethod yX2_downIn, Cond.selects RX2 yX2_downIn yX2_downIn, Cond.code yX2_downIn cX2_downIn 6 (some .int), Cond.methodLink RX2 44 yX2_lossOf, Cond.instanceMethod yX2_lossOf, Cond.selects RX2 yX2_lossOf yX2_lossOf, Cond.code yX2_lossOf cX2_lossOf 2 (some .int), Cond.methodLink RX2 47 yX2_ran, Cond.instanceMethod yX2_ran, Cond.selects RX2 yX2_ran yX2_ran, Cond.code yX2_ran cX2_ran 2 (some .int), Cond.methodLink RX2 58 yX2_waits, Cond.instanceMethod yX2_waits, Cond.selects RX2 yX2_waits yX2_waits, Cond.code yX2_waits cX2_waits 2 (some .int), Cond.methodLink RX2 84 yX2_unlocks, Cond.instanceMethod yX2_unlocks]
def wsL_law0_r13 : List Cond := [Cond.selects RX2 yX2_unlocks yX2_unlocks, Cond.code yX2_unlocks cX2_unlocks 1 none, Cond.methodLink RL 110 yL_drill, Cond.static yL_drill, Cond.codeWith yL_drill cL_drill 3 (some .int) [(0, 8, 11, 23)], Cond.methodLink RL 43 yX1_drill, Cond.instanceMethod yX1_drill, Cond.selects RX1 yX1_drill yX1_drill, Cond.code yX1_drill cX1_drill 2 (some .int), Cond.methodLink RL 112 yX2_drill, Cond.instanceMethod yX2_drill, Cond.selects RX2 yX2_drill yX2_drill, Cond.code yX2_drill cX2_drill 2 (some .int), Cond.methodLink RL 113 yL_pass, Cond.static yL_pass, Cond.codeWith yL_pass cL_pass 4 (some .int) [(0, 9, 12, 15), (0, 9, 15, 23)], Cond.methodLink RL 46 yX1_pass, Cond.instanceMethod yX1_pass, Cond.selects RX1 yX1_pass yX1_pass, Cond.code yX1_pass cX1_pass 3 (some .int), Cond.constant RX1 129 (99999), Cond.methodLink RX1 132 yX1_passHour, Cond.instanceMethod yX1_passHour, Cond.selects RX1 yX1_passHour yX1_passHour]
def wsL_law0_r14 : List Cond := [Cond.code yX1_passHour cX1_passHour 2 none, Cond.methodLink RX1 228 yX1_runHour, Cond.instanceMethod yX1_runHour, Cond.selects RX1 yX1_runHour yX1_runHour, Cond.code yX1_runHour cX1_runHour 2 none, Cond.methodLink RX1 224 yX1_isLostHour, Cond.static yX1_isLostHour, Cond.code yX1_isLostHour cX1_isLostHour 2 (some .boolean), Cond.methodLink RX1 135 yX1_movementsRunDown, Cond.instanceMethod yX1_movementsRunDown, Cond.selects RX1 yX1_movementsRunDown yX1_movementsRunDown, Cond.code yX1_movementsRunDown cX1_movementsRunDown 3 (some .int), Cond.methodLink RL 115 yX2_pass, Cond.instanceMethod yX2_pass, Cond.selects RX2 yX2_pass yX2_pass, Cond.code yX2_pass cX2_pass 4 (some .int), Cond.constant RX2 87 (99999), Cond.methodLink RX2 88 yX2_hourGoes, Cond.instanceMethod yX2_hourGoes, Cond.selects RX2 yX2_hourGoes yX2_hourGoes, Cond.code yX2_hourGoes cX2_hourGoes 3 none, Cond.methodLink RL 116 yL_append, Cond.static yL_append, Cond.codeWith yL_append cL_append 4 (some .int) [(0, 9, 12, 15), (0, 9, 15, 23)]]
def wsL_law0_r15 : List Cond := [Cond.methodLink RL 49 yX1_append, Cond.instanceMethod yX1_append, Cond.selects RX1 yX1_append yX1_append, Cond.code yX1_append cX1_append 2 (some .int), Cond.methodLink RL 118 yX2_append, Cond.instanceMethod yX2_append, Cond.selects RX2 yX2_append yX2_append, Cond.code yX2_append cX2_append 2 (some .int), Cond.fieldLink RX2 91 "VaultMovementsModel" "typed" "I", Cond.methodLink RL 119 yX1_clearBuffer, Cond.instanceMethod yX1_clearBuffer, Cond.selects RX1 yX1_clearBuffer yX1_clearBuffer, Cond.code yX1_clearBuffer cX1_clearBuffer 2 (some .int), Cond.methodLink RL 122 yX2_clearBuffer, Cond.instanceMethod yX2_clearBuffer, Cond.selects RX2 yX2_clearBuffer yX2_clearBuffer, Cond.code yX2_clearBuffer cX2_clearBuffer 2 (some .int), Cond.methodLink RL 123 yX1_firstError, Cond.instanceMethod yX1_firstError, Cond.selects RX1 yX1_firstError yX1_firstError, Cond.code yX1_firstError cX1_firstError 1 (some .int), Cond.methodLink RX1 142 yX1_readBuffer, Cond.instanceMethod yX1_readBuffer, Cond.selects RX1 yX1_readBuffer yX1_readBuffer]
def wsL_law0_r16 : List Cond := [Cond.code yX1_readBuffer cX1_readBuffer 2 (some .int), Cond.methodLink RX1 234 yX0_restart, Cond.instanceMethod yX0_restart, Cond.selects RX0 yX0_restart yX0_restart, Cond.code yX0_restart cX0_restart 2 none, Cond.methodLink RX1 237 yX0_take, Cond.instanceMethod yX0_take, Cond.selects RX0 yX0_take yX0_take, Cond.code yX0_take cX0_take 2 (some .boolean), Cond.methodLink RX0 29 yX0_takeComma, Cond.instanceMethod yX0_takeComma, Cond.selects RX0 yX0_takeComma yX0_takeComma, Cond.code yX0_takeComma cX0_takeComma 1 (some .boolean), Cond.methodLink RX0 25 yX0_isPartComplete, Cond.instanceMethod yX0_isPartComplete, Cond.selects RX0 yX0_isPartComplete yX0_isPartComplete, Cond.code yX0_isPartComplete cX0_isPartComplete 1 (some .boolean), Cond.methodLink RX0 32 yX0_takeFirst, Cond.instanceMethod yX0_takeFirst, Cond.selects RX0 yX0_takeFirst yX0_takeFirst, Cond.code yX0_takeFirst cX0_takeFirst 2 (some .boolean), Cond.methodLink RX0 36 yX0_takeNextDigit, Cond.instanceMethod yX0_takeNextDigit, Cond.selects RX0 yX0_takeNextDigit yX0_takeNextDigit]
def wsL_law0_r17 : List Cond := [Cond.code yX0_takeNextDigit cX0_takeNextDigit 3 (some .boolean), Cond.methodLink RX0 39 yX0_takeMoreOrLess, Cond.instanceMethod yX0_takeMoreOrLess, Cond.selects RX0 yX0_takeMoreOrLess yX0_takeMoreOrLess, Cond.code yX0_takeMoreOrLess cX0_takeMoreOrLess 2 (some .boolean), Cond.methodLink RL 126 yX2_firstError, Cond.instanceMethod yX2_firstError, Cond.selects RX2 yX2_firstError yX2_firstError, Cond.code yX2_firstError cX2_firstError 2 (some .int), Cond.fieldLink RX2 97 "VaultMovementsModel" "isFault" "Z", Cond.fieldLink RX2 94 "VaultMovementsModel" "at" "I", Cond.methodLink RX2 120 yX2_isText, Cond.instanceMethod yX2_isText, Cond.selects RX2 yX2_isText yX2_isText, Cond.code yX2_isText cX2_isText 2 (some .boolean), Cond.methodLink RX2 111 yX2_isSign, Cond.instanceMethod yX2_isSign, Cond.selects RX2 yX2_isSign yX2_isSign, Cond.code yX2_isSign cX2_isSign 3 (some .boolean), Cond.methodLink RX2 101 yX2_isAt, Cond.instanceMethod yX2_isAt, Cond.selects RX2 yX2_isAt yX2_isAt, Cond.code yX2_isAt cX2_isAt 3 (some .boolean), Cond.methodLink RX2 104 yX2_stops]
def wsL_law0_r18 : List Cond := [Cond.instanceMethod yX2_stops, Cond.selects RX2 yX2_stops yX2_stops, Cond.code yX2_stops cX2_stops 1 (some .boolean), Cond.methodLink RX2 117 yX2_isWinding, Cond.instanceMethod yX2_isWinding, Cond.selects RX2 yX2_isWinding yX2_isWinding, Cond.code yX2_isWinding cX2_isWinding 3 (some .boolean), Cond.fieldLink RX2 108 "VaultMovementsModel" "value" "I", Cond.methodLink RX2 114 yX2_isNumber, Cond.instanceMethod yX2_isNumber, Cond.selects RX2 yX2_isNumber yX2_isNumber, Cond.code yX2_isNumber cX2_isNumber 1 (some .boolean), Cond.methodLink RL 127 yL_windAll, Cond.static yL_windAll, Cond.codeWith yL_windAll cL_windAll 3 (some .int) [(0, 8, 11, 15), (0, 8, 14, 23)], Cond.methodLink RL 52 yX1_windAll, Cond.instanceMethod yX1_windAll, Cond.selects RX1 yX1_windAll yX1_windAll, Cond.code yX1_windAll cX1_windAll 4 (some .int), Cond.methodLink RX1 145 yX0_areComplete, Cond.instanceMethod yX0_areComplete, Cond.selects RX0 yX0_areComplete yX0_areComplete, Cond.code yX0_areComplete cX0_areComplete 1 (some .boolean), Cond.methodLink RX1 150 yX1_canWindAll]
def wsL_law0_r19 : List Cond := [Cond.instanceMethod yX1_canWindAll, Cond.selects RX1 yX1_canWindAll yX1_canWindAll, Cond.code yX1_canWindAll cX1_canWindAll 3 (some .boolean), Cond.methodLink RX1 155 yX0_winds, Cond.instanceMethod yX0_winds, Cond.selects RX0 yX0_winds yX0_winds, Cond.code yX0_winds cX0_winds 2 (some .boolean), Cond.methodLink RX1 158 yX0_hours, Cond.instanceMethod yX0_hours, Cond.selects RX0 yX0_hours yX0_hours, Cond.code yX0_hours cX0_hours 3 (some .int), Cond.methodLink RL 129 yX2_windAll, Cond.instanceMethod yX2_windAll, Cond.selects RX2 yX2_windAll yX2_windAll, Cond.code yX2_windAll cX2_windAll 3 (some .int), Cond.methodLink RX2 126 yX2_mayWind, Cond.instanceMethod yX2_mayWind, Cond.selects RX2 yX2_mayWind yX2_mayWind, Cond.code yX2_mayWind cX2_mayWind 4 (some .boolean), Cond.methodLink RX2 123 yX2_woundBy, Cond.instanceMethod yX2_woundBy, Cond.selects RX2 yX2_woundBy yX2_woundBy, Cond.code yX2_woundBy cX2_woundBy 2 (some .int), Cond.methodLink RL 130 yL_undo]
def wsL_law0_r20 : List Cond := [Cond.static yL_undo, Cond.codeWith yL_undo cL_undo 3 (some .int) [(0, 8, 11, 23)], Cond.methodLink RL 55 yX1_undo, Cond.instanceMethod yX1_undo, Cond.selects RX1 yX1_undo yX1_undo, Cond.code yX1_undo cX1_undo 1 (some .int), Cond.methodLink RL 132 yX2_undo, Cond.instanceMethod yX2_undo, Cond.selects RX2 yX2_undo yX2_undo, Cond.code yX2_undo cX2_undo 2 (some .int), Cond.methodLink RL 133 yL_movement, Cond.static yL_movement, Cond.codeWith yL_movement cL_movement 5 (some .int) [(0, 10, 13, 13), (0, 10, 17, 15)], Cond.methodLink RL 58 yX1_movement, Cond.instanceMethod yX1_movement, Cond.selects RX1 yX1_movement yX1_movement, Cond.code yX1_movement cX1_movement 3 (some .int), Cond.methodLink RX1 171 yX1_property, Cond.instanceMethod yX1_property, Cond.selects RX1 yX1_property yX1_property, Cond.code yX1_property cX1_property 3 (some .int), Cond.methodLink RL 135 yX2_movement, Cond.instanceMethod yX2_movement, Cond.selects RX2 yX2_movement yX2_movement]
def wsL_law0_r21 : List Cond := [Cond.code yX2_movement cX2_movement 3 (some .int), Cond.methodLink RX2 129 yX2_ofMovement, Cond.instanceMethod yX2_ofMovement, Cond.selects RX2 yX2_ofMovement yX2_ofMovement, Cond.code yX2_ofMovement cX2_ofMovement 3 (some .int), Cond.methodLink RL 136 yL_day, Cond.static yL_day, Cond.codeWith yL_day cL_day 4 (some .int) [(0, 9, 12, 13)], Cond.methodLink RL 61 yX1_day, Cond.instanceMethod yX1_day, Cond.selects RX1 yX1_day yX1_day, Cond.code yX1_day cX1_day 2 (some .int), Cond.methodLink RL 138 yX2_day, Cond.instanceMethod yX2_day, Cond.selects RX2 yX2_day yX2_day, Cond.code yX2_day cX2_day 2 (some .int), Cond.methodLink RL 139 yL_count, Cond.static yL_count, Cond.codeWith yL_count cL_count 4 (some .int) [(0, 9, 12, 15)], Cond.methodLink RL 64 yX1_count, Cond.instanceMethod yX1_count, Cond.selects RX1 yX1_count yX1_count, Cond.code yX1_count cX1_count 2 (some .int), Cond.methodLink RX1 176 yX1_number]
def wsL_law0_r22 : List Cond := [Cond.instanceMethod yX1_number, Cond.selects RX1 yX1_number yX1_number, Cond.code yX1_number cX1_number 2 (some .int), Cond.methodLink RL 141 yX2_count, Cond.instanceMethod yX2_count, Cond.selects RX2 yX2_count yX2_count, Cond.code yX2_count cX2_count 2 (some .int), Cond.methodLink RX2 132 yX2_counted, Cond.instanceMethod yX2_counted, Cond.selects RX2 yX2_counted yX2_counted, Cond.code yX2_counted cX2_counted 2 (some .int), Cond.methodLink RL 142 yL_setting, Cond.static yL_setting, Cond.codeWith yL_setting cL_setting 4 (some .int) [(0, 9, 12, 13)], Cond.methodLink RL 67 yX1_setting, Cond.instanceMethod yX1_setting, Cond.selects RX1 yX1_setting yX1_setting, Cond.code yX1_setting cX1_setting 2 (some .int), Cond.methodLink RL 144 yX2_setting, Cond.instanceMethod yX2_setting, Cond.selects RX2 yX2_setting yX2_setting, Cond.code yX2_setting cX2_setting 2 (some .int), Cond.methodLink RL 145 yX1_opensIn, Cond.instanceMethod yX1_opensIn]
def wsL_law0_r23 : List Cond := [Cond.selects RX1 yX1_opensIn yX1_opensIn, Cond.code yX1_opensIn cX1_opensIn 1 (some .int), Cond.methodLink RL 148 yX2_opensIn, Cond.instanceMethod yX2_opensIn, Cond.selects RX2 yX2_opensIn yX2_opensIn, Cond.code yX2_opensIn cX2_opensIn 1 (some .int), Cond.methodLink RL 149 yX1_lateness, Cond.instanceMethod yX1_lateness, Cond.selects RX1 yX1_lateness yX1_lateness, Cond.code yX1_lateness cX1_lateness 2 (some .int), Cond.methodLink RL 152 yX2_lateness, Cond.instanceMethod yX2_lateness, Cond.selects RX2 yX2_lateness yX2_lateness, Cond.code yX2_lateness cX2_lateness 1 (some .int), Cond.methodLink RX2 135 yX2_late, Cond.instanceMethod yX2_late, Cond.selects RX2 yX2_late yX2_late, Cond.code yX2_late cX2_late 2 (some .int), Cond.methodLink RL 153 yX1_keyMovement, Cond.instanceMethod yX1_keyMovement, Cond.selects RX1 yX1_keyMovement yX1_keyMovement, Cond.code yX1_keyMovement cX1_keyMovement 3 (some .int), Cond.methodLink RL 156 yX2_keyMovement, Cond.instanceMethod yX2_keyMovement]
def wsL_law0_r24 : List Cond := [Cond.selects RX2 yX2_keyMovement yX2_keyMovement, Cond.code yX2_keyMovement cX2_keyMovement 1 (some .int), Cond.methodLink RX2 138 yX2_key, Cond.instanceMethod yX2_key, Cond.selects RX2 yX2_key yX2_key, Cond.code yX2_key cX2_key 2 (some .int), Cond.methodLink RL 157 yL_rightWinding, Cond.static yL_rightWinding, Cond.codeWith yL_rightWinding cL_rightWinding 4 (some .int) [(0, 9, 12, 13)], Cond.methodLink RL 70 yX1_rightWinding, Cond.instanceMethod yX1_rightWinding, Cond.selects RX1 yX1_rightWinding yX1_rightWinding, Cond.code yX1_rightWinding cX1_rightWinding 2 (some .int), Cond.methodLink RX1 184 yX1_hoursToWind, Cond.instanceMethod yX1_hoursToWind, Cond.selects RX1 yX1_hoursToWind yX1_hoursToWind, Cond.code yX1_hoursToWind cX1_hoursToWind 6 (some .int), Cond.methodLink RL 159 yX2_rightWinding, Cond.instanceMethod yX2_rightWinding, Cond.selects RX2 yX2_rightWinding yX2_rightWinding, Cond.code yX2_rightWinding cX2_rightWinding 2 (some .int), Cond.methodLink RX2 141 yX2_right, Cond.instanceMethod yX2_right, Cond.selects RX2 yX2_right yX2_right]
def wsL_law0_r25 : List Cond := [Cond.code yX2_right cX2_right 4 (some .int), Cond.methodLink RL 160 yX1_punctuality, Cond.instanceMethod yX1_punctuality, Cond.selects RX1 yX1_punctuality yX1_punctuality, Cond.code yX1_punctuality cX1_punctuality 2 (some .double), Cond.methodLink RL 164 yX2_punctuality, Cond.instanceMethod yX2_punctuality, Cond.selects RX2 yX2_punctuality yX2_punctuality, Cond.code yX2_punctuality cX2_punctuality 1 (some .double), Cond.methodLink RX2 144 yX2_share, Cond.instanceMethod yX2_share, Cond.selects RX2 yX2_share yX2_share, Cond.code yX2_share cX2_share 2 (some .double), Cond.methodLink RL 165 yX1_digest, Cond.instanceMethod yX1_digest, Cond.selects RX1 yX1_digest yX1_digest, Cond.code yX1_digest cX1_digest 5 (some .long), Cond.constantLong RX1 187 (2699), Cond.constantLong RX1 189 (31), Cond.methodLink RX1 191 yX1_opensIn, Cond.methodLink RX1 194 yX1_lateness, Cond.methodLink RX1 197 yX1_keyMovement, Cond.methodLink RX1 200 yX1_punctuality, Cond.methodLink RX1 204 yX1_bitsOfShare]
def wsL_law0_r26 : List Cond := [Cond.static yX1_bitsOfShare, Cond.code yX1_bitsOfShare cX1_bitsOfShare 8 (some .long), Cond.constantLong RX1 208 (1023), Cond.constantDouble RX1 210 (4611686018427387904), Cond.constantDouble RX1 212 (4841369599423283200), Cond.methodLink RL 169 yX2_digest, Cond.instanceMethod yX2_digest, Cond.selects RX2 yX2_digest yX2_digest, Cond.code yX2_digest cX2_digest 5 (some .long), Cond.constantLong RX2 148 (2699), Cond.constantLong RX2 150 (31), Cond.methodLink RX2 152 yJxe99ae_doubleToLongBits_ccdee, Cond.static yJxe99ae_doubleToLongBits_ccdee, Cond.initialized RJxe99ae, Cond.code yJxe99ae_doubleToLongBits_ccdee cJxe99ae_doubleToLongBits_ccdee 2 (some .long), Cond.methodLink RJxe99ae 134 ⟨"java/lang/Double", "doubleToRawLongBits", "(D)J"⟩, Cond.native ⟨"java/lang/Double", "doubleToRawLongBits", "(D)J"⟩, Cond.static ⟨"java/lang/Double", "doubleToRawLongBits", "(D)J"⟩, Cond.initialized "java/lang/Double", Cond.constantLong RJxe99ae 137 (9221120237041090560), Cond.methodLink RJxe99ae 122 yJxe99ae_isNaN_b9ae7, Cond.static yJxe99ae_isNaN_b9ae7, Cond.code yJxe99ae_isNaN_b9ae7 cJxe99ae_isNaN_b9ae7 2 (some .boolean)]
def wsL_law0 : List Cond := (wsL_law0_r1 ++ (wsL_law0_r2 ++ (wsL_law0_r3 ++ (wsL_law0_r4 ++ (wsL_law0_r5 ++ (wsL_law0_r6 ++ (wsL_law0_r7 ++ (wsL_law0_r8 ++ (wsL_law0_r9 ++ (wsL_law0_r10 ++ (wsL_law0_r11 ++ (wsL_law0_r12 ++ (wsL_law0_r13 ++ (wsL_law0_r14 ++ (wsL_law0_r15 ++ (wsL_law0_r16 ++ (wsL_law0_r17 ++ (wsL_law0_r18 ++ (wsL_law0_r19 ++ (wsL_law0_r20 ++ (wsL_law0_r21 ++ (wsL_law0_r22 ++ (wsL_law0_r23 ++ (wsL_law0_r24 ++ (wsL_law0_r25 ++ wsL_law0_r26))))))))))))))))))))))))) ++ wsX10 ++ wsX20 ++ wsX00 ++ ([] : List Cond)
def wsL_law : List Cond := wsL_law0 ++ (vx_atS RX1 44 "java/lang/IndexOutOfBoundsException" ["java/lang/RuntimeException", "java/lang/Exception"]).filter goodWord ++ (vx_atS RX1 51 "java/lang/IllegalArgumentException" ["java/lang/RuntimeException", "java/lang/Exception"]).filter goodWord ++ (vx_atS RX1 90 "java/lang/IllegalStateException" ["java/lang/RuntimeException", "java/lang/Exception"]).filter goodWord
abbrev vwCl : List vw_C := [(RX0, TX0, 4), (RX1, TX1, 6), (RX2, TX2, 11)]
end
section
theorem dX0_init_0 : decode cX0_init 0 = .ok (.aload_n 0, 1) := by decide +kernel
theorem dX0_init_1 : decode cX0_init 1 = .ok (.invokespecial 3, 3) := by decide +kernel
theorem dX0_init_4 : decode cX0_init 4 = .ok (.aload_n 0, 1) := by decide +kernel
theorem dX0_init_5 : decode cX0_init 5 = .ok (.iconst 3, 1) := by decide +kernel
theorem dX0_init_6 : decode cX0_init 6 = .ok (.newarray .int, 2) := by decide +kernel
theorem dX0_init_8 : decode cX0_init 8 = .ok (.putfield 9, 3) := by decide +kernel
theorem dX0_init_11 : decode cX0_init 11 = .ok (.aload_n 0, 1) := by decide +kernel
theorem dX0_init_12 : decode cX0_init 12 = .ok (.iconst 3, 1) := by decide +kernel
theorem dX0_init_13 : decode cX0_init 13 = .ok (.newarray .int, 2) := by decide +kernel
theorem dX0_init_15 : decode cX0_init 15 = .ok (.putfield 15, 3) := by decide +kernel
theorem dX0_init_18 : decode cX0_init 18 = .ok (.aload_n 0, 1) := by decide +kernel
theorem dX0_init_19 : decode cX0_init 19 = .ok (.iconst 3, 1) := by decide +kernel
theorem dX0_init_20 : decode cX0_init 20 = .ok (.newarray .int, 2) := by decide +kernel
theorem dX0_init_22 : decode cX0_init 22 = .ok (.putfield 18, 3) := by decide +kernel
theorem dX0_init_25 : decode cX0_init 25 = .ok (.aload_n 0, 1) := by decide +kernel
theorem dX0_init_26 : decode cX0_init 26 = .ok (.iconst 0, 1) := by decide +kernel
theorem dX0_init_27 : decode cX0_init 27 = .ok (.putfield 21, 3) := by decide +kernel
theorem dX0_init_30 : decode cX0_init 30 = .ok (.return_, 1) := by decide +kernel
theorem dX0_restart_0 : decode cX0_restart 0 = .ok (.aload_n 0, 1) := by decide +kernel
theorem dX0_restart_1 : decode cX0_restart 1 = .ok (.iconst 0, 1) := by decide +kernel
theorem dX0_restart_2 : decode cX0_restart 2 = .ok (.putfield 21, 3) := by decide +kernel
theorem dX0_restart_5 : decode cX0_restart 5 = .ok (.iconst 0, 1) := by decide +kernel
theorem dX0_restart_6 : decode cX0_restart 6 = .ok (.istore_n 1, 1) := by decide +kernel
theorem dX0_restart_7 : decode cX0_restart 7 = .ok (.iload_n 1, 1) := by decide +kernel
theorem dX0_restart_8 : decode cX0_restart 8 = .ok (.iconst 3, 1) := by decide +kernel
theorem dX0_restart_9 : decode cX0_restart 9 = .ok (.if_icmp .ge 30, 3) := by decide +kernel
theorem dX0_restart_12 : decode cX0_restart 12 = .ok (.aload_n 0, 1) := by decide +kernel
theorem dX0_restart_13 : decode cX0_restart 13 = .ok (.getfield 9, 3) := by decide +kernel
theorem dX0_restart_16 : decode cX0_restart 16 = .ok (.iload_n 1, 1) := by decide +kernel
theorem dX0_restart_17 : decode cX0_restart 17 = .ok (.iconst 0, 1) := by decide +kernel
theorem dX0_restart_18 : decode cX0_restart 18 = .ok (.iastore, 1) := by decide +kernel
theorem dX0_restart_19 : decode cX0_restart 19 = .ok (.aload_n 0, 1) := by decide +kernel
theorem dX0_restart_20 : decode cX0_restart 20 = .ok (.getfield 15, 3) := by decide +kernel
theorem dX0_restart_23 : decode cX0_restart 23 = .ok (.iload_n 1, 1) := by decide +kernel
theorem dX0_restart_24 : decode cX0_restart 24 = .ok (.iconst 0, 1) := by decide +kernel
theorem dX0_restart_25 : decode cX0_restart 25 = .ok (.iastore, 1) := by decide +kernel
theorem dX0_restart_26 : decode cX0_restart 26 = .ok (.aload_n 0, 1) := by decide +kernel
theorem dX0_restart_27 : decode cX0_restart 27 = .ok (.getfield 18, 3) := by decide +kernel
theorem dX0_restart_30 : decode cX0_restart 30 = .ok (.iload_n 1, 1) := by decide +kernel
theorem dX0_restart_31 : decode cX0_restart 31 = .ok (.iconst 0, 1) := by decide +kernel
theorem dX0_restart_32 : decode cX0_restart 32 = .ok (.iastore, 1) := by decide +kernel
theorem dX0_restart_33 : decode cX0_restart 33 = .ok (.iinc 1 1, 3) := by decide +kernel
theorem dX0_restart_36 : decode cX0_restart 36 = .ok (.goto (-29), 3) := by decide +kernel
theorem dX0_restart_39 : decode cX0_restart 39 = .ok (.return_, 1) := by decide +kernel
set_option maxRecDepth 20000 in
theorem ggX0_areComplete_X0_isPartComplete : GoodIn wsX0_areComplete wsX0_isPartComplete := goodIn_r _ [6, 7, 1, 8, 9, 10, 11, 12, 13] (by decide +kernel) (by decide +kernel)
set_option maxRecDepth 20000 in
theorem gX0_areComplete_X0_isPartComplete : GoodIn wsX0_areComplete (wsV RX0 25 RX0 yX0_isPartComplete wsX0_isPartComplete) := goodIn_app (goodIn_of _ (by decide +kernel)) ggX0_areComplete_X0_isPartComplete
theorem dX0_areComplete_0 : decode cX0_areComplete 0 = .ok (.aload_n 0, 1) := by decide +kernel
theorem dX0_areComplete_1 : decode cX0_areComplete 1 = .ok (.getfield 21, 3) := by decide +kernel
theorem dX0_areComplete_4 : decode cX0_areComplete 4 = .ok (.iconst 2, 1) := by decide +kernel
theorem dX0_areComplete_5 : decode cX0_areComplete 5 = .ok (.if_icmp .ne 14, 3) := by decide +kernel
theorem dX0_areComplete_8 : decode cX0_areComplete 8 = .ok (.aload_n 0, 1) := by decide +kernel
theorem dX0_areComplete_9 : decode cX0_areComplete 9 = .ok (.invokevirtual 25, 3) := by decide +kernel
theorem dX0_areComplete_12 : decode cX0_areComplete 12 = .ok (.ifCond .eq 7, 3) := by decide +kernel
theorem dX0_areComplete_15 : decode cX0_areComplete 15 = .ok (.iconst 1, 1) := by decide +kernel
theorem dX0_areComplete_16 : decode cX0_areComplete 16 = .ok (.goto 4, 3) := by decide +kernel
theorem dX0_areComplete_19 : decode cX0_areComplete 19 = .ok (.iconst 0, 1) := by decide +kernel
theorem dX0_areComplete_20 : decode cX0_areComplete 20 = .ok (.ireturn, 1) := by decide +kernel
theorem dX0_winds_0 : decode cX0_winds 0 = .ok (.aload_n 0, 1) := by decide +kernel
theorem dX0_winds_1 : decode cX0_winds 1 = .ok (.getfield 9, 3) := by decide +kernel
theorem dX0_winds_4 : decode cX0_winds 4 = .ok (.iload_n 1, 1) := by decide +kernel
theorem dX0_winds_5 : decode cX0_winds 5 = .ok (.iaload, 1) := by decide +kernel
theorem dX0_winds_6 : decode cX0_winds 6 = .ok (.iconst 1, 1) := by decide +kernel
theorem dX0_winds_7 : decode cX0_winds 7 = .ok (.if_icmp .eq 7, 3) := by decide +kernel
theorem dX0_winds_10 : decode cX0_winds 10 = .ok (.iconst 1, 1) := by decide +kernel
theorem dX0_winds_11 : decode cX0_winds 11 = .ok (.goto 4, 3) := by decide +kernel
theorem dX0_winds_14 : decode cX0_winds 14 = .ok (.iconst 0, 1) := by decide +kernel
theorem dX0_winds_15 : decode cX0_winds 15 = .ok (.ireturn, 1) := by decide +kernel
theorem dX0_hours_0 : decode cX0_hours 0 = .ok (.aload_n 0, 1) := by decide +kernel
theorem dX0_hours_1 : decode cX0_hours 1 = .ok (.getfield 9, 3) := by decide +kernel
theorem dX0_hours_4 : decode cX0_hours 4 = .ok (.iload_n 1, 1) := by decide +kernel
theorem dX0_hours_5 : decode cX0_hours 5 = .ok (.iaload, 1) := by decide +kernel
theorem dX0_hours_6 : decode cX0_hours 6 = .ok (.iconst 2, 1) := by decide +kernel
theorem dX0_hours_7 : decode cX0_hours 7 = .ok (.if_icmp .ne 10, 3) := by decide +kernel
theorem dX0_hours_10 : decode cX0_hours 10 = .ok (.aload_n 0, 1) := by decide +kernel
theorem dX0_hours_11 : decode cX0_hours 11 = .ok (.getfield 18, 3) := by decide +kernel
theorem dX0_hours_14 : decode cX0_hours 14 = .ok (.iload_n 1, 1) := by decide +kernel
theorem dX0_hours_15 : decode cX0_hours 15 = .ok (.iaload, 1) := by decide +kernel
theorem dX0_hours_16 : decode cX0_hours 16 = .ok (.ireturn, 1) := by decide +kernel
theorem dX0_hours_17 : decode cX0_hours 17 = .ok (.iload_n 2, 1) := by decide +kernel
theorem dX0_hours_18 : decode cX0_hours 18 = .ok (.iconst (-1), 1) := by decide +kernel
theorem dX0_hours_19 : decode cX0_hours 19 = .ok (.if_icmp .ne 7, 3) := by decide +kernel
theorem dX0_hours_22 : decode cX0_hours 22 = .ok (.iconst (-1), 1) := by decide +kernel
theorem dX0_hours_23 : decode cX0_hours 23 = .ok (.goto 18, 3) := by decide +kernel
theorem dX0_hours_26 : decode cX0_hours 26 = .ok (.iload_n 2, 1) := by decide +kernel
theorem dX0_hours_27 : decode cX0_hours 27 = .ok (.aload_n 0, 1) := by decide +kernel
theorem dX0_hours_28 : decode cX0_hours 28 = .ok (.getfield 15, 3) := by decide +kernel
theorem dX0_hours_31 : decode cX0_hours 31 = .ok (.iload_n 1, 1) := by decide +kernel
theorem dX0_hours_32 : decode cX0_hours 32 = .ok (.iaload, 1) := by decide +kernel
theorem dX0_hours_33 : decode cX0_hours 33 = .ok (.aload_n 0, 1) := by decide +kernel
theorem dX0_hours_34 : decode cX0_hours 34 = .ok (.getfield 18, 3) := by decide +kernel
theorem dX0_hours_37 : decode cX0_hours 37 = .ok (.iload_n 1, 1) := by decide +kernel
theorem dX0_hours_38 : decode cX0_hours 38 = .ok (.iaload, 1) := by decide +kernel
theorem dX0_hours_39 : decode cX0_hours 39 = .ok (.imul, 1) := by decide +kernel
theorem dX0_hours_40 : decode cX0_hours 40 = .ok (.iadd, 1) := by decide +kernel
theorem dX0_hours_41 : decode cX0_hours 41 = .ok (.ireturn, 1) := by decide +kernel
set_option maxRecDepth 20000 in
theorem ggX0_take_X0_takeComma : GoodIn wsX0_take wsX0_takeComma := goodIn_r _ [7, 2, 8, 9, 10, 6, 11, 1, 12, 13, 26, 27, 28, 29] (by decide +kernel) (by decide +kernel)
set_option maxRecDepth 20000 in
theorem gX0_take_X0_takeComma : GoodIn wsX0_take (wsV RX0 29 RX0 yX0_takeComma wsX0_takeComma) := goodIn_app (goodIn_of _ (by decide +kernel)) ggX0_take_X0_takeComma
set_option maxRecDepth 20000 in
theorem ggX0_take_X0_takeFirst : GoodIn wsX0_take wsX0_takeFirst := goodIn_r _ [17, 1, 2, 13, 26, 27, 28, 29] (by decide +kernel) (by decide +kernel)
set_option maxRecDepth 20000 in
theorem gX0_take_X0_takeFirst : GoodIn wsX0_take (wsV RX0 32 RX0 yX0_takeFirst wsX0_takeFirst) := goodIn_app (goodIn_of _ (by decide +kernel)) ggX0_take_X0_takeFirst
set_option maxRecDepth 20000 in
theorem ggX0_take_X0_takeNextDigit : GoodIn wsX0_take wsX0_takeNextDigit := goodIn_r _ [21, 13, 2, 26, 27, 28, 29] (by decide +kernel) (by decide +kernel)
set_option maxRecDepth 20000 in
theorem gX0_take_X0_takeNextDigit : GoodIn wsX0_take (wsV RX0 36 RX0 yX0_takeNextDigit wsX0_takeNextDigit) := goodIn_app (goodIn_of _ (by decide +kernel)) ggX0_take_X0_takeNextDigit
set_option maxRecDepth 20000 in
theorem ggX0_take_X0_takeMoreOrLess : GoodIn wsX0_take wsX0_takeMoreOrLess := goodIn_r _ [25, 12, 2, 13, 26, 27, 28, 29] (by decide +kernel) (by decide +kernel)
set_option maxRecDepth 20000 in
theorem gX0_take_X0_takeMoreOrLess : GoodIn wsX0_take (wsV RX0 39 RX0 yX0_takeMoreOrLess wsX0_takeMoreOrLess) := goodIn_app (goodIn_of _ (by decide +kernel)) ggX0_take_X0_takeMoreOrLess
theorem dX0_take_0 : decode cX0_take 0 = .ok (.iload_n 1, 1) := by decide +kernel
theorem dX0_take_1 : decode cX0_take 1 = .ok (.bipush 44, 2) := by decide +kernel
theorem dX0_take_3 : decode cX0_take 3 = .ok (.if_icmp .ne 8, 3) := by decide +kernel
theorem dX0_take_6 : decode cX0_take 6 = .ok (.aload_n 0, 1) := by decide +kernel
theorem dX0_take_7 : decode cX0_take 7 = .ok (.invokevirtual 29, 3) := by decide +kernel
theorem dX0_take_10 : decode cX0_take 10 = .ok (.ireturn, 1) := by decide +kernel
theorem dX0_take_11 : decode cX0_take 11 = .ok (.aload_n 0, 1) := by decide +kernel
theorem dX0_take_12 : decode cX0_take 12 = .ok (.getfield 9, 3) := by decide +kernel
theorem dX0_take_15 : decode cX0_take 15 = .ok (.aload_n 0, 1) := by decide +kernel
theorem dX0_take_16 : decode cX0_take 16 = .ok (.getfield 21, 3) := by decide +kernel
theorem dX0_take_19 : decode cX0_take 19 = .ok (.iaload, 1) := by decide +kernel
theorem dX0_take_20 : decode cX0_take 20 = .ok (.tableswitch 50 0 3 #[32, 50, 38, 44], 32) := by decide +kernel
theorem dX0_take_52 : decode cX0_take 52 = .ok (.aload_n 0, 1) := by decide +kernel
theorem dX0_take_53 : decode cX0_take 53 = .ok (.iload_n 1, 1) := by decide +kernel
theorem dX0_take_54 : decode cX0_take 54 = .ok (.invokevirtual 32, 3) := by decide +kernel
theorem dX0_take_57 : decode cX0_take 57 = .ok (.ireturn, 1) := by decide +kernel
theorem dX0_take_58 : decode cX0_take 58 = .ok (.aload_n 0, 1) := by decide +kernel
theorem dX0_take_59 : decode cX0_take 59 = .ok (.iload_n 1, 1) := by decide +kernel
theorem dX0_take_60 : decode cX0_take 60 = .ok (.invokevirtual 36, 3) := by decide +kernel
theorem dX0_take_63 : decode cX0_take 63 = .ok (.ireturn, 1) := by decide +kernel
theorem dX0_take_64 : decode cX0_take 64 = .ok (.aload_n 0, 1) := by decide +kernel
theorem dX0_take_65 : decode cX0_take 65 = .ok (.iload_n 1, 1) := by decide +kernel
theorem dX0_take_66 : decode cX0_take 66 = .ok (.invokevirtual 39, 3) := by decide +kernel
theorem dX0_take_69 : decode cX0_take 69 = .ok (.ireturn, 1) := by decide +kernel
theorem dX0_take_70 : decode cX0_take 70 = .ok (.iconst 0, 1) := by decide +kernel
theorem dX0_take_71 : decode cX0_take 71 = .ok (.ireturn, 1) := by decide +kernel
theorem dX0_isPartComplete_0 : decode cX0_isPartComplete 0 = .ok (.aload_n 0, 1) := by decide +kernel
theorem dX0_isPartComplete_1 : decode cX0_isPartComplete 1 = .ok (.getfield 9, 3) := by decide +kernel
theorem dX0_isPartComplete_4 : decode cX0_isPartComplete 4 = .ok (.aload_n 0, 1) := by decide +kernel
theorem dX0_isPartComplete_5 : decode cX0_isPartComplete 5 = .ok (.getfield 21, 3) := by decide +kernel
theorem dX0_isPartComplete_8 : decode cX0_isPartComplete 8 = .ok (.iaload, 1) := by decide +kernel
theorem dX0_isPartComplete_9 : decode cX0_isPartComplete 9 = .ok (.iconst 3, 1) := by decide +kernel
theorem dX0_isPartComplete_10 : decode cX0_isPartComplete 10 = .ok (.if_icmp .ne 33, 3) := by decide +kernel
theorem dX0_isPartComplete_13 : decode cX0_isPartComplete 13 = .ok (.aload_n 0, 1) := by decide +kernel
theorem dX0_isPartComplete_14 : decode cX0_isPartComplete 14 = .ok (.getfield 15, 3) := by decide +kernel
theorem dX0_isPartComplete_17 : decode cX0_isPartComplete 17 = .ok (.aload_n 0, 1) := by decide +kernel
theorem dX0_isPartComplete_18 : decode cX0_isPartComplete 18 = .ok (.getfield 21, 3) := by decide +kernel
theorem dX0_isPartComplete_21 : decode cX0_isPartComplete 21 = .ok (.iaload, 1) := by decide +kernel
theorem dX0_isPartComplete_22 : decode cX0_isPartComplete 22 = .ok (.ifCond .eq 15, 3) := by decide +kernel
theorem dX0_isPartComplete_25 : decode cX0_isPartComplete 25 = .ok (.aload_n 0, 1) := by decide +kernel
theorem dX0_isPartComplete_26 : decode cX0_isPartComplete 26 = .ok (.getfield 18, 3) := by decide +kernel
theorem dX0_isPartComplete_29 : decode cX0_isPartComplete 29 = .ok (.aload_n 0, 1) := by decide +kernel
theorem dX0_isPartComplete_30 : decode cX0_isPartComplete 30 = .ok (.getfield 21, 3) := by decide +kernel
theorem dX0_isPartComplete_33 : decode cX0_isPartComplete 33 = .ok (.iaload, 1) := by decide +kernel
theorem dX0_isPartComplete_34 : decode cX0_isPartComplete 34 = .ok (.ifCond .le 7, 3) := by decide +kernel
theorem dX0_isPartComplete_37 : decode cX0_isPartComplete 37 = .ok (.iconst 1, 1) := by decide +kernel
theorem dX0_isPartComplete_38 : decode cX0_isPartComplete 38 = .ok (.goto 4, 3) := by decide +kernel
theorem dX0_isPartComplete_41 : decode cX0_isPartComplete 41 = .ok (.iconst 0, 1) := by decide +kernel
theorem dX0_isPartComplete_42 : decode cX0_isPartComplete 42 = .ok (.ireturn, 1) := by decide +kernel
theorem dX0_isPartComplete_43 : decode cX0_isPartComplete 43 = .ok (.aload_n 0, 1) := by decide +kernel
theorem dX0_isPartComplete_44 : decode cX0_isPartComplete 44 = .ok (.getfield 9, 3) := by decide +kernel
theorem dX0_isPartComplete_47 : decode cX0_isPartComplete 47 = .ok (.aload_n 0, 1) := by decide +kernel
theorem dX0_isPartComplete_48 : decode cX0_isPartComplete 48 = .ok (.getfield 21, 3) := by decide +kernel
theorem dX0_isPartComplete_51 : decode cX0_isPartComplete 51 = .ok (.iaload, 1) := by decide +kernel
theorem dX0_isPartComplete_52 : decode cX0_isPartComplete 52 = .ok (.ifCond .eq 7, 3) := by decide +kernel
theorem dX0_isPartComplete_55 : decode cX0_isPartComplete 55 = .ok (.iconst 1, 1) := by decide +kernel
theorem dX0_isPartComplete_56 : decode cX0_isPartComplete 56 = .ok (.goto 4, 3) := by decide +kernel
theorem dX0_isPartComplete_59 : decode cX0_isPartComplete 59 = .ok (.iconst 0, 1) := by decide +kernel
theorem dX0_isPartComplete_60 : decode cX0_isPartComplete 60 = .ok (.ireturn, 1) := by decide +kernel
set_option maxRecDepth 20000 in
theorem ggX0_takeComma_X0_isPartComplete : GoodIn wsX0_takeComma wsX0_isPartComplete := goodIn_r _ [6, 7, 1, 8, 9, 10, 11, 12, 13] (by decide +kernel) (by decide +kernel)
set_option maxRecDepth 20000 in
theorem gX0_takeComma_X0_isPartComplete : GoodIn wsX0_takeComma (wsV RX0 25 RX0 yX0_isPartComplete wsX0_isPartComplete) := goodIn_app (goodIn_of _ (by decide +kernel)) ggX0_takeComma_X0_isPartComplete
theorem dX0_takeComma_0 : decode cX0_takeComma 0 = .ok (.aload_n 0, 1) := by decide +kernel
theorem dX0_takeComma_1 : decode cX0_takeComma 1 = .ok (.getfield 21, 3) := by decide +kernel
theorem dX0_takeComma_4 : decode cX0_takeComma 4 = .ok (.iconst 2, 1) := by decide +kernel
theorem dX0_takeComma_5 : decode cX0_takeComma 5 = .ok (.if_icmp .ge 10, 3) := by decide +kernel
theorem dX0_takeComma_8 : decode cX0_takeComma 8 = .ok (.aload_n 0, 1) := by decide +kernel
theorem dX0_takeComma_9 : decode cX0_takeComma 9 = .ok (.invokevirtual 25, 3) := by decide +kernel
theorem dX0_takeComma_12 : decode cX0_takeComma 12 = .ok (.ifCond .ne 5, 3) := by decide +kernel
theorem dX0_takeComma_15 : decode cX0_takeComma 15 = .ok (.iconst 0, 1) := by decide +kernel
theorem dX0_takeComma_16 : decode cX0_takeComma 16 = .ok (.ireturn, 1) := by decide +kernel
theorem dX0_takeComma_17 : decode cX0_takeComma 17 = .ok (.aload_n 0, 1) := by decide +kernel
theorem dX0_takeComma_18 : decode cX0_takeComma 18 = .ok (.dup, 1) := by decide +kernel
theorem dX0_takeComma_19 : decode cX0_takeComma 19 = .ok (.getfield 21, 3) := by decide +kernel
theorem dX0_takeComma_22 : decode cX0_takeComma 22 = .ok (.iconst 1, 1) := by decide +kernel
theorem dX0_takeComma_23 : decode cX0_takeComma 23 = .ok (.iadd, 1) := by decide +kernel
theorem dX0_takeComma_24 : decode cX0_takeComma 24 = .ok (.putfield 21, 3) := by decide +kernel
theorem dX0_takeComma_27 : decode cX0_takeComma 27 = .ok (.iconst 1, 1) := by decide +kernel
theorem dX0_takeComma_28 : decode cX0_takeComma 28 = .ok (.ireturn, 1) := by decide +kernel
theorem dX0_takeFirst_0 : decode cX0_takeFirst 0 = .ok (.iload_n 1, 1) := by decide +kernel
theorem dX0_takeFirst_1 : decode cX0_takeFirst 1 = .ok (.bipush 45, 2) := by decide +kernel
theorem dX0_takeFirst_3 : decode cX0_takeFirst 3 = .ok (.if_icmp .ne 16, 3) := by decide +kernel
theorem dX0_takeFirst_6 : decode cX0_takeFirst 6 = .ok (.aload_n 0, 1) := by decide +kernel
theorem dX0_takeFirst_7 : decode cX0_takeFirst 7 = .ok (.getfield 9, 3) := by decide +kernel
theorem dX0_takeFirst_10 : decode cX0_takeFirst 10 = .ok (.aload_n 0, 1) := by decide +kernel
theorem dX0_takeFirst_11 : decode cX0_takeFirst 11 = .ok (.getfield 21, 3) := by decide +kernel
theorem dX0_takeFirst_14 : decode cX0_takeFirst 14 = .ok (.iconst 1, 1) := by decide +kernel
theorem dX0_takeFirst_15 : decode cX0_takeFirst 15 = .ok (.iastore, 1) := by decide +kernel
theorem dX0_takeFirst_16 : decode cX0_takeFirst 16 = .ok (.goto 62, 3) := by decide +kernel
theorem dX0_takeFirst_19 : decode cX0_takeFirst 19 = .ok (.iload_n 1, 1) := by decide +kernel
theorem dX0_takeFirst_20 : decode cX0_takeFirst 20 = .ok (.bipush 110, 2) := by decide +kernel
theorem dX0_takeFirst_22 : decode cX0_takeFirst 22 = .ok (.if_icmp .ne 16, 3) := by decide +kernel
theorem dX0_takeFirst_25 : decode cX0_takeFirst 25 = .ok (.aload_n 0, 1) := by decide +kernel
theorem dX0_takeFirst_26 : decode cX0_takeFirst 26 = .ok (.getfield 9, 3) := by decide +kernel
theorem dX0_takeFirst_29 : decode cX0_takeFirst 29 = .ok (.aload_n 0, 1) := by decide +kernel
theorem dX0_takeFirst_30 : decode cX0_takeFirst 30 = .ok (.getfield 21, 3) := by decide +kernel
theorem dX0_takeFirst_33 : decode cX0_takeFirst 33 = .ok (.iconst 3, 1) := by decide +kernel
theorem dX0_takeFirst_34 : decode cX0_takeFirst 34 = .ok (.iastore, 1) := by decide +kernel
theorem dX0_takeFirst_35 : decode cX0_takeFirst 35 = .ok (.goto 43, 3) := by decide +kernel
theorem dX0_takeFirst_38 : decode cX0_takeFirst 38 = .ok (.iload_n 1, 1) := by decide +kernel
theorem dX0_takeFirst_39 : decode cX0_takeFirst 39 = .ok (.bipush 49, 2) := by decide +kernel
theorem dX0_takeFirst_41 : decode cX0_takeFirst 41 = .ok (.if_icmp .lt 35, 3) := by decide +kernel
theorem dX0_takeFirst_44 : decode cX0_takeFirst 44 = .ok (.iload_n 1, 1) := by decide +kernel
theorem dX0_takeFirst_45 : decode cX0_takeFirst 45 = .ok (.bipush 57, 2) := by decide +kernel
theorem dX0_takeFirst_47 : decode cX0_takeFirst 47 = .ok (.if_icmp .gt 29, 3) := by decide +kernel
theorem dX0_takeFirst_50 : decode cX0_takeFirst 50 = .ok (.aload_n 0, 1) := by decide +kernel
theorem dX0_takeFirst_51 : decode cX0_takeFirst 51 = .ok (.getfield 9, 3) := by decide +kernel
theorem dX0_takeFirst_54 : decode cX0_takeFirst 54 = .ok (.aload_n 0, 1) := by decide +kernel
theorem dX0_takeFirst_55 : decode cX0_takeFirst 55 = .ok (.getfield 21, 3) := by decide +kernel
theorem dX0_takeFirst_58 : decode cX0_takeFirst 58 = .ok (.iconst 2, 1) := by decide +kernel
theorem dX0_takeFirst_59 : decode cX0_takeFirst 59 = .ok (.iastore, 1) := by decide +kernel
theorem dX0_takeFirst_60 : decode cX0_takeFirst 60 = .ok (.aload_n 0, 1) := by decide +kernel
theorem dX0_takeFirst_61 : decode cX0_takeFirst 61 = .ok (.getfield 18, 3) := by decide +kernel
theorem dX0_takeFirst_64 : decode cX0_takeFirst 64 = .ok (.aload_n 0, 1) := by decide +kernel
theorem dX0_takeFirst_65 : decode cX0_takeFirst 65 = .ok (.getfield 21, 3) := by decide +kernel
theorem dX0_takeFirst_68 : decode cX0_takeFirst 68 = .ok (.iload_n 1, 1) := by decide +kernel
theorem dX0_takeFirst_69 : decode cX0_takeFirst 69 = .ok (.bipush 48, 2) := by decide +kernel
theorem dX0_takeFirst_71 : decode cX0_takeFirst 71 = .ok (.isub, 1) := by decide +kernel
theorem dX0_takeFirst_72 : decode cX0_takeFirst 72 = .ok (.iastore, 1) := by decide +kernel
theorem dX0_takeFirst_73 : decode cX0_takeFirst 73 = .ok (.goto 5, 3) := by decide +kernel
theorem dX0_takeFirst_76 : decode cX0_takeFirst 76 = .ok (.iconst 0, 1) := by decide +kernel
theorem dX0_takeFirst_77 : decode cX0_takeFirst 77 = .ok (.ireturn, 1) := by decide +kernel
theorem dX0_takeFirst_78 : decode cX0_takeFirst 78 = .ok (.iconst 1, 1) := by decide +kernel
theorem dX0_takeFirst_79 : decode cX0_takeFirst 79 = .ok (.ireturn, 1) := by decide +kernel
theorem dX0_takeNextDigit_0 : decode cX0_takeNextDigit 0 = .ok (.aload_n 0, 1) := by decide +kernel
theorem dX0_takeNextDigit_1 : decode cX0_takeNextDigit 1 = .ok (.getfield 18, 3) := by decide +kernel
theorem dX0_takeNextDigit_4 : decode cX0_takeNextDigit 4 = .ok (.aload_n 0, 1) := by decide +kernel
theorem dX0_takeNextDigit_5 : decode cX0_takeNextDigit 5 = .ok (.getfield 21, 3) := by decide +kernel
theorem dX0_takeNextDigit_8 : decode cX0_takeNextDigit 8 = .ok (.iaload, 1) := by decide +kernel
theorem dX0_takeNextDigit_9 : decode cX0_takeNextDigit 9 = .ok (.bipush 10, 2) := by decide +kernel
theorem dX0_takeNextDigit_11 : decode cX0_takeNextDigit 11 = .ok (.imul, 1) := by decide +kernel
theorem dX0_takeNextDigit_12 : decode cX0_takeNextDigit 12 = .ok (.iload_n 1, 1) := by decide +kernel
theorem dX0_takeNextDigit_13 : decode cX0_takeNextDigit 13 = .ok (.iadd, 1) := by decide +kernel
theorem dX0_takeNextDigit_14 : decode cX0_takeNextDigit 14 = .ok (.bipush 48, 2) := by decide +kernel
theorem dX0_takeNextDigit_16 : decode cX0_takeNextDigit 16 = .ok (.isub, 1) := by decide +kernel
theorem dX0_takeNextDigit_17 : decode cX0_takeNextDigit 17 = .ok (.istore_n 2, 1) := by decide +kernel
theorem dX0_takeNextDigit_18 : decode cX0_takeNextDigit 18 = .ok (.iload_n 1, 1) := by decide +kernel
theorem dX0_takeNextDigit_19 : decode cX0_takeNextDigit 19 = .ok (.bipush 48, 2) := by decide +kernel
theorem dX0_takeNextDigit_21 : decode cX0_takeNextDigit 21 = .ok (.if_icmp .lt 16, 3) := by decide +kernel
theorem dX0_takeNextDigit_24 : decode cX0_takeNextDigit 24 = .ok (.iload_n 1, 1) := by decide +kernel
theorem dX0_takeNextDigit_25 : decode cX0_takeNextDigit 25 = .ok (.bipush 57, 2) := by decide +kernel
theorem dX0_takeNextDigit_27 : decode cX0_takeNextDigit 27 = .ok (.if_icmp .gt 10, 3) := by decide +kernel
theorem dX0_takeNextDigit_30 : decode cX0_takeNextDigit 30 = .ok (.iload_n 2, 1) := by decide +kernel
theorem dX0_takeNextDigit_31 : decode cX0_takeNextDigit 31 = .ok (.sipush 200, 3) := by decide +kernel
theorem dX0_takeNextDigit_34 : decode cX0_takeNextDigit 34 = .ok (.if_icmp .le 5, 3) := by decide +kernel
theorem dX0_takeNextDigit_37 : decode cX0_takeNextDigit 37 = .ok (.iconst 0, 1) := by decide +kernel
theorem dX0_takeNextDigit_38 : decode cX0_takeNextDigit 38 = .ok (.ireturn, 1) := by decide +kernel
theorem dX0_takeNextDigit_39 : decode cX0_takeNextDigit 39 = .ok (.aload_n 0, 1) := by decide +kernel
theorem dX0_takeNextDigit_40 : decode cX0_takeNextDigit 40 = .ok (.getfield 18, 3) := by decide +kernel
theorem dX0_takeNextDigit_43 : decode cX0_takeNextDigit 43 = .ok (.aload_n 0, 1) := by decide +kernel
theorem dX0_takeNextDigit_44 : decode cX0_takeNextDigit 44 = .ok (.getfield 21, 3) := by decide +kernel
theorem dX0_takeNextDigit_47 : decode cX0_takeNextDigit 47 = .ok (.iload_n 2, 1) := by decide +kernel
theorem dX0_takeNextDigit_48 : decode cX0_takeNextDigit 48 = .ok (.iastore, 1) := by decide +kernel
theorem dX0_takeNextDigit_49 : decode cX0_takeNextDigit 49 = .ok (.iconst 1, 1) := by decide +kernel
theorem dX0_takeNextDigit_50 : decode cX0_takeNextDigit 50 = .ok (.ireturn, 1) := by decide +kernel
theorem dX0_takeMoreOrLess_0 : decode cX0_takeMoreOrLess 0 = .ok (.aload_n 0, 1) := by decide +kernel
theorem dX0_takeMoreOrLess_1 : decode cX0_takeMoreOrLess 1 = .ok (.getfield 15, 3) := by decide +kernel
theorem dX0_takeMoreOrLess_4 : decode cX0_takeMoreOrLess 4 = .ok (.aload_n 0, 1) := by decide +kernel
theorem dX0_takeMoreOrLess_5 : decode cX0_takeMoreOrLess 5 = .ok (.getfield 21, 3) := by decide +kernel
theorem dX0_takeMoreOrLess_8 : decode cX0_takeMoreOrLess 8 = .ok (.iaload, 1) := by decide +kernel
theorem dX0_takeMoreOrLess_9 : decode cX0_takeMoreOrLess 9 = .ok (.ifCond .ne 37, 3) := by decide +kernel
theorem dX0_takeMoreOrLess_12 : decode cX0_takeMoreOrLess 12 = .ok (.iload_n 1, 1) := by decide +kernel
theorem dX0_takeMoreOrLess_13 : decode cX0_takeMoreOrLess 13 = .ok (.bipush 43, 2) := by decide +kernel
theorem dX0_takeMoreOrLess_15 : decode cX0_takeMoreOrLess 15 = .ok (.if_icmp .eq 9, 3) := by decide +kernel
theorem dX0_takeMoreOrLess_18 : decode cX0_takeMoreOrLess 18 = .ok (.iload_n 1, 1) := by decide +kernel
theorem dX0_takeMoreOrLess_19 : decode cX0_takeMoreOrLess 19 = .ok (.bipush 45, 2) := by decide +kernel
theorem dX0_takeMoreOrLess_21 : decode cX0_takeMoreOrLess 21 = .ok (.if_icmp .ne 25, 3) := by decide +kernel
theorem dX0_takeMoreOrLess_24 : decode cX0_takeMoreOrLess 24 = .ok (.aload_n 0, 1) := by decide +kernel
theorem dX0_takeMoreOrLess_25 : decode cX0_takeMoreOrLess 25 = .ok (.getfield 15, 3) := by decide +kernel
theorem dX0_takeMoreOrLess_28 : decode cX0_takeMoreOrLess 28 = .ok (.aload_n 0, 1) := by decide +kernel
theorem dX0_takeMoreOrLess_29 : decode cX0_takeMoreOrLess 29 = .ok (.getfield 21, 3) := by decide +kernel
theorem dX0_takeMoreOrLess_32 : decode cX0_takeMoreOrLess 32 = .ok (.iload_n 1, 1) := by decide +kernel
theorem dX0_takeMoreOrLess_33 : decode cX0_takeMoreOrLess 33 = .ok (.bipush 43, 2) := by decide +kernel
theorem dX0_takeMoreOrLess_35 : decode cX0_takeMoreOrLess 35 = .ok (.if_icmp .ne 7, 3) := by decide +kernel
theorem dX0_takeMoreOrLess_38 : decode cX0_takeMoreOrLess 38 = .ok (.iconst 1, 1) := by decide +kernel
theorem dX0_takeMoreOrLess_39 : decode cX0_takeMoreOrLess 39 = .ok (.goto 4, 3) := by decide +kernel
theorem dX0_takeMoreOrLess_42 : decode cX0_takeMoreOrLess 42 = .ok (.iconst (-1), 1) := by decide +kernel
theorem dX0_takeMoreOrLess_43 : decode cX0_takeMoreOrLess 43 = .ok (.iastore, 1) := by decide +kernel
theorem dX0_takeMoreOrLess_44 : decode cX0_takeMoreOrLess 44 = .ok (.iconst 1, 1) := by decide +kernel
theorem dX0_takeMoreOrLess_45 : decode cX0_takeMoreOrLess 45 = .ok (.ireturn, 1) := by decide +kernel
theorem dX0_takeMoreOrLess_46 : decode cX0_takeMoreOrLess 46 = .ok (.aload_n 0, 1) := by decide +kernel
theorem dX0_takeMoreOrLess_47 : decode cX0_takeMoreOrLess 47 = .ok (.getfield 15, 3) := by decide +kernel
theorem dX0_takeMoreOrLess_50 : decode cX0_takeMoreOrLess 50 = .ok (.aload_n 0, 1) := by decide +kernel
theorem dX0_takeMoreOrLess_51 : decode cX0_takeMoreOrLess 51 = .ok (.getfield 21, 3) := by decide +kernel
theorem dX0_takeMoreOrLess_54 : decode cX0_takeMoreOrLess 54 = .ok (.iaload, 1) := by decide +kernel
theorem dX0_takeMoreOrLess_55 : decode cX0_takeMoreOrLess 55 = .ok (.ifCond .eq 42, 3) := by decide +kernel
theorem dX0_takeMoreOrLess_58 : decode cX0_takeMoreOrLess 58 = .ok (.aload_n 0, 1) := by decide +kernel
theorem dX0_takeMoreOrLess_59 : decode cX0_takeMoreOrLess 59 = .ok (.getfield 18, 3) := by decide +kernel
theorem dX0_takeMoreOrLess_62 : decode cX0_takeMoreOrLess 62 = .ok (.aload_n 0, 1) := by decide +kernel
theorem dX0_takeMoreOrLess_63 : decode cX0_takeMoreOrLess 63 = .ok (.getfield 21, 3) := by decide +kernel
theorem dX0_takeMoreOrLess_66 : decode cX0_takeMoreOrLess 66 = .ok (.iaload, 1) := by decide +kernel
theorem dX0_takeMoreOrLess_67 : decode cX0_takeMoreOrLess 67 = .ok (.ifCond .ne 30, 3) := by decide +kernel
theorem dX0_takeMoreOrLess_70 : decode cX0_takeMoreOrLess 70 = .ok (.iload_n 1, 1) := by decide +kernel
theorem dX0_takeMoreOrLess_71 : decode cX0_takeMoreOrLess 71 = .ok (.bipush 49, 2) := by decide +kernel
theorem dX0_takeMoreOrLess_73 : decode cX0_takeMoreOrLess 73 = .ok (.if_icmp .lt 24, 3) := by decide +kernel
theorem dX0_takeMoreOrLess_76 : decode cX0_takeMoreOrLess 76 = .ok (.iload_n 1, 1) := by decide +kernel
theorem dX0_takeMoreOrLess_77 : decode cX0_takeMoreOrLess 77 = .ok (.bipush 57, 2) := by decide +kernel
theorem dX0_takeMoreOrLess_79 : decode cX0_takeMoreOrLess 79 = .ok (.if_icmp .gt 18, 3) := by decide +kernel
theorem dX0_takeMoreOrLess_82 : decode cX0_takeMoreOrLess 82 = .ok (.aload_n 0, 1) := by decide +kernel
theorem dX0_takeMoreOrLess_83 : decode cX0_takeMoreOrLess 83 = .ok (.getfield 18, 3) := by decide +kernel
theorem dX0_takeMoreOrLess_86 : decode cX0_takeMoreOrLess 86 = .ok (.aload_n 0, 1) := by decide +kernel
theorem dX0_takeMoreOrLess_87 : decode cX0_takeMoreOrLess 87 = .ok (.getfield 21, 3) := by decide +kernel
theorem dX0_takeMoreOrLess_90 : decode cX0_takeMoreOrLess 90 = .ok (.iload_n 1, 1) := by decide +kernel
theorem dX0_takeMoreOrLess_91 : decode cX0_takeMoreOrLess 91 = .ok (.bipush 48, 2) := by decide +kernel
theorem dX0_takeMoreOrLess_93 : decode cX0_takeMoreOrLess 93 = .ok (.isub, 1) := by decide +kernel
theorem dX0_takeMoreOrLess_94 : decode cX0_takeMoreOrLess 94 = .ok (.iastore, 1) := by decide +kernel
theorem dX0_takeMoreOrLess_95 : decode cX0_takeMoreOrLess 95 = .ok (.iconst 1, 1) := by decide +kernel
theorem dX0_takeMoreOrLess_96 : decode cX0_takeMoreOrLess 96 = .ok (.ireturn, 1) := by decide +kernel
theorem dX0_takeMoreOrLess_97 : decode cX0_takeMoreOrLess 97 = .ok (.iconst 0, 1) := by decide +kernel
theorem dX0_takeMoreOrLess_98 : decode cX0_takeMoreOrLess 98 = .ok (.ireturn, 1) := by decide +kernel
set_option maxRecDepth 20000 in
theorem ggX1_init_X0_init : GoodIn wsX1_init wsX0_init := goodIn_r _ [16, 17, 2, 3, 4, 18, 19, 20, 21, 28, 29, 30, 31] (by decide +kernel) (by decide +kernel)
set_option maxRecDepth 20000 in
theorem gX1_init_X0_init_n28 : GoodIn wsX1_init (wsX0_init) := ggX1_init_X0_init
theorem dX1_init_0 : decode cX1_init 0 = .ok (.aload_n 0, 1) := by decide +kernel
theorem dX1_init_1 : decode cX1_init 1 = .ok (.invokespecial 3, 3) := by decide +kernel
theorem dX1_init_4 : decode cX1_init 4 = .ok (.aload_n 0, 1) := by decide +kernel
theorem dX1_init_5 : decode cX1_init 5 = .ok (.bipush 33, 2) := by decide +kernel
theorem dX1_init_7 : decode cX1_init 7 = .ok (.newarray .int, 2) := by decide +kernel
theorem dX1_init_9 : decode cX1_init 9 = .ok (.putfield 9, 3) := by decide +kernel
theorem dX1_init_12 : decode cX1_init 12 = .ok (.aload_n 0, 1) := by decide +kernel
theorem dX1_init_13 : decode cX1_init 13 = .ok (.sipush 198, 3) := by decide +kernel
theorem dX1_init_16 : decode cX1_init 16 = .ok (.newarray .int, 2) := by decide +kernel
theorem dX1_init_18 : decode cX1_init 18 = .ok (.putfield 13, 3) := by decide +kernel
theorem dX1_init_21 : decode cX1_init 21 = .ok (.aload_n 0, 1) := by decide +kernel
theorem dX1_init_22 : decode cX1_init 22 = .ok (.iconst 0, 1) := by decide +kernel
theorem dX1_init_23 : decode cX1_init 23 = .ok (.putfield 16, 3) := by decide +kernel
theorem dX1_init_26 : decode cX1_init 26 = .ok (.aload_n 0, 1) := by decide +kernel
theorem dX1_init_27 : decode cX1_init 27 = .ok (.bipush 60, 2) := by decide +kernel
theorem dX1_init_29 : decode cX1_init 29 = .ok (.newarray .int, 2) := by decide +kernel
theorem dX1_init_31 : decode cX1_init 31 = .ok (.putfield 20, 3) := by decide +kernel
theorem dX1_init_34 : decode cX1_init 34 = .ok (.aload_n 0, 1) := by decide +kernel
theorem dX1_init_35 : decode cX1_init 35 = .ok (.iconst 0, 1) := by decide +kernel
theorem dX1_init_36 : decode cX1_init 36 = .ok (.putfield 23, 3) := by decide +kernel
theorem dX1_init_39 : decode cX1_init 39 = .ok (.aload_n 0, 1) := by decide +kernel
theorem dX1_init_40 : decode cX1_init 40 = .ok (.new 26, 3) := by decide +kernel
theorem dX1_init_43 : decode cX1_init 43 = .ok (.dup, 1) := by decide +kernel
theorem dX1_init_44 : decode cX1_init 44 = .ok (.invokespecial 28, 3) := by decide +kernel
theorem dX1_init_47 : decode cX1_init 47 = .ok (.putfield 29, 3) := by decide +kernel
theorem dX1_init_50 : decode cX1_init 50 = .ok (.aload_n 0, 1) := by decide +kernel
theorem dX1_init_51 : decode cX1_init 51 = .ok (.getfield 9, 3) := by decide +kernel
theorem dX1_init_54 : decode cX1_init 54 = .ok (.iconst 2, 1) := by decide +kernel
theorem dX1_init_55 : decode cX1_init 55 = .ok (.iconst (-1), 1) := by decide +kernel
theorem dX1_init_56 : decode cX1_init 56 = .ok (.iastore, 1) := by decide +kernel
theorem dX1_init_57 : decode cX1_init 57 = .ok (.iconst 0, 1) := by decide +kernel
theorem dX1_init_58 : decode cX1_init 58 = .ok (.istore_n 1, 1) := by decide +kernel
theorem dX1_init_59 : decode cX1_init 59 = .ok (.iload_n 1, 1) := by decide +kernel
theorem dX1_init_60 : decode cX1_init 60 = .ok (.iconst 3, 1) := by decide +kernel
theorem dX1_init_61 : decode cX1_init 61 = .ok (.if_icmp .ge 23, 3) := by decide +kernel
theorem dX1_init_64 : decode cX1_init 64 = .ok (.aload_n 0, 1) := by decide +kernel
theorem dX1_init_65 : decode cX1_init 65 = .ok (.getfield 9, 3) := by decide +kernel
theorem dX1_init_68 : decode cX1_init 68 = .ok (.bipush 11, 2) := by decide +kernel
theorem dX1_init_70 : decode cX1_init 70 = .ok (.iload_n 1, 1) := by decide +kernel
theorem dX1_init_71 : decode cX1_init 71 = .ok (.iadd, 1) := by decide +kernel
theorem dX1_init_72 : decode cX1_init 72 = .ok (.getstatic 33, 3) := by decide +kernel
theorem dX1_init_75 : decode cX1_init 75 = .ok (.iload_n 1, 1) := by decide +kernel
theorem dX1_init_76 : decode cX1_init 76 = .ok (.iaload, 1) := by decide +kernel
theorem dX1_init_77 : decode cX1_init 77 = .ok (.iastore, 1) := by decide +kernel
theorem dX1_init_78 : decode cX1_init 78 = .ok (.iinc 1 1, 3) := by decide +kernel
theorem dX1_init_81 : decode cX1_init 81 = .ok (.goto (-22), 3) := by decide +kernel
theorem dX1_init_84 : decode cX1_init 84 = .ok (.iconst 0, 1) := by decide +kernel
theorem dX1_init_85 : decode cX1_init 85 = .ok (.istore_n 1, 1) := by decide +kernel
theorem dX1_init_86 : decode cX1_init 86 = .ok (.iload_n 1, 1) := by decide +kernel
theorem dX1_init_87 : decode cX1_init 87 = .ok (.bipush 7, 2) := by decide +kernel
theorem dX1_init_89 : decode cX1_init 89 = .ok (.if_icmp .ge 29, 3) := by decide +kernel
theorem dX1_init_92 : decode cX1_init 92 = .ok (.aload_n 0, 1) := by decide +kernel
theorem dX1_init_93 : decode cX1_init 93 = .ok (.getfield 9, 3) := by decide +kernel
theorem dX1_init_96 : decode cX1_init 96 = .ok (.bipush 14, 2) := by decide +kernel
theorem dX1_init_98 : decode cX1_init 98 = .ok (.iload_n 1, 1) := by decide +kernel
theorem dX1_init_99 : decode cX1_init 99 = .ok (.iadd, 1) := by decide +kernel
theorem dX1_init_100 : decode cX1_init 100 = .ok (.iload_n 1, 1) := by decide +kernel
theorem dX1_init_101 : decode cX1_init 101 = .ok (.iconst 5, 1) := by decide +kernel
theorem dX1_init_102 : decode cX1_init 102 = .ok (.if_icmp .ge 8, 3) := by decide +kernel
theorem dX1_init_105 : decode cX1_init 105 = .ok (.bipush 8, 2) := by decide +kernel
theorem dX1_init_107 : decode cX1_init 107 = .ok (.goto 4, 3) := by decide +kernel
theorem dX1_init_110 : decode cX1_init 110 = .ok (.iconst (-1), 1) := by decide +kernel
theorem dX1_init_111 : decode cX1_init 111 = .ok (.iastore, 1) := by decide +kernel
theorem dX1_init_112 : decode cX1_init 112 = .ok (.iinc 1 1, 3) := by decide +kernel
theorem dX1_init_115 : decode cX1_init 115 = .ok (.goto (-29), 3) := by decide +kernel
theorem dX1_init_118 : decode cX1_init 118 = .ok (.iconst 0, 1) := by decide +kernel
theorem dX1_init_119 : decode cX1_init 119 = .ok (.istore_n 1, 1) := by decide +kernel
theorem dX1_init_120 : decode cX1_init 120 = .ok (.iload_n 1, 1) := by decide +kernel
theorem dX1_init_121 : decode cX1_init 121 = .ok (.iconst 3, 1) := by decide +kernel
theorem dX1_init_122 : decode cX1_init 122 = .ok (.if_icmp .ge 23, 3) := by decide +kernel
theorem dX1_init_125 : decode cX1_init 125 = .ok (.aload_n 0, 1) := by decide +kernel
theorem dX1_init_126 : decode cX1_init 126 = .ok (.getfield 9, 3) := by decide +kernel
theorem dX1_init_129 : decode cX1_init 129 = .ok (.bipush 21, 2) := by decide +kernel
theorem dX1_init_131 : decode cX1_init 131 = .ok (.iload_n 1, 1) := by decide +kernel
theorem dX1_init_132 : decode cX1_init 132 = .ok (.iconst 4, 1) := by decide +kernel
theorem dX1_init_133 : decode cX1_init 133 = .ok (.imul, 1) := by decide +kernel
theorem dX1_init_134 : decode cX1_init 134 = .ok (.iadd, 1) := by decide +kernel
theorem dX1_init_135 : decode cX1_init 135 = .ok (.iconst 1, 1) := by decide +kernel
theorem dX1_init_136 : decode cX1_init 136 = .ok (.iadd, 1) := by decide +kernel
theorem dX1_init_137 : decode cX1_init 137 = .ok (.iconst 1, 1) := by decide +kernel
theorem dX1_init_138 : decode cX1_init 138 = .ok (.iastore, 1) := by decide +kernel
theorem dX1_init_139 : decode cX1_init 139 = .ok (.iinc 1 1, 3) := by decide +kernel
theorem dX1_init_142 : decode cX1_init 142 = .ok (.goto (-22), 3) := by decide +kernel
theorem dX1_init_145 : decode cX1_init 145 = .ok (.return_, 1) := by decide +kernel
set_option maxRecDepth 20000 in
theorem ggX1_opening_X1_isDay : GoodIn wsX1_opening wsX1_isDay := goodIn_r _ [8] (by decide +kernel) (by decide +kernel)
set_option maxRecDepth 20000 in
theorem gX1_opening_X1_isDay : GoodIn wsX1_opening (va_wsS RX1 36 yX1_isDay wsX1_isDay) := goodIn_app (goodIn_of _ (by decide +kernel)) ggX1_opening_X1_isDay
set_option maxRecDepth 20000 in
theorem ggX1_opening_X1_change : GoodIn wsX1_opening wsX1_change := goodIn_r _ [12, 13, 14, 15, 16, 7, 17, 18, 19, 20, 21, 22, 23, 24, 25, 26, 27, 28, 29] (by decide +kernel) (by decide +kernel)
set_option maxRecDepth 20000 in
theorem gX1_opening_X1_change : GoodIn wsX1_opening (wsV RX1 52 RX1 yX1_change wsX1_change) := goodIn_app (goodIn_of _ (by decide +kernel)) ggX1_opening_X1_change
theorem dX1_opening_0 : decode cX1_opening 0 = .ok (.iload_n 1, 1) := by decide +kernel
theorem dX1_opening_1 : decode cX1_opening 1 = .ok (.invokestatic 36, 3) := by decide +kernel
theorem dX1_opening_4 : decode cX1_opening 4 = .ok (.ifCond .ne 13, 3) := by decide +kernel
theorem dX1_opening_7 : decode cX1_opening 7 = .ok (.new 40, 3) := by decide +kernel
theorem dX1_opening_10 : decode cX1_opening 10 = .ok (.dup, 1) := by decide +kernel
theorem dX1_opening_11 : decode cX1_opening 11 = .ok (.ldc 42, 2) := by decide +kernel
theorem dX1_opening_13 : decode cX1_opening 13 = .ok (.invokespecial 44, 3) := by decide +kernel
theorem dX1_opening_16 : decode cX1_opening 16 = .ok (.athrow, 1) := by decide +kernel
theorem dX1_opening_17 : decode cX1_opening 17 = .ok (.iload_n 2, 1) := by decide +kernel
theorem dX1_opening_18 : decode cX1_opening 18 = .ok (.iconst (-1), 1) := by decide +kernel
theorem dX1_opening_19 : decode cX1_opening 19 = .ok (.if_icmp .eq 23, 3) := by decide +kernel
theorem dX1_opening_22 : decode cX1_opening 22 = .ok (.iload_n 2, 1) := by decide +kernel
theorem dX1_opening_23 : decode cX1_opening 23 = .ok (.ifCond .lt 9, 3) := by decide +kernel
theorem dX1_opening_26 : decode cX1_opening 26 = .ok (.iload_n 2, 1) := by decide +kernel
theorem dX1_opening_27 : decode cX1_opening 27 = .ok (.bipush 24, 2) := by decide +kernel
theorem dX1_opening_29 : decode cX1_opening 29 = .ok (.if_icmp .lt 13, 3) := by decide +kernel
theorem dX1_opening_32 : decode cX1_opening 32 = .ok (.new 47, 3) := by decide +kernel
theorem dX1_opening_35 : decode cX1_opening 35 = .ok (.dup, 1) := by decide +kernel
theorem dX1_opening_36 : decode cX1_opening 36 = .ok (.ldc 49, 2) := by decide +kernel
theorem dX1_opening_38 : decode cX1_opening 38 = .ok (.invokespecial 51, 3) := by decide +kernel
theorem dX1_opening_41 : decode cX1_opening 41 = .ok (.athrow, 1) := by decide +kernel
theorem dX1_opening_42 : decode cX1_opening 42 = .ok (.aload_n 0, 1) := by decide +kernel
theorem dX1_opening_43 : decode cX1_opening 43 = .ok (.bipush 14, 2) := by decide +kernel
theorem dX1_opening_45 : decode cX1_opening 45 = .ok (.iload_n 1, 1) := by decide +kernel
theorem dX1_opening_46 : decode cX1_opening 46 = .ok (.iadd, 1) := by decide +kernel
theorem dX1_opening_47 : decode cX1_opening 47 = .ok (.iload_n 2, 1) := by decide +kernel
theorem dX1_opening_48 : decode cX1_opening 48 = .ok (.invokevirtual 52, 3) := by decide +kernel
theorem dX1_opening_51 : decode cX1_opening 51 = .ok (.ireturn, 1) := by decide +kernel
set_option maxRecDepth 20000 in
theorem ggX1_set_X1_isSetting : GoodIn wsX1_set wsX1_isSetting := goodIn_r _ [10] (by decide +kernel) (by decide +kernel)
set_option maxRecDepth 20000 in
theorem gX1_set_X1_isSetting : GoodIn wsX1_set (va_wsS RX1 56 yX1_isSetting wsX1_isSetting) := goodIn_app (goodIn_of _ (by decide +kernel)) ggX1_set_X1_isSetting
set_option maxRecDepth 20000 in
theorem ggX1_set_X1_change : GoodIn wsX1_set wsX1_change := goodIn_r _ [14, 15, 16, 17, 18, 9, 19, 20, 21, 22, 23, 24, 25, 26, 27, 28, 29, 30, 31] (by decide +kernel) (by decide +kernel)
set_option maxRecDepth 20000 in
theorem gX1_set_X1_change : GoodIn wsX1_set (wsV RX1 52 RX1 yX1_change wsX1_change) := goodIn_app (goodIn_of _ (by decide +kernel)) ggX1_set_X1_change
theorem dX1_set_0 : decode cX1_set 0 = .ok (.iload_n 1, 1) := by decide +kernel
theorem dX1_set_1 : decode cX1_set 1 = .ok (.invokestatic 56, 3) := by decide +kernel
theorem dX1_set_4 : decode cX1_set 4 = .ok (.ifCond .ne 13, 3) := by decide +kernel
theorem dX1_set_7 : decode cX1_set 7 = .ok (.new 40, 3) := by decide +kernel
theorem dX1_set_10 : decode cX1_set 10 = .ok (.dup, 1) := by decide +kernel
theorem dX1_set_11 : decode cX1_set 11 = .ok (.ldc 59, 2) := by decide +kernel
theorem dX1_set_13 : decode cX1_set 13 = .ok (.invokespecial 44, 3) := by decide +kernel
theorem dX1_set_16 : decode cX1_set 16 = .ok (.athrow, 1) := by decide +kernel
theorem dX1_set_17 : decode cX1_set 17 = .ok (.iload_n 2, 1) := by decide +kernel
theorem dX1_set_18 : decode cX1_set 18 = .ok (.getstatic 61, 3) := by decide +kernel
theorem dX1_set_21 : decode cX1_set 21 = .ok (.iload_n 1, 1) := by decide +kernel
theorem dX1_set_22 : decode cX1_set 22 = .ok (.iaload, 1) := by decide +kernel
theorem dX1_set_23 : decode cX1_set 23 = .ok (.if_icmp .lt 12, 3) := by decide +kernel
theorem dX1_set_26 : decode cX1_set 26 = .ok (.iload_n 2, 1) := by decide +kernel
theorem dX1_set_27 : decode cX1_set 27 = .ok (.getstatic 64, 3) := by decide +kernel
theorem dX1_set_30 : decode cX1_set 30 = .ok (.iload_n 1, 1) := by decide +kernel
theorem dX1_set_31 : decode cX1_set 31 = .ok (.iaload, 1) := by decide +kernel
theorem dX1_set_32 : decode cX1_set 32 = .ok (.if_icmp .le 13, 3) := by decide +kernel
theorem dX1_set_35 : decode cX1_set 35 = .ok (.new 47, 3) := by decide +kernel
theorem dX1_set_38 : decode cX1_set 38 = .ok (.dup, 1) := by decide +kernel
theorem dX1_set_39 : decode cX1_set 39 = .ok (.ldc 67, 2) := by decide +kernel
theorem dX1_set_41 : decode cX1_set 41 = .ok (.invokespecial 51, 3) := by decide +kernel
theorem dX1_set_44 : decode cX1_set 44 = .ok (.athrow, 1) := by decide +kernel
theorem dX1_set_45 : decode cX1_set 45 = .ok (.aload_n 0, 1) := by decide +kernel
theorem dX1_set_46 : decode cX1_set 46 = .ok (.bipush 11, 2) := by decide +kernel
theorem dX1_set_48 : decode cX1_set 48 = .ok (.iload_n 1, 1) := by decide +kernel
theorem dX1_set_49 : decode cX1_set 49 = .ok (.iadd, 1) := by decide +kernel
theorem dX1_set_50 : decode cX1_set 50 = .ok (.iload_n 2, 1) := by decide +kernel
theorem dX1_set_51 : decode cX1_set 51 = .ok (.invokevirtual 52, 3) := by decide +kernel
theorem dX1_set_54 : decode cX1_set 54 = .ok (.ireturn, 1) := by decide +kernel
set_option maxRecDepth 20000 in
theorem ggX1_wind_X1_isMovement : GoodIn wsX1_wind wsX1_isMovement := goodIn_r _ [10] (by decide +kernel) (by decide +kernel)
set_option maxRecDepth 20000 in
theorem gX1_wind_X1_isMovement : GoodIn wsX1_wind (va_wsS RX1 69 yX1_isMovement wsX1_isMovement) := goodIn_app (goodIn_of _ (by decide +kernel)) ggX1_wind_X1_isMovement
set_option maxRecDepth 20000 in
theorem ggX1_wind_X1_areWindingHours : GoodIn wsX1_wind wsX1_areWindingHours := goodIn_r _ [13] (by decide +kernel) (by decide +kernel)
set_option maxRecDepth 20000 in
theorem gX1_wind_X1_areWindingHours : GoodIn wsX1_wind (va_wsS RX1 74 yX1_areWindingHours wsX1_areWindingHours) := goodIn_app (goodIn_of _ (by decide +kernel)) ggX1_wind_X1_areWindingHours
set_option maxRecDepth 20000 in
theorem ggX1_wind_X1_isLocked : GoodIn wsX1_wind wsX1_isLocked := goodIn_r _ [17, 18, 40, 41, 42, 43, 44, 45] (by decide +kernel) (by decide +kernel)
set_option maxRecDepth 20000 in
theorem gX1_wind_X1_isLocked : GoodIn wsX1_wind (wsV RX1 79 RX1 yX1_isLocked wsX1_isLocked) := goodIn_app (goodIn_of _ (by decide +kernel)) ggX1_wind_X1_isLocked
set_option maxRecDepth 20000 in
theorem ggX1_wind_X1_goes : GoodIn wsX1_wind wsX1_goes := goodIn_r _ [22, 18, 23, 24, 9, 25, 40, 41, 42, 43, 44, 45] (by decide +kernel) (by decide +kernel)
set_option maxRecDepth 20000 in
theorem gX1_wind_X1_goes : GoodIn wsX1_wind (wsV RX1 83 RX1 yX1_goes wsX1_goes) := goodIn_app (goodIn_of _ (by decide +kernel)) ggX1_wind_X1_goes
set_option maxRecDepth 20000 in
theorem ggX1_wind_X1_place : GoodIn wsX1_wind wsX1_place := goodIn_r _ [25] (by decide +kernel) (by decide +kernel)
set_option maxRecDepth 20000 in
theorem gX1_wind_X1_place : GoodIn wsX1_wind (va_wsS RX1 91 yX1_place wsX1_place) := goodIn_app (goodIn_of _ (by decide +kernel)) ggX1_wind_X1_place
set_option maxRecDepth 20000 in
theorem ggX1_wind_X1_change : GoodIn wsX1_wind wsX1_change := goodIn_r _ [29, 18, 30, 31, 32, 9, 33, 34, 35, 36, 37, 38, 39, 40, 41, 42, 43, 44, 45] (by decide +kernel) (by decide +kernel)
set_option maxRecDepth 20000 in
theorem gX1_wind_X1_change : GoodIn wsX1_wind (wsV RX1 52 RX1 yX1_change wsX1_change) := goodIn_app (goodIn_of _ (by decide +kernel)) ggX1_wind_X1_change
theorem dX1_wind_0 : decode cX1_wind 0 = .ok (.iload_n 1, 1) := by decide +kernel
theorem dX1_wind_1 : decode cX1_wind 1 = .ok (.invokestatic 69, 3) := by decide +kernel
theorem dX1_wind_4 : decode cX1_wind 4 = .ok (.ifCond .ne 13, 3) := by decide +kernel
theorem dX1_wind_7 : decode cX1_wind 7 = .ok (.new 40, 3) := by decide +kernel
theorem dX1_wind_10 : decode cX1_wind 10 = .ok (.dup, 1) := by decide +kernel
theorem dX1_wind_11 : decode cX1_wind 11 = .ok (.ldc 72, 2) := by decide +kernel
theorem dX1_wind_13 : decode cX1_wind 13 = .ok (.invokespecial 44, 3) := by decide +kernel
theorem dX1_wind_16 : decode cX1_wind 16 = .ok (.athrow, 1) := by decide +kernel
theorem dX1_wind_17 : decode cX1_wind 17 = .ok (.iload_n 2, 1) := by decide +kernel
theorem dX1_wind_18 : decode cX1_wind 18 = .ok (.invokestatic 74, 3) := by decide +kernel
theorem dX1_wind_21 : decode cX1_wind 21 = .ok (.ifCond .ne 13, 3) := by decide +kernel
theorem dX1_wind_24 : decode cX1_wind 24 = .ok (.new 47, 3) := by decide +kernel
theorem dX1_wind_27 : decode cX1_wind 27 = .ok (.dup, 1) := by decide +kernel
theorem dX1_wind_28 : decode cX1_wind 28 = .ok (.ldc 77, 2) := by decide +kernel
theorem dX1_wind_30 : decode cX1_wind 30 = .ok (.invokespecial 51, 3) := by decide +kernel
theorem dX1_wind_33 : decode cX1_wind 33 = .ok (.athrow, 1) := by decide +kernel
theorem dX1_wind_34 : decode cX1_wind 34 = .ok (.aload_n 0, 1) := by decide +kernel
theorem dX1_wind_35 : decode cX1_wind 35 = .ok (.invokevirtual 79, 3) := by decide +kernel
theorem dX1_wind_38 : decode cX1_wind 38 = .ok (.ifCond .ne 11, 3) := by decide +kernel
theorem dX1_wind_41 : decode cX1_wind 41 = .ok (.aload_n 0, 1) := by decide +kernel
theorem dX1_wind_42 : decode cX1_wind 42 = .ok (.iload_n 1, 1) := by decide +kernel
theorem dX1_wind_43 : decode cX1_wind 43 = .ok (.invokevirtual 83, 3) := by decide +kernel
theorem dX1_wind_46 : decode cX1_wind 46 = .ok (.ifCond .ne 13, 3) := by decide +kernel
theorem dX1_wind_49 : decode cX1_wind 49 = .ok (.new 86, 3) := by decide +kernel
theorem dX1_wind_52 : decode cX1_wind 52 = .ok (.dup, 1) := by decide +kernel
theorem dX1_wind_53 : decode cX1_wind 53 = .ok (.ldc 88, 2) := by decide +kernel
theorem dX1_wind_55 : decode cX1_wind 55 = .ok (.invokespecial 90, 3) := by decide +kernel
theorem dX1_wind_58 : decode cX1_wind 58 = .ok (.athrow, 1) := by decide +kernel
theorem dX1_wind_59 : decode cX1_wind 59 = .ok (.aload_n 0, 1) := by decide +kernel
theorem dX1_wind_60 : decode cX1_wind 60 = .ok (.iload_n 1, 1) := by decide +kernel
theorem dX1_wind_61 : decode cX1_wind 61 = .ok (.iconst 0, 1) := by decide +kernel
theorem dX1_wind_62 : decode cX1_wind 62 = .ok (.invokestatic 91, 3) := by decide +kernel
theorem dX1_wind_65 : decode cX1_wind 65 = .ok (.iload_n 2, 1) := by decide +kernel
theorem dX1_wind_66 : decode cX1_wind 66 = .ok (.invokevirtual 52, 3) := by decide +kernel
theorem dX1_wind_69 : decode cX1_wind 69 = .ok (.ireturn, 1) := by decide +kernel
set_option maxRecDepth 20000 in
theorem ggX1_fault_X1_isMovement : GoodIn wsX1_fault wsX1_isMovement := goodIn_r _ [6] (by decide +kernel) (by decide +kernel)
set_option maxRecDepth 20000 in
theorem gX1_fault_X1_isMovement : GoodIn wsX1_fault (va_wsS RX1 69 yX1_isMovement wsX1_isMovement) := goodIn_app (goodIn_of _ (by decide +kernel)) ggX1_fault_X1_isMovement
set_option maxRecDepth 20000 in
theorem ggX1_fault_X1_place : GoodIn wsX1_fault wsX1_place := goodIn_r _ [9] (by decide +kernel) (by decide +kernel)
set_option maxRecDepth 20000 in
theorem gX1_fault_X1_place : GoodIn wsX1_fault (va_wsS RX1 91 yX1_place wsX1_place) := goodIn_app (goodIn_of _ (by decide +kernel)) ggX1_fault_X1_place
set_option maxRecDepth 20000 in
theorem ggX1_fault_X1_change : GoodIn wsX1_fault wsX1_change := goodIn_r _ [13, 14, 15, 16, 17, 5, 18, 19, 20, 21, 22, 23, 24, 25, 26, 27, 28, 29, 30] (by decide +kernel) (by decide +kernel)
set_option maxRecDepth 20000 in
theorem gX1_fault_X1_change : GoodIn wsX1_fault (wsV RX1 52 RX1 yX1_change wsX1_change) := goodIn_app (goodIn_of _ (by decide +kernel)) ggX1_fault_X1_change
theorem dX1_fault_0 : decode cX1_fault 0 = .ok (.iload_n 1, 1) := by decide +kernel
theorem dX1_fault_1 : decode cX1_fault 1 = .ok (.invokestatic 69, 3) := by decide +kernel
theorem dX1_fault_4 : decode cX1_fault 4 = .ok (.ifCond .ne 13, 3) := by decide +kernel
theorem dX1_fault_7 : decode cX1_fault 7 = .ok (.new 40, 3) := by decide +kernel
theorem dX1_fault_10 : decode cX1_fault 10 = .ok (.dup, 1) := by decide +kernel
theorem dX1_fault_11 : decode cX1_fault 11 = .ok (.ldc 72, 2) := by decide +kernel
theorem dX1_fault_13 : decode cX1_fault 13 = .ok (.invokespecial 44, 3) := by decide +kernel
theorem dX1_fault_16 : decode cX1_fault 16 = .ok (.athrow, 1) := by decide +kernel
theorem dX1_fault_17 : decode cX1_fault 17 = .ok (.aload_n 0, 1) := by decide +kernel
theorem dX1_fault_18 : decode cX1_fault 18 = .ok (.iload_n 1, 1) := by decide +kernel
theorem dX1_fault_19 : decode cX1_fault 19 = .ok (.iconst 1, 1) := by decide +kernel
theorem dX1_fault_20 : decode cX1_fault 20 = .ok (.invokestatic 91, 3) := by decide +kernel
theorem dX1_fault_23 : decode cX1_fault 23 = .ok (.iload_n 2, 1) := by decide +kernel
theorem dX1_fault_24 : decode cX1_fault 24 = .ok (.ifCond .eq 7, 3) := by decide +kernel
theorem dX1_fault_27 : decode cX1_fault 27 = .ok (.iconst 1, 1) := by decide +kernel
theorem dX1_fault_28 : decode cX1_fault 28 = .ok (.goto 4, 3) := by decide +kernel
theorem dX1_fault_31 : decode cX1_fault 31 = .ok (.iconst 0, 1) := by decide +kernel
theorem dX1_fault_32 : decode cX1_fault 32 = .ok (.invokevirtual 52, 3) := by decide +kernel
theorem dX1_fault_35 : decode cX1_fault 35 = .ok (.ireturn, 1) := by decide +kernel
set_option maxRecDepth 20000 in
theorem ggX1_loss_X1_isMovement : GoodIn wsX1_loss wsX1_isMovement := goodIn_r _ [8] (by decide +kernel) (by decide +kernel)
set_option maxRecDepth 20000 in
theorem gX1_loss_X1_isMovement : GoodIn wsX1_loss (va_wsS RX1 69 yX1_isMovement wsX1_isMovement) := goodIn_app (goodIn_of _ (by decide +kernel)) ggX1_loss_X1_isMovement
set_option maxRecDepth 20000 in
theorem ggX1_loss_X1_place : GoodIn wsX1_loss wsX1_place := goodIn_r _ [11] (by decide +kernel) (by decide +kernel)
set_option maxRecDepth 20000 in
theorem gX1_loss_X1_place : GoodIn wsX1_loss (va_wsS RX1 91 yX1_place wsX1_place) := goodIn_app (goodIn_of _ (by decide +kernel)) ggX1_loss_X1_place
set_option maxRecDepth 20000 in
theorem ggX1_loss_X1_change : GoodIn wsX1_loss wsX1_change := goodIn_r _ [15, 16, 17, 18, 19, 7, 20, 21, 22, 23, 24, 25, 26, 27, 28, 29, 30, 31, 32] (by decide +kernel) (by decide +kernel)
set_option maxRecDepth 20000 in
theorem gX1_loss_X1_change : GoodIn wsX1_loss (wsV RX1 52 RX1 yX1_change wsX1_change) := goodIn_app (goodIn_of _ (by decide +kernel)) ggX1_loss_X1_change
theorem dX1_loss_0 : decode cX1_loss 0 = .ok (.iload_n 1, 1) := by decide +kernel
theorem dX1_loss_1 : decode cX1_loss 1 = .ok (.invokestatic 69, 3) := by decide +kernel
theorem dX1_loss_4 : decode cX1_loss 4 = .ok (.ifCond .ne 13, 3) := by decide +kernel
theorem dX1_loss_7 : decode cX1_loss 7 = .ok (.new 40, 3) := by decide +kernel
theorem dX1_loss_10 : decode cX1_loss 10 = .ok (.dup, 1) := by decide +kernel
theorem dX1_loss_11 : decode cX1_loss 11 = .ok (.ldc 72, 2) := by decide +kernel
theorem dX1_loss_13 : decode cX1_loss 13 = .ok (.invokespecial 44, 3) := by decide +kernel
theorem dX1_loss_16 : decode cX1_loss 16 = .ok (.athrow, 1) := by decide +kernel
theorem dX1_loss_17 : decode cX1_loss 17 = .ok (.iload_n 2, 1) := by decide +kernel
theorem dX1_loss_18 : decode cX1_loss 18 = .ok (.ifCond .lt 9, 3) := by decide +kernel
theorem dX1_loss_21 : decode cX1_loss 21 = .ok (.iload_n 2, 1) := by decide +kernel
theorem dX1_loss_22 : decode cX1_loss 22 = .ok (.bipush 20, 2) := by decide +kernel
theorem dX1_loss_24 : decode cX1_loss 24 = .ok (.if_icmp .le 13, 3) := by decide +kernel
theorem dX1_loss_27 : decode cX1_loss 27 = .ok (.new 47, 3) := by decide +kernel
theorem dX1_loss_30 : decode cX1_loss 30 = .ok (.dup, 1) := by decide +kernel
theorem dX1_loss_31 : decode cX1_loss 31 = .ok (.ldc 94, 2) := by decide +kernel
theorem dX1_loss_33 : decode cX1_loss 33 = .ok (.invokespecial 51, 3) := by decide +kernel
theorem dX1_loss_36 : decode cX1_loss 36 = .ok (.athrow, 1) := by decide +kernel
theorem dX1_loss_37 : decode cX1_loss 37 = .ok (.aload_n 0, 1) := by decide +kernel
theorem dX1_loss_38 : decode cX1_loss 38 = .ok (.iload_n 1, 1) := by decide +kernel
theorem dX1_loss_39 : decode cX1_loss 39 = .ok (.iconst 2, 1) := by decide +kernel
theorem dX1_loss_40 : decode cX1_loss 40 = .ok (.invokestatic 91, 3) := by decide +kernel
theorem dX1_loss_43 : decode cX1_loss 43 = .ok (.iload_n 2, 1) := by decide +kernel
theorem dX1_loss_44 : decode cX1_loss 44 = .ok (.invokevirtual 52, 3) := by decide +kernel
theorem dX1_loss_47 : decode cX1_loss 47 = .ok (.ireturn, 1) := by decide +kernel
set_option maxRecDepth 20000 in
theorem ggX1_service_X1_isMovement : GoodIn wsX1_service wsX1_isMovement := goodIn_r _ [9] (by decide +kernel) (by decide +kernel)
set_option maxRecDepth 20000 in
theorem gX1_service_X1_isMovement : GoodIn wsX1_service (va_wsS RX1 69 yX1_isMovement wsX1_isMovement) := goodIn_app (goodIn_of _ (by decide +kernel)) ggX1_service_X1_isMovement
set_option maxRecDepth 20000 in
theorem ggX1_service_X1_isLocked : GoodIn wsX1_service wsX1_isLocked := goodIn_r _ [13, 5, 31, 32, 33, 34, 35, 36] (by decide +kernel) (by decide +kernel)
set_option maxRecDepth 20000 in
theorem gX1_service_X1_isLocked : GoodIn wsX1_service (wsV RX1 79 RX1 yX1_isLocked wsX1_isLocked) := goodIn_app (goodIn_of _ (by decide +kernel)) ggX1_service_X1_isLocked
set_option maxRecDepth 20000 in
theorem ggX1_service_X1_place : GoodIn wsX1_service wsX1_place := goodIn_r _ [16] (by decide +kernel) (by decide +kernel)
set_option maxRecDepth 20000 in
theorem gX1_service_X1_place : GoodIn wsX1_service (va_wsS RX1 91 yX1_place wsX1_place) := goodIn_app (goodIn_of _ (by decide +kernel)) ggX1_service_X1_place
set_option maxRecDepth 20000 in
theorem ggX1_service_X1_change : GoodIn wsX1_service wsX1_change := goodIn_r _ [20, 5, 21, 22, 23, 8, 24, 25, 26, 27, 28, 29, 30, 31, 32, 33, 34, 35, 36] (by decide +kernel) (by decide +kernel)
set_option maxRecDepth 20000 in
theorem gX1_service_X1_change : GoodIn wsX1_service (wsV RX1 52 RX1 yX1_change wsX1_change) := goodIn_app (goodIn_of _ (by decide +kernel)) ggX1_service_X1_change
theorem dX1_service_0 : decode cX1_service 0 = .ok (.iload_n 1, 1) := by decide +kernel
theorem dX1_service_1 : decode cX1_service 1 = .ok (.invokestatic 69, 3) := by decide +kernel
theorem dX1_service_4 : decode cX1_service 4 = .ok (.ifCond .ne 13, 3) := by decide +kernel
theorem dX1_service_7 : decode cX1_service 7 = .ok (.new 40, 3) := by decide +kernel
theorem dX1_service_10 : decode cX1_service 10 = .ok (.dup, 1) := by decide +kernel
theorem dX1_service_11 : decode cX1_service 11 = .ok (.ldc 72, 2) := by decide +kernel
theorem dX1_service_13 : decode cX1_service 13 = .ok (.invokespecial 44, 3) := by decide +kernel
theorem dX1_service_16 : decode cX1_service 16 = .ok (.athrow, 1) := by decide +kernel
theorem dX1_service_17 : decode cX1_service 17 = .ok (.aload_n 0, 1) := by decide +kernel
theorem dX1_service_18 : decode cX1_service 18 = .ok (.invokevirtual 79, 3) := by decide +kernel
theorem dX1_service_21 : decode cX1_service 21 = .ok (.ifCond .eq 13, 3) := by decide +kernel
theorem dX1_service_24 : decode cX1_service 24 = .ok (.new 86, 3) := by decide +kernel
theorem dX1_service_27 : decode cX1_service 27 = .ok (.dup, 1) := by decide +kernel
theorem dX1_service_28 : decode cX1_service 28 = .ok (.ldc 96, 2) := by decide +kernel
theorem dX1_service_30 : decode cX1_service 30 = .ok (.invokespecial 90, 3) := by decide +kernel
theorem dX1_service_33 : decode cX1_service 33 = .ok (.athrow, 1) := by decide +kernel
theorem dX1_service_34 : decode cX1_service 34 = .ok (.aload_n 0, 1) := by decide +kernel
theorem dX1_service_35 : decode cX1_service 35 = .ok (.iload_n 1, 1) := by decide +kernel
theorem dX1_service_36 : decode cX1_service 36 = .ok (.iconst 3, 1) := by decide +kernel
theorem dX1_service_37 : decode cX1_service 37 = .ok (.invokestatic 91, 3) := by decide +kernel
theorem dX1_service_40 : decode cX1_service 40 = .ok (.iconst 0, 1) := by decide +kernel
theorem dX1_service_41 : decode cX1_service 41 = .ok (.invokevirtual 52, 3) := by decide +kernel
theorem dX1_service_44 : decode cX1_service 44 = .ok (.istore_n 2, 1) := by decide +kernel
theorem dX1_service_45 : decode cX1_service 45 = .ok (.aload_n 0, 1) := by decide +kernel
theorem dX1_service_46 : decode cX1_service 46 = .ok (.getfield 9, 3) := by decide +kernel
theorem dX1_service_49 : decode cX1_service 49 = .ok (.iload_n 1, 1) := by decide +kernel
theorem dX1_service_50 : decode cX1_service 50 = .ok (.iconst 1, 1) := by decide +kernel
theorem dX1_service_51 : decode cX1_service 51 = .ok (.invokestatic 91, 3) := by decide +kernel
theorem dX1_service_54 : decode cX1_service 54 = .ok (.iconst 1, 1) := by decide +kernel
theorem dX1_service_55 : decode cX1_service 55 = .ok (.iastore, 1) := by decide +kernel
theorem dX1_service_56 : decode cX1_service 56 = .ok (.aload_n 0, 1) := by decide +kernel
theorem dX1_service_57 : decode cX1_service 57 = .ok (.getfield 9, 3) := by decide +kernel
theorem dX1_service_60 : decode cX1_service 60 = .ok (.iload_n 1, 1) := by decide +kernel
theorem dX1_service_61 : decode cX1_service 61 = .ok (.iconst 2, 1) := by decide +kernel
theorem dX1_service_62 : decode cX1_service 62 = .ok (.invokestatic 91, 3) := by decide +kernel
theorem dX1_service_65 : decode cX1_service 65 = .ok (.iconst 0, 1) := by decide +kernel
theorem dX1_service_66 : decode cX1_service 66 = .ok (.iastore, 1) := by decide +kernel
theorem dX1_service_67 : decode cX1_service 67 = .ok (.iload_n 2, 1) := by decide +kernel
theorem dX1_service_68 : decode cX1_service 68 = .ok (.ireturn, 1) := by decide +kernel
set_option maxRecDepth 20000 in
theorem ggX1_lock_X1_isLocked : GoodIn wsX1_lock wsX1_isLocked := goodIn_r _ [8, 3, 42, 43, 44, 45, 46, 47] (by decide +kernel) (by decide +kernel)
set_option maxRecDepth 20000 in
theorem gX1_lock_X1_isLocked : GoodIn wsX1_lock (wsV RX1 79 RX1 yX1_isLocked wsX1_isLocked) := goodIn_app (goodIn_of _ (by decide +kernel)) ggX1_lock_X1_isLocked
set_option maxRecDepth 20000 in
theorem ggX1_lock_X1_someMovementRuns : GoodIn wsX1_lock wsX1_someMovementRuns := goodIn_r _ [12, 3, 13, 14, 15, 7, 16, 17, 18, 19, 42, 43, 44, 45, 46, 47] (by decide +kernel) (by decide +kernel)
set_option maxRecDepth 20000 in
theorem gX1_lock_X1_someMovementRuns : GoodIn wsX1_lock (wsV RX1 98 RX1 yX1_someMovementRuns wsX1_someMovementRuns) := goodIn_app (goodIn_of _ (by decide +kernel)) ggX1_lock_X1_someMovementRuns
set_option maxRecDepth 20000 in
theorem ggX1_lock_X1_save : GoodIn wsX1_lock wsX1_save := goodIn_r _ [23, 24, 25, 26, 27, 28, 29, 3, 42, 43, 44, 45, 46, 47] (by decide +kernel) (by decide +kernel)
set_option maxRecDepth 20000 in
theorem gX1_lock_X1_save : GoodIn wsX1_lock (wsV RX1 103 RX1 yX1_save wsX1_save) := goodIn_app (goodIn_of _ (by decide +kernel)) ggX1_lock_X1_save
set_option maxRecDepth 20000 in
theorem ggX1_lock_X1_hoursToOpening : GoodIn wsX1_lock wsX1_hoursToOpening := goodIn_r _ [33, 3, 34, 35, 36, 7, 37, 38, 39, 40, 41, 42, 43, 44, 45, 46, 47] (by decide +kernel) (by decide +kernel)
set_option maxRecDepth 20000 in
theorem gX1_lock_X1_hoursToOpening : GoodIn wsX1_lock (wsV RX1 106 RX1 yX1_hoursToOpening wsX1_hoursToOpening) := goodIn_app (goodIn_of _ (by decide +kernel)) ggX1_lock_X1_hoursToOpening
theorem dX1_lock_0 : decode cX1_lock 0 = .ok (.aload_n 0, 1) := by decide +kernel
theorem dX1_lock_1 : decode cX1_lock 1 = .ok (.invokevirtual 79, 3) := by decide +kernel
theorem dX1_lock_4 : decode cX1_lock 4 = .ok (.ifCond .ne 10, 3) := by decide +kernel
theorem dX1_lock_7 : decode cX1_lock 7 = .ok (.aload_n 0, 1) := by decide +kernel
theorem dX1_lock_8 : decode cX1_lock 8 = .ok (.invokevirtual 98, 3) := by decide +kernel
theorem dX1_lock_11 : decode cX1_lock 11 = .ok (.ifCond .ne 13, 3) := by decide +kernel
theorem dX1_lock_14 : decode cX1_lock 14 = .ok (.new 86, 3) := by decide +kernel
theorem dX1_lock_17 : decode cX1_lock 17 = .ok (.dup, 1) := by decide +kernel
theorem dX1_lock_18 : decode cX1_lock 18 = .ok (.ldc 101, 2) := by decide +kernel
theorem dX1_lock_20 : decode cX1_lock 20 = .ok (.invokespecial 90, 3) := by decide +kernel
theorem dX1_lock_23 : decode cX1_lock 23 = .ok (.athrow, 1) := by decide +kernel
theorem dX1_lock_24 : decode cX1_lock 24 = .ok (.aload_n 0, 1) := by decide +kernel
theorem dX1_lock_25 : decode cX1_lock 25 = .ok (.invokevirtual 103, 3) := by decide +kernel
theorem dX1_lock_28 : decode cX1_lock 28 = .ok (.aload_n 0, 1) := by decide +kernel
theorem dX1_lock_29 : decode cX1_lock 29 = .ok (.invokevirtual 106, 3) := by decide +kernel
theorem dX1_lock_32 : decode cX1_lock 32 = .ok (.istore_n 1, 1) := by decide +kernel
theorem dX1_lock_33 : decode cX1_lock 33 = .ok (.aload_n 0, 1) := by decide +kernel
theorem dX1_lock_34 : decode cX1_lock 34 = .ok (.getfield 9, 3) := by decide +kernel
theorem dX1_lock_37 : decode cX1_lock 37 = .ok (.iconst 1, 1) := by decide +kernel
theorem dX1_lock_38 : decode cX1_lock 38 = .ok (.iconst 1, 1) := by decide +kernel
theorem dX1_lock_39 : decode cX1_lock 39 = .ok (.iastore, 1) := by decide +kernel
theorem dX1_lock_40 : decode cX1_lock 40 = .ok (.aload_n 0, 1) := by decide +kernel
theorem dX1_lock_41 : decode cX1_lock 41 = .ok (.getfield 9, 3) := by decide +kernel
theorem dX1_lock_44 : decode cX1_lock 44 = .ok (.iconst 2, 1) := by decide +kernel
theorem dX1_lock_45 : decode cX1_lock 45 = .ok (.iload_n 1, 1) := by decide +kernel
theorem dX1_lock_46 : decode cX1_lock 46 = .ok (.iconst (-1), 1) := by decide +kernel
theorem dX1_lock_47 : decode cX1_lock 47 = .ok (.if_icmp .ne 7, 3) := by decide +kernel
theorem dX1_lock_50 : decode cX1_lock 50 = .ok (.iconst (-1), 1) := by decide +kernel
theorem dX1_lock_51 : decode cX1_lock 51 = .ok (.goto 11, 3) := by decide +kernel
theorem dX1_lock_54 : decode cX1_lock 54 = .ok (.aload_n 0, 1) := by decide +kernel
theorem dX1_lock_55 : decode cX1_lock 55 = .ok (.getfield 9, 3) := by decide +kernel
theorem dX1_lock_58 : decode cX1_lock 58 = .ok (.iconst 0, 1) := by decide +kernel
theorem dX1_lock_59 : decode cX1_lock 59 = .ok (.iaload, 1) := by decide +kernel
theorem dX1_lock_60 : decode cX1_lock 60 = .ok (.iload_n 1, 1) := by decide +kernel
theorem dX1_lock_61 : decode cX1_lock 61 = .ok (.iadd, 1) := by decide +kernel
theorem dX1_lock_62 : decode cX1_lock 62 = .ok (.iastore, 1) := by decide +kernel
theorem dX1_lock_63 : decode cX1_lock 63 = .ok (.iload_n 1, 1) := by decide +kernel
theorem dX1_lock_64 : decode cX1_lock 64 = .ok (.ireturn, 1) := by decide +kernel
set_option maxRecDepth 20000 in
theorem ggX1_open_X1_isLocked : GoodIn wsX1_open wsX1_isLocked := goodIn_r _ [7, 8, 58, 59, 60, 61, 62, 63] (by decide +kernel) (by decide +kernel)
set_option maxRecDepth 20000 in
theorem gX1_open_X1_isLocked : GoodIn wsX1_open (wsV RX1 79 RX1 yX1_isLocked wsX1_isLocked) := goodIn_app (goodIn_of _ (by decide +kernel)) ggX1_open_X1_isLocked
set_option maxRecDepth 20000 in
theorem ggX1_open_X1_save : GoodIn wsX1_open wsX1_save := goodIn_r _ [12, 13, 14, 15, 16, 17, 18, 8, 58, 59, 60, 61, 62, 63] (by decide +kernel) (by decide +kernel)
set_option maxRecDepth 20000 in
theorem gX1_open_X1_save : GoodIn wsX1_open (wsV RX1 103 RX1 yX1_save wsX1_save) := goodIn_app (goodIn_of _ (by decide +kernel)) ggX1_open_X1_save
set_option maxRecDepth 20000 in
theorem ggX1_open_X1_hoursToOpen : GoodIn wsX1_open wsX1_hoursToOpen := goodIn_r _ [22, 23, 24, 25, 26, 3, 4, 5, 6, 7, 8, 27, 28, 29, 30, 31, 32, 33, 34, 35, 36, 37, 38, 39, 40, 41, 58, 59, 60, 61, 62, 63] (by decide +kernel) (by decide +kernel)
set_option maxRecDepth 20000 in
theorem gX1_open_X1_hoursToOpen : GoodIn wsX1_open (wsV RX1 112 RX1 yX1_hoursToOpen wsX1_hoursToOpen) := goodIn_app (goodIn_of _ (by decide +kernel)) ggX1_open_X1_hoursToOpen
set_option maxRecDepth 20000 in
theorem ggX1_open_X1_countEarlyTry : GoodIn wsX1_open wsX1_countEarlyTry := goodIn_r _ [45, 8, 58, 59, 60, 61, 62, 63] (by decide +kernel) (by decide +kernel)
set_option maxRecDepth 20000 in
theorem gX1_open_X1_countEarlyTry : GoodIn wsX1_open (wsV RX1 116 RX1 yX1_countEarlyTry wsX1_countEarlyTry) := goodIn_app (goodIn_of _ (by decide +kernel)) ggX1_open_X1_countEarlyTry
set_option maxRecDepth 20000 in
theorem ggX1_open_X1_latenessAfter : GoodIn wsX1_open wsX1_latenessAfter := goodIn_r _ [49, 8, 58, 59, 60, 61, 62, 63] (by decide +kernel) (by decide +kernel)
set_option maxRecDepth 20000 in
theorem gX1_open_X1_latenessAfter : GoodIn wsX1_open (wsV RX1 119 RX1 yX1_latenessAfter wsX1_latenessAfter) := goodIn_app (goodIn_of _ (by decide +kernel)) ggX1_open_X1_latenessAfter
set_option maxRecDepth 20000 in
theorem ggX1_open_X1_countOpening : GoodIn wsX1_open wsX1_countOpening := goodIn_r _ [53, 8, 58, 59, 60, 61, 62, 63] (by decide +kernel) (by decide +kernel)
set_option maxRecDepth 20000 in
theorem gX1_open_X1_countOpening : GoodIn wsX1_open (wsV RX1 122 RX1 yX1_countOpening wsX1_countOpening) := goodIn_app (goodIn_of _ (by decide +kernel)) ggX1_open_X1_countOpening
set_option maxRecDepth 20000 in
theorem ggX1_open_X1_leaveOpen : GoodIn wsX1_open wsX1_leaveOpen := goodIn_r _ [57, 8, 58, 59, 60, 61, 62, 63] (by decide +kernel) (by decide +kernel)
set_option maxRecDepth 20000 in
theorem gX1_open_X1_leaveOpen : GoodIn wsX1_open (wsV RX1 126 RX1 yX1_leaveOpen wsX1_leaveOpen) := goodIn_app (goodIn_of _ (by decide +kernel)) ggX1_open_X1_leaveOpen
theorem dX1_open_0 : decode cX1_open 0 = .ok (.aload_n 0, 1) := by decide +kernel
theorem dX1_open_1 : decode cX1_open 1 = .ok (.invokevirtual 79, 3) := by decide +kernel
theorem dX1_open_4 : decode cX1_open 4 = .ok (.ifCond .ne 13, 3) := by decide +kernel
theorem dX1_open_7 : decode cX1_open 7 = .ok (.new 86, 3) := by decide +kernel
theorem dX1_open_10 : decode cX1_open 10 = .ok (.dup, 1) := by decide +kernel
theorem dX1_open_11 : decode cX1_open 11 = .ok (.ldc 110, 2) := by decide +kernel
theorem dX1_open_13 : decode cX1_open 13 = .ok (.invokespecial 90, 3) := by decide +kernel
theorem dX1_open_16 : decode cX1_open 16 = .ok (.athrow, 1) := by decide +kernel
theorem dX1_open_17 : decode cX1_open 17 = .ok (.aload_n 0, 1) := by decide +kernel
theorem dX1_open_18 : decode cX1_open 18 = .ok (.invokevirtual 103, 3) := by decide +kernel
theorem dX1_open_21 : decode cX1_open 21 = .ok (.aload_n 0, 1) := by decide +kernel
theorem dX1_open_22 : decode cX1_open 22 = .ok (.iconst (-1), 1) := by decide +kernel
theorem dX1_open_23 : decode cX1_open 23 = .ok (.invokevirtual 112, 3) := by decide +kernel
theorem dX1_open_26 : decode cX1_open 26 = .ok (.ifCond .eq 9, 3) := by decide +kernel
theorem dX1_open_29 : decode cX1_open 29 = .ok (.aload_n 0, 1) := by decide +kernel
theorem dX1_open_30 : decode cX1_open 30 = .ok (.invokevirtual 116, 3) := by decide +kernel
theorem dX1_open_33 : decode cX1_open 33 = .ok (.iconst 0, 1) := by decide +kernel
theorem dX1_open_34 : decode cX1_open 34 = .ok (.ireturn, 1) := by decide +kernel
theorem dX1_open_35 : decode cX1_open 35 = .ok (.aload_n 0, 1) := by decide +kernel
theorem dX1_open_36 : decode cX1_open 36 = .ok (.aload_n 0, 1) := by decide +kernel
theorem dX1_open_37 : decode cX1_open 37 = .ok (.iconst 0, 1) := by decide +kernel
theorem dX1_open_38 : decode cX1_open 38 = .ok (.invokevirtual 119, 3) := by decide +kernel
theorem dX1_open_41 : decode cX1_open 41 = .ok (.invokevirtual 122, 3) := by decide +kernel
theorem dX1_open_44 : decode cX1_open 44 = .ok (.aload_n 0, 1) := by decide +kernel
theorem dX1_open_45 : decode cX1_open 45 = .ok (.invokevirtual 126, 3) := by decide +kernel
theorem dX1_open_48 : decode cX1_open 48 = .ok (.iconst 1, 1) := by decide +kernel
theorem dX1_open_49 : decode cX1_open 49 = .ok (.ireturn, 1) := by decide +kernel
set_option maxRecDepth 20000 in
theorem ggX1_drill_X1_isLocked : GoodIn wsX1_drill wsX1_isLocked := goodIn_r _ [8, 3, 26, 27, 28, 29, 30, 31] (by decide +kernel) (by decide +kernel)
set_option maxRecDepth 20000 in
theorem gX1_drill_X1_isLocked : GoodIn wsX1_drill (wsV RX1 79 RX1 yX1_isLocked wsX1_isLocked) := goodIn_app (goodIn_of _ (by decide +kernel)) ggX1_drill_X1_isLocked
set_option maxRecDepth 20000 in
theorem ggX1_drill_X1_save : GoodIn wsX1_drill wsX1_save := goodIn_r _ [12, 13, 14, 15, 16, 17, 18, 3, 26, 27, 28, 29, 30, 31] (by decide +kernel) (by decide +kernel)
set_option maxRecDepth 20000 in
theorem gX1_drill_X1_save : GoodIn wsX1_drill (wsV RX1 103 RX1 yX1_save wsX1_save) := goodIn_app (goodIn_of _ (by decide +kernel)) ggX1_drill_X1_save
set_option maxRecDepth 20000 in
theorem ggX1_drill_X1_place : GoodIn wsX1_drill wsX1_place := goodIn_r _ [21] (by decide +kernel) (by decide +kernel)
set_option maxRecDepth 20000 in
theorem gX1_drill_X1_place : GoodIn wsX1_drill (va_wsS RX1 91 yX1_place wsX1_place) := goodIn_app (goodIn_of _ (by decide +kernel)) ggX1_drill_X1_place
set_option maxRecDepth 20000 in
theorem ggX1_drill_X1_leaveOpen : GoodIn wsX1_drill wsX1_leaveOpen := goodIn_r _ [25, 3, 26, 27, 28, 29, 30, 31] (by decide +kernel) (by decide +kernel)
set_option maxRecDepth 20000 in
theorem gX1_drill_X1_leaveOpen : GoodIn wsX1_drill (wsV RX1 126 RX1 yX1_leaveOpen wsX1_leaveOpen) := goodIn_app (goodIn_of _ (by decide +kernel)) ggX1_drill_X1_leaveOpen
theorem dX1_drill_0 : decode cX1_drill 0 = .ok (.aload_n 0, 1) := by decide +kernel
theorem dX1_drill_1 : decode cX1_drill 1 = .ok (.invokevirtual 79, 3) := by decide +kernel
theorem dX1_drill_4 : decode cX1_drill 4 = .ok (.ifCond .ne 13, 3) := by decide +kernel
theorem dX1_drill_7 : decode cX1_drill 7 = .ok (.new 86, 3) := by decide +kernel
theorem dX1_drill_10 : decode cX1_drill 10 = .ok (.dup, 1) := by decide +kernel
theorem dX1_drill_11 : decode cX1_drill 11 = .ok (.ldc 110, 2) := by decide +kernel
theorem dX1_drill_13 : decode cX1_drill 13 = .ok (.invokespecial 90, 3) := by decide +kernel
theorem dX1_drill_16 : decode cX1_drill 16 = .ok (.athrow, 1) := by decide +kernel
theorem dX1_drill_17 : decode cX1_drill 17 = .ok (.aload_n 0, 1) := by decide +kernel
theorem dX1_drill_18 : decode cX1_drill 18 = .ok (.invokevirtual 103, 3) := by decide +kernel
theorem dX1_drill_21 : decode cX1_drill 21 = .ok (.iconst 0, 1) := by decide +kernel
theorem dX1_drill_22 : decode cX1_drill 22 = .ok (.istore_n 1, 1) := by decide +kernel
theorem dX1_drill_23 : decode cX1_drill 23 = .ok (.iload_n 1, 1) := by decide +kernel
theorem dX1_drill_24 : decode cX1_drill 24 = .ok (.iconst 3, 1) := by decide +kernel
theorem dX1_drill_25 : decode cX1_drill 25 = .ok (.if_icmp .ge 31, 3) := by decide +kernel
theorem dX1_drill_28 : decode cX1_drill 28 = .ok (.aload_n 0, 1) := by decide +kernel
theorem dX1_drill_29 : decode cX1_drill 29 = .ok (.getfield 9, 3) := by decide +kernel
theorem dX1_drill_32 : decode cX1_drill 32 = .ok (.iload_n 1, 1) := by decide +kernel
theorem dX1_drill_33 : decode cX1_drill 33 = .ok (.iconst 0, 1) := by decide +kernel
theorem dX1_drill_34 : decode cX1_drill 34 = .ok (.invokestatic 91, 3) := by decide +kernel
theorem dX1_drill_37 : decode cX1_drill 37 = .ok (.iconst 0, 1) := by decide +kernel
theorem dX1_drill_38 : decode cX1_drill 38 = .ok (.iastore, 1) := by decide +kernel
theorem dX1_drill_39 : decode cX1_drill 39 = .ok (.aload_n 0, 1) := by decide +kernel
theorem dX1_drill_40 : decode cX1_drill 40 = .ok (.getfield 9, 3) := by decide +kernel
theorem dX1_drill_43 : decode cX1_drill 43 = .ok (.iload_n 1, 1) := by decide +kernel
theorem dX1_drill_44 : decode cX1_drill 44 = .ok (.iconst 1, 1) := by decide +kernel
theorem dX1_drill_45 : decode cX1_drill 45 = .ok (.invokestatic 91, 3) := by decide +kernel
theorem dX1_drill_48 : decode cX1_drill 48 = .ok (.iconst 0, 1) := by decide +kernel
theorem dX1_drill_49 : decode cX1_drill 49 = .ok (.iastore, 1) := by decide +kernel
theorem dX1_drill_50 : decode cX1_drill 50 = .ok (.iinc 1 1, 3) := by decide +kernel
theorem dX1_drill_53 : decode cX1_drill 53 = .ok (.goto (-30), 3) := by decide +kernel
theorem dX1_drill_56 : decode cX1_drill 56 = .ok (.aload_n 0, 1) := by decide +kernel
theorem dX1_drill_57 : decode cX1_drill 57 = .ok (.invokevirtual 126, 3) := by decide +kernel
theorem dX1_drill_60 : decode cX1_drill 60 = .ok (.aload_n 0, 1) := by decide +kernel
theorem dX1_drill_61 : decode cX1_drill 61 = .ok (.getfield 9, 3) := by decide +kernel
theorem dX1_drill_64 : decode cX1_drill 64 = .ok (.bipush 10, 2) := by decide +kernel
theorem dX1_drill_66 : decode cX1_drill 66 = .ok (.dup2, 1) := by decide +kernel
theorem dX1_drill_67 : decode cX1_drill 67 = .ok (.iaload, 1) := by decide +kernel
theorem dX1_drill_68 : decode cX1_drill 68 = .ok (.iconst 1, 1) := by decide +kernel
theorem dX1_drill_69 : decode cX1_drill 69 = .ok (.iadd, 1) := by decide +kernel
theorem dX1_drill_70 : decode cX1_drill 70 = .ok (.iastore, 1) := by decide +kernel
theorem dX1_drill_71 : decode cX1_drill 71 = .ok (.aload_n 0, 1) := by decide +kernel
theorem dX1_drill_72 : decode cX1_drill 72 = .ok (.getfield 9, 3) := by decide +kernel
theorem dX1_drill_75 : decode cX1_drill 75 = .ok (.bipush 10, 2) := by decide +kernel
theorem dX1_drill_77 : decode cX1_drill 77 = .ok (.iaload, 1) := by decide +kernel
theorem dX1_drill_78 : decode cX1_drill 78 = .ok (.ireturn, 1) := by decide +kernel
set_option maxRecDepth 20000 in
theorem ggX1_pass_X1_save : GoodIn wsX1_pass wsX1_save := goodIn_r _ [11, 12, 13, 14, 15, 16, 17, 5, 44, 45, 46, 47, 48, 49] (by decide +kernel) (by decide +kernel)
set_option maxRecDepth 20000 in
theorem gX1_pass_X1_save : GoodIn wsX1_pass (wsV RX1 103 RX1 yX1_save wsX1_save) := goodIn_app (goodIn_of _ (by decide +kernel)) ggX1_pass_X1_save
set_option maxRecDepth 20000 in
theorem ggX1_pass_X1_passHour : GoodIn wsX1_pass wsX1_passHour := goodIn_r _ [21, 5, 22, 23, 24, 10, 25, 26, 27, 28, 29, 30, 31, 32, 33, 34, 35, 36, 37, 38, 39, 44, 45, 46, 47, 48, 49] (by decide +kernel) (by decide +kernel)
set_option maxRecDepth 20000 in
theorem gX1_pass_X1_passHour : GoodIn wsX1_pass (wsV RX1 132 RX1 yX1_passHour wsX1_passHour) := goodIn_app (goodIn_of _ (by decide +kernel)) ggX1_pass_X1_passHour
set_option maxRecDepth 20000 in
theorem ggX1_pass_X1_movementsRunDown : GoodIn wsX1_pass wsX1_movementsRunDown := goodIn_r _ [43, 5, 34, 35, 10, 36, 44, 45, 46, 47, 48, 49] (by decide +kernel) (by decide +kernel)
set_option maxRecDepth 20000 in
theorem gX1_pass_X1_movementsRunDown : GoodIn wsX1_pass (wsV RX1 135 RX1 yX1_movementsRunDown wsX1_movementsRunDown) := goodIn_app (goodIn_of _ (by decide +kernel)) ggX1_pass_X1_movementsRunDown
theorem dX1_pass_0 : decode cX1_pass 0 = .ok (.iload_n 1, 1) := by decide +kernel
theorem dX1_pass_1 : decode cX1_pass 1 = .ok (.iconst 1, 1) := by decide +kernel
theorem dX1_pass_2 : decode cX1_pass 2 = .ok (.if_icmp .lt 10, 3) := by decide +kernel
theorem dX1_pass_5 : decode cX1_pass 5 = .ok (.iload_n 1, 1) := by decide +kernel
theorem dX1_pass_6 : decode cX1_pass 6 = .ok (.sipush 200, 3) := by decide +kernel
theorem dX1_pass_9 : decode cX1_pass 9 = .ok (.if_icmp .le 13, 3) := by decide +kernel
theorem dX1_pass_12 : decode cX1_pass 12 = .ok (.new 47, 3) := by decide +kernel
theorem dX1_pass_15 : decode cX1_pass 15 = .ok (.dup, 1) := by decide +kernel
theorem dX1_pass_16 : decode cX1_pass 16 = .ok (.ldc 77, 2) := by decide +kernel
theorem dX1_pass_18 : decode cX1_pass 18 = .ok (.invokespecial 51, 3) := by decide +kernel
theorem dX1_pass_21 : decode cX1_pass 21 = .ok (.athrow, 1) := by decide +kernel
theorem dX1_pass_22 : decode cX1_pass 22 = .ok (.aload_n 0, 1) := by decide +kernel
theorem dX1_pass_23 : decode cX1_pass 23 = .ok (.getfield 9, 3) := by decide +kernel
theorem dX1_pass_26 : decode cX1_pass 26 = .ok (.iconst 0, 1) := by decide +kernel
theorem dX1_pass_27 : decode cX1_pass 27 = .ok (.iaload, 1) := by decide +kernel
theorem dX1_pass_28 : decode cX1_pass 28 = .ok (.iload_n 1, 1) := by decide +kernel
theorem dX1_pass_29 : decode cX1_pass 29 = .ok (.iadd, 1) := by decide +kernel
theorem dX1_pass_30 : decode cX1_pass 30 = .ok (.ldc 129, 2) := by decide +kernel
theorem dX1_pass_32 : decode cX1_pass 32 = .ok (.if_icmp .le 13, 3) := by decide +kernel
theorem dX1_pass_35 : decode cX1_pass 35 = .ok (.new 86, 3) := by decide +kernel
theorem dX1_pass_38 : decode cX1_pass 38 = .ok (.dup, 1) := by decide +kernel
theorem dX1_pass_39 : decode cX1_pass 39 = .ok (.ldc 130, 2) := by decide +kernel
theorem dX1_pass_41 : decode cX1_pass 41 = .ok (.invokespecial 90, 3) := by decide +kernel
theorem dX1_pass_44 : decode cX1_pass 44 = .ok (.athrow, 1) := by decide +kernel
theorem dX1_pass_45 : decode cX1_pass 45 = .ok (.aload_n 0, 1) := by decide +kernel
theorem dX1_pass_46 : decode cX1_pass 46 = .ok (.invokevirtual 103, 3) := by decide +kernel
theorem dX1_pass_49 : decode cX1_pass 49 = .ok (.iconst 0, 1) := by decide +kernel
theorem dX1_pass_50 : decode cX1_pass 50 = .ok (.istore_n 2, 1) := by decide +kernel
theorem dX1_pass_51 : decode cX1_pass 51 = .ok (.iload_n 2, 1) := by decide +kernel
theorem dX1_pass_52 : decode cX1_pass 52 = .ok (.iload_n 1, 1) := by decide +kernel
theorem dX1_pass_53 : decode cX1_pass 53 = .ok (.if_icmp .ge 13, 3) := by decide +kernel
theorem dX1_pass_56 : decode cX1_pass 56 = .ok (.aload_n 0, 1) := by decide +kernel
theorem dX1_pass_57 : decode cX1_pass 57 = .ok (.invokevirtual 132, 3) := by decide +kernel
theorem dX1_pass_60 : decode cX1_pass 60 = .ok (.iinc 2 1, 3) := by decide +kernel
theorem dX1_pass_63 : decode cX1_pass 63 = .ok (.goto (-12), 3) := by decide +kernel
theorem dX1_pass_66 : decode cX1_pass 66 = .ok (.aload_n 0, 1) := by decide +kernel
theorem dX1_pass_67 : decode cX1_pass 67 = .ok (.invokevirtual 135, 3) := by decide +kernel
theorem dX1_pass_70 : decode cX1_pass 70 = .ok (.ireturn, 1) := by decide +kernel
theorem dX1_append_0 : decode cX1_append 0 = .ok (.iload_n 1, 1) := by decide +kernel
theorem dX1_append_1 : decode cX1_append 1 = .ok (.bipush 33, 2) := by decide +kernel
theorem dX1_append_3 : decode cX1_append 3 = .ok (.if_icmp .lt 9, 3) := by decide +kernel
theorem dX1_append_6 : decode cX1_append 6 = .ok (.iload_n 1, 1) := by decide +kernel
theorem dX1_append_7 : decode cX1_append 7 = .ok (.bipush 126, 2) := by decide +kernel
theorem dX1_append_9 : decode cX1_append 9 = .ok (.if_icmp .le 13, 3) := by decide +kernel
theorem dX1_append_12 : decode cX1_append 12 = .ok (.new 47, 3) := by decide +kernel
theorem dX1_append_15 : decode cX1_append 15 = .ok (.dup, 1) := by decide +kernel
theorem dX1_append_16 : decode cX1_append 16 = .ok (.ldc 138, 2) := by decide +kernel
theorem dX1_append_18 : decode cX1_append 18 = .ok (.invokespecial 51, 3) := by decide +kernel
theorem dX1_append_21 : decode cX1_append 21 = .ok (.athrow, 1) := by decide +kernel
theorem dX1_append_22 : decode cX1_append 22 = .ok (.aload_n 0, 1) := by decide +kernel
theorem dX1_append_23 : decode cX1_append 23 = .ok (.getfield 23, 3) := by decide +kernel
theorem dX1_append_26 : decode cX1_append 26 = .ok (.bipush 60, 2) := by decide +kernel
theorem dX1_append_28 : decode cX1_append 28 = .ok (.if_icmp .lt 13, 3) := by decide +kernel
theorem dX1_append_31 : decode cX1_append 31 = .ok (.new 86, 3) := by decide +kernel
theorem dX1_append_34 : decode cX1_append 34 = .ok (.dup, 1) := by decide +kernel
theorem dX1_append_35 : decode cX1_append 35 = .ok (.ldc 140, 2) := by decide +kernel
theorem dX1_append_37 : decode cX1_append 37 = .ok (.invokespecial 90, 3) := by decide +kernel
theorem dX1_append_40 : decode cX1_append 40 = .ok (.athrow, 1) := by decide +kernel
theorem dX1_append_41 : decode cX1_append 41 = .ok (.aload_n 0, 1) := by decide +kernel
theorem dX1_append_42 : decode cX1_append 42 = .ok (.getfield 20, 3) := by decide +kernel
theorem dX1_append_45 : decode cX1_append 45 = .ok (.aload_n 0, 1) := by decide +kernel
theorem dX1_append_46 : decode cX1_append 46 = .ok (.getfield 23, 3) := by decide +kernel
theorem dX1_append_49 : decode cX1_append 49 = .ok (.iload_n 1, 1) := by decide +kernel
theorem dX1_append_50 : decode cX1_append 50 = .ok (.iastore, 1) := by decide +kernel
theorem dX1_append_51 : decode cX1_append 51 = .ok (.aload_n 0, 1) := by decide +kernel
theorem dX1_append_52 : decode cX1_append 52 = .ok (.dup, 1) := by decide +kernel
theorem dX1_append_53 : decode cX1_append 53 = .ok (.getfield 23, 3) := by decide +kernel
theorem dX1_append_56 : decode cX1_append 56 = .ok (.iconst 1, 1) := by decide +kernel
theorem dX1_append_57 : decode cX1_append 57 = .ok (.iadd, 1) := by decide +kernel
theorem dX1_append_58 : decode cX1_append 58 = .ok (.putfield 23, 3) := by decide +kernel
theorem dX1_append_61 : decode cX1_append 61 = .ok (.aload_n 0, 1) := by decide +kernel
theorem dX1_append_62 : decode cX1_append 62 = .ok (.getfield 23, 3) := by decide +kernel
theorem dX1_append_65 : decode cX1_append 65 = .ok (.ireturn, 1) := by decide +kernel
theorem dX1_clearBuffer_0 : decode cX1_clearBuffer 0 = .ok (.aload_n 0, 1) := by decide +kernel
theorem dX1_clearBuffer_1 : decode cX1_clearBuffer 1 = .ok (.getfield 23, 3) := by decide +kernel
theorem dX1_clearBuffer_4 : decode cX1_clearBuffer 4 = .ok (.istore_n 1, 1) := by decide +kernel
theorem dX1_clearBuffer_5 : decode cX1_clearBuffer 5 = .ok (.aload_n 0, 1) := by decide +kernel
theorem dX1_clearBuffer_6 : decode cX1_clearBuffer 6 = .ok (.iconst 0, 1) := by decide +kernel
theorem dX1_clearBuffer_7 : decode cX1_clearBuffer 7 = .ok (.putfield 23, 3) := by decide +kernel
theorem dX1_clearBuffer_10 : decode cX1_clearBuffer 10 = .ok (.iload_n 1, 1) := by decide +kernel
theorem dX1_clearBuffer_11 : decode cX1_clearBuffer 11 = .ok (.ireturn, 1) := by decide +kernel
set_option maxRecDepth 20000 in
theorem ggX1_firstError_X1_readBuffer : GoodIn wsX1_firstError wsX1_readBuffer := goodIn_r _ [5, 6, 7, 8, 9, 10, 11, 12, 13, 14, 15, 16, 17, 18, 19, 20, 21, 22, 23, 24, 25, 26, 27, 28, 29, 30, 31, 32, 33, 34, 35, 36, 37, 38, 39, 40, 41, 42, 43, 44, 45, 46, 47, 48, 49, 50, 51] (by decide +kernel) (by decide +kernel)
set_option maxRecDepth 20000 in
theorem gX1_firstError_X1_readBuffer : GoodIn wsX1_firstError (wsV RX1 142 RX1 yX1_readBuffer wsX1_readBuffer) := goodIn_app (goodIn_of _ (by decide +kernel)) ggX1_firstError_X1_readBuffer
theorem dX1_firstError_0 : decode cX1_firstError 0 = .ok (.aload_n 0, 1) := by decide +kernel
theorem dX1_firstError_1 : decode cX1_firstError 1 = .ok (.invokevirtual 142, 3) := by decide +kernel
theorem dX1_firstError_4 : decode cX1_firstError 4 = .ok (.ireturn, 1) := by decide +kernel
set_option maxRecDepth 20000 in
theorem ggX1_windAll_X1_readBuffer : GoodIn wsX1_windAll wsX1_readBuffer := goodIn_r _ [12, 6, 5, 13, 14, 15, 16, 17, 18, 19, 20, 21, 22, 23, 24, 25, 26, 27, 28, 29, 30, 31, 32, 33, 34, 35, 36, 37, 38, 39, 40, 41, 42, 43, 44, 45, 46, 99, 100, 101, 102, 103, 104, 105, 106, 107, 108] (by decide +kernel) (by decide +kernel)
set_option maxRecDepth 20000 in
theorem gX1_windAll_X1_readBuffer : GoodIn wsX1_windAll (wsV RX1 142 RX1 yX1_readBuffer wsX1_readBuffer) := goodIn_app (goodIn_of _ (by decide +kernel)) ggX1_windAll_X1_readBuffer
set_option maxRecDepth 20000 in
theorem ggX1_windAll_X0_areComplete : GoodIn wsX1_windAll wsX0_areComplete := goodIn_r _ [50, 19, 31, 32, 33, 17, 34, 20, 21, 22, 105, 106, 107, 108] (by decide +kernel) (by decide +kernel)
set_option maxRecDepth 20000 in
theorem gX1_windAll_X0_areComplete : GoodIn wsX1_windAll (wsV RX1 145 RX0 yX0_areComplete wsX0_areComplete) := goodIn_app (goodIn_of _ (by decide +kernel)) ggX1_windAll_X0_areComplete
set_option maxRecDepth 20000 in
theorem ggX1_windAll_X1_hoursToOpening : GoodIn wsX1_windAll wsX1_hoursToOpening := goodIn_r _ [54, 7, 55, 56, 57, 11, 58, 59, 60, 61, 62, 99, 100, 101, 102, 103, 104] (by decide +kernel) (by decide +kernel)
set_option maxRecDepth 20000 in
theorem gX1_windAll_X1_hoursToOpening : GoodIn wsX1_windAll (wsV RX1 106 RX1 yX1_hoursToOpening wsX1_hoursToOpening) := goodIn_app (goodIn_of _ (by decide +kernel)) ggX1_windAll_X1_hoursToOpening
set_option maxRecDepth 20000 in
theorem ggX1_windAll_X1_isLocked : GoodIn wsX1_windAll wsX1_isLocked := goodIn_r _ [66, 7, 99, 100, 101, 102, 103, 104] (by decide +kernel) (by decide +kernel)
set_option maxRecDepth 20000 in
theorem gX1_windAll_X1_isLocked : GoodIn wsX1_windAll (wsV RX1 79 RX1 yX1_isLocked wsX1_isLocked) := goodIn_app (goodIn_of _ (by decide +kernel)) ggX1_windAll_X1_isLocked
set_option maxRecDepth 20000 in
theorem ggX1_windAll_X1_canWindAll : GoodIn wsX1_windAll wsX1_canWindAll := goodIn_r _ [70, 6, 71, 72, 73, 17, 74, 20, 75, 76, 77, 11, 78, 7, 79, 80, 81, 82, 83, 84, 85, 22, 21, 86, 87, 88, 99, 100, 101, 102, 103, 104, 105, 106, 107, 108] (by decide +kernel) (by decide +kernel)
set_option maxRecDepth 20000 in
theorem gX1_windAll_X1_canWindAll : GoodIn wsX1_windAll (wsV RX1 150 RX1 yX1_canWindAll wsX1_canWindAll) := goodIn_app (goodIn_of _ (by decide +kernel)) ggX1_windAll_X1_canWindAll
set_option maxRecDepth 20000 in
theorem ggX1_windAll_X1_save : GoodIn wsX1_windAll wsX1_save := goodIn_r _ [92, 93, 94, 95, 96, 97, 98, 7, 99, 100, 101, 102, 103, 104] (by decide +kernel) (by decide +kernel)
set_option maxRecDepth 20000 in
theorem gX1_windAll_X1_save : GoodIn wsX1_windAll (wsV RX1 103 RX1 yX1_save wsX1_save) := goodIn_app (goodIn_of _ (by decide +kernel)) ggX1_windAll_X1_save
set_option maxRecDepth 20000 in
theorem ggX1_windAll_X0_winds : GoodIn wsX1_windAll wsX0_winds := goodIn_r _ [74, 20, 105, 106, 107, 108] (by decide +kernel) (by decide +kernel)
set_option maxRecDepth 20000 in
theorem gX1_windAll_X0_winds : GoodIn wsX1_windAll (wsV RX1 155 RX0 yX0_winds wsX0_winds) := goodIn_app (goodIn_of _ (by decide +kernel)) ggX1_windAll_X0_winds
set_option maxRecDepth 20000 in
theorem ggX1_windAll_X1_place : GoodIn wsX1_windAll wsX1_place := goodIn_r _ [81] (by decide +kernel) (by decide +kernel)
set_option maxRecDepth 20000 in
theorem gX1_windAll_X1_place : GoodIn wsX1_windAll (va_wsS RX1 91 yX1_place wsX1_place) := goodIn_app (goodIn_of _ (by decide +kernel)) ggX1_windAll_X1_place
set_option maxRecDepth 20000 in
theorem ggX1_windAll_X0_hours : GoodIn wsX1_windAll wsX0_hours := goodIn_r _ [85, 20, 22, 21, 105, 106, 107, 108] (by decide +kernel) (by decide +kernel)
set_option maxRecDepth 20000 in
theorem gX1_windAll_X0_hours : GoodIn wsX1_windAll (wsV RX1 158 RX0 yX0_hours wsX0_hours) := goodIn_app (goodIn_of _ (by decide +kernel)) ggX1_windAll_X0_hours
theorem dX1_windAll_0 : decode cX1_windAll 0 = .ok (.aload_n 0, 1) := by decide +kernel
theorem dX1_windAll_1 : decode cX1_windAll 1 = .ok (.invokevirtual 142, 3) := by decide +kernel
theorem dX1_windAll_4 : decode cX1_windAll 4 = .ok (.aload_n 0, 1) := by decide +kernel
theorem dX1_windAll_5 : decode cX1_windAll 5 = .ok (.getfield 23, 3) := by decide +kernel
theorem dX1_windAll_8 : decode cX1_windAll 8 = .ok (.if_icmp .lt 13, 3) := by decide +kernel
theorem dX1_windAll_11 : decode cX1_windAll 11 = .ok (.aload_n 0, 1) := by decide +kernel
theorem dX1_windAll_12 : decode cX1_windAll 12 = .ok (.getfield 29, 3) := by decide +kernel
theorem dX1_windAll_15 : decode cX1_windAll 15 = .ok (.invokevirtual 145, 3) := by decide +kernel
theorem dX1_windAll_18 : decode cX1_windAll 18 = .ok (.ifCond .ne 13, 3) := by decide +kernel
theorem dX1_windAll_21 : decode cX1_windAll 21 = .ok (.new 47, 3) := by decide +kernel
theorem dX1_windAll_24 : decode cX1_windAll 24 = .ok (.dup, 1) := by decide +kernel
theorem dX1_windAll_25 : decode cX1_windAll 25 = .ok (.ldc 148, 2) := by decide +kernel
theorem dX1_windAll_27 : decode cX1_windAll 27 = .ok (.invokespecial 51, 3) := by decide +kernel
theorem dX1_windAll_30 : decode cX1_windAll 30 = .ok (.athrow, 1) := by decide +kernel
theorem dX1_windAll_31 : decode cX1_windAll 31 = .ok (.aload_n 0, 1) := by decide +kernel
theorem dX1_windAll_32 : decode cX1_windAll 32 = .ok (.invokevirtual 106, 3) := by decide +kernel
theorem dX1_windAll_35 : decode cX1_windAll 35 = .ok (.istore_n 1, 1) := by decide +kernel
theorem dX1_windAll_36 : decode cX1_windAll 36 = .ok (.aload_n 0, 1) := by decide +kernel
theorem dX1_windAll_37 : decode cX1_windAll 37 = .ok (.invokevirtual 79, 3) := by decide +kernel
theorem dX1_windAll_40 : decode cX1_windAll 40 = .ok (.ifCond .ne 11, 3) := by decide +kernel
theorem dX1_windAll_43 : decode cX1_windAll 43 = .ok (.aload_n 0, 1) := by decide +kernel
theorem dX1_windAll_44 : decode cX1_windAll 44 = .ok (.iload_n 1, 1) := by decide +kernel
theorem dX1_windAll_45 : decode cX1_windAll 45 = .ok (.invokevirtual 150, 3) := by decide +kernel
theorem dX1_windAll_48 : decode cX1_windAll 48 = .ok (.ifCond .ne 13, 3) := by decide +kernel
theorem dX1_windAll_51 : decode cX1_windAll 51 = .ok (.new 86, 3) := by decide +kernel
end
section
theorem dX1_windAll_54 : decode cX1_windAll 54 = .ok (.dup, 1) := by decide +kernel
theorem dX1_windAll_55 : decode cX1_windAll 55 = .ok (.ldc 153, 2) := by decide +kernel
theorem dX1_windAll_57 : decode cX1_windAll 57 = .ok (.invokespecial 90, 3) := by decide +kernel
theorem dX1_windAll_60 : decode cX1_windAll 60 = .ok (.athrow, 1) := by decide +kernel
theorem dX1_windAll_61 : decode cX1_windAll 61 = .ok (.aload_n 0, 1) := by decide +kernel
theorem dX1_windAll_62 : decode cX1_windAll 62 = .ok (.invokevirtual 103, 3) := by decide +kernel
theorem dX1_windAll_65 : decode cX1_windAll 65 = .ok (.iconst 0, 1) := by decide +kernel
theorem dX1_windAll_66 : decode cX1_windAll 66 = .ok (.istore_n 2, 1) := by decide +kernel
theorem dX1_windAll_67 : decode cX1_windAll 67 = .ok (.iconst 0, 1) := by decide +kernel
theorem dX1_windAll_68 : decode cX1_windAll 68 = .ok (.istore_n 3, 1) := by decide +kernel
theorem dX1_windAll_69 : decode cX1_windAll 69 = .ok (.iload_n 3, 1) := by decide +kernel
theorem dX1_windAll_70 : decode cX1_windAll 70 = .ok (.iconst 3, 1) := by decide +kernel
theorem dX1_windAll_71 : decode cX1_windAll 71 = .ok (.if_icmp .ge 42, 3) := by decide +kernel
theorem dX1_windAll_74 : decode cX1_windAll 74 = .ok (.aload_n 0, 1) := by decide +kernel
theorem dX1_windAll_75 : decode cX1_windAll 75 = .ok (.getfield 29, 3) := by decide +kernel
theorem dX1_windAll_78 : decode cX1_windAll 78 = .ok (.iload_n 3, 1) := by decide +kernel
theorem dX1_windAll_79 : decode cX1_windAll 79 = .ok (.invokevirtual 155, 3) := by decide +kernel
theorem dX1_windAll_82 : decode cX1_windAll 82 = .ok (.ifCond .eq 25, 3) := by decide +kernel
theorem dX1_windAll_85 : decode cX1_windAll 85 = .ok (.aload_n 0, 1) := by decide +kernel
theorem dX1_windAll_86 : decode cX1_windAll 86 = .ok (.getfield 9, 3) := by decide +kernel
theorem dX1_windAll_89 : decode cX1_windAll 89 = .ok (.iload_n 3, 1) := by decide +kernel
theorem dX1_windAll_90 : decode cX1_windAll 90 = .ok (.iconst 0, 1) := by decide +kernel
theorem dX1_windAll_91 : decode cX1_windAll 91 = .ok (.invokestatic 91, 3) := by decide +kernel
theorem dX1_windAll_94 : decode cX1_windAll 94 = .ok (.aload_n 0, 1) := by decide +kernel
theorem dX1_windAll_95 : decode cX1_windAll 95 = .ok (.getfield 29, 3) := by decide +kernel
theorem dX1_windAll_98 : decode cX1_windAll 98 = .ok (.iload_n 3, 1) := by decide +kernel
theorem dX1_windAll_99 : decode cX1_windAll 99 = .ok (.iload_n 1, 1) := by decide +kernel
theorem dX1_windAll_100 : decode cX1_windAll 100 = .ok (.invokevirtual 158, 3) := by decide +kernel
theorem dX1_windAll_103 : decode cX1_windAll 103 = .ok (.iastore, 1) := by decide +kernel
theorem dX1_windAll_104 : decode cX1_windAll 104 = .ok (.iinc 2 1, 3) := by decide +kernel
theorem dX1_windAll_107 : decode cX1_windAll 107 = .ok (.iinc 3 1, 3) := by decide +kernel
theorem dX1_windAll_110 : decode cX1_windAll 110 = .ok (.goto (-41), 3) := by decide +kernel
theorem dX1_windAll_113 : decode cX1_windAll 113 = .ok (.aload_n 0, 1) := by decide +kernel
theorem dX1_windAll_114 : decode cX1_windAll 114 = .ok (.iconst 0, 1) := by decide +kernel
theorem dX1_windAll_115 : decode cX1_windAll 115 = .ok (.putfield 23, 3) := by decide +kernel
theorem dX1_windAll_118 : decode cX1_windAll 118 = .ok (.iload_n 2, 1) := by decide +kernel
theorem dX1_windAll_119 : decode cX1_windAll 119 = .ok (.ireturn, 1) := by decide +kernel
theorem dX1_undo_0 : decode cX1_undo 0 = .ok (.aload_n 0, 1) := by decide +kernel
theorem dX1_undo_1 : decode cX1_undo 1 = .ok (.getfield 16, 3) := by decide +kernel
theorem dX1_undo_4 : decode cX1_undo 4 = .ok (.ifCond .gt 13, 3) := by decide +kernel
theorem dX1_undo_7 : decode cX1_undo 7 = .ok (.new 86, 3) := by decide +kernel
theorem dX1_undo_10 : decode cX1_undo 10 = .ok (.dup, 1) := by decide +kernel
theorem dX1_undo_11 : decode cX1_undo 11 = .ok (.ldc 161, 2) := by decide +kernel
theorem dX1_undo_13 : decode cX1_undo 13 = .ok (.invokespecial 90, 3) := by decide +kernel
theorem dX1_undo_16 : decode cX1_undo 16 = .ok (.athrow, 1) := by decide +kernel
theorem dX1_undo_17 : decode cX1_undo 17 = .ok (.aload_n 0, 1) := by decide +kernel
theorem dX1_undo_18 : decode cX1_undo 18 = .ok (.dup, 1) := by decide +kernel
theorem dX1_undo_19 : decode cX1_undo 19 = .ok (.getfield 16, 3) := by decide +kernel
theorem dX1_undo_22 : decode cX1_undo 22 = .ok (.iconst 1, 1) := by decide +kernel
theorem dX1_undo_23 : decode cX1_undo 23 = .ok (.isub, 1) := by decide +kernel
theorem dX1_undo_24 : decode cX1_undo 24 = .ok (.putfield 16, 3) := by decide +kernel
theorem dX1_undo_27 : decode cX1_undo 27 = .ok (.aload_n 0, 1) := by decide +kernel
theorem dX1_undo_28 : decode cX1_undo 28 = .ok (.getfield 13, 3) := by decide +kernel
theorem dX1_undo_31 : decode cX1_undo 31 = .ok (.aload_n 0, 1) := by decide +kernel
theorem dX1_undo_32 : decode cX1_undo 32 = .ok (.getfield 16, 3) := by decide +kernel
theorem dX1_undo_35 : decode cX1_undo 35 = .ok (.bipush 33, 2) := by decide +kernel
theorem dX1_undo_37 : decode cX1_undo 37 = .ok (.imul, 1) := by decide +kernel
theorem dX1_undo_38 : decode cX1_undo 38 = .ok (.aload_n 0, 1) := by decide +kernel
theorem dX1_undo_39 : decode cX1_undo 39 = .ok (.getfield 9, 3) := by decide +kernel
theorem dX1_undo_42 : decode cX1_undo 42 = .ok (.iconst 0, 1) := by decide +kernel
theorem dX1_undo_43 : decode cX1_undo 43 = .ok (.bipush 33, 2) := by decide +kernel
theorem dX1_undo_45 : decode cX1_undo 45 = .ok (.invokestatic 163, 3) := by decide +kernel
theorem dX1_undo_48 : decode cX1_undo 48 = .ok (.aload_n 0, 1) := by decide +kernel
theorem dX1_undo_49 : decode cX1_undo 49 = .ok (.getfield 16, 3) := by decide +kernel
theorem dX1_undo_52 : decode cX1_undo 52 = .ok (.ireturn, 1) := by decide +kernel
set_option maxRecDepth 20000 in
theorem ggX1_movement_X1_isMovement : GoodIn wsX1_movement wsX1_isMovement := goodIn_r _ [8] (by decide +kernel) (by decide +kernel)
set_option maxRecDepth 20000 in
theorem gX1_movement_X1_isMovement : GoodIn wsX1_movement (va_wsS RX1 69 yX1_isMovement wsX1_isMovement) := goodIn_app (goodIn_of _ (by decide +kernel)) ggX1_movement_X1_isMovement
set_option maxRecDepth 20000 in
theorem ggX1_movement_X1_property : GoodIn wsX1_movement wsX1_property := goodIn_r _ [12, 13, 14, 15, 7, 16, 17, 18, 19, 20, 21, 22, 23, 24, 25, 26, 27, 28, 29, 30] (by decide +kernel) (by decide +kernel)
set_option maxRecDepth 20000 in
theorem gX1_movement_X1_property : GoodIn wsX1_movement (wsV RX1 171 RX1 yX1_property wsX1_property) := goodIn_app (goodIn_of _ (by decide +kernel)) ggX1_movement_X1_property
theorem dX1_movement_0 : decode cX1_movement 0 = .ok (.iload_n 1, 1) := by decide +kernel
theorem dX1_movement_1 : decode cX1_movement 1 = .ok (.invokestatic 69, 3) := by decide +kernel
theorem dX1_movement_4 : decode cX1_movement 4 = .ok (.ifCond .ne 13, 3) := by decide +kernel
theorem dX1_movement_7 : decode cX1_movement 7 = .ok (.new 40, 3) := by decide +kernel
theorem dX1_movement_10 : decode cX1_movement 10 = .ok (.dup, 1) := by decide +kernel
theorem dX1_movement_11 : decode cX1_movement 11 = .ok (.ldc 72, 2) := by decide +kernel
theorem dX1_movement_13 : decode cX1_movement 13 = .ok (.invokespecial 44, 3) := by decide +kernel
theorem dX1_movement_16 : decode cX1_movement 16 = .ok (.athrow, 1) := by decide +kernel
theorem dX1_movement_17 : decode cX1_movement 17 = .ok (.iload_n 2, 1) := by decide +kernel
theorem dX1_movement_18 : decode cX1_movement 18 = .ok (.ifCond .lt 8, 3) := by decide +kernel
theorem dX1_movement_21 : decode cX1_movement 21 = .ok (.iload_n 2, 1) := by decide +kernel
theorem dX1_movement_22 : decode cX1_movement 22 = .ok (.iconst 5, 1) := by decide +kernel
theorem dX1_movement_23 : decode cX1_movement 23 = .ok (.if_icmp .le 13, 3) := by decide +kernel
theorem dX1_movement_26 : decode cX1_movement 26 = .ok (.new 47, 3) := by decide +kernel
theorem dX1_movement_29 : decode cX1_movement 29 = .ok (.dup, 1) := by decide +kernel
theorem dX1_movement_30 : decode cX1_movement 30 = .ok (.ldc 169, 2) := by decide +kernel
theorem dX1_movement_32 : decode cX1_movement 32 = .ok (.invokespecial 51, 3) := by decide +kernel
theorem dX1_movement_35 : decode cX1_movement 35 = .ok (.athrow, 1) := by decide +kernel
theorem dX1_movement_36 : decode cX1_movement 36 = .ok (.aload_n 0, 1) := by decide +kernel
theorem dX1_movement_37 : decode cX1_movement 37 = .ok (.iload_n 1, 1) := by decide +kernel
theorem dX1_movement_38 : decode cX1_movement 38 = .ok (.iload_n 2, 1) := by decide +kernel
theorem dX1_movement_39 : decode cX1_movement 39 = .ok (.invokevirtual 171, 3) := by decide +kernel
theorem dX1_movement_42 : decode cX1_movement 42 = .ok (.ireturn, 1) := by decide +kernel
set_option maxRecDepth 20000 in
theorem ggX1_day_X1_isDay : GoodIn wsX1_day wsX1_isDay := goodIn_r _ [7] (by decide +kernel) (by decide +kernel)
set_option maxRecDepth 20000 in
theorem gX1_day_X1_isDay : GoodIn wsX1_day (va_wsS RX1 36 yX1_isDay wsX1_isDay) := goodIn_app (goodIn_of _ (by decide +kernel)) ggX1_day_X1_isDay
theorem dX1_day_0 : decode cX1_day 0 = .ok (.iload_n 1, 1) := by decide +kernel
theorem dX1_day_1 : decode cX1_day 1 = .ok (.invokestatic 36, 3) := by decide +kernel
theorem dX1_day_4 : decode cX1_day 4 = .ok (.ifCond .ne 13, 3) := by decide +kernel
theorem dX1_day_7 : decode cX1_day 7 = .ok (.new 40, 3) := by decide +kernel
theorem dX1_day_10 : decode cX1_day 10 = .ok (.dup, 1) := by decide +kernel
theorem dX1_day_11 : decode cX1_day 11 = .ok (.ldc 42, 2) := by decide +kernel
theorem dX1_day_13 : decode cX1_day 13 = .ok (.invokespecial 44, 3) := by decide +kernel
theorem dX1_day_16 : decode cX1_day 16 = .ok (.athrow, 1) := by decide +kernel
theorem dX1_day_17 : decode cX1_day 17 = .ok (.aload_n 0, 1) := by decide +kernel
theorem dX1_day_18 : decode cX1_day 18 = .ok (.getfield 9, 3) := by decide +kernel
theorem dX1_day_21 : decode cX1_day 21 = .ok (.bipush 14, 2) := by decide +kernel
theorem dX1_day_23 : decode cX1_day 23 = .ok (.iload_n 1, 1) := by decide +kernel
theorem dX1_day_24 : decode cX1_day 24 = .ok (.iadd, 1) := by decide +kernel
theorem dX1_day_25 : decode cX1_day 25 = .ok (.iaload, 1) := by decide +kernel
theorem dX1_day_26 : decode cX1_day 26 = .ok (.ireturn, 1) := by decide +kernel
set_option maxRecDepth 20000 in
theorem ggX1_count_X1_number : GoodIn wsX1_count wsX1_number := goodIn_r _ [7, 8, 9, 10, 11, 12, 6, 13, 14, 15, 16, 17, 18, 19, 20, 21, 22, 23, 24, 25, 26, 27, 28, 29, 30, 31, 32, 33, 34, 35] (by decide +kernel) (by decide +kernel)
set_option maxRecDepth 20000 in
theorem gX1_count_X1_number : GoodIn wsX1_count (wsV RX1 176 RX1 yX1_number wsX1_number) := goodIn_app (goodIn_of _ (by decide +kernel)) ggX1_count_X1_number
theorem dX1_count_0 : decode cX1_count 0 = .ok (.iload_n 1, 1) := by decide +kernel
theorem dX1_count_1 : decode cX1_count 1 = .ok (.ifCond .lt 9, 3) := by decide +kernel
theorem dX1_count_4 : decode cX1_count 4 = .ok (.iload_n 1, 1) := by decide +kernel
theorem dX1_count_5 : decode cX1_count 5 = .ok (.bipush 14, 2) := by decide +kernel
theorem dX1_count_7 : decode cX1_count 7 = .ok (.if_icmp .le 13, 3) := by decide +kernel
theorem dX1_count_10 : decode cX1_count 10 = .ok (.new 47, 3) := by decide +kernel
theorem dX1_count_13 : decode cX1_count 13 = .ok (.dup, 1) := by decide +kernel
theorem dX1_count_14 : decode cX1_count 14 = .ok (.ldc 174, 2) := by decide +kernel
theorem dX1_count_16 : decode cX1_count 16 = .ok (.invokespecial 51, 3) := by decide +kernel
theorem dX1_count_19 : decode cX1_count 19 = .ok (.athrow, 1) := by decide +kernel
theorem dX1_count_20 : decode cX1_count 20 = .ok (.aload_n 0, 1) := by decide +kernel
theorem dX1_count_21 : decode cX1_count 21 = .ok (.iload_n 1, 1) := by decide +kernel
theorem dX1_count_22 : decode cX1_count 22 = .ok (.invokevirtual 176, 3) := by decide +kernel
theorem dX1_count_25 : decode cX1_count 25 = .ok (.ireturn, 1) := by decide +kernel
set_option maxRecDepth 20000 in
theorem ggX1_setting_X1_isSetting : GoodIn wsX1_setting wsX1_isSetting := goodIn_r _ [7] (by decide +kernel) (by decide +kernel)
set_option maxRecDepth 20000 in
theorem gX1_setting_X1_isSetting : GoodIn wsX1_setting (va_wsS RX1 56 yX1_isSetting wsX1_isSetting) := goodIn_app (goodIn_of _ (by decide +kernel)) ggX1_setting_X1_isSetting
theorem dX1_setting_0 : decode cX1_setting 0 = .ok (.iload_n 1, 1) := by decide +kernel
theorem dX1_setting_1 : decode cX1_setting 1 = .ok (.invokestatic 56, 3) := by decide +kernel
theorem dX1_setting_4 : decode cX1_setting 4 = .ok (.ifCond .ne 13, 3) := by decide +kernel
theorem dX1_setting_7 : decode cX1_setting 7 = .ok (.new 40, 3) := by decide +kernel
theorem dX1_setting_10 : decode cX1_setting 10 = .ok (.dup, 1) := by decide +kernel
theorem dX1_setting_11 : decode cX1_setting 11 = .ok (.ldc 59, 2) := by decide +kernel
theorem dX1_setting_13 : decode cX1_setting 13 = .ok (.invokespecial 44, 3) := by decide +kernel
theorem dX1_setting_16 : decode cX1_setting 16 = .ok (.athrow, 1) := by decide +kernel
theorem dX1_setting_17 : decode cX1_setting 17 = .ok (.aload_n 0, 1) := by decide +kernel
theorem dX1_setting_18 : decode cX1_setting 18 = .ok (.getfield 9, 3) := by decide +kernel
theorem dX1_setting_21 : decode cX1_setting 21 = .ok (.bipush 11, 2) := by decide +kernel
theorem dX1_setting_23 : decode cX1_setting 23 = .ok (.iload_n 1, 1) := by decide +kernel
theorem dX1_setting_24 : decode cX1_setting 24 = .ok (.iadd, 1) := by decide +kernel
theorem dX1_setting_25 : decode cX1_setting 25 = .ok (.iaload, 1) := by decide +kernel
theorem dX1_setting_26 : decode cX1_setting 26 = .ok (.ireturn, 1) := by decide +kernel
set_option maxRecDepth 20000 in
theorem ggX1_opensIn_X1_hoursToOpen : GoodIn wsX1_opensIn wsX1_hoursToOpen := goodIn_r _ [5, 6, 7, 8, 9, 10, 11, 12, 4, 13, 14, 15, 16, 17, 18, 19, 20, 21, 22, 23, 24, 25, 26, 27, 28, 29, 30, 31, 32, 33, 34, 35] (by decide +kernel) (by decide +kernel)
set_option maxRecDepth 20000 in
theorem gX1_opensIn_X1_hoursToOpen : GoodIn wsX1_opensIn (wsV RX1 112 RX1 yX1_hoursToOpen wsX1_hoursToOpen) := goodIn_app (goodIn_of _ (by decide +kernel)) ggX1_opensIn_X1_hoursToOpen
theorem dX1_opensIn_0 : decode cX1_opensIn 0 = .ok (.aload_n 0, 1) := by decide +kernel
theorem dX1_opensIn_1 : decode cX1_opensIn 1 = .ok (.iconst (-1), 1) := by decide +kernel
theorem dX1_opensIn_2 : decode cX1_opensIn 2 = .ok (.invokevirtual 112, 3) := by decide +kernel
theorem dX1_opensIn_5 : decode cX1_opensIn 5 = .ok (.ireturn, 1) := by decide +kernel
set_option maxRecDepth 20000 in
theorem ggX1_lateness_X1_isLocked : GoodIn wsX1_lateness wsX1_isLocked := goodIn_r _ [9, 10, 34, 35, 36, 37, 38, 39] (by decide +kernel) (by decide +kernel)
set_option maxRecDepth 20000 in
theorem gX1_lateness_X1_isLocked : GoodIn wsX1_lateness (wsV RX1 79 RX1 yX1_isLocked wsX1_isLocked) := goodIn_app (goodIn_of _ (by decide +kernel)) ggX1_lateness_X1_isLocked
set_option maxRecDepth 20000 in
theorem ggX1_lateness_X1_hoursToOpen : GoodIn wsX1_lateness wsX1_hoursToOpen := goodIn_r _ [14, 1, 2, 3, 4, 5, 6, 7, 8, 9, 10, 15, 16, 17, 18, 19, 20, 21, 22, 23, 24, 25, 26, 27, 28, 29, 34, 35, 36, 37, 38, 39] (by decide +kernel) (by decide +kernel)
set_option maxRecDepth 20000 in
theorem gX1_lateness_X1_hoursToOpen : GoodIn wsX1_lateness (wsV RX1 112 RX1 yX1_hoursToOpen wsX1_hoursToOpen) := goodIn_app (goodIn_of _ (by decide +kernel)) ggX1_lateness_X1_hoursToOpen
set_option maxRecDepth 20000 in
theorem ggX1_lateness_X1_latenessAfter : GoodIn wsX1_lateness wsX1_latenessAfter := goodIn_r _ [33, 10, 34, 35, 36, 37, 38, 39] (by decide +kernel) (by decide +kernel)
set_option maxRecDepth 20000 in
theorem gX1_lateness_X1_latenessAfter : GoodIn wsX1_lateness (wsV RX1 119 RX1 yX1_latenessAfter wsX1_latenessAfter) := goodIn_app (goodIn_of _ (by decide +kernel)) ggX1_lateness_X1_latenessAfter
theorem dX1_lateness_0 : decode cX1_lateness 0 = .ok (.aload_n 0, 1) := by decide +kernel
theorem dX1_lateness_1 : decode cX1_lateness 1 = .ok (.invokevirtual 79, 3) := by decide +kernel
theorem dX1_lateness_4 : decode cX1_lateness 4 = .ok (.ifCond .ne 5, 3) := by decide +kernel
theorem dX1_lateness_7 : decode cX1_lateness 7 = .ok (.iconst 0, 1) := by decide +kernel
theorem dX1_lateness_8 : decode cX1_lateness 8 = .ok (.ireturn, 1) := by decide +kernel
theorem dX1_lateness_9 : decode cX1_lateness 9 = .ok (.aload_n 0, 1) := by decide +kernel
theorem dX1_lateness_10 : decode cX1_lateness 10 = .ok (.iconst (-1), 1) := by decide +kernel
theorem dX1_lateness_11 : decode cX1_lateness 11 = .ok (.invokevirtual 112, 3) := by decide +kernel
theorem dX1_lateness_14 : decode cX1_lateness 14 = .ok (.istore_n 1, 1) := by decide +kernel
theorem dX1_lateness_15 : decode cX1_lateness 15 = .ok (.iload_n 1, 1) := by decide +kernel
theorem dX1_lateness_16 : decode cX1_lateness 16 = .ok (.iconst (-1), 1) := by decide +kernel
theorem dX1_lateness_17 : decode cX1_lateness 17 = .ok (.if_icmp .ne 9, 3) := by decide +kernel
theorem dX1_lateness_20 : decode cX1_lateness 20 = .ok (.sipush 1000, 3) := by decide +kernel
theorem dX1_lateness_23 : decode cX1_lateness 23 = .ok (.goto 12, 3) := by decide +kernel
theorem dX1_lateness_26 : decode cX1_lateness 26 = .ok (.aload_n 0, 1) := by decide +kernel
theorem dX1_lateness_27 : decode cX1_lateness 27 = .ok (.iload_n 1, 1) := by decide +kernel
theorem dX1_lateness_28 : decode cX1_lateness 28 = .ok (.iconst 1, 1) := by decide +kernel
theorem dX1_lateness_29 : decode cX1_lateness 29 = .ok (.invokestatic 179, 3) := by decide +kernel
theorem dX1_lateness_32 : decode cX1_lateness 32 = .ok (.invokevirtual 119, 3) := by decide +kernel
theorem dX1_lateness_35 : decode cX1_lateness 35 = .ok (.ireturn, 1) := by decide +kernel
set_option maxRecDepth 20000 in
theorem ggX1_keyMovement_X1_hoursToOpen : GoodIn wsX1_keyMovement wsX1_hoursToOpen := goodIn_r _ [5, 6, 7, 8, 9, 10, 11, 12, 4, 13, 14, 15, 16, 17, 18, 19, 20, 21, 22, 23, 24, 25, 26, 27, 28, 29, 30, 31, 32, 33, 34, 35] (by decide +kernel) (by decide +kernel)
set_option maxRecDepth 20000 in
theorem gX1_keyMovement_X1_hoursToOpen : GoodIn wsX1_keyMovement (wsV RX1 112 RX1 yX1_hoursToOpen wsX1_hoursToOpen) := goodIn_app (goodIn_of _ (by decide +kernel)) ggX1_keyMovement_X1_hoursToOpen
theorem dX1_keyMovement_0 : decode cX1_keyMovement 0 = .ok (.aload_n 0, 1) := by decide +kernel
theorem dX1_keyMovement_1 : decode cX1_keyMovement 1 = .ok (.iconst (-1), 1) := by decide +kernel
theorem dX1_keyMovement_2 : decode cX1_keyMovement 2 = .ok (.invokevirtual 112, 3) := by decide +kernel
theorem dX1_keyMovement_5 : decode cX1_keyMovement 5 = .ok (.istore_n 1, 1) := by decide +kernel
theorem dX1_keyMovement_6 : decode cX1_keyMovement 6 = .ok (.iconst 0, 1) := by decide +kernel
theorem dX1_keyMovement_7 : decode cX1_keyMovement 7 = .ok (.istore_n 2, 1) := by decide +kernel
theorem dX1_keyMovement_8 : decode cX1_keyMovement 8 = .ok (.iload_n 2, 1) := by decide +kernel
theorem dX1_keyMovement_9 : decode cX1_keyMovement 9 = .ok (.iconst 3, 1) := by decide +kernel
theorem dX1_keyMovement_10 : decode cX1_keyMovement 10 = .ok (.if_icmp .ge 20, 3) := by decide +kernel
theorem dX1_keyMovement_13 : decode cX1_keyMovement 13 = .ok (.aload_n 0, 1) := by decide +kernel
theorem dX1_keyMovement_14 : decode cX1_keyMovement 14 = .ok (.iload_n 2, 1) := by decide +kernel
theorem dX1_keyMovement_15 : decode cX1_keyMovement 15 = .ok (.invokevirtual 112, 3) := by decide +kernel
theorem dX1_keyMovement_18 : decode cX1_keyMovement 18 = .ok (.iload_n 1, 1) := by decide +kernel
theorem dX1_keyMovement_19 : decode cX1_keyMovement 19 = .ok (.if_icmp .eq 5, 3) := by decide +kernel
theorem dX1_keyMovement_22 : decode cX1_keyMovement 22 = .ok (.iload_n 2, 1) := by decide +kernel
theorem dX1_keyMovement_23 : decode cX1_keyMovement 23 = .ok (.ireturn, 1) := by decide +kernel
theorem dX1_keyMovement_24 : decode cX1_keyMovement 24 = .ok (.iinc 2 1, 3) := by decide +kernel
theorem dX1_keyMovement_27 : decode cX1_keyMovement 27 = .ok (.goto (-19), 3) := by decide +kernel
theorem dX1_keyMovement_30 : decode cX1_keyMovement 30 = .ok (.iconst (-1), 1) := by decide +kernel
theorem dX1_keyMovement_31 : decode cX1_keyMovement 31 = .ok (.ireturn, 1) := by decide +kernel
set_option maxRecDepth 20000 in
theorem ggX1_rightWinding_X1_isMovement : GoodIn wsX1_rightWinding wsX1_isMovement := goodIn_r _ [6] (by decide +kernel) (by decide +kernel)
set_option maxRecDepth 20000 in
theorem gX1_rightWinding_X1_isMovement : GoodIn wsX1_rightWinding (va_wsS RX1 69 yX1_isMovement wsX1_isMovement) := goodIn_app (goodIn_of _ (by decide +kernel)) ggX1_rightWinding_X1_isMovement
set_option maxRecDepth 20000 in
theorem ggX1_rightWinding_X1_hoursToWind : GoodIn wsX1_rightWinding wsX1_hoursToWind := goodIn_r _ [10, 11, 12, 13, 14, 5, 15, 16, 17, 18, 19, 20, 21, 22, 23, 24, 25, 26, 27, 28, 29, 30, 31, 32, 33, 34, 35, 36, 37, 38, 39, 40, 41, 42] (by decide +kernel) (by decide +kernel)
set_option maxRecDepth 20000 in
theorem gX1_rightWinding_X1_hoursToWind : GoodIn wsX1_rightWinding (wsV RX1 184 RX1 yX1_hoursToWind wsX1_hoursToWind) := goodIn_app (goodIn_of _ (by decide +kernel)) ggX1_rightWinding_X1_hoursToWind
theorem dX1_rightWinding_0 : decode cX1_rightWinding 0 = .ok (.iload_n 1, 1) := by decide +kernel
theorem dX1_rightWinding_1 : decode cX1_rightWinding 1 = .ok (.invokestatic 69, 3) := by decide +kernel
theorem dX1_rightWinding_4 : decode cX1_rightWinding 4 = .ok (.ifCond .ne 13, 3) := by decide +kernel
theorem dX1_rightWinding_7 : decode cX1_rightWinding 7 = .ok (.new 40, 3) := by decide +kernel
theorem dX1_rightWinding_10 : decode cX1_rightWinding 10 = .ok (.dup, 1) := by decide +kernel
theorem dX1_rightWinding_11 : decode cX1_rightWinding 11 = .ok (.ldc 72, 2) := by decide +kernel
theorem dX1_rightWinding_13 : decode cX1_rightWinding 13 = .ok (.invokespecial 44, 3) := by decide +kernel
theorem dX1_rightWinding_16 : decode cX1_rightWinding 16 = .ok (.athrow, 1) := by decide +kernel
theorem dX1_rightWinding_17 : decode cX1_rightWinding 17 = .ok (.aload_n 0, 1) := by decide +kernel
theorem dX1_rightWinding_18 : decode cX1_rightWinding 18 = .ok (.iload_n 1, 1) := by decide +kernel
theorem dX1_rightWinding_19 : decode cX1_rightWinding 19 = .ok (.invokevirtual 184, 3) := by decide +kernel
theorem dX1_rightWinding_22 : decode cX1_rightWinding 22 = .ok (.ireturn, 1) := by decide +kernel
theorem dX1_punctuality_0 : decode cX1_punctuality 0 = .ok (.aload_n 0, 1) := by decide +kernel
theorem dX1_punctuality_1 : decode cX1_punctuality 1 = .ok (.getfield 9, 3) := by decide +kernel
theorem dX1_punctuality_4 : decode cX1_punctuality 4 = .ok (.bipush 6, 2) := by decide +kernel
theorem dX1_punctuality_6 : decode cX1_punctuality 6 = .ok (.iaload, 1) := by decide +kernel
theorem dX1_punctuality_7 : decode cX1_punctuality 7 = .ok (.aload_n 0, 1) := by decide +kernel
theorem dX1_punctuality_8 : decode cX1_punctuality 8 = .ok (.getfield 9, 3) := by decide +kernel
theorem dX1_punctuality_11 : decode cX1_punctuality 11 = .ok (.bipush 10, 2) := by decide +kernel
theorem dX1_punctuality_13 : decode cX1_punctuality 13 = .ok (.iaload, 1) := by decide +kernel
theorem dX1_punctuality_14 : decode cX1_punctuality 14 = .ok (.iadd, 1) := by decide +kernel
theorem dX1_punctuality_15 : decode cX1_punctuality 15 = .ok (.istore_n 1, 1) := by decide +kernel
theorem dX1_punctuality_16 : decode cX1_punctuality 16 = .ok (.iload_n 1, 1) := by decide +kernel
theorem dX1_punctuality_17 : decode cX1_punctuality 17 = .ok (.ifCond .ne 7, 3) := by decide +kernel
theorem dX1_punctuality_20 : decode cX1_punctuality 20 = .ok (.dconst 1, 1) := by decide +kernel
theorem dX1_punctuality_21 : decode cX1_punctuality 21 = .ok (.goto 14, 3) := by decide +kernel
theorem dX1_punctuality_24 : decode cX1_punctuality 24 = .ok (.aload_n 0, 1) := by decide +kernel
theorem dX1_punctuality_25 : decode cX1_punctuality 25 = .ok (.getfield 9, 3) := by decide +kernel
theorem dX1_punctuality_28 : decode cX1_punctuality 28 = .ok (.bipush 7, 2) := by decide +kernel
theorem dX1_punctuality_30 : decode cX1_punctuality 30 = .ok (.iaload, 1) := by decide +kernel
theorem dX1_punctuality_31 : decode cX1_punctuality 31 = .ok (.i2d, 1) := by decide +kernel
theorem dX1_punctuality_32 : decode cX1_punctuality 32 = .ok (.iload_n 1, 1) := by decide +kernel
theorem dX1_punctuality_33 : decode cX1_punctuality 33 = .ok (.i2d, 1) := by decide +kernel
theorem dX1_punctuality_34 : decode cX1_punctuality 34 = .ok (.ddiv, 1) := by decide +kernel
theorem dX1_punctuality_35 : decode cX1_punctuality 35 = .ok (.dreturn, 1) := by decide +kernel
set_option maxRecDepth 20000 in
theorem ggX1_digest_X1_number : GoodIn wsX1_digest wsX1_number := goodIn_r _ [10, 3, 11, 12, 13, 14, 9, 15, 16, 17, 18, 19, 20, 21, 22, 23, 24, 25, 26, 27, 28, 29, 30, 31, 91, 92, 93, 94, 95, 96] (by decide +kernel) (by decide +kernel)
set_option maxRecDepth 20000 in
theorem gX1_digest_X1_number : GoodIn wsX1_digest (wsV RX1 176 RX1 yX1_number wsX1_number) := goodIn_app (goodIn_of _ (by decide +kernel)) ggX1_digest_X1_number
set_option maxRecDepth 20000 in
theorem ggX1_digest_X1_property : GoodIn wsX1_digest wsX1_property := goodIn_r _ [35, 3, 36, 37, 9, 38, 39, 40, 41, 42, 43, 44, 45, 46, 91, 92, 93, 94, 95, 96] (by decide +kernel) (by decide +kernel)
set_option maxRecDepth 20000 in
theorem gX1_digest_X1_property : GoodIn wsX1_digest (wsV RX1 171 RX1 yX1_property wsX1_property) := goodIn_app (goodIn_of _ (by decide +kernel)) ggX1_digest_X1_property
set_option maxRecDepth 20000 in
theorem ggX1_digest_X1_hoursToWind : GoodIn wsX1_digest wsX1_hoursToWind := goodIn_r _ [50, 3, 20, 21, 22, 9, 23, 12, 13, 14, 15, 16, 17, 18, 19, 36, 37, 38, 39, 40, 41, 42, 51, 52, 53, 54, 55, 56, 91, 92, 93, 94, 95, 96] (by decide +kernel) (by decide +kernel)
set_option maxRecDepth 20000 in
theorem gX1_digest_X1_hoursToWind : GoodIn wsX1_digest (wsV RX1 184 RX1 yX1_hoursToWind wsX1_hoursToWind) := goodIn_app (goodIn_of _ (by decide +kernel)) ggX1_digest_X1_hoursToWind
set_option maxRecDepth 20000 in
theorem ggX1_digest_X1_opensIn : GoodIn wsX1_digest wsX1_opensIn := goodIn_r _ [60, 61, 62, 63, 9, 64, 28, 29, 30, 31, 65, 66, 67, 68, 3, 39, 40, 41, 42, 36, 37, 38, 43, 44, 45, 46, 24, 25, 26, 27, 91, 92, 93, 94, 95, 96] (by decide +kernel) (by decide +kernel)
set_option maxRecDepth 20000 in
theorem gX1_digest_X1_opensIn : GoodIn wsX1_digest (wsV RX1 191 RX1 yX1_opensIn wsX1_opensIn) := goodIn_app (goodIn_of _ (by decide +kernel)) ggX1_digest_X1_opensIn
set_option maxRecDepth 20000 in
theorem ggX1_digest_X1_lateness : GoodIn wsX1_digest wsX1_lateness := goodIn_r _ [72, 28, 29, 30, 31, 65, 66, 67, 9, 68, 3, 61, 62, 63, 64, 39, 40, 41, 42, 36, 37, 38, 43, 44, 45, 46, 24, 25, 26, 27, 73, 74, 75, 76, 91, 92, 93, 94, 95, 96] (by decide +kernel) (by decide +kernel)
set_option maxRecDepth 20000 in
theorem gX1_digest_X1_lateness : GoodIn wsX1_digest (wsV RX1 194 RX1 yX1_lateness wsX1_lateness) := goodIn_app (goodIn_of _ (by decide +kernel)) ggX1_digest_X1_lateness
set_option maxRecDepth 20000 in
theorem ggX1_digest_X1_keyMovement : GoodIn wsX1_digest wsX1_keyMovement := goodIn_r _ [80, 61, 62, 63, 9, 64, 28, 29, 30, 31, 65, 66, 67, 68, 3, 39, 40, 41, 42, 36, 37, 38, 43, 44, 45, 46, 24, 25, 26, 27, 91, 92, 93, 94, 95, 96] (by decide +kernel) (by decide +kernel)
set_option maxRecDepth 20000 in
theorem gX1_digest_X1_keyMovement : GoodIn wsX1_digest (wsV RX1 197 RX1 yX1_keyMovement wsX1_keyMovement) := goodIn_app (goodIn_of _ (by decide +kernel)) ggX1_digest_X1_keyMovement
set_option maxRecDepth 20000 in
theorem ggX1_digest_X1_punctuality : GoodIn wsX1_digest wsX1_punctuality := goodIn_r _ [84, 3, 91, 92, 93, 94, 95, 96] (by decide +kernel) (by decide +kernel)
set_option maxRecDepth 20000 in
theorem gX1_digest_X1_punctuality : GoodIn wsX1_digest (wsV RX1 200 RX1 yX1_punctuality wsX1_punctuality) := goodIn_app (goodIn_of _ (by decide +kernel)) ggX1_digest_X1_punctuality
set_option maxRecDepth 20000 in
theorem ggX1_digest_X1_bitsOfShare : GoodIn wsX1_digest wsX1_bitsOfShare := goodIn_r _ [87, 88, 89, 90] (by decide +kernel) (by decide +kernel)
set_option maxRecDepth 20000 in
theorem gX1_digest_X1_bitsOfShare : GoodIn wsX1_digest (va_wsS RX1 204 yX1_bitsOfShare wsX1_bitsOfShare) := goodIn_app (goodIn_of _ (by decide +kernel)) ggX1_digest_X1_bitsOfShare
theorem dX1_digest_0 : decode cX1_digest 0 = .ok (.ldc2_w 187, 3) := by decide +kernel
theorem dX1_digest_3 : decode cX1_digest 3 = .ok (.lstore_n 1, 1) := by decide +kernel
theorem dX1_digest_4 : decode cX1_digest 4 = .ok (.iconst 0, 1) := by decide +kernel
theorem dX1_digest_5 : decode cX1_digest 5 = .ok (.istore_n 3, 1) := by decide +kernel
theorem dX1_digest_6 : decode cX1_digest 6 = .ok (.iload_n 3, 1) := by decide +kernel
theorem dX1_digest_7 : decode cX1_digest 7 = .ok (.bipush 14, 2) := by decide +kernel
theorem dX1_digest_9 : decode cX1_digest 9 = .ok (.if_icmp .gt 22, 3) := by decide +kernel
theorem dX1_digest_12 : decode cX1_digest 12 = .ok (.ldc2_w 189, 3) := by decide +kernel
theorem dX1_digest_15 : decode cX1_digest 15 = .ok (.lload_n 1, 1) := by decide +kernel
theorem dX1_digest_16 : decode cX1_digest 16 = .ok (.lmul, 1) := by decide +kernel
theorem dX1_digest_17 : decode cX1_digest 17 = .ok (.aload_n 0, 1) := by decide +kernel
theorem dX1_digest_18 : decode cX1_digest 18 = .ok (.iload_n 3, 1) := by decide +kernel
theorem dX1_digest_19 : decode cX1_digest 19 = .ok (.invokevirtual 176, 3) := by decide +kernel
theorem dX1_digest_22 : decode cX1_digest 22 = .ok (.i2l, 1) := by decide +kernel
theorem dX1_digest_23 : decode cX1_digest 23 = .ok (.ladd, 1) := by decide +kernel
theorem dX1_digest_24 : decode cX1_digest 24 = .ok (.lstore_n 1, 1) := by decide +kernel
theorem dX1_digest_25 : decode cX1_digest 25 = .ok (.iinc 3 1, 3) := by decide +kernel
theorem dX1_digest_28 : decode cX1_digest 28 = .ok (.goto (-22), 3) := by decide +kernel
theorem dX1_digest_31 : decode cX1_digest 31 = .ok (.iconst 0, 1) := by decide +kernel
theorem dX1_digest_32 : decode cX1_digest 32 = .ok (.istore_n 3, 1) := by decide +kernel
theorem dX1_digest_33 : decode cX1_digest 33 = .ok (.iload_n 3, 1) := by decide +kernel
theorem dX1_digest_34 : decode cX1_digest 34 = .ok (.iconst 3, 1) := by decide +kernel
theorem dX1_digest_35 : decode cX1_digest 35 = .ok (.if_icmp .ge 26, 3) := by decide +kernel
theorem dX1_digest_38 : decode cX1_digest 38 = .ok (.ldc2_w 189, 3) := by decide +kernel
theorem dX1_digest_41 : decode cX1_digest 41 = .ok (.lload_n 1, 1) := by decide +kernel
theorem dX1_digest_42 : decode cX1_digest 42 = .ok (.lmul, 1) := by decide +kernel
theorem dX1_digest_43 : decode cX1_digest 43 = .ok (.aload_n 0, 1) := by decide +kernel
theorem dX1_digest_44 : decode cX1_digest 44 = .ok (.getfield 9, 3) := by decide +kernel
theorem dX1_digest_47 : decode cX1_digest 47 = .ok (.bipush 11, 2) := by decide +kernel
theorem dX1_digest_49 : decode cX1_digest 49 = .ok (.iload_n 3, 1) := by decide +kernel
theorem dX1_digest_50 : decode cX1_digest 50 = .ok (.iadd, 1) := by decide +kernel
theorem dX1_digest_51 : decode cX1_digest 51 = .ok (.iaload, 1) := by decide +kernel
theorem dX1_digest_52 : decode cX1_digest 52 = .ok (.i2l, 1) := by decide +kernel
theorem dX1_digest_53 : decode cX1_digest 53 = .ok (.ladd, 1) := by decide +kernel
theorem dX1_digest_54 : decode cX1_digest 54 = .ok (.lstore_n 1, 1) := by decide +kernel
theorem dX1_digest_55 : decode cX1_digest 55 = .ok (.iinc 3 1, 3) := by decide +kernel
theorem dX1_digest_58 : decode cX1_digest 58 = .ok (.goto (-25), 3) := by decide +kernel
theorem dX1_digest_61 : decode cX1_digest 61 = .ok (.iconst 0, 1) := by decide +kernel
theorem dX1_digest_62 : decode cX1_digest 62 = .ok (.istore_n 3, 1) := by decide +kernel
theorem dX1_digest_63 : decode cX1_digest 63 = .ok (.iload_n 3, 1) := by decide +kernel
theorem dX1_digest_64 : decode cX1_digest 64 = .ok (.bipush 7, 2) := by decide +kernel
theorem dX1_digest_66 : decode cX1_digest 66 = .ok (.if_icmp .ge 26, 3) := by decide +kernel
theorem dX1_digest_69 : decode cX1_digest 69 = .ok (.ldc2_w 189, 3) := by decide +kernel
theorem dX1_digest_72 : decode cX1_digest 72 = .ok (.lload_n 1, 1) := by decide +kernel
theorem dX1_digest_73 : decode cX1_digest 73 = .ok (.lmul, 1) := by decide +kernel
theorem dX1_digest_74 : decode cX1_digest 74 = .ok (.aload_n 0, 1) := by decide +kernel
theorem dX1_digest_75 : decode cX1_digest 75 = .ok (.getfield 9, 3) := by decide +kernel
theorem dX1_digest_78 : decode cX1_digest 78 = .ok (.bipush 14, 2) := by decide +kernel
theorem dX1_digest_80 : decode cX1_digest 80 = .ok (.iload_n 3, 1) := by decide +kernel
theorem dX1_digest_81 : decode cX1_digest 81 = .ok (.iadd, 1) := by decide +kernel
theorem dX1_digest_82 : decode cX1_digest 82 = .ok (.iaload, 1) := by decide +kernel
theorem dX1_digest_83 : decode cX1_digest 83 = .ok (.i2l, 1) := by decide +kernel
theorem dX1_digest_84 : decode cX1_digest 84 = .ok (.ladd, 1) := by decide +kernel
theorem dX1_digest_85 : decode cX1_digest 85 = .ok (.lstore_n 1, 1) := by decide +kernel
theorem dX1_digest_86 : decode cX1_digest 86 = .ok (.iinc 3 1, 3) := by decide +kernel
theorem dX1_digest_89 : decode cX1_digest 89 = .ok (.goto (-26), 3) := by decide +kernel
theorem dX1_digest_92 : decode cX1_digest 92 = .ok (.iconst 0, 1) := by decide +kernel
theorem dX1_digest_93 : decode cX1_digest 93 = .ok (.istore_n 3, 1) := by decide +kernel
theorem dX1_digest_94 : decode cX1_digest 94 = .ok (.iload_n 3, 1) := by decide +kernel
theorem dX1_digest_95 : decode cX1_digest 95 = .ok (.iconst 3, 1) := by decide +kernel
theorem dX1_digest_96 : decode cX1_digest 96 = .ok (.if_icmp .ge 52, 3) := by decide +kernel
theorem dX1_digest_99 : decode cX1_digest 99 = .ok (.iconst 0, 1) := by decide +kernel
theorem dX1_digest_100 : decode cX1_digest 100 = .ok (.istore 4, 2) := by decide +kernel
theorem dX1_digest_102 : decode cX1_digest 102 = .ok (.iload 4, 2) := by decide +kernel
theorem dX1_digest_104 : decode cX1_digest 104 = .ok (.iconst 5, 1) := by decide +kernel
theorem dX1_digest_105 : decode cX1_digest 105 = .ok (.if_icmp .gt 24, 3) := by decide +kernel
theorem dX1_digest_108 : decode cX1_digest 108 = .ok (.ldc2_w 189, 3) := by decide +kernel
theorem dX1_digest_111 : decode cX1_digest 111 = .ok (.lload_n 1, 1) := by decide +kernel
theorem dX1_digest_112 : decode cX1_digest 112 = .ok (.lmul, 1) := by decide +kernel
theorem dX1_digest_113 : decode cX1_digest 113 = .ok (.aload_n 0, 1) := by decide +kernel
theorem dX1_digest_114 : decode cX1_digest 114 = .ok (.iload_n 3, 1) := by decide +kernel
theorem dX1_digest_115 : decode cX1_digest 115 = .ok (.iload 4, 2) := by decide +kernel
theorem dX1_digest_117 : decode cX1_digest 117 = .ok (.invokevirtual 171, 3) := by decide +kernel
theorem dX1_digest_120 : decode cX1_digest 120 = .ok (.i2l, 1) := by decide +kernel
theorem dX1_digest_121 : decode cX1_digest 121 = .ok (.ladd, 1) := by decide +kernel
theorem dX1_digest_122 : decode cX1_digest 122 = .ok (.lstore_n 1, 1) := by decide +kernel
theorem dX1_digest_123 : decode cX1_digest 123 = .ok (.iinc 4 1, 3) := by decide +kernel
theorem dX1_digest_126 : decode cX1_digest 126 = .ok (.goto (-24), 3) := by decide +kernel
theorem dX1_digest_129 : decode cX1_digest 129 = .ok (.ldc2_w 189, 3) := by decide +kernel
theorem dX1_digest_132 : decode cX1_digest 132 = .ok (.lload_n 1, 1) := by decide +kernel
theorem dX1_digest_133 : decode cX1_digest 133 = .ok (.lmul, 1) := by decide +kernel
theorem dX1_digest_134 : decode cX1_digest 134 = .ok (.aload_n 0, 1) := by decide +kernel
theorem dX1_digest_135 : decode cX1_digest 135 = .ok (.iload_n 3, 1) := by decide +kernel
theorem dX1_digest_136 : decode cX1_digest 136 = .ok (.invokevirtual 184, 3) := by decide +kernel
theorem dX1_digest_139 : decode cX1_digest 139 = .ok (.i2l, 1) := by decide +kernel
theorem dX1_digest_140 : decode cX1_digest 140 = .ok (.ladd, 1) := by decide +kernel
theorem dX1_digest_141 : decode cX1_digest 141 = .ok (.lstore_n 1, 1) := by decide +kernel
theorem dX1_digest_142 : decode cX1_digest 142 = .ok (.iinc 3 1, 3) := by decide +kernel
theorem dX1_digest_145 : decode cX1_digest 145 = .ok (.goto (-51), 3) := by decide +kernel
theorem dX1_digest_148 : decode cX1_digest 148 = .ok (.ldc2_w 189, 3) := by decide +kernel
theorem dX1_digest_151 : decode cX1_digest 151 = .ok (.lload_n 1, 1) := by decide +kernel
theorem dX1_digest_152 : decode cX1_digest 152 = .ok (.lmul, 1) := by decide +kernel
theorem dX1_digest_153 : decode cX1_digest 153 = .ok (.aload_n 0, 1) := by decide +kernel
theorem dX1_digest_154 : decode cX1_digest 154 = .ok (.invokevirtual 191, 3) := by decide +kernel
theorem dX1_digest_157 : decode cX1_digest 157 = .ok (.i2l, 1) := by decide +kernel
theorem dX1_digest_158 : decode cX1_digest 158 = .ok (.ladd, 1) := by decide +kernel
theorem dX1_digest_159 : decode cX1_digest 159 = .ok (.lstore_n 1, 1) := by decide +kernel
theorem dX1_digest_160 : decode cX1_digest 160 = .ok (.ldc2_w 189, 3) := by decide +kernel
theorem dX1_digest_163 : decode cX1_digest 163 = .ok (.lload_n 1, 1) := by decide +kernel
theorem dX1_digest_164 : decode cX1_digest 164 = .ok (.lmul, 1) := by decide +kernel
theorem dX1_digest_165 : decode cX1_digest 165 = .ok (.aload_n 0, 1) := by decide +kernel
theorem dX1_digest_166 : decode cX1_digest 166 = .ok (.invokevirtual 194, 3) := by decide +kernel
theorem dX1_digest_169 : decode cX1_digest 169 = .ok (.i2l, 1) := by decide +kernel
theorem dX1_digest_170 : decode cX1_digest 170 = .ok (.ladd, 1) := by decide +kernel
theorem dX1_digest_171 : decode cX1_digest 171 = .ok (.lstore_n 1, 1) := by decide +kernel
theorem dX1_digest_172 : decode cX1_digest 172 = .ok (.ldc2_w 189, 3) := by decide +kernel
theorem dX1_digest_175 : decode cX1_digest 175 = .ok (.lload_n 1, 1) := by decide +kernel
theorem dX1_digest_176 : decode cX1_digest 176 = .ok (.lmul, 1) := by decide +kernel
theorem dX1_digest_177 : decode cX1_digest 177 = .ok (.aload_n 0, 1) := by decide +kernel
theorem dX1_digest_178 : decode cX1_digest 178 = .ok (.invokevirtual 197, 3) := by decide +kernel
theorem dX1_digest_181 : decode cX1_digest 181 = .ok (.i2l, 1) := by decide +kernel
theorem dX1_digest_182 : decode cX1_digest 182 = .ok (.ladd, 1) := by decide +kernel
theorem dX1_digest_183 : decode cX1_digest 183 = .ok (.lstore_n 1, 1) := by decide +kernel
theorem dX1_digest_184 : decode cX1_digest 184 = .ok (.ldc2_w 189, 3) := by decide +kernel
theorem dX1_digest_187 : decode cX1_digest 187 = .ok (.lload_n 1, 1) := by decide +kernel
theorem dX1_digest_188 : decode cX1_digest 188 = .ok (.lmul, 1) := by decide +kernel
theorem dX1_digest_189 : decode cX1_digest 189 = .ok (.aload_n 0, 1) := by decide +kernel
theorem dX1_digest_190 : decode cX1_digest 190 = .ok (.invokevirtual 200, 3) := by decide +kernel
theorem dX1_digest_193 : decode cX1_digest 193 = .ok (.invokestatic 204, 3) := by decide +kernel
theorem dX1_digest_196 : decode cX1_digest 196 = .ok (.ladd, 1) := by decide +kernel
theorem dX1_digest_197 : decode cX1_digest 197 = .ok (.lstore_n 1, 1) := by decide +kernel
theorem dX1_digest_198 : decode cX1_digest 198 = .ok (.ldc2_w 189, 3) := by decide +kernel
theorem dX1_digest_201 : decode cX1_digest 201 = .ok (.lload_n 1, 1) := by decide +kernel
theorem dX1_digest_202 : decode cX1_digest 202 = .ok (.lmul, 1) := by decide +kernel
theorem dX1_digest_203 : decode cX1_digest 203 = .ok (.aload_n 0, 1) := by decide +kernel
theorem dX1_digest_204 : decode cX1_digest 204 = .ok (.getfield 23, 3) := by decide +kernel
theorem dX1_digest_207 : decode cX1_digest 207 = .ok (.i2l, 1) := by decide +kernel
theorem dX1_digest_208 : decode cX1_digest 208 = .ok (.ladd, 1) := by decide +kernel
theorem dX1_digest_209 : decode cX1_digest 209 = .ok (.lstore_n 1, 1) := by decide +kernel
theorem dX1_digest_210 : decode cX1_digest 210 = .ok (.iconst 0, 1) := by decide +kernel
theorem dX1_digest_211 : decode cX1_digest 211 = .ok (.istore_n 3, 1) := by decide +kernel
theorem dX1_digest_212 : decode cX1_digest 212 = .ok (.iload_n 3, 1) := by decide +kernel
theorem dX1_digest_213 : decode cX1_digest 213 = .ok (.aload_n 0, 1) := by decide +kernel
theorem dX1_digest_214 : decode cX1_digest 214 = .ok (.getfield 23, 3) := by decide +kernel
theorem dX1_digest_217 : decode cX1_digest 217 = .ok (.if_icmp .ge 23, 3) := by decide +kernel
theorem dX1_digest_220 : decode cX1_digest 220 = .ok (.ldc2_w 189, 3) := by decide +kernel
theorem dX1_digest_223 : decode cX1_digest 223 = .ok (.lload_n 1, 1) := by decide +kernel
theorem dX1_digest_224 : decode cX1_digest 224 = .ok (.lmul, 1) := by decide +kernel
theorem dX1_digest_225 : decode cX1_digest 225 = .ok (.aload_n 0, 1) := by decide +kernel
theorem dX1_digest_226 : decode cX1_digest 226 = .ok (.getfield 20, 3) := by decide +kernel
theorem dX1_digest_229 : decode cX1_digest 229 = .ok (.iload_n 3, 1) := by decide +kernel
theorem dX1_digest_230 : decode cX1_digest 230 = .ok (.iaload, 1) := by decide +kernel
theorem dX1_digest_231 : decode cX1_digest 231 = .ok (.i2l, 1) := by decide +kernel
theorem dX1_digest_232 : decode cX1_digest 232 = .ok (.ladd, 1) := by decide +kernel
theorem dX1_digest_233 : decode cX1_digest 233 = .ok (.lstore_n 1, 1) := by decide +kernel
theorem dX1_digest_234 : decode cX1_digest 234 = .ok (.iinc 3 1, 3) := by decide +kernel
theorem dX1_digest_237 : decode cX1_digest 237 = .ok (.goto (-25), 3) := by decide +kernel
theorem dX1_digest_240 : decode cX1_digest 240 = .ok (.lload_n 1, 1) := by decide +kernel
theorem dX1_digest_241 : decode cX1_digest 241 = .ok (.lreturn, 1) := by decide +kernel
theorem dX1_isDay_0 : decode cX1_isDay 0 = .ok (.iload_n 0, 1) := by decide +kernel
theorem dX1_isDay_1 : decode cX1_isDay 1 = .ok (.ifCond .lt 13, 3) := by decide +kernel
theorem dX1_isDay_4 : decode cX1_isDay 4 = .ok (.iload_n 0, 1) := by decide +kernel
theorem dX1_isDay_5 : decode cX1_isDay 5 = .ok (.bipush 7, 2) := by decide +kernel
theorem dX1_isDay_7 : decode cX1_isDay 7 = .ok (.if_icmp .ge 7, 3) := by decide +kernel
theorem dX1_isDay_10 : decode cX1_isDay 10 = .ok (.iconst 1, 1) := by decide +kernel
theorem dX1_isDay_11 : decode cX1_isDay 11 = .ok (.goto 4, 3) := by decide +kernel
theorem dX1_isDay_14 : decode cX1_isDay 14 = .ok (.iconst 0, 1) := by decide +kernel
theorem dX1_isDay_15 : decode cX1_isDay 15 = .ok (.ireturn, 1) := by decide +kernel
theorem dX1_isSetting_0 : decode cX1_isSetting 0 = .ok (.iload_n 0, 1) := by decide +kernel
theorem dX1_isSetting_1 : decode cX1_isSetting 1 = .ok (.ifCond .lt 12, 3) := by decide +kernel
theorem dX1_isSetting_4 : decode cX1_isSetting 4 = .ok (.iload_n 0, 1) := by decide +kernel
theorem dX1_isSetting_5 : decode cX1_isSetting 5 = .ok (.iconst 3, 1) := by decide +kernel
theorem dX1_isSetting_6 : decode cX1_isSetting 6 = .ok (.if_icmp .ge 7, 3) := by decide +kernel
theorem dX1_isSetting_9 : decode cX1_isSetting 9 = .ok (.iconst 1, 1) := by decide +kernel
theorem dX1_isSetting_10 : decode cX1_isSetting 10 = .ok (.goto 4, 3) := by decide +kernel
theorem dX1_isSetting_13 : decode cX1_isSetting 13 = .ok (.iconst 0, 1) := by decide +kernel
theorem dX1_isSetting_14 : decode cX1_isSetting 14 = .ok (.ireturn, 1) := by decide +kernel
theorem dX1_isMovement_0 : decode cX1_isMovement 0 = .ok (.iload_n 0, 1) := by decide +kernel
theorem dX1_isMovement_1 : decode cX1_isMovement 1 = .ok (.ifCond .lt 12, 3) := by decide +kernel
theorem dX1_isMovement_4 : decode cX1_isMovement 4 = .ok (.iload_n 0, 1) := by decide +kernel
theorem dX1_isMovement_5 : decode cX1_isMovement 5 = .ok (.iconst 3, 1) := by decide +kernel
theorem dX1_isMovement_6 : decode cX1_isMovement 6 = .ok (.if_icmp .ge 7, 3) := by decide +kernel
theorem dX1_isMovement_9 : decode cX1_isMovement 9 = .ok (.iconst 1, 1) := by decide +kernel
theorem dX1_isMovement_10 : decode cX1_isMovement 10 = .ok (.goto 4, 3) := by decide +kernel
theorem dX1_isMovement_13 : decode cX1_isMovement 13 = .ok (.iconst 0, 1) := by decide +kernel
theorem dX1_isMovement_14 : decode cX1_isMovement 14 = .ok (.ireturn, 1) := by decide +kernel
theorem dX1_areWindingHours_0 : decode cX1_areWindingHours 0 = .ok (.iload_n 0, 1) := by decide +kernel
theorem dX1_areWindingHours_1 : decode cX1_areWindingHours 1 = .ok (.iconst 1, 1) := by decide +kernel
theorem dX1_areWindingHours_2 : decode cX1_areWindingHours 2 = .ok (.if_icmp .lt 14, 3) := by decide +kernel
theorem dX1_areWindingHours_5 : decode cX1_areWindingHours 5 = .ok (.iload_n 0, 1) := by decide +kernel
theorem dX1_areWindingHours_6 : decode cX1_areWindingHours 6 = .ok (.sipush 200, 3) := by decide +kernel
theorem dX1_areWindingHours_9 : decode cX1_areWindingHours 9 = .ok (.if_icmp .gt 7, 3) := by decide +kernel
theorem dX1_areWindingHours_12 : decode cX1_areWindingHours 12 = .ok (.iconst 1, 1) := by decide +kernel
theorem dX1_areWindingHours_13 : decode cX1_areWindingHours 13 = .ok (.goto 4, 3) := by decide +kernel
theorem dX1_areWindingHours_16 : decode cX1_areWindingHours 16 = .ok (.iconst 0, 1) := by decide +kernel
theorem dX1_areWindingHours_17 : decode cX1_areWindingHours 17 = .ok (.ireturn, 1) := by decide +kernel
theorem dX1_isLostHour_0 : decode cX1_isLostHour 0 = .ok (.iload_n 1, 1) := by decide +kernel
theorem dX1_isLostHour_1 : decode cX1_isLostHour 1 = .ok (.ifCond .le 13, 3) := by decide +kernel
theorem dX1_isLostHour_4 : decode cX1_isLostHour 4 = .ok (.iload_n 0, 1) := by decide +kernel
theorem dX1_isLostHour_5 : decode cX1_isLostHour 5 = .ok (.iload_n 1, 1) := by decide +kernel
theorem dX1_isLostHour_6 : decode cX1_isLostHour 6 = .ok (.irem, 1) := by decide +kernel
theorem dX1_isLostHour_7 : decode cX1_isLostHour 7 = .ok (.ifCond .ne 7, 3) := by decide +kernel
theorem dX1_isLostHour_10 : decode cX1_isLostHour 10 = .ok (.iconst 1, 1) := by decide +kernel
theorem dX1_isLostHour_11 : decode cX1_isLostHour 11 = .ok (.goto 4, 3) := by decide +kernel
theorem dX1_isLostHour_14 : decode cX1_isLostHour 14 = .ok (.iconst 0, 1) := by decide +kernel
theorem dX1_isLostHour_15 : decode cX1_isLostHour 15 = .ok (.ireturn, 1) := by decide +kernel
theorem dX1_bitsOfShare_0 : decode cX1_bitsOfShare 0 = .ok (.dload_n 0, 1) := by decide +kernel
theorem dX1_bitsOfShare_1 : decode cX1_bitsOfShare 1 = .ok (.dconst 0, 1) := by decide +kernel
theorem dX1_bitsOfShare_2 : decode cX1_bitsOfShare 2 = .ok (.dcmp .g, 1) := by decide +kernel
theorem dX1_bitsOfShare_3 : decode cX1_bitsOfShare 3 = .ok (.ifCond .gt 5, 3) := by decide +kernel
theorem dX1_bitsOfShare_6 : decode cX1_bitsOfShare 6 = .ok (.lconst 0, 1) := by decide +kernel
theorem dX1_bitsOfShare_7 : decode cX1_bitsOfShare 7 = .ok (.lreturn, 1) := by decide +kernel
theorem dX1_bitsOfShare_8 : decode cX1_bitsOfShare 8 = .ok (.dload_n 0, 1) := by decide +kernel
theorem dX1_bitsOfShare_9 : decode cX1_bitsOfShare 9 = .ok (.dstore_n 2, 1) := by decide +kernel
theorem dX1_bitsOfShare_10 : decode cX1_bitsOfShare 10 = .ok (.ldc2_w 208, 3) := by decide +kernel
theorem dX1_bitsOfShare_13 : decode cX1_bitsOfShare 13 = .ok (.lstore 4, 2) := by decide +kernel
theorem dX1_bitsOfShare_15 : decode cX1_bitsOfShare 15 = .ok (.iconst 1, 1) := by decide +kernel
theorem dX1_bitsOfShare_16 : decode cX1_bitsOfShare 16 = .ok (.istore 6, 2) := by decide +kernel
theorem dX1_bitsOfShare_18 : decode cX1_bitsOfShare 18 = .ok (.iload 6, 2) := by decide +kernel
theorem dX1_bitsOfShare_20 : decode cX1_bitsOfShare 20 = .ok (.sipush 1023, 3) := by decide +kernel
theorem dX1_bitsOfShare_23 : decode cX1_bitsOfShare 23 = .ok (.if_icmp .ge 27, 3) := by decide +kernel
theorem dX1_bitsOfShare_26 : decode cX1_bitsOfShare 26 = .ok (.dload_n 2, 1) := by decide +kernel
theorem dX1_bitsOfShare_27 : decode cX1_bitsOfShare 27 = .ok (.dconst 1, 1) := by decide +kernel
theorem dX1_bitsOfShare_28 : decode cX1_bitsOfShare 28 = .ok (.dcmp .g, 1) := by decide +kernel
theorem dX1_bitsOfShare_29 : decode cX1_bitsOfShare 29 = .ok (.ifCond .ge 21, 3) := by decide +kernel
theorem dX1_bitsOfShare_32 : decode cX1_bitsOfShare 32 = .ok (.dload_n 2, 1) := by decide +kernel
theorem dX1_bitsOfShare_33 : decode cX1_bitsOfShare 33 = .ok (.ldc2_w 210, 3) := by decide +kernel
theorem dX1_bitsOfShare_36 : decode cX1_bitsOfShare 36 = .ok (.dmul, 1) := by decide +kernel
theorem dX1_bitsOfShare_37 : decode cX1_bitsOfShare 37 = .ok (.dstore_n 2, 1) := by decide +kernel
theorem dX1_bitsOfShare_38 : decode cX1_bitsOfShare 38 = .ok (.lload 4, 2) := by decide +kernel
theorem dX1_bitsOfShare_40 : decode cX1_bitsOfShare 40 = .ok (.lconst 1, 1) := by decide +kernel
theorem dX1_bitsOfShare_41 : decode cX1_bitsOfShare 41 = .ok (.lsub, 1) := by decide +kernel
theorem dX1_bitsOfShare_42 : decode cX1_bitsOfShare 42 = .ok (.lstore 4, 2) := by decide +kernel
theorem dX1_bitsOfShare_44 : decode cX1_bitsOfShare 44 = .ok (.iinc 6 1, 3) := by decide +kernel
theorem dX1_bitsOfShare_47 : decode cX1_bitsOfShare 47 = .ok (.goto (-29), 3) := by decide +kernel
theorem dX1_bitsOfShare_50 : decode cX1_bitsOfShare 50 = .ok (.dload_n 2, 1) := by decide +kernel
theorem dX1_bitsOfShare_51 : decode cX1_bitsOfShare 51 = .ok (.dconst 1, 1) := by decide +kernel
theorem dX1_bitsOfShare_52 : decode cX1_bitsOfShare 52 = .ok (.dsub, 1) := by decide +kernel
theorem dX1_bitsOfShare_53 : decode cX1_bitsOfShare 53 = .ok (.ldc2_w 212, 3) := by decide +kernel
theorem dX1_bitsOfShare_56 : decode cX1_bitsOfShare 56 = .ok (.dmul, 1) := by decide +kernel
theorem dX1_bitsOfShare_57 : decode cX1_bitsOfShare 57 = .ok (.d2l, 1) := by decide +kernel
theorem dX1_bitsOfShare_58 : decode cX1_bitsOfShare 58 = .ok (.lstore 6, 2) := by decide +kernel
theorem dX1_bitsOfShare_60 : decode cX1_bitsOfShare 60 = .ok (.lload 4, 2) := by decide +kernel
theorem dX1_bitsOfShare_62 : decode cX1_bitsOfShare 62 = .ok (.bipush 52, 2) := by decide +kernel
theorem dX1_bitsOfShare_64 : decode cX1_bitsOfShare 64 = .ok (.lshl, 1) := by decide +kernel
theorem dX1_bitsOfShare_65 : decode cX1_bitsOfShare 65 = .ok (.lload 6, 2) := by decide +kernel
theorem dX1_bitsOfShare_67 : decode cX1_bitsOfShare 67 = .ok (.ladd, 1) := by decide +kernel
theorem dX1_bitsOfShare_68 : decode cX1_bitsOfShare 68 = .ok (.lreturn, 1) := by decide +kernel
set_option maxRecDepth 20000 in
theorem ggX1_change_X1_save : GoodIn wsX1_change wsX1_save := goodIn_r _ [6, 7, 8, 9, 10, 11, 12, 1, 13, 14, 15, 16, 17, 18] (by decide +kernel) (by decide +kernel)
set_option maxRecDepth 20000 in
theorem gX1_change_X1_save : GoodIn wsX1_change (wsV RX1 103 RX1 yX1_save wsX1_save) := goodIn_app (goodIn_of _ (by decide +kernel)) ggX1_change_X1_save
theorem dX1_change_0 : decode cX1_change 0 = .ok (.aload_n 0, 1) := by decide +kernel
theorem dX1_change_1 : decode cX1_change 1 = .ok (.invokevirtual 103, 3) := by decide +kernel
theorem dX1_change_4 : decode cX1_change 4 = .ok (.aload_n 0, 1) := by decide +kernel
theorem dX1_change_5 : decode cX1_change 5 = .ok (.getfield 9, 3) := by decide +kernel
theorem dX1_change_8 : decode cX1_change 8 = .ok (.iload_n 1, 1) := by decide +kernel
theorem dX1_change_9 : decode cX1_change 9 = .ok (.iaload, 1) := by decide +kernel
theorem dX1_change_10 : decode cX1_change 10 = .ok (.istore_n 3, 1) := by decide +kernel
theorem dX1_change_11 : decode cX1_change 11 = .ok (.aload_n 0, 1) := by decide +kernel
theorem dX1_change_12 : decode cX1_change 12 = .ok (.getfield 9, 3) := by decide +kernel
theorem dX1_change_15 : decode cX1_change 15 = .ok (.iload_n 1, 1) := by decide +kernel
theorem dX1_change_16 : decode cX1_change 16 = .ok (.iload_n 2, 1) := by decide +kernel
theorem dX1_change_17 : decode cX1_change 17 = .ok (.iastore, 1) := by decide +kernel
theorem dX1_change_18 : decode cX1_change 18 = .ok (.iload_n 3, 1) := by decide +kernel
theorem dX1_change_19 : decode cX1_change 19 = .ok (.ireturn, 1) := by decide +kernel
theorem dX1_save_0 : decode cX1_save 0 = .ok (.aload_n 0, 1) := by decide +kernel
theorem dX1_save_1 : decode cX1_save 1 = .ok (.getfield 16, 3) := by decide +kernel
theorem dX1_save_4 : decode cX1_save 4 = .ok (.bipush 6, 2) := by decide +kernel
theorem dX1_save_6 : decode cX1_save 6 = .ok (.if_icmp .lt 25, 3) := by decide +kernel
theorem dX1_save_9 : decode cX1_save 9 = .ok (.aload_n 0, 1) := by decide +kernel
theorem dX1_save_10 : decode cX1_save 10 = .ok (.getfield 13, 3) := by decide +kernel
theorem dX1_save_13 : decode cX1_save 13 = .ok (.bipush 33, 2) := by decide +kernel
theorem dX1_save_15 : decode cX1_save 15 = .ok (.aload_n 0, 1) := by decide +kernel
theorem dX1_save_16 : decode cX1_save 16 = .ok (.getfield 13, 3) := by decide +kernel
theorem dX1_save_19 : decode cX1_save 19 = .ok (.iconst 0, 1) := by decide +kernel
theorem dX1_save_20 : decode cX1_save 20 = .ok (.sipush 165, 3) := by decide +kernel
theorem dX1_save_23 : decode cX1_save 23 = .ok (.invokestatic 163, 3) := by decide +kernel
theorem dX1_save_26 : decode cX1_save 26 = .ok (.aload_n 0, 1) := by decide +kernel
theorem dX1_save_27 : decode cX1_save 27 = .ok (.iconst 5, 1) := by decide +kernel
theorem dX1_save_28 : decode cX1_save 28 = .ok (.putfield 16, 3) := by decide +kernel
theorem dX1_save_31 : decode cX1_save 31 = .ok (.aload_n 0, 1) := by decide +kernel
theorem dX1_save_32 : decode cX1_save 32 = .ok (.getfield 9, 3) := by decide +kernel
theorem dX1_save_35 : decode cX1_save 35 = .ok (.iconst 0, 1) := by decide +kernel
theorem dX1_save_36 : decode cX1_save 36 = .ok (.aload_n 0, 1) := by decide +kernel
theorem dX1_save_37 : decode cX1_save 37 = .ok (.getfield 13, 3) := by decide +kernel
theorem dX1_save_40 : decode cX1_save 40 = .ok (.aload_n 0, 1) := by decide +kernel
theorem dX1_save_41 : decode cX1_save 41 = .ok (.getfield 16, 3) := by decide +kernel
theorem dX1_save_44 : decode cX1_save 44 = .ok (.bipush 33, 2) := by decide +kernel
theorem dX1_save_46 : decode cX1_save 46 = .ok (.imul, 1) := by decide +kernel
theorem dX1_save_47 : decode cX1_save 47 = .ok (.bipush 33, 2) := by decide +kernel
theorem dX1_save_49 : decode cX1_save 49 = .ok (.invokestatic 163, 3) := by decide +kernel
theorem dX1_save_52 : decode cX1_save 52 = .ok (.aload_n 0, 1) := by decide +kernel
theorem dX1_save_53 : decode cX1_save 53 = .ok (.dup, 1) := by decide +kernel
theorem dX1_save_54 : decode cX1_save 54 = .ok (.getfield 16, 3) := by decide +kernel
theorem dX1_save_57 : decode cX1_save 57 = .ok (.iconst 1, 1) := by decide +kernel
theorem dX1_save_58 : decode cX1_save 58 = .ok (.iadd, 1) := by decide +kernel
theorem dX1_save_59 : decode cX1_save 59 = .ok (.putfield 16, 3) := by decide +kernel
theorem dX1_save_62 : decode cX1_save 62 = .ok (.return_, 1) := by decide +kernel
theorem dX1_today_0 : decode cX1_today 0 = .ok (.aload_n 0, 1) := by decide +kernel
theorem dX1_today_1 : decode cX1_today 1 = .ok (.getfield 9, 3) := by decide +kernel
theorem dX1_today_4 : decode cX1_today 4 = .ok (.iconst 0, 1) := by decide +kernel
theorem dX1_today_5 : decode cX1_today 5 = .ok (.iaload, 1) := by decide +kernel
theorem dX1_today_6 : decode cX1_today 6 = .ok (.bipush 24, 2) := by decide +kernel
theorem dX1_today_8 : decode cX1_today 8 = .ok (.idiv, 1) := by decide +kernel
theorem dX1_today_9 : decode cX1_today 9 = .ok (.bipush 7, 2) := by decide +kernel
theorem dX1_today_11 : decode cX1_today 11 = .ok (.irem, 1) := by decide +kernel
theorem dX1_today_12 : decode cX1_today 12 = .ok (.ireturn, 1) := by decide +kernel
theorem dX1_timeOfDay_0 : decode cX1_timeOfDay 0 = .ok (.aload_n 0, 1) := by decide +kernel
theorem dX1_timeOfDay_1 : decode cX1_timeOfDay 1 = .ok (.getfield 9, 3) := by decide +kernel
theorem dX1_timeOfDay_4 : decode cX1_timeOfDay 4 = .ok (.iconst 0, 1) := by decide +kernel
theorem dX1_timeOfDay_5 : decode cX1_timeOfDay 5 = .ok (.iaload, 1) := by decide +kernel
theorem dX1_timeOfDay_6 : decode cX1_timeOfDay 6 = .ok (.bipush 24, 2) := by decide +kernel
theorem dX1_timeOfDay_8 : decode cX1_timeOfDay 8 = .ok (.irem, 1) := by decide +kernel
theorem dX1_timeOfDay_9 : decode cX1_timeOfDay 9 = .ok (.ireturn, 1) := by decide +kernel
set_option maxRecDepth 20000 in
theorem ggX1_hoursToOpening_X1_today : GoodIn wsX1_hoursToOpening wsX1_today := goodIn_r _ [6, 1, 11, 12, 13, 14, 15, 16] (by decide +kernel) (by decide +kernel)
set_option maxRecDepth 20000 in
theorem gX1_hoursToOpening_X1_today : GoodIn wsX1_hoursToOpening (wsV RX1 214 RX1 yX1_today wsX1_today) := goodIn_app (goodIn_of _ (by decide +kernel)) ggX1_hoursToOpening_X1_today
set_option maxRecDepth 20000 in
theorem ggX1_hoursToOpening_X1_timeOfDay : GoodIn wsX1_hoursToOpening wsX1_timeOfDay := goodIn_r _ [10, 1, 11, 12, 13, 14, 15, 16] (by decide +kernel) (by decide +kernel)
set_option maxRecDepth 20000 in
theorem gX1_hoursToOpening_X1_timeOfDay : GoodIn wsX1_hoursToOpening (wsV RX1 217 RX1 yX1_timeOfDay wsX1_timeOfDay) := goodIn_app (goodIn_of _ (by decide +kernel)) ggX1_hoursToOpening_X1_timeOfDay
theorem dX1_hoursToOpening_0 : decode cX1_hoursToOpening 0 = .ok (.iconst 0, 1) := by decide +kernel
theorem dX1_hoursToOpening_1 : decode cX1_hoursToOpening 1 = .ok (.istore_n 1, 1) := by decide +kernel
theorem dX1_hoursToOpening_2 : decode cX1_hoursToOpening 2 = .ok (.iload_n 1, 1) := by decide +kernel
theorem dX1_hoursToOpening_3 : decode cX1_hoursToOpening 3 = .ok (.bipush 7, 2) := by decide +kernel
theorem dX1_hoursToOpening_5 : decode cX1_hoursToOpening 5 = .ok (.if_icmp .gt 50, 3) := by decide +kernel
theorem dX1_hoursToOpening_8 : decode cX1_hoursToOpening 8 = .ok (.aload_n 0, 1) := by decide +kernel
theorem dX1_hoursToOpening_9 : decode cX1_hoursToOpening 9 = .ok (.getfield 9, 3) := by decide +kernel
theorem dX1_hoursToOpening_12 : decode cX1_hoursToOpening 12 = .ok (.bipush 14, 2) := by decide +kernel
theorem dX1_hoursToOpening_14 : decode cX1_hoursToOpening 14 = .ok (.aload_n 0, 1) := by decide +kernel
theorem dX1_hoursToOpening_15 : decode cX1_hoursToOpening 15 = .ok (.invokevirtual 214, 3) := by decide +kernel
theorem dX1_hoursToOpening_18 : decode cX1_hoursToOpening 18 = .ok (.iload_n 1, 1) := by decide +kernel
theorem dX1_hoursToOpening_19 : decode cX1_hoursToOpening 19 = .ok (.iadd, 1) := by decide +kernel
theorem dX1_hoursToOpening_20 : decode cX1_hoursToOpening 20 = .ok (.bipush 7, 2) := by decide +kernel
theorem dX1_hoursToOpening_22 : decode cX1_hoursToOpening 22 = .ok (.irem, 1) := by decide +kernel
theorem dX1_hoursToOpening_23 : decode cX1_hoursToOpening 23 = .ok (.iadd, 1) := by decide +kernel
theorem dX1_hoursToOpening_24 : decode cX1_hoursToOpening 24 = .ok (.iaload, 1) := by decide +kernel
theorem dX1_hoursToOpening_25 : decode cX1_hoursToOpening 25 = .ok (.istore_n 2, 1) := by decide +kernel
theorem dX1_hoursToOpening_26 : decode cX1_hoursToOpening 26 = .ok (.iload_n 1, 1) := by decide +kernel
theorem dX1_hoursToOpening_27 : decode cX1_hoursToOpening 27 = .ok (.bipush 24, 2) := by decide +kernel
theorem dX1_hoursToOpening_29 : decode cX1_hoursToOpening 29 = .ok (.imul, 1) := by decide +kernel
theorem dX1_hoursToOpening_30 : decode cX1_hoursToOpening 30 = .ok (.iload_n 2, 1) := by decide +kernel
theorem dX1_hoursToOpening_31 : decode cX1_hoursToOpening 31 = .ok (.iadd, 1) := by decide +kernel
theorem dX1_hoursToOpening_32 : decode cX1_hoursToOpening 32 = .ok (.aload_n 0, 1) := by decide +kernel
theorem dX1_hoursToOpening_33 : decode cX1_hoursToOpening 33 = .ok (.invokevirtual 217, 3) := by decide +kernel
theorem dX1_hoursToOpening_36 : decode cX1_hoursToOpening 36 = .ok (.isub, 1) := by decide +kernel
theorem dX1_hoursToOpening_37 : decode cX1_hoursToOpening 37 = .ok (.istore_n 3, 1) := by decide +kernel
theorem dX1_hoursToOpening_38 : decode cX1_hoursToOpening 38 = .ok (.iload_n 2, 1) := by decide +kernel
theorem dX1_hoursToOpening_39 : decode cX1_hoursToOpening 39 = .ok (.iconst (-1), 1) := by decide +kernel
theorem dX1_hoursToOpening_40 : decode cX1_hoursToOpening 40 = .ok (.if_icmp .eq 9, 3) := by decide +kernel
theorem dX1_hoursToOpening_43 : decode cX1_hoursToOpening 43 = .ok (.iload_n 3, 1) := by decide +kernel
theorem dX1_hoursToOpening_44 : decode cX1_hoursToOpening 44 = .ok (.ifCond .le 5, 3) := by decide +kernel
theorem dX1_hoursToOpening_47 : decode cX1_hoursToOpening 47 = .ok (.iload_n 3, 1) := by decide +kernel
theorem dX1_hoursToOpening_48 : decode cX1_hoursToOpening 48 = .ok (.ireturn, 1) := by decide +kernel
theorem dX1_hoursToOpening_49 : decode cX1_hoursToOpening 49 = .ok (.iinc 1 1, 3) := by decide +kernel
theorem dX1_hoursToOpening_52 : decode cX1_hoursToOpening 52 = .ok (.goto (-50), 3) := by decide +kernel
theorem dX1_hoursToOpening_55 : decode cX1_hoursToOpening 55 = .ok (.iconst (-1), 1) := by decide +kernel
theorem dX1_hoursToOpening_56 : decode cX1_hoursToOpening 56 = .ok (.ireturn, 1) := by decide +kernel
theorem dX1_place_0 : decode cX1_place 0 = .ok (.bipush 21, 2) := by decide +kernel
theorem dX1_place_2 : decode cX1_place 2 = .ok (.iload_n 0, 1) := by decide +kernel
theorem dX1_place_3 : decode cX1_place 3 = .ok (.iconst 4, 1) := by decide +kernel
theorem dX1_place_4 : decode cX1_place 4 = .ok (.imul, 1) := by decide +kernel
theorem dX1_place_5 : decode cX1_place 5 = .ok (.iadd, 1) := by decide +kernel
theorem dX1_place_6 : decode cX1_place 6 = .ok (.iload_n 1, 1) := by decide +kernel
theorem dX1_place_7 : decode cX1_place 7 = .ok (.iadd, 1) := by decide +kernel
theorem dX1_place_8 : decode cX1_place 8 = .ok (.ireturn, 1) := by decide +kernel
set_option maxRecDepth 20000 in
theorem ggX1_goes_X1_place : GoodIn wsX1_goes wsX1_place := goodIn_r _ [5] (by decide +kernel) (by decide +kernel)
set_option maxRecDepth 20000 in
theorem gX1_goes_X1_place : GoodIn wsX1_goes (va_wsS RX1 91 yX1_place wsX1_place) := goodIn_app (goodIn_of _ (by decide +kernel)) ggX1_goes_X1_place
theorem dX1_goes_0 : decode cX1_goes 0 = .ok (.aload_n 0, 1) := by decide +kernel
theorem dX1_goes_1 : decode cX1_goes 1 = .ok (.getfield 9, 3) := by decide +kernel
theorem dX1_goes_4 : decode cX1_goes 4 = .ok (.iload_n 1, 1) := by decide +kernel
theorem dX1_goes_5 : decode cX1_goes 5 = .ok (.iconst 1, 1) := by decide +kernel
theorem dX1_goes_6 : decode cX1_goes 6 = .ok (.invokestatic 91, 3) := by decide +kernel
theorem dX1_goes_9 : decode cX1_goes 9 = .ok (.iaload, 1) := by decide +kernel
theorem dX1_goes_10 : decode cX1_goes 10 = .ok (.ifCond .eq 7, 3) := by decide +kernel
theorem dX1_goes_13 : decode cX1_goes 13 = .ok (.iconst 1, 1) := by decide +kernel
theorem dX1_goes_14 : decode cX1_goes 14 = .ok (.goto 4, 3) := by decide +kernel
theorem dX1_goes_17 : decode cX1_goes 17 = .ok (.iconst 0, 1) := by decide +kernel
theorem dX1_goes_18 : decode cX1_goes 18 = .ok (.ireturn, 1) := by decide +kernel
set_option maxRecDepth 20000 in
theorem ggX1_property_X1_place : GoodIn wsX1_property wsX1_place := goodIn_r _ [5] (by decide +kernel) (by decide +kernel)
set_option maxRecDepth 20000 in
theorem gX1_property_X1_place : GoodIn wsX1_property (va_wsS RX1 91 yX1_place wsX1_place) := goodIn_app (goodIn_of _ (by decide +kernel)) ggX1_property_X1_place
set_option maxRecDepth 20000 in
theorem ggX1_property_X1_goes : GoodIn wsX1_property wsX1_goes := goodIn_r _ [9, 1, 2, 3, 4, 5, 14, 15, 16, 17, 18, 19] (by decide +kernel) (by decide +kernel)
set_option maxRecDepth 20000 in
theorem gX1_property_X1_goes : GoodIn wsX1_property (wsV RX1 83 RX1 yX1_goes wsX1_goes) := goodIn_app (goodIn_of _ (by decide +kernel)) ggX1_property_X1_goes
set_option maxRecDepth 20000 in
theorem ggX1_property_X1_hoursToRunDown : GoodIn wsX1_property wsX1_hoursToRunDown := goodIn_r _ [13, 1, 2, 3, 4, 5, 14, 15, 16, 17, 18, 19] (by decide +kernel) (by decide +kernel)
set_option maxRecDepth 20000 in
theorem gX1_property_X1_hoursToRunDown : GoodIn wsX1_property (wsV RX1 220 RX1 yX1_hoursToRunDown wsX1_hoursToRunDown) := goodIn_app (goodIn_of _ (by decide +kernel)) ggX1_property_X1_hoursToRunDown
theorem dX1_property_0 : decode cX1_property 0 = .ok (.iload_n 2, 1) := by decide +kernel
theorem dX1_property_1 : decode cX1_property 1 = .ok (.iconst 4, 1) := by decide +kernel
theorem dX1_property_2 : decode cX1_property 2 = .ok (.if_icmp .ne 29, 3) := by decide +kernel
theorem dX1_property_5 : decode cX1_property 5 = .ok (.aload_n 0, 1) := by decide +kernel
theorem dX1_property_6 : decode cX1_property 6 = .ok (.getfield 9, 3) := by decide +kernel
theorem dX1_property_9 : decode cX1_property 9 = .ok (.iload_n 1, 1) := by decide +kernel
theorem dX1_property_10 : decode cX1_property 10 = .ok (.iconst 3, 1) := by decide +kernel
theorem dX1_property_11 : decode cX1_property 11 = .ok (.invokestatic 91, 3) := by decide +kernel
theorem dX1_property_14 : decode cX1_property 14 = .ok (.iaload, 1) := by decide +kernel
theorem dX1_property_15 : decode cX1_property 15 = .ok (.aload_n 0, 1) := by decide +kernel
theorem dX1_property_16 : decode cX1_property 16 = .ok (.getfield 9, 3) := by decide +kernel
theorem dX1_property_19 : decode cX1_property 19 = .ok (.bipush 13, 2) := by decide +kernel
theorem dX1_property_21 : decode cX1_property 21 = .ok (.iaload, 1) := by decide +kernel
theorem dX1_property_22 : decode cX1_property 22 = .ok (.if_icmp .lt 7, 3) := by decide +kernel
theorem dX1_property_25 : decode cX1_property 25 = .ok (.iconst 1, 1) := by decide +kernel
theorem dX1_property_26 : decode cX1_property 26 = .ok (.goto 4, 3) := by decide +kernel
theorem dX1_property_29 : decode cX1_property 29 = .ok (.iconst 0, 1) := by decide +kernel
theorem dX1_property_30 : decode cX1_property 30 = .ok (.ireturn, 1) := by decide +kernel
theorem dX1_property_31 : decode cX1_property 31 = .ok (.iload_n 2, 1) := by decide +kernel
theorem dX1_property_32 : decode cX1_property 32 = .ok (.iconst 5, 1) := by decide +kernel
theorem dX1_property_33 : decode cX1_property 33 = .ok (.if_icmp .ne 14, 3) := by decide +kernel
theorem dX1_property_36 : decode cX1_property 36 = .ok (.aload_n 0, 1) := by decide +kernel
theorem dX1_property_37 : decode cX1_property 37 = .ok (.iload_n 1, 1) := by decide +kernel
theorem dX1_property_38 : decode cX1_property 38 = .ok (.aload_n 0, 1) := by decide +kernel
theorem dX1_property_39 : decode cX1_property 39 = .ok (.iload_n 1, 1) := by decide +kernel
theorem dX1_property_40 : decode cX1_property 40 = .ok (.invokevirtual 83, 3) := by decide +kernel
theorem dX1_property_43 : decode cX1_property 43 = .ok (.invokevirtual 220, 3) := by decide +kernel
theorem dX1_property_46 : decode cX1_property 46 = .ok (.ireturn, 1) := by decide +kernel
theorem dX1_property_47 : decode cX1_property 47 = .ok (.aload_n 0, 1) := by decide +kernel
theorem dX1_property_48 : decode cX1_property 48 = .ok (.getfield 9, 3) := by decide +kernel
theorem dX1_property_51 : decode cX1_property 51 = .ok (.iload_n 1, 1) := by decide +kernel
theorem dX1_property_52 : decode cX1_property 52 = .ok (.iload_n 2, 1) := by decide +kernel
theorem dX1_property_53 : decode cX1_property 53 = .ok (.invokestatic 91, 3) := by decide +kernel
theorem dX1_property_56 : decode cX1_property 56 = .ok (.iaload, 1) := by decide +kernel
theorem dX1_property_57 : decode cX1_property 57 = .ok (.ireturn, 1) := by decide +kernel
set_option maxRecDepth 20000 in
theorem ggX1_someMovementRuns_X1_goes : GoodIn wsX1_someMovementRuns wsX1_goes := goodIn_r _ [6, 1, 7, 8, 5, 9, 10, 11, 12, 13, 14, 15] (by decide +kernel) (by decide +kernel)
set_option maxRecDepth 20000 in
theorem gX1_someMovementRuns_X1_goes : GoodIn wsX1_someMovementRuns (wsV RX1 83 RX1 yX1_goes wsX1_goes) := goodIn_app (goodIn_of _ (by decide +kernel)) ggX1_someMovementRuns_X1_goes
set_option maxRecDepth 20000 in
theorem ggX1_someMovementRuns_X1_place : GoodIn wsX1_someMovementRuns wsX1_place := goodIn_r _ [9] (by decide +kernel) (by decide +kernel)
set_option maxRecDepth 20000 in
theorem gX1_someMovementRuns_X1_place : GoodIn wsX1_someMovementRuns (va_wsS RX1 91 yX1_place wsX1_place) := goodIn_app (goodIn_of _ (by decide +kernel)) ggX1_someMovementRuns_X1_place
theorem dX1_someMovementRuns_0 : decode cX1_someMovementRuns 0 = .ok (.iconst 0, 1) := by decide +kernel
theorem dX1_someMovementRuns_1 : decode cX1_someMovementRuns 1 = .ok (.istore_n 1, 1) := by decide +kernel
theorem dX1_someMovementRuns_2 : decode cX1_someMovementRuns 2 = .ok (.iload_n 1, 1) := by decide +kernel
theorem dX1_someMovementRuns_3 : decode cX1_someMovementRuns 3 = .ok (.iconst 3, 1) := by decide +kernel
theorem dX1_someMovementRuns_4 : decode cX1_someMovementRuns 4 = .ok (.if_icmp .ge 32, 3) := by decide +kernel
theorem dX1_someMovementRuns_7 : decode cX1_someMovementRuns 7 = .ok (.aload_n 0, 1) := by decide +kernel
theorem dX1_someMovementRuns_8 : decode cX1_someMovementRuns 8 = .ok (.iload_n 1, 1) := by decide +kernel
theorem dX1_someMovementRuns_9 : decode cX1_someMovementRuns 9 = .ok (.invokevirtual 83, 3) := by decide +kernel
theorem dX1_someMovementRuns_12 : decode cX1_someMovementRuns 12 = .ok (.ifCond .eq 18, 3) := by decide +kernel
theorem dX1_someMovementRuns_15 : decode cX1_someMovementRuns 15 = .ok (.aload_n 0, 1) := by decide +kernel
theorem dX1_someMovementRuns_16 : decode cX1_someMovementRuns 16 = .ok (.getfield 9, 3) := by decide +kernel
theorem dX1_someMovementRuns_19 : decode cX1_someMovementRuns 19 = .ok (.iload_n 1, 1) := by decide +kernel
theorem dX1_someMovementRuns_20 : decode cX1_someMovementRuns 20 = .ok (.iconst 0, 1) := by decide +kernel
theorem dX1_someMovementRuns_21 : decode cX1_someMovementRuns 21 = .ok (.invokestatic 91, 3) := by decide +kernel
theorem dX1_someMovementRuns_24 : decode cX1_someMovementRuns 24 = .ok (.iaload, 1) := by decide +kernel
theorem dX1_someMovementRuns_25 : decode cX1_someMovementRuns 25 = .ok (.ifCond .le 5, 3) := by decide +kernel
theorem dX1_someMovementRuns_28 : decode cX1_someMovementRuns 28 = .ok (.iconst 1, 1) := by decide +kernel
theorem dX1_someMovementRuns_29 : decode cX1_someMovementRuns 29 = .ok (.ireturn, 1) := by decide +kernel
theorem dX1_someMovementRuns_30 : decode cX1_someMovementRuns 30 = .ok (.iinc 1 1, 3) := by decide +kernel
theorem dX1_someMovementRuns_33 : decode cX1_someMovementRuns 33 = .ok (.goto (-31), 3) := by decide +kernel
theorem dX1_someMovementRuns_36 : decode cX1_someMovementRuns 36 = .ok (.iconst 0, 1) := by decide +kernel
theorem dX1_someMovementRuns_37 : decode cX1_someMovementRuns 37 = .ok (.ireturn, 1) := by decide +kernel
set_option maxRecDepth 20000 in
theorem ggX1_movementsRunDown_X1_place : GoodIn wsX1_movementsRunDown wsX1_place := goodIn_r _ [5] (by decide +kernel) (by decide +kernel)
set_option maxRecDepth 20000 in
theorem gX1_movementsRunDown_X1_place : GoodIn wsX1_movementsRunDown (va_wsS RX1 91 yX1_place wsX1_place) := goodIn_app (goodIn_of _ (by decide +kernel)) ggX1_movementsRunDown_X1_place
theorem dX1_movementsRunDown_0 : decode cX1_movementsRunDown 0 = .ok (.iconst 0, 1) := by decide +kernel
theorem dX1_movementsRunDown_1 : decode cX1_movementsRunDown 1 = .ok (.istore_n 1, 1) := by decide +kernel
theorem dX1_movementsRunDown_2 : decode cX1_movementsRunDown 2 = .ok (.iconst 0, 1) := by decide +kernel
theorem dX1_movementsRunDown_3 : decode cX1_movementsRunDown 3 = .ok (.istore_n 2, 1) := by decide +kernel
theorem dX1_movementsRunDown_4 : decode cX1_movementsRunDown 4 = .ok (.iload_n 2, 1) := by decide +kernel
theorem dX1_movementsRunDown_5 : decode cX1_movementsRunDown 5 = .ok (.iconst 3, 1) := by decide +kernel
theorem dX1_movementsRunDown_6 : decode cX1_movementsRunDown 6 = .ok (.if_icmp .ge 25, 3) := by decide +kernel
theorem dX1_movementsRunDown_9 : decode cX1_movementsRunDown 9 = .ok (.aload_n 0, 1) := by decide +kernel
theorem dX1_movementsRunDown_10 : decode cX1_movementsRunDown 10 = .ok (.getfield 9, 3) := by decide +kernel
theorem dX1_movementsRunDown_13 : decode cX1_movementsRunDown 13 = .ok (.iload_n 2, 1) := by decide +kernel
theorem dX1_movementsRunDown_14 : decode cX1_movementsRunDown 14 = .ok (.iconst 0, 1) := by decide +kernel
theorem dX1_movementsRunDown_15 : decode cX1_movementsRunDown 15 = .ok (.invokestatic 91, 3) := by decide +kernel
theorem dX1_movementsRunDown_18 : decode cX1_movementsRunDown 18 = .ok (.iaload, 1) := by decide +kernel
theorem dX1_movementsRunDown_19 : decode cX1_movementsRunDown 19 = .ok (.ifCond .ne 6, 3) := by decide +kernel
theorem dX1_movementsRunDown_22 : decode cX1_movementsRunDown 22 = .ok (.iinc 1 1, 3) := by decide +kernel
theorem dX1_movementsRunDown_25 : decode cX1_movementsRunDown 25 = .ok (.iinc 2 1, 3) := by decide +kernel
theorem dX1_movementsRunDown_28 : decode cX1_movementsRunDown 28 = .ok (.goto (-24), 3) := by decide +kernel
theorem dX1_movementsRunDown_31 : decode cX1_movementsRunDown 31 = .ok (.iload_n 1, 1) := by decide +kernel
theorem dX1_movementsRunDown_32 : decode cX1_movementsRunDown 32 = .ok (.ireturn, 1) := by decide +kernel
set_option maxRecDepth 20000 in
theorem ggX1_hoursToRunDown_X1_place : GoodIn wsX1_hoursToRunDown wsX1_place := goodIn_r _ [5] (by decide +kernel) (by decide +kernel)
set_option maxRecDepth 20000 in
theorem gX1_hoursToRunDown_X1_place : GoodIn wsX1_hoursToRunDown (va_wsS RX1 91 yX1_place wsX1_place) := goodIn_app (goodIn_of _ (by decide +kernel)) ggX1_hoursToRunDown_X1_place
theorem dX1_hoursToRunDown_0 : decode cX1_hoursToRunDown 0 = .ok (.aload_n 0, 1) := by decide +kernel
theorem dX1_hoursToRunDown_1 : decode cX1_hoursToRunDown 1 = .ok (.getfield 9, 3) := by decide +kernel
theorem dX1_hoursToRunDown_4 : decode cX1_hoursToRunDown 4 = .ok (.iload_n 1, 1) := by decide +kernel
theorem dX1_hoursToRunDown_5 : decode cX1_hoursToRunDown 5 = .ok (.iconst 0, 1) := by decide +kernel
theorem dX1_hoursToRunDown_6 : decode cX1_hoursToRunDown 6 = .ok (.invokestatic 91, 3) := by decide +kernel
theorem dX1_hoursToRunDown_9 : decode cX1_hoursToRunDown 9 = .ok (.iaload, 1) := by decide +kernel
theorem dX1_hoursToRunDown_10 : decode cX1_hoursToRunDown 10 = .ok (.istore_n 3, 1) := by decide +kernel
theorem dX1_hoursToRunDown_11 : decode cX1_hoursToRunDown 11 = .ok (.aload_n 0, 1) := by decide +kernel
theorem dX1_hoursToRunDown_12 : decode cX1_hoursToRunDown 12 = .ok (.getfield 9, 3) := by decide +kernel
theorem dX1_hoursToRunDown_15 : decode cX1_hoursToRunDown 15 = .ok (.iload_n 1, 1) := by decide +kernel
theorem dX1_hoursToRunDown_16 : decode cX1_hoursToRunDown 16 = .ok (.iconst 2, 1) := by decide +kernel
theorem dX1_hoursToRunDown_17 : decode cX1_hoursToRunDown 17 = .ok (.invokestatic 91, 3) := by decide +kernel
theorem dX1_hoursToRunDown_20 : decode cX1_hoursToRunDown 20 = .ok (.iaload, 1) := by decide +kernel
theorem dX1_hoursToRunDown_21 : decode cX1_hoursToRunDown 21 = .ok (.istore 4, 2) := by decide +kernel
theorem dX1_hoursToRunDown_23 : decode cX1_hoursToRunDown 23 = .ok (.iload_n 3, 1) := by decide +kernel
theorem dX1_hoursToRunDown_24 : decode cX1_hoursToRunDown 24 = .ok (.ifCond .ne 5, 3) := by decide +kernel
theorem dX1_hoursToRunDown_27 : decode cX1_hoursToRunDown 27 = .ok (.iconst 0, 1) := by decide +kernel
theorem dX1_hoursToRunDown_28 : decode cX1_hoursToRunDown 28 = .ok (.ireturn, 1) := by decide +kernel
theorem dX1_hoursToRunDown_29 : decode cX1_hoursToRunDown 29 = .ok (.iload_n 2, 1) := by decide +kernel
theorem dX1_hoursToRunDown_30 : decode cX1_hoursToRunDown 30 = .ok (.ifCond .eq 9, 3) := by decide +kernel
theorem dX1_hoursToRunDown_33 : decode cX1_hoursToRunDown 33 = .ok (.iload 4, 2) := by decide +kernel
theorem dX1_hoursToRunDown_35 : decode cX1_hoursToRunDown 35 = .ok (.iconst 1, 1) := by decide +kernel
theorem dX1_hoursToRunDown_36 : decode cX1_hoursToRunDown 36 = .ok (.if_icmp .ne 5, 3) := by decide +kernel
theorem dX1_hoursToRunDown_39 : decode cX1_hoursToRunDown 39 = .ok (.iconst (-1), 1) := by decide +kernel
theorem dX1_hoursToRunDown_40 : decode cX1_hoursToRunDown 40 = .ok (.ireturn, 1) := by decide +kernel
theorem dX1_hoursToRunDown_41 : decode cX1_hoursToRunDown 41 = .ok (.iload 4, 2) := by decide +kernel
theorem dX1_hoursToRunDown_43 : decode cX1_hoursToRunDown 43 = .ok (.ifCond .gt 5, 3) := by decide +kernel
theorem dX1_hoursToRunDown_46 : decode cX1_hoursToRunDown 46 = .ok (.iload_n 3, 1) := by decide +kernel
theorem dX1_hoursToRunDown_47 : decode cX1_hoursToRunDown 47 = .ok (.ireturn, 1) := by decide +kernel
theorem dX1_hoursToRunDown_48 : decode cX1_hoursToRunDown 48 = .ok (.aload_n 0, 1) := by decide +kernel
theorem dX1_hoursToRunDown_49 : decode cX1_hoursToRunDown 49 = .ok (.getfield 9, 3) := by decide +kernel
theorem dX1_hoursToRunDown_52 : decode cX1_hoursToRunDown 52 = .ok (.iload_n 1, 1) := by decide +kernel
theorem dX1_hoursToRunDown_53 : decode cX1_hoursToRunDown 53 = .ok (.iconst 3, 1) := by decide +kernel
theorem dX1_hoursToRunDown_54 : decode cX1_hoursToRunDown 54 = .ok (.invokestatic 91, 3) := by decide +kernel
theorem dX1_hoursToRunDown_57 : decode cX1_hoursToRunDown 57 = .ok (.iaload, 1) := by decide +kernel
theorem dX1_hoursToRunDown_58 : decode cX1_hoursToRunDown 58 = .ok (.iload 4, 2) := by decide +kernel
theorem dX1_hoursToRunDown_60 : decode cX1_hoursToRunDown 60 = .ok (.irem, 1) := by decide +kernel
theorem dX1_hoursToRunDown_61 : decode cX1_hoursToRunDown 61 = .ok (.istore 5, 2) := by decide +kernel
theorem dX1_hoursToRunDown_63 : decode cX1_hoursToRunDown 63 = .ok (.iload_n 3, 1) := by decide +kernel
theorem dX1_hoursToRunDown_64 : decode cX1_hoursToRunDown 64 = .ok (.iload 5, 2) := by decide +kernel
theorem dX1_hoursToRunDown_66 : decode cX1_hoursToRunDown 66 = .ok (.iload_n 3, 1) := by decide +kernel
theorem dX1_hoursToRunDown_67 : decode cX1_hoursToRunDown 67 = .ok (.iadd, 1) := by decide +kernel
theorem dX1_hoursToRunDown_68 : decode cX1_hoursToRunDown 68 = .ok (.iconst 1, 1) := by decide +kernel
theorem dX1_hoursToRunDown_69 : decode cX1_hoursToRunDown 69 = .ok (.isub, 1) := by decide +kernel
theorem dX1_hoursToRunDown_70 : decode cX1_hoursToRunDown 70 = .ok (.iload 4, 2) := by decide +kernel
theorem dX1_hoursToRunDown_72 : decode cX1_hoursToRunDown 72 = .ok (.iconst 1, 1) := by decide +kernel
theorem dX1_hoursToRunDown_73 : decode cX1_hoursToRunDown 73 = .ok (.isub, 1) := by decide +kernel
theorem dX1_hoursToRunDown_74 : decode cX1_hoursToRunDown 74 = .ok (.idiv, 1) := by decide +kernel
theorem dX1_hoursToRunDown_75 : decode cX1_hoursToRunDown 75 = .ok (.iadd, 1) := by decide +kernel
theorem dX1_hoursToRunDown_76 : decode cX1_hoursToRunDown 76 = .ok (.ireturn, 1) := by decide +kernel
set_option maxRecDepth 20000 in
theorem ggX1_hoursToWind_X1_hoursToOpening : GoodIn wsX1_hoursToWind wsX1_hoursToOpening := goodIn_r _ [6, 1, 7, 8, 9, 5, 10, 11, 12, 13, 14, 28, 29, 30, 31, 32, 33] (by decide +kernel) (by decide +kernel)
set_option maxRecDepth 20000 in
theorem gX1_hoursToWind_X1_hoursToOpening : GoodIn wsX1_hoursToWind (wsV RX1 106 RX1 yX1_hoursToOpening wsX1_hoursToOpening) := goodIn_app (goodIn_of _ (by decide +kernel)) ggX1_hoursToWind_X1_hoursToOpening
set_option maxRecDepth 20000 in
theorem ggX1_hoursToWind_X1_place : GoodIn wsX1_hoursToWind wsX1_place := goodIn_r _ [17] (by decide +kernel) (by decide +kernel)
set_option maxRecDepth 20000 in
theorem gX1_hoursToWind_X1_place : GoodIn wsX1_hoursToWind (va_wsS RX1 91 yX1_place wsX1_place) := goodIn_app (goodIn_of _ (by decide +kernel)) ggX1_hoursToWind_X1_place
set_option maxRecDepth 20000 in
theorem ggX1_hoursToWind_X1_goes : GoodIn wsX1_hoursToWind wsX1_goes := goodIn_r _ [21, 1, 15, 16, 5, 17, 28, 29, 30, 31, 32, 33] (by decide +kernel) (by decide +kernel)
set_option maxRecDepth 20000 in
theorem gX1_hoursToWind_X1_goes : GoodIn wsX1_hoursToWind (wsV RX1 83 RX1 yX1_goes wsX1_goes) := goodIn_app (goodIn_of _ (by decide +kernel)) ggX1_hoursToWind_X1_goes
set_option maxRecDepth 20000 in
theorem ggX1_hoursToWind_X1_isLostHour : GoodIn wsX1_hoursToWind wsX1_isLostHour := goodIn_r _ [24] (by decide +kernel) (by decide +kernel)
set_option maxRecDepth 20000 in
theorem gX1_hoursToWind_X1_isLostHour : GoodIn wsX1_hoursToWind (va_wsS RX1 224 yX1_isLostHour wsX1_isLostHour) := goodIn_app (goodIn_of _ (by decide +kernel)) ggX1_hoursToWind_X1_isLostHour
set_option maxRecDepth 20000 in
theorem ggX1_hoursToWind_X1_areWindingHours : GoodIn wsX1_hoursToWind wsX1_areWindingHours := goodIn_r _ [27] (by decide +kernel) (by decide +kernel)
set_option maxRecDepth 20000 in
theorem gX1_hoursToWind_X1_areWindingHours : GoodIn wsX1_hoursToWind (va_wsS RX1 74 yX1_areWindingHours wsX1_areWindingHours) := goodIn_app (goodIn_of _ (by decide +kernel)) ggX1_hoursToWind_X1_areWindingHours
theorem dX1_hoursToWind_0 : decode cX1_hoursToWind 0 = .ok (.aload_n 0, 1) := by decide +kernel
theorem dX1_hoursToWind_1 : decode cX1_hoursToWind 1 = .ok (.invokevirtual 106, 3) := by decide +kernel
theorem dX1_hoursToWind_4 : decode cX1_hoursToWind 4 = .ok (.istore_n 2, 1) := by decide +kernel
theorem dX1_hoursToWind_5 : decode cX1_hoursToWind 5 = .ok (.aload_n 0, 1) := by decide +kernel
theorem dX1_hoursToWind_6 : decode cX1_hoursToWind 6 = .ok (.getfield 9, 3) := by decide +kernel
theorem dX1_hoursToWind_9 : decode cX1_hoursToWind 9 = .ok (.iload_n 1, 1) := by decide +kernel
theorem dX1_hoursToWind_10 : decode cX1_hoursToWind 10 = .ok (.iconst 2, 1) := by decide +kernel
theorem dX1_hoursToWind_11 : decode cX1_hoursToWind 11 = .ok (.invokestatic 91, 3) := by decide +kernel
theorem dX1_hoursToWind_14 : decode cX1_hoursToWind 14 = .ok (.iaload, 1) := by decide +kernel
theorem dX1_hoursToWind_15 : decode cX1_hoursToWind 15 = .ok (.istore_n 3, 1) := by decide +kernel
theorem dX1_hoursToWind_16 : decode cX1_hoursToWind 16 = .ok (.aload_n 0, 1) := by decide +kernel
theorem dX1_hoursToWind_17 : decode cX1_hoursToWind 17 = .ok (.getfield 9, 3) := by decide +kernel
theorem dX1_hoursToWind_20 : decode cX1_hoursToWind 20 = .ok (.iload_n 1, 1) := by decide +kernel
theorem dX1_hoursToWind_21 : decode cX1_hoursToWind 21 = .ok (.iconst 3, 1) := by decide +kernel
theorem dX1_hoursToWind_22 : decode cX1_hoursToWind 22 = .ok (.invokestatic 91, 3) := by decide +kernel
theorem dX1_hoursToWind_25 : decode cX1_hoursToWind 25 = .ok (.iaload, 1) := by decide +kernel
theorem dX1_hoursToWind_26 : decode cX1_hoursToWind 26 = .ok (.istore 4, 2) := by decide +kernel
theorem dX1_hoursToWind_28 : decode cX1_hoursToWind 28 = .ok (.iload_n 2, 1) := by decide +kernel
theorem dX1_hoursToWind_29 : decode cX1_hoursToWind 29 = .ok (.iconst (-1), 1) := by decide +kernel
theorem dX1_hoursToWind_30 : decode cX1_hoursToWind 30 = .ok (.if_icmp .eq 22, 3) := by decide +kernel
theorem dX1_hoursToWind_33 : decode cX1_hoursToWind 33 = .ok (.aload_n 0, 1) := by decide +kernel
theorem dX1_hoursToWind_34 : decode cX1_hoursToWind 34 = .ok (.iload_n 1, 1) := by decide +kernel
theorem dX1_hoursToWind_35 : decode cX1_hoursToWind 35 = .ok (.invokevirtual 83, 3) := by decide +kernel
theorem dX1_hoursToWind_38 : decode cX1_hoursToWind 38 = .ok (.ifCond .eq 14, 3) := by decide +kernel
theorem dX1_hoursToWind_41 : decode cX1_hoursToWind 41 = .ok (.iload 4, 2) := by decide +kernel
theorem dX1_hoursToWind_43 : decode cX1_hoursToWind 43 = .ok (.iload_n 2, 1) := by decide +kernel
theorem dX1_hoursToWind_44 : decode cX1_hoursToWind 44 = .ok (.iadd, 1) := by decide +kernel
theorem dX1_hoursToWind_45 : decode cX1_hoursToWind 45 = .ok (.iload_n 3, 1) := by decide +kernel
theorem dX1_hoursToWind_46 : decode cX1_hoursToWind 46 = .ok (.invokestatic 224, 3) := by decide +kernel
theorem dX1_hoursToWind_49 : decode cX1_hoursToWind 49 = .ok (.ifCond .eq 5, 3) := by decide +kernel
theorem dX1_hoursToWind_52 : decode cX1_hoursToWind 52 = .ok (.iconst (-1), 1) := by decide +kernel
theorem dX1_hoursToWind_53 : decode cX1_hoursToWind 53 = .ok (.ireturn, 1) := by decide +kernel
theorem dX1_hoursToWind_54 : decode cX1_hoursToWind 54 = .ok (.iload_n 3, 1) := by decide +kernel
theorem dX1_hoursToWind_55 : decode cX1_hoursToWind 55 = .ok (.ifCond .gt 7, 3) := by decide +kernel
theorem dX1_hoursToWind_58 : decode cX1_hoursToWind 58 = .ok (.iconst 0, 1) := by decide +kernel
theorem dX1_hoursToWind_59 : decode cX1_hoursToWind 59 = .ok (.goto 14, 3) := by decide +kernel
theorem dX1_hoursToWind_62 : decode cX1_hoursToWind 62 = .ok (.iload 4, 2) := by decide +kernel
theorem dX1_hoursToWind_64 : decode cX1_hoursToWind 64 = .ok (.iload_n 2, 1) := by decide +kernel
theorem dX1_hoursToWind_65 : decode cX1_hoursToWind 65 = .ok (.iadd, 1) := by decide +kernel
theorem dX1_hoursToWind_66 : decode cX1_hoursToWind 66 = .ok (.iload_n 3, 1) := by decide +kernel
theorem dX1_hoursToWind_67 : decode cX1_hoursToWind 67 = .ok (.idiv, 1) := by decide +kernel
theorem dX1_hoursToWind_68 : decode cX1_hoursToWind 68 = .ok (.iload 4, 2) := by decide +kernel
theorem dX1_hoursToWind_70 : decode cX1_hoursToWind 70 = .ok (.iload_n 3, 1) := by decide +kernel
theorem dX1_hoursToWind_71 : decode cX1_hoursToWind 71 = .ok (.idiv, 1) := by decide +kernel
theorem dX1_hoursToWind_72 : decode cX1_hoursToWind 72 = .ok (.isub, 1) := by decide +kernel
theorem dX1_hoursToWind_73 : decode cX1_hoursToWind 73 = .ok (.istore 5, 2) := by decide +kernel
theorem dX1_hoursToWind_75 : decode cX1_hoursToWind 75 = .ok (.iload_n 2, 1) := by decide +kernel
theorem dX1_hoursToWind_76 : decode cX1_hoursToWind 76 = .ok (.iload 5, 2) := by decide +kernel
theorem dX1_hoursToWind_78 : decode cX1_hoursToWind 78 = .ok (.isub, 1) := by decide +kernel
theorem dX1_hoursToWind_79 : decode cX1_hoursToWind 79 = .ok (.invokestatic 74, 3) := by decide +kernel
theorem dX1_hoursToWind_82 : decode cX1_hoursToWind 82 = .ok (.ifCond .eq 10, 3) := by decide +kernel
theorem dX1_hoursToWind_85 : decode cX1_hoursToWind 85 = .ok (.iload_n 2, 1) := by decide +kernel
theorem dX1_hoursToWind_86 : decode cX1_hoursToWind 86 = .ok (.iload 5, 2) := by decide +kernel
theorem dX1_hoursToWind_88 : decode cX1_hoursToWind 88 = .ok (.isub, 1) := by decide +kernel
theorem dX1_hoursToWind_89 : decode cX1_hoursToWind 89 = .ok (.goto 4, 3) := by decide +kernel
theorem dX1_hoursToWind_92 : decode cX1_hoursToWind 92 = .ok (.iconst (-1), 1) := by decide +kernel
theorem dX1_hoursToWind_93 : decode cX1_hoursToWind 93 = .ok (.ireturn, 1) := by decide +kernel
set_option maxRecDepth 20000 in
theorem ggX1_canWindAll_X0_winds : GoodIn wsX1_canWindAll wsX0_winds := goodIn_r _ [6, 7, 32, 33, 34, 35] (by decide +kernel) (by decide +kernel)
set_option maxRecDepth 20000 in
theorem gX1_canWindAll_X0_winds : GoodIn wsX1_canWindAll (wsV RX1 155 RX0 yX0_winds wsX0_winds) := goodIn_app (goodIn_of _ (by decide +kernel)) ggX1_canWindAll_X0_winds
set_option maxRecDepth 20000 in
theorem ggX1_canWindAll_X1_goes : GoodIn wsX1_canWindAll wsX1_goes := goodIn_r _ [12, 13, 14, 15, 11, 16, 26, 27, 28, 29, 30, 31] (by decide +kernel) (by decide +kernel)
set_option maxRecDepth 20000 in
theorem gX1_canWindAll_X1_goes : GoodIn wsX1_canWindAll (wsV RX1 83 RX1 yX1_goes wsX1_goes) := goodIn_app (goodIn_of _ (by decide +kernel)) ggX1_canWindAll_X1_goes
set_option maxRecDepth 20000 in
theorem ggX1_canWindAll_X0_hours : GoodIn wsX1_canWindAll wsX0_hours := goodIn_r _ [20, 7, 21, 22, 32, 33, 34, 35] (by decide +kernel) (by decide +kernel)
set_option maxRecDepth 20000 in
theorem gX1_canWindAll_X0_hours : GoodIn wsX1_canWindAll (wsV RX1 158 RX0 yX0_hours wsX0_hours) := goodIn_app (goodIn_of _ (by decide +kernel)) ggX1_canWindAll_X0_hours
set_option maxRecDepth 20000 in
theorem ggX1_canWindAll_X1_areWindingHours : GoodIn wsX1_canWindAll wsX1_areWindingHours := goodIn_r _ [25] (by decide +kernel) (by decide +kernel)
set_option maxRecDepth 20000 in
theorem gX1_canWindAll_X1_areWindingHours : GoodIn wsX1_canWindAll (va_wsS RX1 74 yX1_areWindingHours wsX1_areWindingHours) := goodIn_app (goodIn_of _ (by decide +kernel)) ggX1_canWindAll_X1_areWindingHours
theorem dX1_canWindAll_0 : decode cX1_canWindAll 0 = .ok (.iconst 0, 1) := by decide +kernel
theorem dX1_canWindAll_1 : decode cX1_canWindAll 1 = .ok (.istore_n 2, 1) := by decide +kernel
theorem dX1_canWindAll_2 : decode cX1_canWindAll 2 = .ok (.iload_n 2, 1) := by decide +kernel
theorem dX1_canWindAll_3 : decode cX1_canWindAll 3 = .ok (.iconst 3, 1) := by decide +kernel
theorem dX1_canWindAll_4 : decode cX1_canWindAll 4 = .ok (.if_icmp .ge 45, 3) := by decide +kernel
theorem dX1_canWindAll_7 : decode cX1_canWindAll 7 = .ok (.aload_n 0, 1) := by decide +kernel
theorem dX1_canWindAll_8 : decode cX1_canWindAll 8 = .ok (.getfield 29, 3) := by decide +kernel
theorem dX1_canWindAll_11 : decode cX1_canWindAll 11 = .ok (.iload_n 2, 1) := by decide +kernel
theorem dX1_canWindAll_12 : decode cX1_canWindAll 12 = .ok (.invokevirtual 155, 3) := by decide +kernel
theorem dX1_canWindAll_15 : decode cX1_canWindAll 15 = .ok (.ifCond .eq 28, 3) := by decide +kernel
theorem dX1_canWindAll_18 : decode cX1_canWindAll 18 = .ok (.aload_n 0, 1) := by decide +kernel
theorem dX1_canWindAll_19 : decode cX1_canWindAll 19 = .ok (.iload_n 2, 1) := by decide +kernel
theorem dX1_canWindAll_20 : decode cX1_canWindAll 20 = .ok (.invokevirtual 83, 3) := by decide +kernel
theorem dX1_canWindAll_23 : decode cX1_canWindAll 23 = .ok (.ifCond .eq 18, 3) := by decide +kernel
theorem dX1_canWindAll_26 : decode cX1_canWindAll 26 = .ok (.aload_n 0, 1) := by decide +kernel
theorem dX1_canWindAll_27 : decode cX1_canWindAll 27 = .ok (.getfield 29, 3) := by decide +kernel
theorem dX1_canWindAll_30 : decode cX1_canWindAll 30 = .ok (.iload_n 2, 1) := by decide +kernel
theorem dX1_canWindAll_31 : decode cX1_canWindAll 31 = .ok (.iload_n 1, 1) := by decide +kernel
theorem dX1_canWindAll_32 : decode cX1_canWindAll 32 = .ok (.invokevirtual 158, 3) := by decide +kernel
theorem dX1_canWindAll_35 : decode cX1_canWindAll 35 = .ok (.invokestatic 74, 3) := by decide +kernel
theorem dX1_canWindAll_38 : decode cX1_canWindAll 38 = .ok (.ifCond .ne 5, 3) := by decide +kernel
theorem dX1_canWindAll_41 : decode cX1_canWindAll 41 = .ok (.iconst 0, 1) := by decide +kernel
theorem dX1_canWindAll_42 : decode cX1_canWindAll 42 = .ok (.ireturn, 1) := by decide +kernel
theorem dX1_canWindAll_43 : decode cX1_canWindAll 43 = .ok (.iinc 2 1, 3) := by decide +kernel
theorem dX1_canWindAll_46 : decode cX1_canWindAll 46 = .ok (.goto (-44), 3) := by decide +kernel
theorem dX1_canWindAll_49 : decode cX1_canWindAll 49 = .ok (.iconst 1, 1) := by decide +kernel
theorem dX1_canWindAll_50 : decode cX1_canWindAll 50 = .ok (.ireturn, 1) := by decide +kernel
theorem dX1_isLocked_0 : decode cX1_isLocked 0 = .ok (.aload_n 0, 1) := by decide +kernel
theorem dX1_isLocked_1 : decode cX1_isLocked 1 = .ok (.getfield 9, 3) := by decide +kernel
theorem dX1_isLocked_4 : decode cX1_isLocked 4 = .ok (.iconst 1, 1) := by decide +kernel
theorem dX1_isLocked_5 : decode cX1_isLocked 5 = .ok (.iaload, 1) := by decide +kernel
theorem dX1_isLocked_6 : decode cX1_isLocked 6 = .ok (.ifCond .eq 7, 3) := by decide +kernel
theorem dX1_isLocked_9 : decode cX1_isLocked 9 = .ok (.iconst 1, 1) := by decide +kernel
theorem dX1_isLocked_10 : decode cX1_isLocked 10 = .ok (.goto 4, 3) := by decide +kernel
theorem dX1_isLocked_13 : decode cX1_isLocked 13 = .ok (.iconst 0, 1) := by decide +kernel
theorem dX1_isLocked_14 : decode cX1_isLocked 14 = .ok (.ireturn, 1) := by decide +kernel
set_option maxRecDepth 20000 in
theorem ggX1_passHour_X1_isLocked : GoodIn wsX1_passHour wsX1_isLocked := goodIn_r _ [6, 1, 21, 22, 23, 24, 25, 26] (by decide +kernel) (by decide +kernel)
set_option maxRecDepth 20000 in
theorem gX1_passHour_X1_isLocked : GoodIn wsX1_passHour (wsV RX1 79 RX1 yX1_isLocked wsX1_isLocked) := goodIn_app (goodIn_of _ (by decide +kernel)) ggX1_passHour_X1_isLocked
set_option maxRecDepth 20000 in
theorem ggX1_passHour_X1_runHour : GoodIn wsX1_passHour wsX1_runHour := goodIn_r _ [10, 1, 11, 12, 13, 5, 14, 15, 16, 17, 18, 19, 20, 21, 22, 23, 24, 25, 26] (by decide +kernel) (by decide +kernel)
set_option maxRecDepth 20000 in
theorem gX1_passHour_X1_runHour : GoodIn wsX1_passHour (wsV RX1 228 RX1 yX1_runHour wsX1_runHour) := goodIn_app (goodIn_of _ (by decide +kernel)) ggX1_passHour_X1_runHour
theorem dX1_passHour_0 : decode cX1_passHour 0 = .ok (.aload_n 0, 1) := by decide +kernel
theorem dX1_passHour_1 : decode cX1_passHour 1 = .ok (.getfield 9, 3) := by decide +kernel
theorem dX1_passHour_4 : decode cX1_passHour 4 = .ok (.iconst 0, 1) := by decide +kernel
theorem dX1_passHour_5 : decode cX1_passHour 5 = .ok (.dup2, 1) := by decide +kernel
theorem dX1_passHour_6 : decode cX1_passHour 6 = .ok (.iaload, 1) := by decide +kernel
theorem dX1_passHour_7 : decode cX1_passHour 7 = .ok (.iconst 1, 1) := by decide +kernel
theorem dX1_passHour_8 : decode cX1_passHour 8 = .ok (.iadd, 1) := by decide +kernel
theorem dX1_passHour_9 : decode cX1_passHour 9 = .ok (.iastore, 1) := by decide +kernel
theorem dX1_passHour_10 : decode cX1_passHour 10 = .ok (.aload_n 0, 1) := by decide +kernel
theorem dX1_passHour_11 : decode cX1_passHour 11 = .ok (.invokevirtual 79, 3) := by decide +kernel
theorem dX1_passHour_14 : decode cX1_passHour 14 = .ok (.ifCond .eq 21, 3) := by decide +kernel
theorem dX1_passHour_17 : decode cX1_passHour 17 = .ok (.iconst 0, 1) := by decide +kernel
theorem dX1_passHour_18 : decode cX1_passHour 18 = .ok (.istore_n 1, 1) := by decide +kernel
theorem dX1_passHour_19 : decode cX1_passHour 19 = .ok (.iload_n 1, 1) := by decide +kernel
theorem dX1_passHour_20 : decode cX1_passHour 20 = .ok (.iconst 3, 1) := by decide +kernel
theorem dX1_passHour_21 : decode cX1_passHour 21 = .ok (.if_icmp .ge 14, 3) := by decide +kernel
theorem dX1_passHour_24 : decode cX1_passHour 24 = .ok (.aload_n 0, 1) := by decide +kernel
theorem dX1_passHour_25 : decode cX1_passHour 25 = .ok (.iload_n 1, 1) := by decide +kernel
theorem dX1_passHour_26 : decode cX1_passHour 26 = .ok (.invokevirtual 228, 3) := by decide +kernel
theorem dX1_passHour_29 : decode cX1_passHour 29 = .ok (.iinc 1 1, 3) := by decide +kernel
theorem dX1_passHour_32 : decode cX1_passHour 32 = .ok (.goto (-13), 3) := by decide +kernel
theorem dX1_passHour_35 : decode cX1_passHour 35 = .ok (.return_, 1) := by decide +kernel
set_option maxRecDepth 20000 in
theorem ggX1_runHour_X1_goes : GoodIn wsX1_runHour wsX1_goes := goodIn_r _ [6, 1, 7, 8, 5, 9, 13, 14, 15, 16, 17, 18] (by decide +kernel) (by decide +kernel)
set_option maxRecDepth 20000 in
theorem gX1_runHour_X1_goes : GoodIn wsX1_runHour (wsV RX1 83 RX1 yX1_goes wsX1_goes) := goodIn_app (goodIn_of _ (by decide +kernel)) ggX1_runHour_X1_goes
set_option maxRecDepth 20000 in
theorem ggX1_runHour_X1_place : GoodIn wsX1_runHour wsX1_place := goodIn_r _ [9] (by decide +kernel) (by decide +kernel)
set_option maxRecDepth 20000 in
theorem gX1_runHour_X1_place : GoodIn wsX1_runHour (va_wsS RX1 91 yX1_place wsX1_place) := goodIn_app (goodIn_of _ (by decide +kernel)) ggX1_runHour_X1_place
set_option maxRecDepth 20000 in
theorem ggX1_runHour_X1_isLostHour : GoodIn wsX1_runHour wsX1_isLostHour := goodIn_r _ [12] (by decide +kernel) (by decide +kernel)
set_option maxRecDepth 20000 in
theorem gX1_runHour_X1_isLostHour : GoodIn wsX1_runHour (va_wsS RX1 224 yX1_isLostHour wsX1_isLostHour) := goodIn_app (goodIn_of _ (by decide +kernel)) ggX1_runHour_X1_isLostHour
theorem dX1_runHour_0 : decode cX1_runHour 0 = .ok (.aload_n 0, 1) := by decide +kernel
theorem dX1_runHour_1 : decode cX1_runHour 1 = .ok (.iload_n 1, 1) := by decide +kernel
theorem dX1_runHour_2 : decode cX1_runHour 2 = .ok (.invokevirtual 83, 3) := by decide +kernel
theorem dX1_runHour_5 : decode cX1_runHour 5 = .ok (.ifCond .eq 16, 3) := by decide +kernel
theorem dX1_runHour_8 : decode cX1_runHour 8 = .ok (.aload_n 0, 1) := by decide +kernel
theorem dX1_runHour_9 : decode cX1_runHour 9 = .ok (.getfield 9, 3) := by decide +kernel
theorem dX1_runHour_12 : decode cX1_runHour 12 = .ok (.iload_n 1, 1) := by decide +kernel
theorem dX1_runHour_13 : decode cX1_runHour 13 = .ok (.iconst 0, 1) := by decide +kernel
theorem dX1_runHour_14 : decode cX1_runHour 14 = .ok (.invokestatic 91, 3) := by decide +kernel
theorem dX1_runHour_17 : decode cX1_runHour 17 = .ok (.iaload, 1) := by decide +kernel
theorem dX1_runHour_18 : decode cX1_runHour 18 = .ok (.ifCond .ne 4, 3) := by decide +kernel
end
section
theorem dX1_runHour_21 : decode cX1_runHour 21 = .ok (.return_, 1) := by decide +kernel
theorem dX1_runHour_22 : decode cX1_runHour 22 = .ok (.aload_n 0, 1) := by decide +kernel
theorem dX1_runHour_23 : decode cX1_runHour 23 = .ok (.getfield 9, 3) := by decide +kernel
theorem dX1_runHour_26 : decode cX1_runHour 26 = .ok (.iload_n 1, 1) := by decide +kernel
theorem dX1_runHour_27 : decode cX1_runHour 27 = .ok (.iconst 3, 1) := by decide +kernel
theorem dX1_runHour_28 : decode cX1_runHour 28 = .ok (.invokestatic 91, 3) := by decide +kernel
theorem dX1_runHour_31 : decode cX1_runHour 31 = .ok (.dup2, 1) := by decide +kernel
theorem dX1_runHour_32 : decode cX1_runHour 32 = .ok (.iaload, 1) := by decide +kernel
theorem dX1_runHour_33 : decode cX1_runHour 33 = .ok (.iconst 1, 1) := by decide +kernel
theorem dX1_runHour_34 : decode cX1_runHour 34 = .ok (.iadd, 1) := by decide +kernel
theorem dX1_runHour_35 : decode cX1_runHour 35 = .ok (.iastore, 1) := by decide +kernel
theorem dX1_runHour_36 : decode cX1_runHour 36 = .ok (.aload_n 0, 1) := by decide +kernel
theorem dX1_runHour_37 : decode cX1_runHour 37 = .ok (.getfield 9, 3) := by decide +kernel
theorem dX1_runHour_40 : decode cX1_runHour 40 = .ok (.iload_n 1, 1) := by decide +kernel
theorem dX1_runHour_41 : decode cX1_runHour 41 = .ok (.iconst 3, 1) := by decide +kernel
theorem dX1_runHour_42 : decode cX1_runHour 42 = .ok (.invokestatic 91, 3) := by decide +kernel
theorem dX1_runHour_45 : decode cX1_runHour 45 = .ok (.iaload, 1) := by decide +kernel
theorem dX1_runHour_46 : decode cX1_runHour 46 = .ok (.aload_n 0, 1) := by decide +kernel
theorem dX1_runHour_47 : decode cX1_runHour 47 = .ok (.getfield 9, 3) := by decide +kernel
theorem dX1_runHour_50 : decode cX1_runHour 50 = .ok (.iload_n 1, 1) := by decide +kernel
theorem dX1_runHour_51 : decode cX1_runHour 51 = .ok (.iconst 2, 1) := by decide +kernel
theorem dX1_runHour_52 : decode cX1_runHour 52 = .ok (.invokestatic 91, 3) := by decide +kernel
theorem dX1_runHour_55 : decode cX1_runHour 55 = .ok (.iaload, 1) := by decide +kernel
theorem dX1_runHour_56 : decode cX1_runHour 56 = .ok (.invokestatic 224, 3) := by decide +kernel
theorem dX1_runHour_59 : decode cX1_runHour 59 = .ok (.ifCond .ne 17, 3) := by decide +kernel
theorem dX1_runHour_62 : decode cX1_runHour 62 = .ok (.aload_n 0, 1) := by decide +kernel
theorem dX1_runHour_63 : decode cX1_runHour 63 = .ok (.getfield 9, 3) := by decide +kernel
theorem dX1_runHour_66 : decode cX1_runHour 66 = .ok (.iload_n 1, 1) := by decide +kernel
theorem dX1_runHour_67 : decode cX1_runHour 67 = .ok (.iconst 0, 1) := by decide +kernel
theorem dX1_runHour_68 : decode cX1_runHour 68 = .ok (.invokestatic 91, 3) := by decide +kernel
theorem dX1_runHour_71 : decode cX1_runHour 71 = .ok (.dup2, 1) := by decide +kernel
theorem dX1_runHour_72 : decode cX1_runHour 72 = .ok (.iaload, 1) := by decide +kernel
theorem dX1_runHour_73 : decode cX1_runHour 73 = .ok (.iconst 1, 1) := by decide +kernel
theorem dX1_runHour_74 : decode cX1_runHour 74 = .ok (.isub, 1) := by decide +kernel
theorem dX1_runHour_75 : decode cX1_runHour 75 = .ok (.iastore, 1) := by decide +kernel
theorem dX1_runHour_76 : decode cX1_runHour 76 = .ok (.return_, 1) := by decide +kernel
theorem dX1_hoursToWait_0 : decode cX1_hoursToWait 0 = .ok (.aload_n 0, 1) := by decide +kernel
theorem dX1_hoursToWait_1 : decode cX1_hoursToWait 1 = .ok (.getfield 9, 3) := by decide +kernel
theorem dX1_hoursToWait_4 : decode cX1_hoursToWait 4 = .ok (.iconst 4, 1) := by decide +kernel
theorem dX1_hoursToWait_5 : decode cX1_hoursToWait 5 = .ok (.iaload, 1) := by decide +kernel
theorem dX1_hoursToWait_6 : decode cX1_hoursToWait 6 = .ok (.aload_n 0, 1) := by decide +kernel
theorem dX1_hoursToWait_7 : decode cX1_hoursToWait 7 = .ok (.getfield 9, 3) := by decide +kernel
theorem dX1_hoursToWait_10 : decode cX1_hoursToWait 10 = .ok (.iconst 0, 1) := by decide +kernel
theorem dX1_hoursToWait_11 : decode cX1_hoursToWait 11 = .ok (.iaload, 1) := by decide +kernel
theorem dX1_hoursToWait_12 : decode cX1_hoursToWait 12 = .ok (.isub, 1) := by decide +kernel
theorem dX1_hoursToWait_13 : decode cX1_hoursToWait 13 = .ok (.iconst 0, 1) := by decide +kernel
theorem dX1_hoursToWait_14 : decode cX1_hoursToWait 14 = .ok (.invokestatic 179, 3) := by decide +kernel
theorem dX1_hoursToWait_17 : decode cX1_hoursToWait 17 = .ok (.ireturn, 1) := by decide +kernel
set_option maxRecDepth 20000 in
theorem ggX1_hoursToOpen_X1_isLocked : GoodIn wsX1_hoursToOpen wsX1_isLocked := goodIn_r _ [9, 10, 26, 27, 28, 29, 30, 31] (by decide +kernel) (by decide +kernel)
set_option maxRecDepth 20000 in
theorem gX1_hoursToOpen_X1_isLocked : GoodIn wsX1_hoursToOpen (wsV RX1 79 RX1 yX1_isLocked wsX1_isLocked) := goodIn_app (goodIn_of _ (by decide +kernel)) ggX1_hoursToOpen_X1_isLocked
set_option maxRecDepth 20000 in
theorem ggX1_hoursToOpen_X1_goes : GoodIn wsX1_hoursToOpen wsX1_goes := goodIn_r _ [14, 10, 15, 16, 8, 17, 26, 27, 28, 29, 30, 31] (by decide +kernel) (by decide +kernel)
set_option maxRecDepth 20000 in
theorem gX1_hoursToOpen_X1_goes : GoodIn wsX1_hoursToOpen (wsV RX1 83 RX1 yX1_goes wsX1_goes) := goodIn_app (goodIn_of _ (by decide +kernel)) ggX1_hoursToOpen_X1_goes
set_option maxRecDepth 20000 in
theorem ggX1_hoursToOpen_X1_hoursToRunDown : GoodIn wsX1_hoursToOpen wsX1_hoursToRunDown := goodIn_r _ [21, 10, 15, 16, 8, 17, 26, 27, 28, 29, 30, 31] (by decide +kernel) (by decide +kernel)
set_option maxRecDepth 20000 in
theorem gX1_hoursToOpen_X1_hoursToRunDown : GoodIn wsX1_hoursToOpen (wsV RX1 220 RX1 yX1_hoursToRunDown wsX1_hoursToRunDown) := goodIn_app (goodIn_of _ (by decide +kernel)) ggX1_hoursToOpen_X1_hoursToRunDown
set_option maxRecDepth 20000 in
theorem ggX1_hoursToOpen_X1_hoursToWait : GoodIn wsX1_hoursToOpen wsX1_hoursToWait := goodIn_r _ [25, 10, 1, 2, 3, 4, 26, 27, 28, 29, 30, 31] (by decide +kernel) (by decide +kernel)
set_option maxRecDepth 20000 in
theorem gX1_hoursToOpen_X1_hoursToWait : GoodIn wsX1_hoursToOpen (wsV RX1 231 RX1 yX1_hoursToWait wsX1_hoursToWait) := goodIn_app (goodIn_of _ (by decide +kernel)) ggX1_hoursToOpen_X1_hoursToWait
theorem dX1_hoursToOpen_0 : decode cX1_hoursToOpen 0 = .ok (.aload_n 0, 1) := by decide +kernel
theorem dX1_hoursToOpen_1 : decode cX1_hoursToOpen 1 = .ok (.invokevirtual 79, 3) := by decide +kernel
theorem dX1_hoursToOpen_4 : decode cX1_hoursToOpen 4 = .ok (.ifCond .ne 5, 3) := by decide +kernel
theorem dX1_hoursToOpen_7 : decode cX1_hoursToOpen 7 = .ok (.iconst (-1), 1) := by decide +kernel
theorem dX1_hoursToOpen_8 : decode cX1_hoursToOpen 8 = .ok (.ireturn, 1) := by decide +kernel
theorem dX1_hoursToOpen_9 : decode cX1_hoursToOpen 9 = .ok (.iconst (-1), 1) := by decide +kernel
theorem dX1_hoursToOpen_10 : decode cX1_hoursToOpen 10 = .ok (.istore_n 2, 1) := by decide +kernel
theorem dX1_hoursToOpen_11 : decode cX1_hoursToOpen 11 = .ok (.iconst 0, 1) := by decide +kernel
theorem dX1_hoursToOpen_12 : decode cX1_hoursToOpen 12 = .ok (.istore_n 3, 1) := by decide +kernel
theorem dX1_hoursToOpen_13 : decode cX1_hoursToOpen 13 = .ok (.iload_n 3, 1) := by decide +kernel
theorem dX1_hoursToOpen_14 : decode cX1_hoursToOpen 14 = .ok (.iconst 3, 1) := by decide +kernel
theorem dX1_hoursToOpen_15 : decode cX1_hoursToOpen 15 = .ok (.if_icmp .ge 54, 3) := by decide +kernel
theorem dX1_hoursToOpen_18 : decode cX1_hoursToOpen 18 = .ok (.aload_n 0, 1) := by decide +kernel
theorem dX1_hoursToOpen_19 : decode cX1_hoursToOpen 19 = .ok (.iload_n 3, 1) := by decide +kernel
theorem dX1_hoursToOpen_20 : decode cX1_hoursToOpen 20 = .ok (.aload_n 0, 1) := by decide +kernel
theorem dX1_hoursToOpen_21 : decode cX1_hoursToOpen 21 = .ok (.iload_n 3, 1) := by decide +kernel
theorem dX1_hoursToOpen_22 : decode cX1_hoursToOpen 22 = .ok (.invokevirtual 83, 3) := by decide +kernel
theorem dX1_hoursToOpen_25 : decode cX1_hoursToOpen 25 = .ok (.ifCond .eq 12, 3) := by decide +kernel
theorem dX1_hoursToOpen_28 : decode cX1_hoursToOpen 28 = .ok (.iload_n 3, 1) := by decide +kernel
theorem dX1_hoursToOpen_29 : decode cX1_hoursToOpen 29 = .ok (.iload_n 1, 1) := by decide +kernel
theorem dX1_hoursToOpen_30 : decode cX1_hoursToOpen 30 = .ok (.if_icmp .eq 7, 3) := by decide +kernel
theorem dX1_hoursToOpen_33 : decode cX1_hoursToOpen 33 = .ok (.iconst 1, 1) := by decide +kernel
theorem dX1_hoursToOpen_34 : decode cX1_hoursToOpen 34 = .ok (.goto 4, 3) := by decide +kernel
theorem dX1_hoursToOpen_37 : decode cX1_hoursToOpen 37 = .ok (.iconst 0, 1) := by decide +kernel
theorem dX1_hoursToOpen_38 : decode cX1_hoursToOpen 38 = .ok (.invokevirtual 220, 3) := by decide +kernel
theorem dX1_hoursToOpen_41 : decode cX1_hoursToOpen 41 = .ok (.istore 4, 2) := by decide +kernel
theorem dX1_hoursToOpen_43 : decode cX1_hoursToOpen 43 = .ok (.iload 4, 2) := by decide +kernel
theorem dX1_hoursToOpen_45 : decode cX1_hoursToOpen 45 = .ok (.iconst (-1), 1) := by decide +kernel
theorem dX1_hoursToOpen_46 : decode cX1_hoursToOpen 46 = .ok (.if_icmp .eq 17, 3) := by decide +kernel
theorem dX1_hoursToOpen_49 : decode cX1_hoursToOpen 49 = .ok (.iload_n 2, 1) := by decide +kernel
theorem dX1_hoursToOpen_50 : decode cX1_hoursToOpen 50 = .ok (.iconst (-1), 1) := by decide +kernel
theorem dX1_hoursToOpen_51 : decode cX1_hoursToOpen 51 = .ok (.if_icmp .eq 9, 3) := by decide +kernel
theorem dX1_hoursToOpen_54 : decode cX1_hoursToOpen 54 = .ok (.iload 4, 2) := by decide +kernel
theorem dX1_hoursToOpen_56 : decode cX1_hoursToOpen 56 = .ok (.iload_n 2, 1) := by decide +kernel
theorem dX1_hoursToOpen_57 : decode cX1_hoursToOpen 57 = .ok (.if_icmp .ge 6, 3) := by decide +kernel
theorem dX1_hoursToOpen_60 : decode cX1_hoursToOpen 60 = .ok (.iload 4, 2) := by decide +kernel
theorem dX1_hoursToOpen_62 : decode cX1_hoursToOpen 62 = .ok (.istore_n 2, 1) := by decide +kernel
theorem dX1_hoursToOpen_63 : decode cX1_hoursToOpen 63 = .ok (.iinc 3 1, 3) := by decide +kernel
theorem dX1_hoursToOpen_66 : decode cX1_hoursToOpen 66 = .ok (.goto (-53), 3) := by decide +kernel
theorem dX1_hoursToOpen_69 : decode cX1_hoursToOpen 69 = .ok (.iload_n 2, 1) := by decide +kernel
theorem dX1_hoursToOpen_70 : decode cX1_hoursToOpen 70 = .ok (.iconst (-1), 1) := by decide +kernel
theorem dX1_hoursToOpen_71 : decode cX1_hoursToOpen 71 = .ok (.if_icmp .ne 7, 3) := by decide +kernel
theorem dX1_hoursToOpen_74 : decode cX1_hoursToOpen 74 = .ok (.iconst (-1), 1) := by decide +kernel
theorem dX1_hoursToOpen_75 : decode cX1_hoursToOpen 75 = .ok (.goto 11, 3) := by decide +kernel
theorem dX1_hoursToOpen_78 : decode cX1_hoursToOpen 78 = .ok (.iload_n 2, 1) := by decide +kernel
theorem dX1_hoursToOpen_79 : decode cX1_hoursToOpen 79 = .ok (.aload_n 0, 1) := by decide +kernel
theorem dX1_hoursToOpen_80 : decode cX1_hoursToOpen 80 = .ok (.invokevirtual 231, 3) := by decide +kernel
theorem dX1_hoursToOpen_83 : decode cX1_hoursToOpen 83 = .ok (.invokestatic 179, 3) := by decide +kernel
theorem dX1_hoursToOpen_86 : decode cX1_hoursToOpen 86 = .ok (.ireturn, 1) := by decide +kernel
theorem dX1_latenessAfter_0 : decode cX1_latenessAfter 0 = .ok (.aload_n 0, 1) := by decide +kernel
theorem dX1_latenessAfter_1 : decode cX1_latenessAfter 1 = .ok (.getfield 9, 3) := by decide +kernel
theorem dX1_latenessAfter_4 : decode cX1_latenessAfter 4 = .ok (.iconst 2, 1) := by decide +kernel
theorem dX1_latenessAfter_5 : decode cX1_latenessAfter 5 = .ok (.iaload, 1) := by decide +kernel
theorem dX1_latenessAfter_6 : decode cX1_latenessAfter 6 = .ok (.iconst (-1), 1) := by decide +kernel
theorem dX1_latenessAfter_7 : decode cX1_latenessAfter 7 = .ok (.if_icmp .ne 7, 3) := by decide +kernel
theorem dX1_latenessAfter_10 : decode cX1_latenessAfter 10 = .ok (.iconst 0, 1) := by decide +kernel
theorem dX1_latenessAfter_11 : decode cX1_latenessAfter 11 = .ok (.goto 18, 3) := by decide +kernel
theorem dX1_latenessAfter_14 : decode cX1_latenessAfter 14 = .ok (.aload_n 0, 1) := by decide +kernel
theorem dX1_latenessAfter_15 : decode cX1_latenessAfter 15 = .ok (.getfield 9, 3) := by decide +kernel
theorem dX1_latenessAfter_18 : decode cX1_latenessAfter 18 = .ok (.iconst 0, 1) := by decide +kernel
theorem dX1_latenessAfter_19 : decode cX1_latenessAfter 19 = .ok (.iaload, 1) := by decide +kernel
theorem dX1_latenessAfter_20 : decode cX1_latenessAfter 20 = .ok (.iload_n 1, 1) := by decide +kernel
theorem dX1_latenessAfter_21 : decode cX1_latenessAfter 21 = .ok (.iadd, 1) := by decide +kernel
theorem dX1_latenessAfter_22 : decode cX1_latenessAfter 22 = .ok (.aload_n 0, 1) := by decide +kernel
theorem dX1_latenessAfter_23 : decode cX1_latenessAfter 23 = .ok (.getfield 9, 3) := by decide +kernel
theorem dX1_latenessAfter_26 : decode cX1_latenessAfter 26 = .ok (.iconst 2, 1) := by decide +kernel
theorem dX1_latenessAfter_27 : decode cX1_latenessAfter 27 = .ok (.iaload, 1) := by decide +kernel
theorem dX1_latenessAfter_28 : decode cX1_latenessAfter 28 = .ok (.isub, 1) := by decide +kernel
theorem dX1_latenessAfter_29 : decode cX1_latenessAfter 29 = .ok (.ireturn, 1) := by decide +kernel
theorem dX1_countEarlyTry_0 : decode cX1_countEarlyTry 0 = .ok (.aload_n 0, 1) := by decide +kernel
theorem dX1_countEarlyTry_1 : decode cX1_countEarlyTry 1 = .ok (.getfield 9, 3) := by decide +kernel
theorem dX1_countEarlyTry_4 : decode cX1_countEarlyTry 4 = .ok (.iconst 5, 1) := by decide +kernel
theorem dX1_countEarlyTry_5 : decode cX1_countEarlyTry 5 = .ok (.dup2, 1) := by decide +kernel
theorem dX1_countEarlyTry_6 : decode cX1_countEarlyTry 6 = .ok (.iaload, 1) := by decide +kernel
theorem dX1_countEarlyTry_7 : decode cX1_countEarlyTry 7 = .ok (.iconst 1, 1) := by decide +kernel
theorem dX1_countEarlyTry_8 : decode cX1_countEarlyTry 8 = .ok (.iadd, 1) := by decide +kernel
theorem dX1_countEarlyTry_9 : decode cX1_countEarlyTry 9 = .ok (.iastore, 1) := by decide +kernel
theorem dX1_countEarlyTry_10 : decode cX1_countEarlyTry 10 = .ok (.aload_n 0, 1) := by decide +kernel
theorem dX1_countEarlyTry_11 : decode cX1_countEarlyTry 11 = .ok (.getfield 9, 3) := by decide +kernel
theorem dX1_countEarlyTry_14 : decode cX1_countEarlyTry 14 = .ok (.iconst 3, 1) := by decide +kernel
theorem dX1_countEarlyTry_15 : decode cX1_countEarlyTry 15 = .ok (.dup2, 1) := by decide +kernel
theorem dX1_countEarlyTry_16 : decode cX1_countEarlyTry 16 = .ok (.iaload, 1) := by decide +kernel
theorem dX1_countEarlyTry_17 : decode cX1_countEarlyTry 17 = .ok (.iconst 1, 1) := by decide +kernel
theorem dX1_countEarlyTry_18 : decode cX1_countEarlyTry 18 = .ok (.iadd, 1) := by decide +kernel
theorem dX1_countEarlyTry_19 : decode cX1_countEarlyTry 19 = .ok (.iastore, 1) := by decide +kernel
theorem dX1_countEarlyTry_20 : decode cX1_countEarlyTry 20 = .ok (.aload_n 0, 1) := by decide +kernel
theorem dX1_countEarlyTry_21 : decode cX1_countEarlyTry 21 = .ok (.getfield 9, 3) := by decide +kernel
theorem dX1_countEarlyTry_24 : decode cX1_countEarlyTry 24 = .ok (.iconst 3, 1) := by decide +kernel
theorem dX1_countEarlyTry_25 : decode cX1_countEarlyTry 25 = .ok (.iaload, 1) := by decide +kernel
theorem dX1_countEarlyTry_26 : decode cX1_countEarlyTry 26 = .ok (.aload_n 0, 1) := by decide +kernel
theorem dX1_countEarlyTry_27 : decode cX1_countEarlyTry 27 = .ok (.getfield 9, 3) := by decide +kernel
theorem dX1_countEarlyTry_30 : decode cX1_countEarlyTry 30 = .ok (.bipush 11, 2) := by decide +kernel
theorem dX1_countEarlyTry_32 : decode cX1_countEarlyTry 32 = .ok (.iaload, 1) := by decide +kernel
theorem dX1_countEarlyTry_33 : decode cX1_countEarlyTry 33 = .ok (.if_icmp .lt 30, 3) := by decide +kernel
theorem dX1_countEarlyTry_36 : decode cX1_countEarlyTry 36 = .ok (.aload_n 0, 1) := by decide +kernel
theorem dX1_countEarlyTry_37 : decode cX1_countEarlyTry 37 = .ok (.getfield 9, 3) := by decide +kernel
theorem dX1_countEarlyTry_40 : decode cX1_countEarlyTry 40 = .ok (.iconst 4, 1) := by decide +kernel
theorem dX1_countEarlyTry_41 : decode cX1_countEarlyTry 41 = .ok (.aload_n 0, 1) := by decide +kernel
theorem dX1_countEarlyTry_42 : decode cX1_countEarlyTry 42 = .ok (.getfield 9, 3) := by decide +kernel
theorem dX1_countEarlyTry_45 : decode cX1_countEarlyTry 45 = .ok (.iconst 0, 1) := by decide +kernel
theorem dX1_countEarlyTry_46 : decode cX1_countEarlyTry 46 = .ok (.iaload, 1) := by decide +kernel
theorem dX1_countEarlyTry_47 : decode cX1_countEarlyTry 47 = .ok (.aload_n 0, 1) := by decide +kernel
theorem dX1_countEarlyTry_48 : decode cX1_countEarlyTry 48 = .ok (.getfield 9, 3) := by decide +kernel
theorem dX1_countEarlyTry_51 : decode cX1_countEarlyTry 51 = .ok (.bipush 12, 2) := by decide +kernel
theorem dX1_countEarlyTry_53 : decode cX1_countEarlyTry 53 = .ok (.iaload, 1) := by decide +kernel
theorem dX1_countEarlyTry_54 : decode cX1_countEarlyTry 54 = .ok (.iadd, 1) := by decide +kernel
theorem dX1_countEarlyTry_55 : decode cX1_countEarlyTry 55 = .ok (.iastore, 1) := by decide +kernel
theorem dX1_countEarlyTry_56 : decode cX1_countEarlyTry 56 = .ok (.aload_n 0, 1) := by decide +kernel
theorem dX1_countEarlyTry_57 : decode cX1_countEarlyTry 57 = .ok (.getfield 9, 3) := by decide +kernel
theorem dX1_countEarlyTry_60 : decode cX1_countEarlyTry 60 = .ok (.iconst 3, 1) := by decide +kernel
theorem dX1_countEarlyTry_61 : decode cX1_countEarlyTry 61 = .ok (.iconst 0, 1) := by decide +kernel
theorem dX1_countEarlyTry_62 : decode cX1_countEarlyTry 62 = .ok (.iastore, 1) := by decide +kernel
theorem dX1_countEarlyTry_63 : decode cX1_countEarlyTry 63 = .ok (.return_, 1) := by decide +kernel
theorem dX1_countOpening_0 : decode cX1_countOpening 0 = .ok (.aload_n 0, 1) := by decide +kernel
theorem dX1_countOpening_1 : decode cX1_countOpening 1 = .ok (.getfield 9, 3) := by decide +kernel
theorem dX1_countOpening_4 : decode cX1_countOpening 4 = .ok (.bipush 6, 2) := by decide +kernel
theorem dX1_countOpening_6 : decode cX1_countOpening 6 = .ok (.dup2, 1) := by decide +kernel
theorem dX1_countOpening_7 : decode cX1_countOpening 7 = .ok (.iaload, 1) := by decide +kernel
theorem dX1_countOpening_8 : decode cX1_countOpening 8 = .ok (.iconst 1, 1) := by decide +kernel
theorem dX1_countOpening_9 : decode cX1_countOpening 9 = .ok (.iadd, 1) := by decide +kernel
theorem dX1_countOpening_10 : decode cX1_countOpening 10 = .ok (.iastore, 1) := by decide +kernel
theorem dX1_countOpening_11 : decode cX1_countOpening 11 = .ok (.iload_n 1, 1) := by decide +kernel
theorem dX1_countOpening_12 : decode cX1_countOpening 12 = .ok (.ifCond .le 17, 3) := by decide +kernel
theorem dX1_countOpening_15 : decode cX1_countOpening 15 = .ok (.aload_n 0, 1) := by decide +kernel
theorem dX1_countOpening_16 : decode cX1_countOpening 16 = .ok (.getfield 9, 3) := by decide +kernel
theorem dX1_countOpening_19 : decode cX1_countOpening 19 = .ok (.bipush 8, 2) := by decide +kernel
theorem dX1_countOpening_21 : decode cX1_countOpening 21 = .ok (.dup2, 1) := by decide +kernel
theorem dX1_countOpening_22 : decode cX1_countOpening 22 = .ok (.iaload, 1) := by decide +kernel
theorem dX1_countOpening_23 : decode cX1_countOpening 23 = .ok (.iconst 1, 1) := by decide +kernel
theorem dX1_countOpening_24 : decode cX1_countOpening 24 = .ok (.iadd, 1) := by decide +kernel
theorem dX1_countOpening_25 : decode cX1_countOpening 25 = .ok (.iastore, 1) := by decide +kernel
theorem dX1_countOpening_26 : decode cX1_countOpening 26 = .ok (.goto 32, 3) := by decide +kernel
theorem dX1_countOpening_29 : decode cX1_countOpening 29 = .ok (.iload_n 1, 1) := by decide +kernel
theorem dX1_countOpening_30 : decode cX1_countOpening 30 = .ok (.ifCond .ge 17, 3) := by decide +kernel
theorem dX1_countOpening_33 : decode cX1_countOpening 33 = .ok (.aload_n 0, 1) := by decide +kernel
theorem dX1_countOpening_34 : decode cX1_countOpening 34 = .ok (.getfield 9, 3) := by decide +kernel
theorem dX1_countOpening_37 : decode cX1_countOpening 37 = .ok (.bipush 9, 2) := by decide +kernel
theorem dX1_countOpening_39 : decode cX1_countOpening 39 = .ok (.dup2, 1) := by decide +kernel
theorem dX1_countOpening_40 : decode cX1_countOpening 40 = .ok (.iaload, 1) := by decide +kernel
theorem dX1_countOpening_41 : decode cX1_countOpening 41 = .ok (.iconst 1, 1) := by decide +kernel
theorem dX1_countOpening_42 : decode cX1_countOpening 42 = .ok (.iadd, 1) := by decide +kernel
theorem dX1_countOpening_43 : decode cX1_countOpening 43 = .ok (.iastore, 1) := by decide +kernel
theorem dX1_countOpening_44 : decode cX1_countOpening 44 = .ok (.goto 14, 3) := by decide +kernel
theorem dX1_countOpening_47 : decode cX1_countOpening 47 = .ok (.aload_n 0, 1) := by decide +kernel
theorem dX1_countOpening_48 : decode cX1_countOpening 48 = .ok (.getfield 9, 3) := by decide +kernel
theorem dX1_countOpening_51 : decode cX1_countOpening 51 = .ok (.bipush 7, 2) := by decide +kernel
theorem dX1_countOpening_53 : decode cX1_countOpening 53 = .ok (.dup2, 1) := by decide +kernel
theorem dX1_countOpening_54 : decode cX1_countOpening 54 = .ok (.iaload, 1) := by decide +kernel
theorem dX1_countOpening_55 : decode cX1_countOpening 55 = .ok (.iconst 1, 1) := by decide +kernel
theorem dX1_countOpening_56 : decode cX1_countOpening 56 = .ok (.iadd, 1) := by decide +kernel
theorem dX1_countOpening_57 : decode cX1_countOpening 57 = .ok (.iastore, 1) := by decide +kernel
theorem dX1_countOpening_58 : decode cX1_countOpening 58 = .ok (.return_, 1) := by decide +kernel
theorem dX1_leaveOpen_0 : decode cX1_leaveOpen 0 = .ok (.aload_n 0, 1) := by decide +kernel
theorem dX1_leaveOpen_1 : decode cX1_leaveOpen 1 = .ok (.getfield 9, 3) := by decide +kernel
theorem dX1_leaveOpen_4 : decode cX1_leaveOpen 4 = .ok (.iconst 1, 1) := by decide +kernel
theorem dX1_leaveOpen_5 : decode cX1_leaveOpen 5 = .ok (.iconst 0, 1) := by decide +kernel
theorem dX1_leaveOpen_6 : decode cX1_leaveOpen 6 = .ok (.iastore, 1) := by decide +kernel
theorem dX1_leaveOpen_7 : decode cX1_leaveOpen 7 = .ok (.aload_n 0, 1) := by decide +kernel
theorem dX1_leaveOpen_8 : decode cX1_leaveOpen 8 = .ok (.getfield 9, 3) := by decide +kernel
theorem dX1_leaveOpen_11 : decode cX1_leaveOpen 11 = .ok (.iconst 2, 1) := by decide +kernel
theorem dX1_leaveOpen_12 : decode cX1_leaveOpen 12 = .ok (.iconst (-1), 1) := by decide +kernel
theorem dX1_leaveOpen_13 : decode cX1_leaveOpen 13 = .ok (.iastore, 1) := by decide +kernel
theorem dX1_leaveOpen_14 : decode cX1_leaveOpen 14 = .ok (.aload_n 0, 1) := by decide +kernel
theorem dX1_leaveOpen_15 : decode cX1_leaveOpen 15 = .ok (.getfield 9, 3) := by decide +kernel
theorem dX1_leaveOpen_18 : decode cX1_leaveOpen 18 = .ok (.iconst 3, 1) := by decide +kernel
theorem dX1_leaveOpen_19 : decode cX1_leaveOpen 19 = .ok (.iconst 0, 1) := by decide +kernel
theorem dX1_leaveOpen_20 : decode cX1_leaveOpen 20 = .ok (.iastore, 1) := by decide +kernel
theorem dX1_leaveOpen_21 : decode cX1_leaveOpen 21 = .ok (.aload_n 0, 1) := by decide +kernel
theorem dX1_leaveOpen_22 : decode cX1_leaveOpen 22 = .ok (.getfield 9, 3) := by decide +kernel
theorem dX1_leaveOpen_25 : decode cX1_leaveOpen 25 = .ok (.iconst 4, 1) := by decide +kernel
theorem dX1_leaveOpen_26 : decode cX1_leaveOpen 26 = .ok (.iconst 0, 1) := by decide +kernel
theorem dX1_leaveOpen_27 : decode cX1_leaveOpen 27 = .ok (.iastore, 1) := by decide +kernel
theorem dX1_leaveOpen_28 : decode cX1_leaveOpen 28 = .ok (.return_, 1) := by decide +kernel
set_option maxRecDepth 20000 in
theorem ggX1_number_X1_today : GoodIn wsX1_number wsX1_today := goodIn_r _ [7, 1, 24, 25, 26, 27, 28, 29] (by decide +kernel) (by decide +kernel)
set_option maxRecDepth 20000 in
theorem gX1_number_X1_today : GoodIn wsX1_number (wsV RX1 214 RX1 yX1_today wsX1_today) := goodIn_app (goodIn_of _ (by decide +kernel)) ggX1_number_X1_today
set_option maxRecDepth 20000 in
theorem ggX1_number_X1_timeOfDay : GoodIn wsX1_number wsX1_timeOfDay := goodIn_r _ [11, 1, 24, 25, 26, 27, 28, 29] (by decide +kernel) (by decide +kernel)
set_option maxRecDepth 20000 in
theorem gX1_number_X1_timeOfDay : GoodIn wsX1_number (wsV RX1 217 RX1 yX1_timeOfDay wsX1_timeOfDay) := goodIn_app (goodIn_of _ (by decide +kernel)) ggX1_number_X1_timeOfDay
set_option maxRecDepth 20000 in
theorem ggX1_number_X1_hoursToOpening : GoodIn wsX1_number wsX1_hoursToOpening := goodIn_r _ [15, 1, 3, 4, 5, 6, 7, 8, 9, 10, 11, 24, 25, 26, 27, 28, 29] (by decide +kernel) (by decide +kernel)
set_option maxRecDepth 20000 in
theorem gX1_number_X1_hoursToOpening : GoodIn wsX1_number (wsV RX1 106 RX1 yX1_hoursToOpening wsX1_hoursToOpening) := goodIn_app (goodIn_of _ (by decide +kernel)) ggX1_number_X1_hoursToOpening
set_option maxRecDepth 20000 in
theorem ggX1_number_X1_hoursToWait : GoodIn wsX1_number wsX1_hoursToWait := goodIn_r _ [19, 1, 20, 21, 22, 23, 24, 25, 26, 27, 28, 29] (by decide +kernel) (by decide +kernel)
set_option maxRecDepth 20000 in
theorem gX1_number_X1_hoursToWait : GoodIn wsX1_number (wsV RX1 231 RX1 yX1_hoursToWait wsX1_hoursToWait) := goodIn_app (goodIn_of _ (by decide +kernel)) ggX1_number_X1_hoursToWait
theorem dX1_number_0 : decode cX1_number 0 = .ok (.iload_n 1, 1) := by decide +kernel
theorem dX1_number_1 : decode cX1_number 1 = .ok (.tableswitch 166 0 13 #[71, 78, 83, 88, 95, 100, 107, 114, 119, 126, 134, 142, 150, 158], 71) := by decide +kernel
theorem dX1_number_72 : decode cX1_number 72 = .ok (.aload_n 0, 1) := by decide +kernel
theorem dX1_number_73 : decode cX1_number 73 = .ok (.getfield 9, 3) := by decide +kernel
theorem dX1_number_76 : decode cX1_number 76 = .ok (.iconst 0, 1) := by decide +kernel
theorem dX1_number_77 : decode cX1_number 77 = .ok (.iaload, 1) := by decide +kernel
theorem dX1_number_78 : decode cX1_number 78 = .ok (.ireturn, 1) := by decide +kernel
theorem dX1_number_79 : decode cX1_number 79 = .ok (.aload_n 0, 1) := by decide +kernel
theorem dX1_number_80 : decode cX1_number 80 = .ok (.invokevirtual 214, 3) := by decide +kernel
theorem dX1_number_83 : decode cX1_number 83 = .ok (.ireturn, 1) := by decide +kernel
theorem dX1_number_84 : decode cX1_number 84 = .ok (.aload_n 0, 1) := by decide +kernel
theorem dX1_number_85 : decode cX1_number 85 = .ok (.invokevirtual 217, 3) := by decide +kernel
theorem dX1_number_88 : decode cX1_number 88 = .ok (.ireturn, 1) := by decide +kernel
theorem dX1_number_89 : decode cX1_number 89 = .ok (.aload_n 0, 1) := by decide +kernel
theorem dX1_number_90 : decode cX1_number 90 = .ok (.getfield 9, 3) := by decide +kernel
theorem dX1_number_93 : decode cX1_number 93 = .ok (.iconst 1, 1) := by decide +kernel
theorem dX1_number_94 : decode cX1_number 94 = .ok (.iaload, 1) := by decide +kernel
theorem dX1_number_95 : decode cX1_number 95 = .ok (.ireturn, 1) := by decide +kernel
theorem dX1_number_96 : decode cX1_number 96 = .ok (.aload_n 0, 1) := by decide +kernel
theorem dX1_number_97 : decode cX1_number 97 = .ok (.invokevirtual 106, 3) := by decide +kernel
theorem dX1_number_100 : decode cX1_number 100 = .ok (.ireturn, 1) := by decide +kernel
theorem dX1_number_101 : decode cX1_number 101 = .ok (.aload_n 0, 1) := by decide +kernel
theorem dX1_number_102 : decode cX1_number 102 = .ok (.getfield 9, 3) := by decide +kernel
theorem dX1_number_105 : decode cX1_number 105 = .ok (.iconst 2, 1) := by decide +kernel
theorem dX1_number_106 : decode cX1_number 106 = .ok (.iaload, 1) := by decide +kernel
theorem dX1_number_107 : decode cX1_number 107 = .ok (.ireturn, 1) := by decide +kernel
theorem dX1_number_108 : decode cX1_number 108 = .ok (.aload_n 0, 1) := by decide +kernel
theorem dX1_number_109 : decode cX1_number 109 = .ok (.getfield 9, 3) := by decide +kernel
theorem dX1_number_112 : decode cX1_number 112 = .ok (.iconst 3, 1) := by decide +kernel
theorem dX1_number_113 : decode cX1_number 113 = .ok (.iaload, 1) := by decide +kernel
theorem dX1_number_114 : decode cX1_number 114 = .ok (.ireturn, 1) := by decide +kernel
theorem dX1_number_115 : decode cX1_number 115 = .ok (.aload_n 0, 1) := by decide +kernel
theorem dX1_number_116 : decode cX1_number 116 = .ok (.invokevirtual 231, 3) := by decide +kernel
theorem dX1_number_119 : decode cX1_number 119 = .ok (.ireturn, 1) := by decide +kernel
theorem dX1_number_120 : decode cX1_number 120 = .ok (.aload_n 0, 1) := by decide +kernel
theorem dX1_number_121 : decode cX1_number 121 = .ok (.getfield 9, 3) := by decide +kernel
theorem dX1_number_124 : decode cX1_number 124 = .ok (.iconst 5, 1) := by decide +kernel
theorem dX1_number_125 : decode cX1_number 125 = .ok (.iaload, 1) := by decide +kernel
theorem dX1_number_126 : decode cX1_number 126 = .ok (.ireturn, 1) := by decide +kernel
theorem dX1_number_127 : decode cX1_number 127 = .ok (.aload_n 0, 1) := by decide +kernel
theorem dX1_number_128 : decode cX1_number 128 = .ok (.getfield 9, 3) := by decide +kernel
theorem dX1_number_131 : decode cX1_number 131 = .ok (.bipush 6, 2) := by decide +kernel
theorem dX1_number_133 : decode cX1_number 133 = .ok (.iaload, 1) := by decide +kernel
theorem dX1_number_134 : decode cX1_number 134 = .ok (.ireturn, 1) := by decide +kernel
theorem dX1_number_135 : decode cX1_number 135 = .ok (.aload_n 0, 1) := by decide +kernel
theorem dX1_number_136 : decode cX1_number 136 = .ok (.getfield 9, 3) := by decide +kernel
theorem dX1_number_139 : decode cX1_number 139 = .ok (.bipush 7, 2) := by decide +kernel
theorem dX1_number_141 : decode cX1_number 141 = .ok (.iaload, 1) := by decide +kernel
theorem dX1_number_142 : decode cX1_number 142 = .ok (.ireturn, 1) := by decide +kernel
theorem dX1_number_143 : decode cX1_number 143 = .ok (.aload_n 0, 1) := by decide +kernel
theorem dX1_number_144 : decode cX1_number 144 = .ok (.getfield 9, 3) := by decide +kernel
theorem dX1_number_147 : decode cX1_number 147 = .ok (.bipush 8, 2) := by decide +kernel
theorem dX1_number_149 : decode cX1_number 149 = .ok (.iaload, 1) := by decide +kernel
theorem dX1_number_150 : decode cX1_number 150 = .ok (.ireturn, 1) := by decide +kernel
theorem dX1_number_151 : decode cX1_number 151 = .ok (.aload_n 0, 1) := by decide +kernel
theorem dX1_number_152 : decode cX1_number 152 = .ok (.getfield 9, 3) := by decide +kernel
theorem dX1_number_155 : decode cX1_number 155 = .ok (.bipush 9, 2) := by decide +kernel
theorem dX1_number_157 : decode cX1_number 157 = .ok (.iaload, 1) := by decide +kernel
theorem dX1_number_158 : decode cX1_number 158 = .ok (.ireturn, 1) := by decide +kernel
theorem dX1_number_159 : decode cX1_number 159 = .ok (.aload_n 0, 1) := by decide +kernel
theorem dX1_number_160 : decode cX1_number 160 = .ok (.getfield 9, 3) := by decide +kernel
theorem dX1_number_163 : decode cX1_number 163 = .ok (.bipush 10, 2) := by decide +kernel
theorem dX1_number_165 : decode cX1_number 165 = .ok (.iaload, 1) := by decide +kernel
theorem dX1_number_166 : decode cX1_number 166 = .ok (.ireturn, 1) := by decide +kernel
theorem dX1_number_167 : decode cX1_number 167 = .ok (.aload_n 0, 1) := by decide +kernel
theorem dX1_number_168 : decode cX1_number 168 = .ok (.getfield 16, 3) := by decide +kernel
theorem dX1_number_171 : decode cX1_number 171 = .ok (.ireturn, 1) := by decide +kernel
set_option maxRecDepth 20000 in
theorem ggX1_readBuffer_X0_restart : GoodIn wsX1_readBuffer wsX0_restart := goodIn_r _ [8, 9, 10, 11, 12, 43, 44, 45, 46] (by decide +kernel) (by decide +kernel)
set_option maxRecDepth 20000 in
theorem gX1_readBuffer_X0_restart : GoodIn wsX1_readBuffer (wsV RX1 234 RX0 yX0_restart wsX0_restart) := goodIn_app (goodIn_of _ (by decide +kernel)) ggX1_readBuffer_X0_restart
set_option maxRecDepth 20000 in
theorem ggX1_readBuffer_X0_take : GoodIn wsX1_readBuffer wsX0_take := goodIn_r _ [16, 10, 9, 17, 18, 19, 7, 20, 21, 22, 23, 24, 11, 12, 25, 26, 27, 28, 29, 30, 31, 32, 33, 34, 35, 36, 43, 44, 45, 46] (by decide +kernel) (by decide +kernel)
set_option maxRecDepth 20000 in
theorem gX1_readBuffer_X0_take : GoodIn wsX1_readBuffer (wsV RX1 237 RX0 yX0_take wsX0_take) := goodIn_app (goodIn_of _ (by decide +kernel)) ggX1_readBuffer_X0_take
theorem dX1_readBuffer_0 : decode cX1_readBuffer 0 = .ok (.aload_n 0, 1) := by decide +kernel
theorem dX1_readBuffer_1 : decode cX1_readBuffer 1 = .ok (.getfield 29, 3) := by decide +kernel
theorem dX1_readBuffer_4 : decode cX1_readBuffer 4 = .ok (.invokevirtual 234, 3) := by decide +kernel
theorem dX1_readBuffer_7 : decode cX1_readBuffer 7 = .ok (.iconst 0, 1) := by decide +kernel
theorem dX1_readBuffer_8 : decode cX1_readBuffer 8 = .ok (.istore_n 1, 1) := by decide +kernel
theorem dX1_readBuffer_9 : decode cX1_readBuffer 9 = .ok (.iload_n 1, 1) := by decide +kernel
theorem dX1_readBuffer_10 : decode cX1_readBuffer 10 = .ok (.aload_n 0, 1) := by decide +kernel
theorem dX1_readBuffer_11 : decode cX1_readBuffer 11 = .ok (.getfield 23, 3) := by decide +kernel
theorem dX1_readBuffer_14 : decode cX1_readBuffer 14 = .ok (.if_icmp .ge 27, 3) := by decide +kernel
theorem dX1_readBuffer_17 : decode cX1_readBuffer 17 = .ok (.aload_n 0, 1) := by decide +kernel
theorem dX1_readBuffer_18 : decode cX1_readBuffer 18 = .ok (.getfield 29, 3) := by decide +kernel
theorem dX1_readBuffer_21 : decode cX1_readBuffer 21 = .ok (.aload_n 0, 1) := by decide +kernel
theorem dX1_readBuffer_22 : decode cX1_readBuffer 22 = .ok (.getfield 20, 3) := by decide +kernel
theorem dX1_readBuffer_25 : decode cX1_readBuffer 25 = .ok (.iload_n 1, 1) := by decide +kernel
theorem dX1_readBuffer_26 : decode cX1_readBuffer 26 = .ok (.iaload, 1) := by decide +kernel
theorem dX1_readBuffer_27 : decode cX1_readBuffer 27 = .ok (.invokevirtual 237, 3) := by decide +kernel
theorem dX1_readBuffer_30 : decode cX1_readBuffer 30 = .ok (.ifCond .ne 5, 3) := by decide +kernel
theorem dX1_readBuffer_33 : decode cX1_readBuffer 33 = .ok (.iload_n 1, 1) := by decide +kernel
theorem dX1_readBuffer_34 : decode cX1_readBuffer 34 = .ok (.ireturn, 1) := by decide +kernel
theorem dX1_readBuffer_35 : decode cX1_readBuffer 35 = .ok (.iinc 1 1, 3) := by decide +kernel
theorem dX1_readBuffer_38 : decode cX1_readBuffer 38 = .ok (.goto (-29), 3) := by decide +kernel
theorem dX1_readBuffer_41 : decode cX1_readBuffer 41 = .ok (.aload_n 0, 1) := by decide +kernel
theorem dX1_readBuffer_42 : decode cX1_readBuffer 42 = .ok (.getfield 23, 3) := by decide +kernel
theorem dX1_readBuffer_45 : decode cX1_readBuffer 45 = .ok (.ireturn, 1) := by decide +kernel
theorem dX2_init_0 : decode cX2_init 0 = .ok (.aload_n 0, 1) := by decide +kernel
theorem dX2_init_1 : decode cX2_init 1 = .ok (.invokespecial 1, 3) := by decide +kernel
theorem dX2_init_4 : decode cX2_init 4 = .ok (.aload_n 0, 1) := by decide +kernel
theorem dX2_init_5 : decode cX2_init 5 = .ok (.bipush 33, 2) := by decide +kernel
theorem dX2_init_7 : decode cX2_init 7 = .ok (.newarray .int, 2) := by decide +kernel
theorem dX2_init_9 : decode cX2_init 9 = .ok (.putfield 7, 3) := by decide +kernel
theorem dX2_init_12 : decode cX2_init 12 = .ok (.aload_n 0, 1) := by decide +kernel
theorem dX2_init_13 : decode cX2_init 13 = .ok (.sipush 198, 3) := by decide +kernel
theorem dX2_init_16 : decode cX2_init 16 = .ok (.newarray .int, 2) := by decide +kernel
theorem dX2_init_18 : decode cX2_init 18 = .ok (.putfield 13, 3) := by decide +kernel
theorem dX2_init_21 : decode cX2_init 21 = .ok (.aload_n 0, 1) := by decide +kernel
theorem dX2_init_22 : decode cX2_init 22 = .ok (.bipush 60, 2) := by decide +kernel
theorem dX2_init_24 : decode cX2_init 24 = .ok (.newarray .int, 2) := by decide +kernel
theorem dX2_init_26 : decode cX2_init 26 = .ok (.putfield 16, 3) := by decide +kernel
theorem dX2_init_29 : decode cX2_init 29 = .ok (.aload_n 0, 1) := by decide +kernel
theorem dX2_init_30 : decode cX2_init 30 = .ok (.iconst 3, 1) := by decide +kernel
theorem dX2_init_31 : decode cX2_init 31 = .ok (.newarray .int, 2) := by decide +kernel
theorem dX2_init_33 : decode cX2_init 33 = .ok (.putfield 19, 3) := by decide +kernel
theorem dX2_init_36 : decode cX2_init 36 = .ok (.aload_n 0, 1) := by decide +kernel
theorem dX2_init_37 : decode cX2_init 37 = .ok (.iconst 3, 1) := by decide +kernel
theorem dX2_init_38 : decode cX2_init 38 = .ok (.newarray .int, 2) := by decide +kernel
theorem dX2_init_40 : decode cX2_init 40 = .ok (.putfield 22, 3) := by decide +kernel
theorem dX2_init_43 : decode cX2_init 43 = .ok (.iconst 0, 1) := by decide +kernel
theorem dX2_init_44 : decode cX2_init 44 = .ok (.istore_n 1, 1) := by decide +kernel
theorem dX2_init_45 : decode cX2_init 45 = .ok (.iload_n 1, 1) := by decide +kernel
theorem dX2_init_46 : decode cX2_init 46 = .ok (.bipush 7, 2) := by decide +kernel
theorem dX2_init_48 : decode cX2_init 48 = .ok (.if_icmp .ge 28, 3) := by decide +kernel
theorem dX2_init_51 : decode cX2_init 51 = .ok (.aload_n 0, 1) := by decide +kernel
theorem dX2_init_52 : decode cX2_init 52 = .ok (.getfield 7, 3) := by decide +kernel
theorem dX2_init_55 : decode cX2_init 55 = .ok (.iconst 1, 1) := by decide +kernel
theorem dX2_init_56 : decode cX2_init 56 = .ok (.iload_n 1, 1) := by decide +kernel
theorem dX2_init_57 : decode cX2_init 57 = .ok (.iadd, 1) := by decide +kernel
theorem dX2_init_58 : decode cX2_init 58 = .ok (.iload_n 1, 1) := by decide +kernel
theorem dX2_init_59 : decode cX2_init 59 = .ok (.iconst 5, 1) := by decide +kernel
theorem dX2_init_60 : decode cX2_init 60 = .ok (.if_icmp .ge 8, 3) := by decide +kernel
theorem dX2_init_63 : decode cX2_init 63 = .ok (.bipush 8, 2) := by decide +kernel
theorem dX2_init_65 : decode cX2_init 65 = .ok (.goto 4, 3) := by decide +kernel
theorem dX2_init_68 : decode cX2_init 68 = .ok (.iconst (-1), 1) := by decide +kernel
theorem dX2_init_69 : decode cX2_init 69 = .ok (.iastore, 1) := by decide +kernel
theorem dX2_init_70 : decode cX2_init 70 = .ok (.iinc 1 1, 3) := by decide +kernel
theorem dX2_init_73 : decode cX2_init 73 = .ok (.goto (-28), 3) := by decide +kernel
theorem dX2_init_76 : decode cX2_init 76 = .ok (.aload_n 0, 1) := by decide +kernel
theorem dX2_init_77 : decode cX2_init 77 = .ok (.getfield 7, 3) := by decide +kernel
theorem dX2_init_80 : decode cX2_init 80 = .ok (.bipush 8, 2) := by decide +kernel
theorem dX2_init_82 : decode cX2_init 82 = .ok (.iconst 3, 1) := by decide +kernel
theorem dX2_init_83 : decode cX2_init 83 = .ok (.iastore, 1) := by decide +kernel
theorem dX2_init_84 : decode cX2_init 84 = .ok (.aload_n 0, 1) := by decide +kernel
theorem dX2_init_85 : decode cX2_init 85 = .ok (.getfield 7, 3) := by decide +kernel
theorem dX2_init_88 : decode cX2_init 88 = .ok (.bipush 9, 2) := by decide +kernel
theorem dX2_init_90 : decode cX2_init 90 = .ok (.iconst 2, 1) := by decide +kernel
theorem dX2_init_91 : decode cX2_init 91 = .ok (.iastore, 1) := by decide +kernel
theorem dX2_init_92 : decode cX2_init 92 = .ok (.aload_n 0, 1) := by decide +kernel
theorem dX2_init_93 : decode cX2_init 93 = .ok (.getfield 7, 3) := by decide +kernel
theorem dX2_init_96 : decode cX2_init 96 = .ok (.bipush 10, 2) := by decide +kernel
theorem dX2_init_98 : decode cX2_init 98 = .ok (.sipush 500, 3) := by decide +kernel
theorem dX2_init_101 : decode cX2_init 101 = .ok (.iastore, 1) := by decide +kernel
theorem dX2_init_102 : decode cX2_init 102 = .ok (.aload_n 0, 1) := by decide +kernel
theorem dX2_init_103 : decode cX2_init 103 = .ok (.getfield 7, 3) := by decide +kernel
theorem dX2_init_106 : decode cX2_init 106 = .ok (.bipush 12, 2) := by decide +kernel
theorem dX2_init_108 : decode cX2_init 108 = .ok (.iconst (-1), 1) := by decide +kernel
theorem dX2_init_109 : decode cX2_init 109 = .ok (.iastore, 1) := by decide +kernel
theorem dX2_init_110 : decode cX2_init 110 = .ok (.iconst 0, 1) := by decide +kernel
theorem dX2_init_111 : decode cX2_init 111 = .ok (.istore_n 1, 1) := by decide +kernel
theorem dX2_init_112 : decode cX2_init 112 = .ok (.iload_n 1, 1) := by decide +kernel
theorem dX2_init_113 : decode cX2_init 113 = .ok (.iconst 3, 1) := by decide +kernel
theorem dX2_init_114 : decode cX2_init 114 = .ok (.if_icmp .ge 23, 3) := by decide +kernel
theorem dX2_init_117 : decode cX2_init 117 = .ok (.aload_n 0, 1) := by decide +kernel
theorem dX2_init_118 : decode cX2_init 118 = .ok (.getfield 7, 3) := by decide +kernel
theorem dX2_init_121 : decode cX2_init 121 = .ok (.bipush 21, 2) := by decide +kernel
theorem dX2_init_123 : decode cX2_init 123 = .ok (.iconst 4, 1) := by decide +kernel
theorem dX2_init_124 : decode cX2_init 124 = .ok (.iload_n 1, 1) := by decide +kernel
theorem dX2_init_125 : decode cX2_init 125 = .ok (.imul, 1) := by decide +kernel
theorem dX2_init_126 : decode cX2_init 126 = .ok (.iadd, 1) := by decide +kernel
theorem dX2_init_127 : decode cX2_init 127 = .ok (.iconst 1, 1) := by decide +kernel
theorem dX2_init_128 : decode cX2_init 128 = .ok (.iadd, 1) := by decide +kernel
theorem dX2_init_129 : decode cX2_init 129 = .ok (.iconst 1, 1) := by decide +kernel
theorem dX2_init_130 : decode cX2_init 130 = .ok (.iastore, 1) := by decide +kernel
theorem dX2_init_131 : decode cX2_init 131 = .ok (.iinc 1 1, 3) := by decide +kernel
theorem dX2_init_134 : decode cX2_init 134 = .ok (.goto (-22), 3) := by decide +kernel
theorem dX2_init_137 : decode cX2_init 137 = .ok (.return_, 1) := by decide +kernel
theorem dX2_thrown_0 : decode cX2_thrown 0 = .ok (.aload_n 0, 1) := by decide +kernel
theorem dX2_thrown_1 : decode cX2_thrown 1 = .ok (.getfield 25, 3) := by decide +kernel
theorem dX2_thrown_4 : decode cX2_thrown 4 = .ok (.ireturn, 1) := by decide +kernel
theorem dX2_fails_0 : decode cX2_fails 0 = .ok (.aload_n 0, 1) := by decide +kernel
theorem dX2_fails_1 : decode cX2_fails 1 = .ok (.iload_n 1, 1) := by decide +kernel
theorem dX2_fails_2 : decode cX2_fails 2 = .ok (.putfield 25, 3) := by decide +kernel
theorem dX2_fails_5 : decode cX2_fails 5 = .ok (.iconst 0, 1) := by decide +kernel
theorem dX2_fails_6 : decode cX2_fails 6 = .ok (.ireturn, 1) := by decide +kernel
theorem dX2_in_0 : decode cX2_in 0 = .ok (.iload_n 0, 1) := by decide +kernel
theorem dX2_in_1 : decode cX2_in 1 = .ok (.iload_n 1, 1) := by decide +kernel
theorem dX2_in_2 : decode cX2_in 2 = .ok (.if_icmp .lt 12, 3) := by decide +kernel
theorem dX2_in_5 : decode cX2_in 5 = .ok (.iload_n 0, 1) := by decide +kernel
theorem dX2_in_6 : decode cX2_in 6 = .ok (.iload_n 2, 1) := by decide +kernel
theorem dX2_in_7 : decode cX2_in 7 = .ok (.if_icmp .gt 7, 3) := by decide +kernel
theorem dX2_in_10 : decode cX2_in 10 = .ok (.iconst 1, 1) := by decide +kernel
theorem dX2_in_11 : decode cX2_in 11 = .ok (.goto 4, 3) := by decide +kernel
theorem dX2_in_14 : decode cX2_in 14 = .ok (.iconst 0, 1) := by decide +kernel
theorem dX2_in_15 : decode cX2_in 15 = .ok (.ireturn, 1) := by decide +kernel
set_option maxRecDepth 20000 in
theorem ggX2_isMovement_X2_in : GoodIn wsX2_isMovement wsX2_in := goodIn_r _ [4] (by decide +kernel) (by decide +kernel)
set_option maxRecDepth 20000 in
theorem gX2_isMovement_X2_in : GoodIn wsX2_isMovement (va_wsS RX2 29 yX2_in wsX2_in) := goodIn_app (goodIn_of _ (by decide +kernel)) ggX2_isMovement_X2_in
theorem dX2_isMovement_0 : decode cX2_isMovement 0 = .ok (.iload_n 0, 1) := by decide +kernel
theorem dX2_isMovement_1 : decode cX2_isMovement 1 = .ok (.iconst 0, 1) := by decide +kernel
theorem dX2_isMovement_2 : decode cX2_isMovement 2 = .ok (.iconst 2, 1) := by decide +kernel
theorem dX2_isMovement_3 : decode cX2_isMovement 3 = .ok (.invokestatic 29, 3) := by decide +kernel
theorem dX2_isMovement_6 : decode cX2_isMovement 6 = .ok (.ireturn, 1) := by decide +kernel
set_option maxRecDepth 20000 in
theorem ggX2_isDay_X2_in : GoodIn wsX2_isDay wsX2_in := goodIn_r _ [4] (by decide +kernel) (by decide +kernel)
set_option maxRecDepth 20000 in
theorem gX2_isDay_X2_in : GoodIn wsX2_isDay (va_wsS RX2 29 yX2_in wsX2_in) := goodIn_app (goodIn_of _ (by decide +kernel)) ggX2_isDay_X2_in
theorem dX2_isDay_0 : decode cX2_isDay 0 = .ok (.iload_n 0, 1) := by decide +kernel
theorem dX2_isDay_1 : decode cX2_isDay 1 = .ok (.iconst 0, 1) := by decide +kernel
theorem dX2_isDay_2 : decode cX2_isDay 2 = .ok (.bipush 6, 2) := by decide +kernel
theorem dX2_isDay_4 : decode cX2_isDay 4 = .ok (.invokestatic 29, 3) := by decide +kernel
theorem dX2_isDay_7 : decode cX2_isDay 7 = .ok (.ireturn, 1) := by decide +kernel
theorem dX2_saves_0 : decode cX2_saves 0 = .ok (.aload_n 0, 1) := by decide +kernel
theorem dX2_saves_1 : decode cX2_saves 1 = .ok (.getfield 33, 3) := by decide +kernel
theorem dX2_saves_4 : decode cX2_saves 4 = .ok (.bipush 6, 2) := by decide +kernel
theorem dX2_saves_6 : decode cX2_saves 6 = .ok (.if_icmp .ne 43, 3) := by decide +kernel
theorem dX2_saves_9 : decode cX2_saves 9 = .ok (.iconst 0, 1) := by decide +kernel
theorem dX2_saves_10 : decode cX2_saves 10 = .ok (.istore_n 1, 1) := by decide +kernel
theorem dX2_saves_11 : decode cX2_saves 11 = .ok (.iload_n 1, 1) := by decide +kernel
theorem dX2_saves_12 : decode cX2_saves 12 = .ok (.sipush 165, 3) := by decide +kernel
theorem dX2_saves_15 : decode cX2_saves 15 = .ok (.if_icmp .ge 24, 3) := by decide +kernel
theorem dX2_saves_18 : decode cX2_saves 18 = .ok (.aload_n 0, 1) := by decide +kernel
theorem dX2_saves_19 : decode cX2_saves 19 = .ok (.getfield 13, 3) := by decide +kernel
theorem dX2_saves_22 : decode cX2_saves 22 = .ok (.iload_n 1, 1) := by decide +kernel
theorem dX2_saves_23 : decode cX2_saves 23 = .ok (.aload_n 0, 1) := by decide +kernel
theorem dX2_saves_24 : decode cX2_saves 24 = .ok (.getfield 13, 3) := by decide +kernel
theorem dX2_saves_27 : decode cX2_saves 27 = .ok (.iload_n 1, 1) := by decide +kernel
theorem dX2_saves_28 : decode cX2_saves 28 = .ok (.bipush 33, 2) := by decide +kernel
theorem dX2_saves_30 : decode cX2_saves 30 = .ok (.iadd, 1) := by decide +kernel
theorem dX2_saves_31 : decode cX2_saves 31 = .ok (.iaload, 1) := by decide +kernel
theorem dX2_saves_32 : decode cX2_saves 32 = .ok (.iastore, 1) := by decide +kernel
theorem dX2_saves_33 : decode cX2_saves 33 = .ok (.iinc 1 1, 3) := by decide +kernel
theorem dX2_saves_36 : decode cX2_saves 36 = .ok (.goto (-25), 3) := by decide +kernel
theorem dX2_saves_39 : decode cX2_saves 39 = .ok (.aload_n 0, 1) := by decide +kernel
theorem dX2_saves_40 : decode cX2_saves 40 = .ok (.dup, 1) := by decide +kernel
theorem dX2_saves_41 : decode cX2_saves 41 = .ok (.getfield 33, 3) := by decide +kernel
theorem dX2_saves_44 : decode cX2_saves 44 = .ok (.iconst 1, 1) := by decide +kernel
theorem dX2_saves_45 : decode cX2_saves 45 = .ok (.isub, 1) := by decide +kernel
theorem dX2_saves_46 : decode cX2_saves 46 = .ok (.putfield 33, 3) := by decide +kernel
theorem dX2_saves_49 : decode cX2_saves 49 = .ok (.iconst 0, 1) := by decide +kernel
theorem dX2_saves_50 : decode cX2_saves 50 = .ok (.istore_n 1, 1) := by decide +kernel
theorem dX2_saves_51 : decode cX2_saves 51 = .ok (.iload_n 1, 1) := by decide +kernel
theorem dX2_saves_52 : decode cX2_saves 52 = .ok (.bipush 33, 2) := by decide +kernel
theorem dX2_saves_54 : decode cX2_saves 54 = .ok (.if_icmp .ge 29, 3) := by decide +kernel
theorem dX2_saves_57 : decode cX2_saves 57 = .ok (.aload_n 0, 1) := by decide +kernel
theorem dX2_saves_58 : decode cX2_saves 58 = .ok (.getfield 13, 3) := by decide +kernel
theorem dX2_saves_61 : decode cX2_saves 61 = .ok (.bipush 33, 2) := by decide +kernel
theorem dX2_saves_63 : decode cX2_saves 63 = .ok (.aload_n 0, 1) := by decide +kernel
theorem dX2_saves_64 : decode cX2_saves 64 = .ok (.getfield 33, 3) := by decide +kernel
theorem dX2_saves_67 : decode cX2_saves 67 = .ok (.imul, 1) := by decide +kernel
theorem dX2_saves_68 : decode cX2_saves 68 = .ok (.iload_n 1, 1) := by decide +kernel
theorem dX2_saves_69 : decode cX2_saves 69 = .ok (.iadd, 1) := by decide +kernel
theorem dX2_saves_70 : decode cX2_saves 70 = .ok (.aload_n 0, 1) := by decide +kernel
theorem dX2_saves_71 : decode cX2_saves 71 = .ok (.getfield 7, 3) := by decide +kernel
theorem dX2_saves_74 : decode cX2_saves 74 = .ok (.iload_n 1, 1) := by decide +kernel
theorem dX2_saves_75 : decode cX2_saves 75 = .ok (.iaload, 1) := by decide +kernel
theorem dX2_saves_76 : decode cX2_saves 76 = .ok (.iastore, 1) := by decide +kernel
theorem dX2_saves_77 : decode cX2_saves 77 = .ok (.iinc 1 1, 3) := by decide +kernel
theorem dX2_saves_80 : decode cX2_saves 80 = .ok (.goto (-29), 3) := by decide +kernel
theorem dX2_saves_83 : decode cX2_saves 83 = .ok (.aload_n 0, 1) := by decide +kernel
theorem dX2_saves_84 : decode cX2_saves 84 = .ok (.dup, 1) := by decide +kernel
theorem dX2_saves_85 : decode cX2_saves 85 = .ok (.getfield 33, 3) := by decide +kernel
theorem dX2_saves_88 : decode cX2_saves 88 = .ok (.iconst 1, 1) := by decide +kernel
theorem dX2_saves_89 : decode cX2_saves 89 = .ok (.iadd, 1) := by decide +kernel
theorem dX2_saves_90 : decode cX2_saves 90 = .ok (.putfield 33, 3) := by decide +kernel
theorem dX2_saves_93 : decode cX2_saves 93 = .ok (.return_, 1) := by decide +kernel
set_option maxRecDepth 20000 in
theorem ggX2_undo_X2_fails : GoodIn wsX2_undo wsX2_fails := goodIn_r _ [9, 1, 10, 11, 12, 13, 14, 15, 16, 17, 18, 19, 20] (by decide +kernel) (by decide +kernel)
set_option maxRecDepth 20000 in
theorem gX2_undo_X2_fails : GoodIn wsX2_undo (wsV RX2 36 RX2 yX2_fails wsX2_fails) := goodIn_app (goodIn_of _ (by decide +kernel)) ggX2_undo_X2_fails
theorem dX2_undo_0 : decode cX2_undo 0 = .ok (.aload_n 0, 1) := by decide +kernel
theorem dX2_undo_1 : decode cX2_undo 1 = .ok (.iconst 0, 1) := by decide +kernel
theorem dX2_undo_2 : decode cX2_undo 2 = .ok (.putfield 25, 3) := by decide +kernel
theorem dX2_undo_5 : decode cX2_undo 5 = .ok (.aload_n 0, 1) := by decide +kernel
theorem dX2_undo_6 : decode cX2_undo 6 = .ok (.getfield 33, 3) := by decide +kernel
theorem dX2_undo_9 : decode cX2_undo 9 = .ok (.ifCond .ne 9, 3) := by decide +kernel
theorem dX2_undo_12 : decode cX2_undo 12 = .ok (.aload_n 0, 1) := by decide +kernel
theorem dX2_undo_13 : decode cX2_undo 13 = .ok (.iconst 1, 1) := by decide +kernel
theorem dX2_undo_14 : decode cX2_undo 14 = .ok (.invokevirtual 36, 3) := by decide +kernel
theorem dX2_undo_17 : decode cX2_undo 17 = .ok (.ireturn, 1) := by decide +kernel
theorem dX2_undo_18 : decode cX2_undo 18 = .ok (.aload_n 0, 1) := by decide +kernel
theorem dX2_undo_19 : decode cX2_undo 19 = .ok (.dup, 1) := by decide +kernel
theorem dX2_undo_20 : decode cX2_undo 20 = .ok (.getfield 33, 3) := by decide +kernel
theorem dX2_undo_23 : decode cX2_undo 23 = .ok (.iconst 1, 1) := by decide +kernel
theorem dX2_undo_24 : decode cX2_undo 24 = .ok (.isub, 1) := by decide +kernel
theorem dX2_undo_25 : decode cX2_undo 25 = .ok (.putfield 33, 3) := by decide +kernel
theorem dX2_undo_28 : decode cX2_undo 28 = .ok (.iconst 0, 1) := by decide +kernel
theorem dX2_undo_29 : decode cX2_undo 29 = .ok (.istore_n 1, 1) := by decide +kernel
theorem dX2_undo_30 : decode cX2_undo 30 = .ok (.iload_n 1, 1) := by decide +kernel
theorem dX2_undo_31 : decode cX2_undo 31 = .ok (.bipush 33, 2) := by decide +kernel
theorem dX2_undo_33 : decode cX2_undo 33 = .ok (.if_icmp .ge 29, 3) := by decide +kernel
theorem dX2_undo_36 : decode cX2_undo 36 = .ok (.aload_n 0, 1) := by decide +kernel
theorem dX2_undo_37 : decode cX2_undo 37 = .ok (.getfield 7, 3) := by decide +kernel
theorem dX2_undo_40 : decode cX2_undo 40 = .ok (.iload_n 1, 1) := by decide +kernel
theorem dX2_undo_41 : decode cX2_undo 41 = .ok (.aload_n 0, 1) := by decide +kernel
theorem dX2_undo_42 : decode cX2_undo 42 = .ok (.getfield 13, 3) := by decide +kernel
theorem dX2_undo_45 : decode cX2_undo 45 = .ok (.bipush 33, 2) := by decide +kernel
theorem dX2_undo_47 : decode cX2_undo 47 = .ok (.aload_n 0, 1) := by decide +kernel
theorem dX2_undo_48 : decode cX2_undo 48 = .ok (.getfield 33, 3) := by decide +kernel
theorem dX2_undo_51 : decode cX2_undo 51 = .ok (.imul, 1) := by decide +kernel
theorem dX2_undo_52 : decode cX2_undo 52 = .ok (.iload_n 1, 1) := by decide +kernel
theorem dX2_undo_53 : decode cX2_undo 53 = .ok (.iadd, 1) := by decide +kernel
theorem dX2_undo_54 : decode cX2_undo 54 = .ok (.iaload, 1) := by decide +kernel
theorem dX2_undo_55 : decode cX2_undo 55 = .ok (.iastore, 1) := by decide +kernel
theorem dX2_undo_56 : decode cX2_undo 56 = .ok (.iinc 1 1, 3) := by decide +kernel
theorem dX2_undo_59 : decode cX2_undo 59 = .ok (.goto (-29), 3) := by decide +kernel
theorem dX2_undo_62 : decode cX2_undo 62 = .ok (.aload_n 0, 1) := by decide +kernel
theorem dX2_undo_63 : decode cX2_undo 63 = .ok (.getfield 33, 3) := by decide +kernel
theorem dX2_undo_66 : decode cX2_undo 66 = .ok (.ireturn, 1) := by decide +kernel
theorem dX2_hours_0 : decode cX2_hours 0 = .ok (.aload_n 0, 1) := by decide +kernel
theorem dX2_hours_1 : decode cX2_hours 1 = .ok (.getfield 7, 3) := by decide +kernel
theorem dX2_hours_4 : decode cX2_hours 4 = .ok (.bipush 21, 2) := by decide +kernel
theorem dX2_hours_6 : decode cX2_hours 6 = .ok (.iconst 4, 1) := by decide +kernel
theorem dX2_hours_7 : decode cX2_hours 7 = .ok (.iload_n 1, 1) := by decide +kernel
theorem dX2_hours_8 : decode cX2_hours 8 = .ok (.imul, 1) := by decide +kernel
theorem dX2_hours_9 : decode cX2_hours 9 = .ok (.iadd, 1) := by decide +kernel
theorem dX2_hours_10 : decode cX2_hours 10 = .ok (.iaload, 1) := by decide +kernel
theorem dX2_hours_11 : decode cX2_hours 11 = .ok (.ireturn, 1) := by decide +kernel
theorem dX2_goes_0 : decode cX2_goes 0 = .ok (.aload_n 0, 1) := by decide +kernel
theorem dX2_goes_1 : decode cX2_goes 1 = .ok (.getfield 7, 3) := by decide +kernel
theorem dX2_goes_4 : decode cX2_goes 4 = .ok (.bipush 21, 2) := by decide +kernel
theorem dX2_goes_6 : decode cX2_goes 6 = .ok (.iconst 4, 1) := by decide +kernel
theorem dX2_goes_7 : decode cX2_goes 7 = .ok (.iload_n 1, 1) := by decide +kernel
theorem dX2_goes_8 : decode cX2_goes 8 = .ok (.imul, 1) := by decide +kernel
theorem dX2_goes_9 : decode cX2_goes 9 = .ok (.iadd, 1) := by decide +kernel
theorem dX2_goes_10 : decode cX2_goes 10 = .ok (.iconst 1, 1) := by decide +kernel
theorem dX2_goes_11 : decode cX2_goes 11 = .ok (.iadd, 1) := by decide +kernel
theorem dX2_goes_12 : decode cX2_goes 12 = .ok (.iaload, 1) := by decide +kernel
theorem dX2_goes_13 : decode cX2_goes 13 = .ok (.iconst 1, 1) := by decide +kernel
theorem dX2_goes_14 : decode cX2_goes 14 = .ok (.if_icmp .ne 7, 3) := by decide +kernel
theorem dX2_goes_17 : decode cX2_goes 17 = .ok (.iconst 1, 1) := by decide +kernel
theorem dX2_goes_18 : decode cX2_goes 18 = .ok (.goto 4, 3) := by decide +kernel
theorem dX2_goes_21 : decode cX2_goes 21 = .ok (.iconst 0, 1) := by decide +kernel
theorem dX2_goes_22 : decode cX2_goes 22 = .ok (.ireturn, 1) := by decide +kernel
theorem dX2_lossOf_0 : decode cX2_lossOf 0 = .ok (.aload_n 0, 1) := by decide +kernel
theorem dX2_lossOf_1 : decode cX2_lossOf 1 = .ok (.getfield 7, 3) := by decide +kernel
theorem dX2_lossOf_4 : decode cX2_lossOf 4 = .ok (.bipush 21, 2) := by decide +kernel
theorem dX2_lossOf_6 : decode cX2_lossOf 6 = .ok (.iconst 4, 1) := by decide +kernel
theorem dX2_lossOf_7 : decode cX2_lossOf 7 = .ok (.iload_n 1, 1) := by decide +kernel
theorem dX2_lossOf_8 : decode cX2_lossOf 8 = .ok (.imul, 1) := by decide +kernel
theorem dX2_lossOf_9 : decode cX2_lossOf 9 = .ok (.iadd, 1) := by decide +kernel
theorem dX2_lossOf_10 : decode cX2_lossOf 10 = .ok (.iconst 2, 1) := by decide +kernel
theorem dX2_lossOf_11 : decode cX2_lossOf 11 = .ok (.iadd, 1) := by decide +kernel
theorem dX2_lossOf_12 : decode cX2_lossOf 12 = .ok (.iaload, 1) := by decide +kernel
theorem dX2_lossOf_13 : decode cX2_lossOf 13 = .ok (.ireturn, 1) := by decide +kernel
theorem dX2_ran_0 : decode cX2_ran 0 = .ok (.aload_n 0, 1) := by decide +kernel
theorem dX2_ran_1 : decode cX2_ran 1 = .ok (.getfield 7, 3) := by decide +kernel
theorem dX2_ran_4 : decode cX2_ran 4 = .ok (.bipush 21, 2) := by decide +kernel
theorem dX2_ran_6 : decode cX2_ran 6 = .ok (.iconst 4, 1) := by decide +kernel
theorem dX2_ran_7 : decode cX2_ran 7 = .ok (.iload_n 1, 1) := by decide +kernel
theorem dX2_ran_8 : decode cX2_ran 8 = .ok (.imul, 1) := by decide +kernel
theorem dX2_ran_9 : decode cX2_ran 9 = .ok (.iadd, 1) := by decide +kernel
theorem dX2_ran_10 : decode cX2_ran 10 = .ok (.iconst 3, 1) := by decide +kernel
theorem dX2_ran_11 : decode cX2_ran 11 = .ok (.iadd, 1) := by decide +kernel
theorem dX2_ran_12 : decode cX2_ran 12 = .ok (.iaload, 1) := by decide +kernel
theorem dX2_ran_13 : decode cX2_ran 13 = .ok (.ireturn, 1) := by decide +kernel
theorem dX2_toOpening_0 : decode cX2_toOpening 0 = .ok (.iconst 1, 1) := by decide +kernel
theorem dX2_toOpening_1 : decode cX2_toOpening 1 = .ok (.istore_n 1, 1) := by decide +kernel
theorem dX2_toOpening_2 : decode cX2_toOpening 2 = .ok (.iload_n 1, 1) := by decide +kernel
theorem dX2_toOpening_3 : decode cX2_toOpening 3 = .ok (.sipush 168, 3) := by decide +kernel
theorem dX2_toOpening_6 : decode cX2_toOpening 6 = .ok (.if_icmp .gt 41, 3) := by decide +kernel
theorem dX2_toOpening_9 : decode cX2_toOpening 9 = .ok (.aload_n 0, 1) := by decide +kernel
theorem dX2_toOpening_10 : decode cX2_toOpening 10 = .ok (.getfield 7, 3) := by decide +kernel
theorem dX2_toOpening_13 : decode cX2_toOpening 13 = .ok (.iconst 0, 1) := by decide +kernel
theorem dX2_toOpening_14 : decode cX2_toOpening 14 = .ok (.iaload, 1) := by decide +kernel
theorem dX2_toOpening_15 : decode cX2_toOpening 15 = .ok (.iload_n 1, 1) := by decide +kernel
theorem dX2_toOpening_16 : decode cX2_toOpening 16 = .ok (.iadd, 1) := by decide +kernel
theorem dX2_toOpening_17 : decode cX2_toOpening 17 = .ok (.istore_n 2, 1) := by decide +kernel
theorem dX2_toOpening_18 : decode cX2_toOpening 18 = .ok (.aload_n 0, 1) := by decide +kernel
theorem dX2_toOpening_19 : decode cX2_toOpening 19 = .ok (.getfield 7, 3) := by decide +kernel
theorem dX2_toOpening_22 : decode cX2_toOpening 22 = .ok (.iconst 1, 1) := by decide +kernel
theorem dX2_toOpening_23 : decode cX2_toOpening 23 = .ok (.iload_n 2, 1) := by decide +kernel
theorem dX2_toOpening_24 : decode cX2_toOpening 24 = .ok (.bipush 24, 2) := by decide +kernel
theorem dX2_toOpening_26 : decode cX2_toOpening 26 = .ok (.idiv, 1) := by decide +kernel
theorem dX2_toOpening_27 : decode cX2_toOpening 27 = .ok (.bipush 7, 2) := by decide +kernel
theorem dX2_toOpening_29 : decode cX2_toOpening 29 = .ok (.irem, 1) := by decide +kernel
theorem dX2_toOpening_30 : decode cX2_toOpening 30 = .ok (.iadd, 1) := by decide +kernel
theorem dX2_toOpening_31 : decode cX2_toOpening 31 = .ok (.iaload, 1) := by decide +kernel
theorem dX2_toOpening_32 : decode cX2_toOpening 32 = .ok (.iload_n 2, 1) := by decide +kernel
theorem dX2_toOpening_33 : decode cX2_toOpening 33 = .ok (.bipush 24, 2) := by decide +kernel
theorem dX2_toOpening_35 : decode cX2_toOpening 35 = .ok (.irem, 1) := by decide +kernel
theorem dX2_toOpening_36 : decode cX2_toOpening 36 = .ok (.if_icmp .ne 5, 3) := by decide +kernel
theorem dX2_toOpening_39 : decode cX2_toOpening 39 = .ok (.iload_n 1, 1) := by decide +kernel
theorem dX2_toOpening_40 : decode cX2_toOpening 40 = .ok (.ireturn, 1) := by decide +kernel
theorem dX2_toOpening_41 : decode cX2_toOpening 41 = .ok (.iinc 1 1, 3) := by decide +kernel
theorem dX2_toOpening_44 : decode cX2_toOpening 44 = .ok (.goto (-42), 3) := by decide +kernel
theorem dX2_toOpening_47 : decode cX2_toOpening 47 = .ok (.iconst (-1), 1) := by decide +kernel
theorem dX2_toOpening_48 : decode cX2_toOpening 48 = .ok (.ireturn, 1) := by decide +kernel
set_option maxRecDepth 20000 in
theorem ggX2_downIn_X2_goes : GoodIn wsX2_downIn wsX2_goes := goodIn_r _ [5, 6, 15, 16, 17, 18, 19, 20, 21, 22, 23, 24, 25] (by decide +kernel) (by decide +kernel)
set_option maxRecDepth 20000 in
theorem gX2_downIn_X2_goes : GoodIn wsX2_downIn (wsV RX2 40 RX2 yX2_goes wsX2_goes) := goodIn_app (goodIn_of _ (by decide +kernel)) ggX2_downIn_X2_goes
set_option maxRecDepth 20000 in
theorem ggX2_downIn_X2_lossOf : GoodIn wsX2_downIn wsX2_lossOf := goodIn_r _ [10, 6, 15, 16, 17, 18, 19, 20, 21, 22, 23, 24, 25] (by decide +kernel) (by decide +kernel)
set_option maxRecDepth 20000 in
theorem gX2_downIn_X2_lossOf : GoodIn wsX2_downIn (wsV RX2 44 RX2 yX2_lossOf wsX2_lossOf) := goodIn_app (goodIn_of _ (by decide +kernel)) ggX2_downIn_X2_lossOf
set_option maxRecDepth 20000 in
theorem ggX2_downIn_X2_ran : GoodIn wsX2_downIn wsX2_ran := goodIn_r _ [14, 6, 15, 16, 17, 18, 19, 20, 21, 22, 23, 24, 25] (by decide +kernel) (by decide +kernel)
set_option maxRecDepth 20000 in
theorem gX2_downIn_X2_ran : GoodIn wsX2_downIn (wsV RX2 47 RX2 yX2_ran wsX2_ran) := goodIn_app (goodIn_of _ (by decide +kernel)) ggX2_downIn_X2_ran
theorem dX2_downIn_0 : decode cX2_downIn 0 = .ok (.iload_n 2, 1) := by decide +kernel
theorem dX2_downIn_1 : decode cX2_downIn 1 = .ok (.ifCond .ne 5, 3) := by decide +kernel
theorem dX2_downIn_4 : decode cX2_downIn 4 = .ok (.iconst 0, 1) := by decide +kernel
theorem dX2_downIn_5 : decode cX2_downIn 5 = .ok (.ireturn, 1) := by decide +kernel
theorem dX2_downIn_6 : decode cX2_downIn 6 = .ok (.aload_n 0, 1) := by decide +kernel
theorem dX2_downIn_7 : decode cX2_downIn 7 = .ok (.iload_n 1, 1) := by decide +kernel
theorem dX2_downIn_8 : decode cX2_downIn 8 = .ok (.invokevirtual 40, 3) := by decide +kernel
theorem dX2_downIn_11 : decode cX2_downIn 11 = .ok (.ifCond .eq 12, 3) := by decide +kernel
theorem dX2_downIn_14 : decode cX2_downIn 14 = .ok (.aload_n 0, 1) := by decide +kernel
theorem dX2_downIn_15 : decode cX2_downIn 15 = .ok (.iload_n 1, 1) := by decide +kernel
theorem dX2_downIn_16 : decode cX2_downIn 16 = .ok (.invokevirtual 44, 3) := by decide +kernel
theorem dX2_downIn_19 : decode cX2_downIn 19 = .ok (.iconst 1, 1) := by decide +kernel
theorem dX2_downIn_20 : decode cX2_downIn 20 = .ok (.if_icmp .ne 5, 3) := by decide +kernel
theorem dX2_downIn_23 : decode cX2_downIn 23 = .ok (.iconst (-1), 1) := by decide +kernel
theorem dX2_downIn_24 : decode cX2_downIn 24 = .ok (.ireturn, 1) := by decide +kernel
theorem dX2_downIn_25 : decode cX2_downIn 25 = .ok (.iload_n 2, 1) := by decide +kernel
theorem dX2_downIn_26 : decode cX2_downIn 26 = .ok (.istore_n 3, 1) := by decide +kernel
theorem dX2_downIn_27 : decode cX2_downIn 27 = .ok (.iconst 0, 1) := by decide +kernel
theorem dX2_downIn_28 : decode cX2_downIn 28 = .ok (.istore 4, 2) := by decide +kernel
theorem dX2_downIn_30 : decode cX2_downIn 30 = .ok (.iload_n 3, 1) := by decide +kernel
theorem dX2_downIn_31 : decode cX2_downIn 31 = .ok (.ifCond .le 54, 3) := by decide +kernel
theorem dX2_downIn_34 : decode cX2_downIn 34 = .ok (.iinc 4 1, 3) := by decide +kernel
theorem dX2_downIn_37 : decode cX2_downIn 37 = .ok (.aload_n 0, 1) := by decide +kernel
theorem dX2_downIn_38 : decode cX2_downIn 38 = .ok (.iload_n 1, 1) := by decide +kernel
theorem dX2_downIn_39 : decode cX2_downIn 39 = .ok (.invokevirtual 44, 3) := by decide +kernel
theorem dX2_downIn_42 : decode cX2_downIn 42 = .ok (.ifCond .le 24, 3) := by decide +kernel
theorem dX2_downIn_45 : decode cX2_downIn 45 = .ok (.aload_n 0, 1) := by decide +kernel
theorem dX2_downIn_46 : decode cX2_downIn 46 = .ok (.iload_n 1, 1) := by decide +kernel
theorem dX2_downIn_47 : decode cX2_downIn 47 = .ok (.invokevirtual 47, 3) := by decide +kernel
theorem dX2_downIn_50 : decode cX2_downIn 50 = .ok (.iload 4, 2) := by decide +kernel
theorem dX2_downIn_52 : decode cX2_downIn 52 = .ok (.iadd, 1) := by decide +kernel
theorem dX2_downIn_53 : decode cX2_downIn 53 = .ok (.aload_n 0, 1) := by decide +kernel
theorem dX2_downIn_54 : decode cX2_downIn 54 = .ok (.iload_n 1, 1) := by decide +kernel
theorem dX2_downIn_55 : decode cX2_downIn 55 = .ok (.invokevirtual 44, 3) := by decide +kernel
theorem dX2_downIn_58 : decode cX2_downIn 58 = .ok (.irem, 1) := by decide +kernel
theorem dX2_downIn_59 : decode cX2_downIn 59 = .ok (.ifCond .ne 7, 3) := by decide +kernel
theorem dX2_downIn_62 : decode cX2_downIn 62 = .ok (.iconst 1, 1) := by decide +kernel
theorem dX2_downIn_63 : decode cX2_downIn 63 = .ok (.goto 4, 3) := by decide +kernel
theorem dX2_downIn_66 : decode cX2_downIn 66 = .ok (.iconst 0, 1) := by decide +kernel
theorem dX2_downIn_67 : decode cX2_downIn 67 = .ok (.istore 5, 2) := by decide +kernel
theorem dX2_downIn_69 : decode cX2_downIn 69 = .ok (.iload_n 3, 1) := by decide +kernel
theorem dX2_downIn_70 : decode cX2_downIn 70 = .ok (.iload 5, 2) := by decide +kernel
theorem dX2_downIn_72 : decode cX2_downIn 72 = .ok (.ifCond .eq 7, 3) := by decide +kernel
theorem dX2_downIn_75 : decode cX2_downIn 75 = .ok (.iconst 0, 1) := by decide +kernel
theorem dX2_downIn_76 : decode cX2_downIn 76 = .ok (.goto 4, 3) := by decide +kernel
theorem dX2_downIn_79 : decode cX2_downIn 79 = .ok (.iconst 1, 1) := by decide +kernel
theorem dX2_downIn_80 : decode cX2_downIn 80 = .ok (.isub, 1) := by decide +kernel
theorem dX2_downIn_81 : decode cX2_downIn 81 = .ok (.istore_n 3, 1) := by decide +kernel
theorem dX2_downIn_82 : decode cX2_downIn 82 = .ok (.goto (-52), 3) := by decide +kernel
theorem dX2_downIn_85 : decode cX2_downIn 85 = .ok (.iload 4, 2) := by decide +kernel
theorem dX2_downIn_87 : decode cX2_downIn 87 = .ok (.ireturn, 1) := by decide +kernel
theorem dX2_waits_0 : decode cX2_waits 0 = .ok (.aload_n 0, 1) := by decide +kernel
theorem dX2_waits_1 : decode cX2_waits 1 = .ok (.getfield 7, 3) := by decide +kernel
theorem dX2_waits_4 : decode cX2_waits 4 = .ok (.bipush 14, 2) := by decide +kernel
theorem dX2_waits_6 : decode cX2_waits 6 = .ok (.iaload, 1) := by decide +kernel
theorem dX2_waits_7 : decode cX2_waits 7 = .ok (.aload_n 0, 1) := by decide +kernel
theorem dX2_waits_8 : decode cX2_waits 8 = .ok (.getfield 7, 3) := by decide +kernel
theorem dX2_waits_11 : decode cX2_waits 11 = .ok (.iconst 0, 1) := by decide +kernel
theorem dX2_waits_12 : decode cX2_waits 12 = .ok (.iaload, 1) := by decide +kernel
theorem dX2_waits_13 : decode cX2_waits 13 = .ok (.isub, 1) := by decide +kernel
theorem dX2_waits_14 : decode cX2_waits 14 = .ok (.istore_n 1, 1) := by decide +kernel
theorem dX2_waits_15 : decode cX2_waits 15 = .ok (.aload_n 0, 1) := by decide +kernel
theorem dX2_waits_16 : decode cX2_waits 16 = .ok (.getfield 7, 3) := by decide +kernel
theorem dX2_waits_19 : decode cX2_waits 19 = .ok (.bipush 11, 2) := by decide +kernel
theorem dX2_waits_21 : decode cX2_waits 21 = .ok (.iaload, 1) := by decide +kernel
theorem dX2_waits_22 : decode cX2_waits 22 = .ok (.iconst 1, 1) := by decide +kernel
theorem dX2_waits_23 : decode cX2_waits 23 = .ok (.if_icmp .ne 11, 3) := by decide +kernel
theorem dX2_waits_26 : decode cX2_waits 26 = .ok (.iload_n 1, 1) := by decide +kernel
theorem dX2_waits_27 : decode cX2_waits 27 = .ok (.ifCond .le 7, 3) := by decide +kernel
theorem dX2_waits_30 : decode cX2_waits 30 = .ok (.iload_n 1, 1) := by decide +kernel
theorem dX2_waits_31 : decode cX2_waits 31 = .ok (.goto 4, 3) := by decide +kernel
theorem dX2_waits_34 : decode cX2_waits 34 = .ok (.iconst 0, 1) := by decide +kernel
theorem dX2_waits_35 : decode cX2_waits 35 = .ok (.ireturn, 1) := by decide +kernel
set_option maxRecDepth 20000 in
theorem ggX2_opensBut_X2_hours : GoodIn wsX2_opensBut wsX2_hours := goodIn_r _ [7, 2, 28, 29, 30, 31, 32, 33, 34, 35, 36, 37, 38] (by decide +kernel) (by decide +kernel)
set_option maxRecDepth 20000 in
theorem gX2_opensBut_X2_hours : GoodIn wsX2_opensBut (wsV RX2 51 RX2 yX2_hours wsX2_hours) := goodIn_app (goodIn_of _ (by decide +kernel)) ggX2_opensBut_X2_hours
set_option maxRecDepth 20000 in
theorem ggX2_opensBut_X2_downIn : GoodIn wsX2_opensBut wsX2_downIn := goodIn_r _ [11, 12, 13, 14, 6, 15, 2, 16, 17, 18, 19, 20, 21, 22, 23, 28, 29, 30, 31, 32, 33, 34, 35, 36, 37, 38] (by decide +kernel) (by decide +kernel)
set_option maxRecDepth 20000 in
theorem gX2_opensBut_X2_downIn : GoodIn wsX2_opensBut (wsV RX2 54 RX2 yX2_downIn wsX2_downIn) := goodIn_app (goodIn_of _ (by decide +kernel)) ggX2_opensBut_X2_downIn
set_option maxRecDepth 20000 in
theorem ggX2_opensBut_X2_waits : GoodIn wsX2_opensBut wsX2_waits := goodIn_r _ [27, 2, 28, 29, 30, 31, 32, 33, 34, 35, 36, 37, 38] (by decide +kernel) (by decide +kernel)
set_option maxRecDepth 20000 in
theorem gX2_opensBut_X2_waits : GoodIn wsX2_opensBut (wsV RX2 58 RX2 yX2_waits wsX2_waits) := goodIn_app (goodIn_of _ (by decide +kernel)) ggX2_opensBut_X2_waits
theorem dX2_opensBut_0 : decode cX2_opensBut 0 = .ok (.ldc 50, 2) := by decide +kernel
theorem dX2_opensBut_2 : decode cX2_opensBut 2 = .ok (.istore_n 2, 1) := by decide +kernel
theorem dX2_opensBut_3 : decode cX2_opensBut 3 = .ok (.iconst 0, 1) := by decide +kernel
theorem dX2_opensBut_4 : decode cX2_opensBut 4 = .ok (.istore_n 3, 1) := by decide +kernel
theorem dX2_opensBut_5 : decode cX2_opensBut 5 = .ok (.iload_n 3, 1) := by decide +kernel
theorem dX2_opensBut_6 : decode cX2_opensBut 6 = .ok (.iconst 3, 1) := by decide +kernel
theorem dX2_opensBut_7 : decode cX2_opensBut 7 = .ok (.if_icmp .ge 56, 3) := by decide +kernel
theorem dX2_opensBut_10 : decode cX2_opensBut 10 = .ok (.iload_n 3, 1) := by decide +kernel
theorem dX2_opensBut_11 : decode cX2_opensBut 11 = .ok (.iload_n 1, 1) := by decide +kernel
theorem dX2_opensBut_12 : decode cX2_opensBut 12 = .ok (.if_icmp .ne 15, 3) := by decide +kernel
theorem dX2_opensBut_15 : decode cX2_opensBut 15 = .ok (.aload_n 0, 1) := by decide +kernel
theorem dX2_opensBut_16 : decode cX2_opensBut 16 = .ok (.iload_n 3, 1) := by decide +kernel
theorem dX2_opensBut_17 : decode cX2_opensBut 17 = .ok (.invokevirtual 51, 3) := by decide +kernel
theorem dX2_opensBut_20 : decode cX2_opensBut 20 = .ok (.ifCond .le 7, 3) := by decide +kernel
theorem dX2_opensBut_23 : decode cX2_opensBut 23 = .ok (.iconst (-1), 1) := by decide +kernel
theorem dX2_opensBut_24 : decode cX2_opensBut 24 = .ok (.goto 13, 3) := by decide +kernel
theorem dX2_opensBut_27 : decode cX2_opensBut 27 = .ok (.aload_n 0, 1) := by decide +kernel
theorem dX2_opensBut_28 : decode cX2_opensBut 28 = .ok (.iload_n 3, 1) := by decide +kernel
theorem dX2_opensBut_29 : decode cX2_opensBut 29 = .ok (.aload_n 0, 1) := by decide +kernel
theorem dX2_opensBut_30 : decode cX2_opensBut 30 = .ok (.iload_n 3, 1) := by decide +kernel
theorem dX2_opensBut_31 : decode cX2_opensBut 31 = .ok (.invokevirtual 51, 3) := by decide +kernel
theorem dX2_opensBut_34 : decode cX2_opensBut 34 = .ok (.invokevirtual 54, 3) := by decide +kernel
theorem dX2_opensBut_37 : decode cX2_opensBut 37 = .ok (.istore 4, 2) := by decide +kernel
theorem dX2_opensBut_39 : decode cX2_opensBut 39 = .ok (.iload 4, 2) := by decide +kernel
theorem dX2_opensBut_41 : decode cX2_opensBut 41 = .ok (.ifCond .lt 14, 3) := by decide +kernel
theorem dX2_opensBut_44 : decode cX2_opensBut 44 = .ok (.iload 4, 2) := by decide +kernel
theorem dX2_opensBut_46 : decode cX2_opensBut 46 = .ok (.iload_n 2, 1) := by decide +kernel
theorem dX2_opensBut_47 : decode cX2_opensBut 47 = .ok (.if_icmp .ge 8, 3) := by decide +kernel
theorem dX2_opensBut_50 : decode cX2_opensBut 50 = .ok (.iload 4, 2) := by decide +kernel
theorem dX2_opensBut_52 : decode cX2_opensBut 52 = .ok (.goto 4, 3) := by decide +kernel
theorem dX2_opensBut_55 : decode cX2_opensBut 55 = .ok (.iload_n 2, 1) := by decide +kernel
theorem dX2_opensBut_56 : decode cX2_opensBut 56 = .ok (.istore_n 2, 1) := by decide +kernel
theorem dX2_opensBut_57 : decode cX2_opensBut 57 = .ok (.iinc 3 1, 3) := by decide +kernel
theorem dX2_opensBut_60 : decode cX2_opensBut 60 = .ok (.goto (-55), 3) := by decide +kernel
theorem dX2_opensBut_63 : decode cX2_opensBut 63 = .ok (.aload_n 0, 1) := by decide +kernel
theorem dX2_opensBut_64 : decode cX2_opensBut 64 = .ok (.getfield 7, 3) := by decide +kernel
theorem dX2_opensBut_67 : decode cX2_opensBut 67 = .ok (.bipush 11, 2) := by decide +kernel
theorem dX2_opensBut_69 : decode cX2_opensBut 69 = .ok (.iaload, 1) := by decide +kernel
theorem dX2_opensBut_70 : decode cX2_opensBut 70 = .ok (.ifCond .eq 9, 3) := by decide +kernel
theorem dX2_opensBut_73 : decode cX2_opensBut 73 = .ok (.iload_n 2, 1) := by decide +kernel
theorem dX2_opensBut_74 : decode cX2_opensBut 74 = .ok (.ldc 50, 2) := by decide +kernel
theorem dX2_opensBut_76 : decode cX2_opensBut 76 = .ok (.if_icmp .ne 5, 3) := by decide +kernel
theorem dX2_opensBut_79 : decode cX2_opensBut 79 = .ok (.iconst (-1), 1) := by decide +kernel
theorem dX2_opensBut_80 : decode cX2_opensBut 80 = .ok (.ireturn, 1) := by decide +kernel
theorem dX2_opensBut_81 : decode cX2_opensBut 81 = .ok (.iload_n 2, 1) := by decide +kernel
theorem dX2_opensBut_82 : decode cX2_opensBut 82 = .ok (.aload_n 0, 1) := by decide +kernel
theorem dX2_opensBut_83 : decode cX2_opensBut 83 = .ok (.invokevirtual 58, 3) := by decide +kernel
theorem dX2_opensBut_86 : decode cX2_opensBut 86 = .ok (.if_icmp .le 7, 3) := by decide +kernel
theorem dX2_opensBut_89 : decode cX2_opensBut 89 = .ok (.iload_n 2, 1) := by decide +kernel
theorem dX2_opensBut_90 : decode cX2_opensBut 90 = .ok (.goto 7, 3) := by decide +kernel
theorem dX2_opensBut_93 : decode cX2_opensBut 93 = .ok (.aload_n 0, 1) := by decide +kernel
theorem dX2_opensBut_94 : decode cX2_opensBut 94 = .ok (.invokevirtual 58, 3) := by decide +kernel
theorem dX2_opensBut_97 : decode cX2_opensBut 97 = .ok (.ireturn, 1) := by decide +kernel
set_option maxRecDepth 20000 in
theorem ggX2_hourGoes_X2_goes : GoodIn wsX2_hourGoes wsX2_goes := goodIn_r _ [6, 1, 19, 20, 21, 22, 23, 24, 25, 26, 27, 28, 29] (by decide +kernel) (by decide +kernel)
set_option maxRecDepth 20000 in
theorem gX2_hourGoes_X2_goes : GoodIn wsX2_hourGoes (wsV RX2 40 RX2 yX2_goes wsX2_goes) := goodIn_app (goodIn_of _ (by decide +kernel)) ggX2_hourGoes_X2_goes
set_option maxRecDepth 20000 in
theorem ggX2_hourGoes_X2_hours : GoodIn wsX2_hourGoes wsX2_hours := goodIn_r _ [10, 1, 19, 20, 21, 22, 23, 24, 25, 26, 27, 28, 29] (by decide +kernel) (by decide +kernel)
set_option maxRecDepth 20000 in
theorem gX2_hourGoes_X2_hours : GoodIn wsX2_hourGoes (wsV RX2 51 RX2 yX2_hours wsX2_hours) := goodIn_app (goodIn_of _ (by decide +kernel)) ggX2_hourGoes_X2_hours
set_option maxRecDepth 20000 in
theorem ggX2_hourGoes_X2_lossOf : GoodIn wsX2_hourGoes wsX2_lossOf := goodIn_r _ [14, 1, 19, 20, 21, 22, 23, 24, 25, 26, 27, 28, 29] (by decide +kernel) (by decide +kernel)
set_option maxRecDepth 20000 in
theorem gX2_hourGoes_X2_lossOf : GoodIn wsX2_hourGoes (wsV RX2 44 RX2 yX2_lossOf wsX2_lossOf) := goodIn_app (goodIn_of _ (by decide +kernel)) ggX2_hourGoes_X2_lossOf
set_option maxRecDepth 20000 in
theorem ggX2_hourGoes_X2_ran : GoodIn wsX2_hourGoes wsX2_ran := goodIn_r _ [18, 1, 19, 20, 21, 22, 23, 24, 25, 26, 27, 28, 29] (by decide +kernel) (by decide +kernel)
set_option maxRecDepth 20000 in
theorem gX2_hourGoes_X2_ran : GoodIn wsX2_hourGoes (wsV RX2 47 RX2 yX2_ran wsX2_ran) := goodIn_app (goodIn_of _ (by decide +kernel)) ggX2_hourGoes_X2_ran
theorem dX2_hourGoes_0 : decode cX2_hourGoes 0 = .ok (.iconst 0, 1) := by decide +kernel
theorem dX2_hourGoes_1 : decode cX2_hourGoes 1 = .ok (.istore_n 1, 1) := by decide +kernel
theorem dX2_hourGoes_2 : decode cX2_hourGoes 2 = .ok (.iload_n 1, 1) := by decide +kernel
theorem dX2_hourGoes_3 : decode cX2_hourGoes 3 = .ok (.iconst 3, 1) := by decide +kernel
theorem dX2_hourGoes_4 : decode cX2_hourGoes 4 = .ok (.if_icmp .ge 104, 3) := by decide +kernel
theorem dX2_hourGoes_7 : decode cX2_hourGoes 7 = .ok (.aload_n 0, 1) := by decide +kernel
theorem dX2_hourGoes_8 : decode cX2_hourGoes 8 = .ok (.getfield 7, 3) := by decide +kernel
theorem dX2_hourGoes_11 : decode cX2_hourGoes 11 = .ok (.bipush 11, 2) := by decide +kernel
theorem dX2_hourGoes_13 : decode cX2_hourGoes 13 = .ok (.iaload, 1) := by decide +kernel
theorem dX2_hourGoes_14 : decode cX2_hourGoes 14 = .ok (.iconst 1, 1) := by decide +kernel
theorem dX2_hourGoes_15 : decode cX2_hourGoes 15 = .ok (.if_icmp .ne 93, 3) := by decide +kernel
theorem dX2_hourGoes_18 : decode cX2_hourGoes 18 = .ok (.aload_n 0, 1) := by decide +kernel
theorem dX2_hourGoes_19 : decode cX2_hourGoes 19 = .ok (.iload_n 1, 1) := by decide +kernel
theorem dX2_hourGoes_20 : decode cX2_hourGoes 20 = .ok (.invokevirtual 40, 3) := by decide +kernel
theorem dX2_hourGoes_23 : decode cX2_hourGoes 23 = .ok (.ifCond .eq 79, 3) := by decide +kernel
theorem dX2_hourGoes_26 : decode cX2_hourGoes 26 = .ok (.aload_n 0, 1) := by decide +kernel
theorem dX2_hourGoes_27 : decode cX2_hourGoes 27 = .ok (.iload_n 1, 1) := by decide +kernel
theorem dX2_hourGoes_28 : decode cX2_hourGoes 28 = .ok (.invokevirtual 51, 3) := by decide +kernel
theorem dX2_hourGoes_31 : decode cX2_hourGoes 31 = .ok (.ifCond .le 71, 3) := by decide +kernel
theorem dX2_hourGoes_34 : decode cX2_hourGoes 34 = .ok (.aload_n 0, 1) := by decide +kernel
theorem dX2_hourGoes_35 : decode cX2_hourGoes 35 = .ok (.getfield 7, 3) := by decide +kernel
theorem dX2_hourGoes_38 : decode cX2_hourGoes 38 = .ok (.bipush 21, 2) := by decide +kernel
theorem dX2_hourGoes_40 : decode cX2_hourGoes 40 = .ok (.iconst 4, 1) := by decide +kernel
theorem dX2_hourGoes_41 : decode cX2_hourGoes 41 = .ok (.iload_n 1, 1) := by decide +kernel
theorem dX2_hourGoes_42 : decode cX2_hourGoes 42 = .ok (.imul, 1) := by decide +kernel
theorem dX2_hourGoes_43 : decode cX2_hourGoes 43 = .ok (.iadd, 1) := by decide +kernel
theorem dX2_hourGoes_44 : decode cX2_hourGoes 44 = .ok (.iconst 3, 1) := by decide +kernel
theorem dX2_hourGoes_45 : decode cX2_hourGoes 45 = .ok (.iadd, 1) := by decide +kernel
theorem dX2_hourGoes_46 : decode cX2_hourGoes 46 = .ok (.dup2, 1) := by decide +kernel
theorem dX2_hourGoes_47 : decode cX2_hourGoes 47 = .ok (.iaload, 1) := by decide +kernel
theorem dX2_hourGoes_48 : decode cX2_hourGoes 48 = .ok (.iconst 1, 1) := by decide +kernel
theorem dX2_hourGoes_49 : decode cX2_hourGoes 49 = .ok (.iadd, 1) := by decide +kernel
theorem dX2_hourGoes_50 : decode cX2_hourGoes 50 = .ok (.iastore, 1) := by decide +kernel
theorem dX2_hourGoes_51 : decode cX2_hourGoes 51 = .ok (.aload_n 0, 1) := by decide +kernel
theorem dX2_hourGoes_52 : decode cX2_hourGoes 52 = .ok (.iload_n 1, 1) := by decide +kernel
theorem dX2_hourGoes_53 : decode cX2_hourGoes 53 = .ok (.invokevirtual 44, 3) := by decide +kernel
theorem dX2_hourGoes_56 : decode cX2_hourGoes 56 = .ok (.ifCond .le 21, 3) := by decide +kernel
theorem dX2_hourGoes_59 : decode cX2_hourGoes 59 = .ok (.aload_n 0, 1) := by decide +kernel
theorem dX2_hourGoes_60 : decode cX2_hourGoes 60 = .ok (.iload_n 1, 1) := by decide +kernel
theorem dX2_hourGoes_61 : decode cX2_hourGoes 61 = .ok (.invokevirtual 47, 3) := by decide +kernel
theorem dX2_hourGoes_64 : decode cX2_hourGoes 64 = .ok (.aload_n 0, 1) := by decide +kernel
theorem dX2_hourGoes_65 : decode cX2_hourGoes 65 = .ok (.iload_n 1, 1) := by decide +kernel
theorem dX2_hourGoes_66 : decode cX2_hourGoes 66 = .ok (.invokevirtual 44, 3) := by decide +kernel
theorem dX2_hourGoes_69 : decode cX2_hourGoes 69 = .ok (.irem, 1) := by decide +kernel
theorem dX2_hourGoes_70 : decode cX2_hourGoes 70 = .ok (.ifCond .ne 7, 3) := by decide +kernel
theorem dX2_hourGoes_73 : decode cX2_hourGoes 73 = .ok (.iconst 1, 1) := by decide +kernel
theorem dX2_hourGoes_74 : decode cX2_hourGoes 74 = .ok (.goto 4, 3) := by decide +kernel
theorem dX2_hourGoes_77 : decode cX2_hourGoes 77 = .ok (.iconst 0, 1) := by decide +kernel
theorem dX2_hourGoes_78 : decode cX2_hourGoes 78 = .ok (.istore_n 2, 1) := by decide +kernel
theorem dX2_hourGoes_79 : decode cX2_hourGoes 79 = .ok (.aload_n 0, 1) := by decide +kernel
theorem dX2_hourGoes_80 : decode cX2_hourGoes 80 = .ok (.getfield 7, 3) := by decide +kernel
theorem dX2_hourGoes_83 : decode cX2_hourGoes 83 = .ok (.bipush 21, 2) := by decide +kernel
theorem dX2_hourGoes_85 : decode cX2_hourGoes 85 = .ok (.iconst 4, 1) := by decide +kernel
theorem dX2_hourGoes_86 : decode cX2_hourGoes 86 = .ok (.iload_n 1, 1) := by decide +kernel
theorem dX2_hourGoes_87 : decode cX2_hourGoes 87 = .ok (.imul, 1) := by decide +kernel
theorem dX2_hourGoes_88 : decode cX2_hourGoes 88 = .ok (.iadd, 1) := by decide +kernel
theorem dX2_hourGoes_89 : decode cX2_hourGoes 89 = .ok (.dup2, 1) := by decide +kernel
theorem dX2_hourGoes_90 : decode cX2_hourGoes 90 = .ok (.iaload, 1) := by decide +kernel
theorem dX2_hourGoes_91 : decode cX2_hourGoes 91 = .ok (.iload_n 2, 1) := by decide +kernel
theorem dX2_hourGoes_92 : decode cX2_hourGoes 92 = .ok (.ifCond .eq 7, 3) := by decide +kernel
theorem dX2_hourGoes_95 : decode cX2_hourGoes 95 = .ok (.iconst 0, 1) := by decide +kernel
theorem dX2_hourGoes_96 : decode cX2_hourGoes 96 = .ok (.goto 4, 3) := by decide +kernel
theorem dX2_hourGoes_99 : decode cX2_hourGoes 99 = .ok (.iconst 1, 1) := by decide +kernel
theorem dX2_hourGoes_100 : decode cX2_hourGoes 100 = .ok (.isub, 1) := by decide +kernel
theorem dX2_hourGoes_101 : decode cX2_hourGoes 101 = .ok (.iastore, 1) := by decide +kernel
theorem dX2_hourGoes_102 : decode cX2_hourGoes 102 = .ok (.iinc 1 1, 3) := by decide +kernel
theorem dX2_hourGoes_105 : decode cX2_hourGoes 105 = .ok (.goto (-103), 3) := by decide +kernel
theorem dX2_hourGoes_108 : decode cX2_hourGoes 108 = .ok (.aload_n 0, 1) := by decide +kernel
theorem dX2_hourGoes_109 : decode cX2_hourGoes 109 = .ok (.getfield 7, 3) := by decide +kernel
theorem dX2_hourGoes_112 : decode cX2_hourGoes 112 = .ok (.iconst 0, 1) := by decide +kernel
theorem dX2_hourGoes_113 : decode cX2_hourGoes 113 = .ok (.dup2, 1) := by decide +kernel
theorem dX2_hourGoes_114 : decode cX2_hourGoes 114 = .ok (.iaload, 1) := by decide +kernel
theorem dX2_hourGoes_115 : decode cX2_hourGoes 115 = .ok (.iconst 1, 1) := by decide +kernel
theorem dX2_hourGoes_116 : decode cX2_hourGoes 116 = .ok (.iadd, 1) := by decide +kernel
theorem dX2_hourGoes_117 : decode cX2_hourGoes 117 = .ok (.iastore, 1) := by decide +kernel
theorem dX2_hourGoes_118 : decode cX2_hourGoes 118 = .ok (.return_, 1) := by decide +kernel
theorem dX2_changes_0 : decode cX2_changes 0 = .ok (.aload_n 0, 1) := by decide +kernel
theorem dX2_changes_1 : decode cX2_changes 1 = .ok (.getfield 7, 3) := by decide +kernel
theorem dX2_changes_4 : decode cX2_changes 4 = .ok (.iload_n 1, 1) := by decide +kernel
theorem dX2_changes_5 : decode cX2_changes 5 = .ok (.iaload, 1) := by decide +kernel
theorem dX2_changes_6 : decode cX2_changes 6 = .ok (.istore_n 3, 1) := by decide +kernel
theorem dX2_changes_7 : decode cX2_changes 7 = .ok (.aload_n 0, 1) := by decide +kernel
theorem dX2_changes_8 : decode cX2_changes 8 = .ok (.getfield 7, 3) := by decide +kernel
theorem dX2_changes_11 : decode cX2_changes 11 = .ok (.iload_n 1, 1) := by decide +kernel
theorem dX2_changes_12 : decode cX2_changes 12 = .ok (.iload_n 2, 1) := by decide +kernel
theorem dX2_changes_13 : decode cX2_changes 13 = .ok (.iastore, 1) := by decide +kernel
theorem dX2_changes_14 : decode cX2_changes 14 = .ok (.iload_n 3, 1) := by decide +kernel
theorem dX2_changes_15 : decode cX2_changes 15 = .ok (.ireturn, 1) := by decide +kernel
set_option maxRecDepth 20000 in
theorem ggX2_opening_X2_isDay : GoodIn wsX2_opening wsX2_isDay := goodIn_r _ [5, 6, 7, 4, 8] (by decide +kernel) (by decide +kernel)
set_option maxRecDepth 20000 in
theorem gX2_opening_X2_isDay : GoodIn wsX2_opening (va_wsS RX2 62 yX2_isDay wsX2_isDay) := goodIn_app (goodIn_of _ (by decide +kernel)) ggX2_opening_X2_isDay
set_option maxRecDepth 20000 in
theorem ggX2_opening_X2_fails : GoodIn wsX2_opening wsX2_fails := goodIn_r _ [12, 1, 24, 25, 26, 27, 28, 29, 30, 31, 32, 33, 34] (by decide +kernel) (by decide +kernel)
set_option maxRecDepth 20000 in
theorem gX2_opening_X2_fails : GoodIn wsX2_opening (wsV RX2 36 RX2 yX2_fails wsX2_fails) := goodIn_app (goodIn_of _ (by decide +kernel)) ggX2_opening_X2_fails
set_option maxRecDepth 20000 in
theorem ggX2_opening_X2_in : GoodIn wsX2_opening wsX2_in := goodIn_r _ [8] (by decide +kernel) (by decide +kernel)
set_option maxRecDepth 20000 in
theorem gX2_opening_X2_in : GoodIn wsX2_opening (va_wsS RX2 29 yX2_in wsX2_in) := goodIn_app (goodIn_of _ (by decide +kernel)) ggX2_opening_X2_in
set_option maxRecDepth 20000 in
theorem ggX2_opening_X2_saves : GoodIn wsX2_opening wsX2_saves := goodIn_r _ [16, 17, 18, 19, 24, 25, 26, 27, 28, 29, 30, 31, 32, 33, 34] (by decide +kernel) (by decide +kernel)
set_option maxRecDepth 20000 in
theorem gX2_opening_X2_saves : GoodIn wsX2_opening (wsV RX2 65 RX2 yX2_saves wsX2_saves) := goodIn_app (goodIn_of _ (by decide +kernel)) ggX2_opening_X2_saves
set_option maxRecDepth 20000 in
theorem ggX2_opening_X2_changes : GoodIn wsX2_opening wsX2_changes := goodIn_r _ [23, 19, 24, 25, 26, 27, 28, 29, 30, 31, 32, 33, 34] (by decide +kernel) (by decide +kernel)
set_option maxRecDepth 20000 in
theorem gX2_opening_X2_changes : GoodIn wsX2_opening (wsV RX2 68 RX2 yX2_changes wsX2_changes) := goodIn_app (goodIn_of _ (by decide +kernel)) ggX2_opening_X2_changes
theorem dX2_opening_0 : decode cX2_opening 0 = .ok (.aload_n 0, 1) := by decide +kernel
theorem dX2_opening_1 : decode cX2_opening 1 = .ok (.iconst 0, 1) := by decide +kernel
theorem dX2_opening_2 : decode cX2_opening 2 = .ok (.putfield 25, 3) := by decide +kernel
theorem dX2_opening_5 : decode cX2_opening 5 = .ok (.iload_n 1, 1) := by decide +kernel
theorem dX2_opening_6 : decode cX2_opening 6 = .ok (.invokestatic 62, 3) := by decide +kernel
theorem dX2_opening_9 : decode cX2_opening 9 = .ok (.ifCond .ne 9, 3) := by decide +kernel
theorem dX2_opening_12 : decode cX2_opening 12 = .ok (.aload_n 0, 1) := by decide +kernel
theorem dX2_opening_13 : decode cX2_opening 13 = .ok (.iconst 1, 1) := by decide +kernel
theorem dX2_opening_14 : decode cX2_opening 14 = .ok (.invokevirtual 36, 3) := by decide +kernel
theorem dX2_opening_17 : decode cX2_opening 17 = .ok (.ireturn, 1) := by decide +kernel
theorem dX2_opening_18 : decode cX2_opening 18 = .ok (.iload_n 2, 1) := by decide +kernel
theorem dX2_opening_19 : decode cX2_opening 19 = .ok (.iconst (-1), 1) := by decide +kernel
theorem dX2_opening_20 : decode cX2_opening 20 = .ok (.bipush 23, 2) := by decide +kernel
theorem dX2_opening_22 : decode cX2_opening 22 = .ok (.invokestatic 29, 3) := by decide +kernel
theorem dX2_opening_25 : decode cX2_opening 25 = .ok (.ifCond .ne 9, 3) := by decide +kernel
theorem dX2_opening_28 : decode cX2_opening 28 = .ok (.aload_n 0, 1) := by decide +kernel
theorem dX2_opening_29 : decode cX2_opening 29 = .ok (.iconst 2, 1) := by decide +kernel
theorem dX2_opening_30 : decode cX2_opening 30 = .ok (.invokevirtual 36, 3) := by decide +kernel
theorem dX2_opening_33 : decode cX2_opening 33 = .ok (.ireturn, 1) := by decide +kernel
theorem dX2_opening_34 : decode cX2_opening 34 = .ok (.aload_n 0, 1) := by decide +kernel
theorem dX2_opening_35 : decode cX2_opening 35 = .ok (.invokevirtual 65, 3) := by decide +kernel
theorem dX2_opening_38 : decode cX2_opening 38 = .ok (.aload_n 0, 1) := by decide +kernel
theorem dX2_opening_39 : decode cX2_opening 39 = .ok (.iconst 1, 1) := by decide +kernel
theorem dX2_opening_40 : decode cX2_opening 40 = .ok (.iload_n 1, 1) := by decide +kernel
theorem dX2_opening_41 : decode cX2_opening 41 = .ok (.iadd, 1) := by decide +kernel
theorem dX2_opening_42 : decode cX2_opening 42 = .ok (.iload_n 2, 1) := by decide +kernel
theorem dX2_opening_43 : decode cX2_opening 43 = .ok (.invokevirtual 68, 3) := by decide +kernel
theorem dX2_opening_46 : decode cX2_opening 46 = .ok (.ireturn, 1) := by decide +kernel
set_option maxRecDepth 20000 in
theorem ggX2_isFor_X2_in : GoodIn wsX2_isFor wsX2_in := goodIn_r _ [4] (by decide +kernel) (by decide +kernel)
set_option maxRecDepth 20000 in
theorem gX2_isFor_X2_in : GoodIn wsX2_isFor (va_wsS RX2 29 yX2_in wsX2_in) := goodIn_app (goodIn_of _ (by decide +kernel)) ggX2_isFor_X2_in
theorem dX2_isFor_0 : decode cX2_isFor 0 = .ok (.iload_n 0, 1) := by decide +kernel
theorem dX2_isFor_1 : decode cX2_isFor 1 = .ok (.ifCond .ne 13, 3) := by decide +kernel
theorem dX2_isFor_4 : decode cX2_isFor 4 = .ok (.iload_n 1, 1) := by decide +kernel
theorem dX2_isFor_5 : decode cX2_isFor 5 = .ok (.iconst 1, 1) := by decide +kernel
theorem dX2_isFor_6 : decode cX2_isFor 6 = .ok (.bipush 9, 2) := by decide +kernel
theorem dX2_isFor_8 : decode cX2_isFor 8 = .ok (.invokestatic 29, 3) := by decide +kernel
theorem dX2_isFor_11 : decode cX2_isFor 11 = .ok (.goto 27, 3) := by decide +kernel
theorem dX2_isFor_14 : decode cX2_isFor 14 = .ok (.iload_n 0, 1) := by decide +kernel
theorem dX2_isFor_15 : decode cX2_isFor 15 = .ok (.iconst 1, 1) := by decide +kernel
theorem dX2_isFor_16 : decode cX2_isFor 16 = .ok (.if_icmp .ne 13, 3) := by decide +kernel
theorem dX2_isFor_19 : decode cX2_isFor 19 = .ok (.iload_n 1, 1) := by decide +kernel
theorem dX2_isFor_20 : decode cX2_isFor 20 = .ok (.iconst 1, 1) := by decide +kernel
theorem dX2_isFor_21 : decode cX2_isFor 21 = .ok (.bipush 24, 2) := by decide +kernel
theorem dX2_isFor_23 : decode cX2_isFor 23 = .ok (.invokestatic 29, 3) := by decide +kernel
theorem dX2_isFor_26 : decode cX2_isFor 26 = .ok (.goto 12, 3) := by decide +kernel
theorem dX2_isFor_29 : decode cX2_isFor 29 = .ok (.iload_n 1, 1) := by decide +kernel
theorem dX2_isFor_30 : decode cX2_isFor 30 = .ok (.bipush 10, 2) := by decide +kernel
theorem dX2_isFor_32 : decode cX2_isFor 32 = .ok (.sipush 5000, 3) := by decide +kernel
theorem dX2_isFor_35 : decode cX2_isFor 35 = .ok (.invokestatic 29, 3) := by decide +kernel
theorem dX2_isFor_38 : decode cX2_isFor 38 = .ok (.ireturn, 1) := by decide +kernel
set_option maxRecDepth 20000 in
theorem ggX2_set_X2_in : GoodIn wsX2_set wsX2_in := goodIn_r _ [5] (by decide +kernel) (by decide +kernel)
set_option maxRecDepth 20000 in
theorem gX2_set_X2_in : GoodIn wsX2_set (va_wsS RX2 29 yX2_in wsX2_in) := goodIn_app (goodIn_of _ (by decide +kernel)) ggX2_set_X2_in
set_option maxRecDepth 20000 in
theorem ggX2_set_X2_fails : GoodIn wsX2_set wsX2_fails := goodIn_r _ [9, 1, 24, 25, 26, 27, 28, 29, 30, 31, 32, 33, 34] (by decide +kernel) (by decide +kernel)
set_option maxRecDepth 20000 in
theorem gX2_set_X2_fails : GoodIn wsX2_set (wsV RX2 36 RX2 yX2_fails wsX2_fails) := goodIn_app (goodIn_of _ (by decide +kernel)) ggX2_set_X2_fails
set_option maxRecDepth 20000 in
theorem ggX2_set_X2_isFor : GoodIn wsX2_set wsX2_isFor := goodIn_r _ [12, 2, 3, 4, 5] (by decide +kernel) (by decide +kernel)
set_option maxRecDepth 20000 in
theorem gX2_set_X2_isFor : GoodIn wsX2_set (va_wsS RX2 71 yX2_isFor wsX2_isFor) := goodIn_app (goodIn_of _ (by decide +kernel)) ggX2_set_X2_isFor
set_option maxRecDepth 20000 in
theorem ggX2_set_X2_saves : GoodIn wsX2_set wsX2_saves := goodIn_r _ [16, 17, 18, 19, 24, 25, 26, 27, 28, 29, 30, 31, 32, 33, 34] (by decide +kernel) (by decide +kernel)
set_option maxRecDepth 20000 in
theorem gX2_set_X2_saves : GoodIn wsX2_set (wsV RX2 65 RX2 yX2_saves wsX2_saves) := goodIn_app (goodIn_of _ (by decide +kernel)) ggX2_set_X2_saves
set_option maxRecDepth 20000 in
theorem ggX2_set_X2_changes : GoodIn wsX2_set wsX2_changes := goodIn_r _ [23, 19, 24, 25, 26, 27, 28, 29, 30, 31, 32, 33, 34] (by decide +kernel) (by decide +kernel)
set_option maxRecDepth 20000 in
theorem gX2_set_X2_changes : GoodIn wsX2_set (wsV RX2 68 RX2 yX2_changes wsX2_changes) := goodIn_app (goodIn_of _ (by decide +kernel)) ggX2_set_X2_changes
theorem dX2_set_0 : decode cX2_set 0 = .ok (.aload_n 0, 1) := by decide +kernel
theorem dX2_set_1 : decode cX2_set 1 = .ok (.iconst 0, 1) := by decide +kernel
theorem dX2_set_2 : decode cX2_set 2 = .ok (.putfield 25, 3) := by decide +kernel
theorem dX2_set_5 : decode cX2_set 5 = .ok (.iload_n 1, 1) := by decide +kernel
theorem dX2_set_6 : decode cX2_set 6 = .ok (.iconst 0, 1) := by decide +kernel
theorem dX2_set_7 : decode cX2_set 7 = .ok (.iconst 2, 1) := by decide +kernel
theorem dX2_set_8 : decode cX2_set 8 = .ok (.invokestatic 29, 3) := by decide +kernel
theorem dX2_set_11 : decode cX2_set 11 = .ok (.ifCond .ne 9, 3) := by decide +kernel
theorem dX2_set_14 : decode cX2_set 14 = .ok (.aload_n 0, 1) := by decide +kernel
theorem dX2_set_15 : decode cX2_set 15 = .ok (.iconst 1, 1) := by decide +kernel
end
section
theorem dX2_set_16 : decode cX2_set 16 = .ok (.invokevirtual 36, 3) := by decide +kernel
theorem dX2_set_19 : decode cX2_set 19 = .ok (.ireturn, 1) := by decide +kernel
theorem dX2_set_20 : decode cX2_set 20 = .ok (.iload_n 1, 1) := by decide +kernel
theorem dX2_set_21 : decode cX2_set 21 = .ok (.iload_n 2, 1) := by decide +kernel
theorem dX2_set_22 : decode cX2_set 22 = .ok (.invokestatic 71, 3) := by decide +kernel
theorem dX2_set_25 : decode cX2_set 25 = .ok (.ifCond .ne 9, 3) := by decide +kernel
theorem dX2_set_28 : decode cX2_set 28 = .ok (.aload_n 0, 1) := by decide +kernel
theorem dX2_set_29 : decode cX2_set 29 = .ok (.iconst 2, 1) := by decide +kernel
theorem dX2_set_30 : decode cX2_set 30 = .ok (.invokevirtual 36, 3) := by decide +kernel
theorem dX2_set_33 : decode cX2_set 33 = .ok (.ireturn, 1) := by decide +kernel
theorem dX2_set_34 : decode cX2_set 34 = .ok (.aload_n 0, 1) := by decide +kernel
theorem dX2_set_35 : decode cX2_set 35 = .ok (.invokevirtual 65, 3) := by decide +kernel
theorem dX2_set_38 : decode cX2_set 38 = .ok (.aload_n 0, 1) := by decide +kernel
theorem dX2_set_39 : decode cX2_set 39 = .ok (.bipush 8, 2) := by decide +kernel
theorem dX2_set_41 : decode cX2_set 41 = .ok (.iload_n 1, 1) := by decide +kernel
theorem dX2_set_42 : decode cX2_set 42 = .ok (.iadd, 1) := by decide +kernel
theorem dX2_set_43 : decode cX2_set 43 = .ok (.iload_n 2, 1) := by decide +kernel
theorem dX2_set_44 : decode cX2_set 44 = .ok (.invokevirtual 68, 3) := by decide +kernel
theorem dX2_set_47 : decode cX2_set 47 = .ok (.ireturn, 1) := by decide +kernel
set_option maxRecDepth 20000 in
theorem ggX2_wind_X2_isMovement : GoodIn wsX2_wind wsX2_isMovement := goodIn_r _ [6, 7, 8, 5, 9] (by decide +kernel) (by decide +kernel)
set_option maxRecDepth 20000 in
theorem gX2_wind_X2_isMovement : GoodIn wsX2_wind (va_wsS RX2 75 yX2_isMovement wsX2_isMovement) := goodIn_app (goodIn_of _ (by decide +kernel)) ggX2_wind_X2_isMovement
set_option maxRecDepth 20000 in
theorem ggX2_wind_X2_fails : GoodIn wsX2_wind wsX2_fails := goodIn_r _ [13, 1, 28, 29, 30, 31, 32, 33, 34, 35, 36, 37, 38] (by decide +kernel) (by decide +kernel)
set_option maxRecDepth 20000 in
theorem gX2_wind_X2_fails : GoodIn wsX2_wind (wsV RX2 36 RX2 yX2_fails wsX2_fails) := goodIn_app (goodIn_of _ (by decide +kernel)) ggX2_wind_X2_fails
set_option maxRecDepth 20000 in
theorem ggX2_wind_X2_in : GoodIn wsX2_wind wsX2_in := goodIn_r _ [9] (by decide +kernel) (by decide +kernel)
set_option maxRecDepth 20000 in
theorem gX2_wind_X2_in : GoodIn wsX2_wind (va_wsS RX2 29 yX2_in wsX2_in) := goodIn_app (goodIn_of _ (by decide +kernel)) ggX2_wind_X2_in
set_option maxRecDepth 20000 in
theorem ggX2_wind_X2_goes : GoodIn wsX2_wind wsX2_goes := goodIn_r _ [17, 2, 28, 29, 30, 31, 32, 33, 34, 35, 36, 37, 38] (by decide +kernel) (by decide +kernel)
set_option maxRecDepth 20000 in
theorem gX2_wind_X2_goes : GoodIn wsX2_wind (wsV RX2 40 RX2 yX2_goes wsX2_goes) := goodIn_app (goodIn_of _ (by decide +kernel)) ggX2_wind_X2_goes
set_option maxRecDepth 20000 in
theorem ggX2_wind_X2_saves : GoodIn wsX2_wind wsX2_saves := goodIn_r _ [21, 22, 23, 2, 28, 29, 30, 31, 32, 33, 34, 35, 36, 37, 38] (by decide +kernel) (by decide +kernel)
set_option maxRecDepth 20000 in
theorem gX2_wind_X2_saves : GoodIn wsX2_wind (wsV RX2 65 RX2 yX2_saves wsX2_saves) := goodIn_app (goodIn_of _ (by decide +kernel)) ggX2_wind_X2_saves
set_option maxRecDepth 20000 in
theorem ggX2_wind_X2_changes : GoodIn wsX2_wind wsX2_changes := goodIn_r _ [27, 2, 28, 29, 30, 31, 32, 33, 34, 35, 36, 37, 38] (by decide +kernel) (by decide +kernel)
set_option maxRecDepth 20000 in
theorem gX2_wind_X2_changes : GoodIn wsX2_wind (wsV RX2 68 RX2 yX2_changes wsX2_changes) := goodIn_app (goodIn_of _ (by decide +kernel)) ggX2_wind_X2_changes
theorem dX2_wind_0 : decode cX2_wind 0 = .ok (.aload_n 0, 1) := by decide +kernel
theorem dX2_wind_1 : decode cX2_wind 1 = .ok (.iconst 0, 1) := by decide +kernel
theorem dX2_wind_2 : decode cX2_wind 2 = .ok (.putfield 25, 3) := by decide +kernel
theorem dX2_wind_5 : decode cX2_wind 5 = .ok (.iload_n 1, 1) := by decide +kernel
theorem dX2_wind_6 : decode cX2_wind 6 = .ok (.invokestatic 75, 3) := by decide +kernel
theorem dX2_wind_9 : decode cX2_wind 9 = .ok (.ifCond .ne 9, 3) := by decide +kernel
theorem dX2_wind_12 : decode cX2_wind 12 = .ok (.aload_n 0, 1) := by decide +kernel
theorem dX2_wind_13 : decode cX2_wind 13 = .ok (.iconst 1, 1) := by decide +kernel
theorem dX2_wind_14 : decode cX2_wind 14 = .ok (.invokevirtual 36, 3) := by decide +kernel
theorem dX2_wind_17 : decode cX2_wind 17 = .ok (.ireturn, 1) := by decide +kernel
theorem dX2_wind_18 : decode cX2_wind 18 = .ok (.iload_n 2, 1) := by decide +kernel
theorem dX2_wind_19 : decode cX2_wind 19 = .ok (.iconst 1, 1) := by decide +kernel
theorem dX2_wind_20 : decode cX2_wind 20 = .ok (.sipush 200, 3) := by decide +kernel
theorem dX2_wind_23 : decode cX2_wind 23 = .ok (.invokestatic 29, 3) := by decide +kernel
theorem dX2_wind_26 : decode cX2_wind 26 = .ok (.ifCond .ne 9, 3) := by decide +kernel
theorem dX2_wind_29 : decode cX2_wind 29 = .ok (.aload_n 0, 1) := by decide +kernel
theorem dX2_wind_30 : decode cX2_wind 30 = .ok (.iconst 2, 1) := by decide +kernel
theorem dX2_wind_31 : decode cX2_wind 31 = .ok (.invokevirtual 36, 3) := by decide +kernel
theorem dX2_wind_34 : decode cX2_wind 34 = .ok (.ireturn, 1) := by decide +kernel
theorem dX2_wind_35 : decode cX2_wind 35 = .ok (.aload_n 0, 1) := by decide +kernel
theorem dX2_wind_36 : decode cX2_wind 36 = .ok (.getfield 7, 3) := by decide +kernel
theorem dX2_wind_39 : decode cX2_wind 39 = .ok (.bipush 11, 2) := by decide +kernel
theorem dX2_wind_41 : decode cX2_wind 41 = .ok (.iaload, 1) := by decide +kernel
theorem dX2_wind_42 : decode cX2_wind 42 = .ok (.iconst 1, 1) := by decide +kernel
theorem dX2_wind_43 : decode cX2_wind 43 = .ok (.if_icmp .eq 11, 3) := by decide +kernel
theorem dX2_wind_46 : decode cX2_wind 46 = .ok (.aload_n 0, 1) := by decide +kernel
theorem dX2_wind_47 : decode cX2_wind 47 = .ok (.iload_n 1, 1) := by decide +kernel
theorem dX2_wind_48 : decode cX2_wind 48 = .ok (.invokevirtual 40, 3) := by decide +kernel
theorem dX2_wind_51 : decode cX2_wind 51 = .ok (.ifCond .ne 9, 3) := by decide +kernel
theorem dX2_wind_54 : decode cX2_wind 54 = .ok (.aload_n 0, 1) := by decide +kernel
theorem dX2_wind_55 : decode cX2_wind 55 = .ok (.iconst 3, 1) := by decide +kernel
theorem dX2_wind_56 : decode cX2_wind 56 = .ok (.invokevirtual 36, 3) := by decide +kernel
theorem dX2_wind_59 : decode cX2_wind 59 = .ok (.ireturn, 1) := by decide +kernel
theorem dX2_wind_60 : decode cX2_wind 60 = .ok (.aload_n 0, 1) := by decide +kernel
theorem dX2_wind_61 : decode cX2_wind 61 = .ok (.invokevirtual 65, 3) := by decide +kernel
theorem dX2_wind_64 : decode cX2_wind 64 = .ok (.aload_n 0, 1) := by decide +kernel
theorem dX2_wind_65 : decode cX2_wind 65 = .ok (.bipush 21, 2) := by decide +kernel
theorem dX2_wind_67 : decode cX2_wind 67 = .ok (.iconst 4, 1) := by decide +kernel
theorem dX2_wind_68 : decode cX2_wind 68 = .ok (.iload_n 1, 1) := by decide +kernel
theorem dX2_wind_69 : decode cX2_wind 69 = .ok (.imul, 1) := by decide +kernel
theorem dX2_wind_70 : decode cX2_wind 70 = .ok (.iadd, 1) := by decide +kernel
theorem dX2_wind_71 : decode cX2_wind 71 = .ok (.iload_n 2, 1) := by decide +kernel
theorem dX2_wind_72 : decode cX2_wind 72 = .ok (.invokevirtual 68, 3) := by decide +kernel
theorem dX2_wind_75 : decode cX2_wind 75 = .ok (.ireturn, 1) := by decide +kernel
set_option maxRecDepth 20000 in
theorem ggX2_fault_X2_isMovement : GoodIn wsX2_fault wsX2_isMovement := goodIn_r _ [5, 6, 7, 4, 8] (by decide +kernel) (by decide +kernel)
set_option maxRecDepth 20000 in
theorem gX2_fault_X2_isMovement : GoodIn wsX2_fault (va_wsS RX2 75 yX2_isMovement wsX2_isMovement) := goodIn_app (goodIn_of _ (by decide +kernel)) ggX2_fault_X2_isMovement
set_option maxRecDepth 20000 in
theorem ggX2_fault_X2_fails : GoodIn wsX2_fault wsX2_fails := goodIn_r _ [12, 1, 24, 25, 26, 27, 28, 29, 30, 31, 32, 33, 34] (by decide +kernel) (by decide +kernel)
set_option maxRecDepth 20000 in
theorem gX2_fault_X2_fails : GoodIn wsX2_fault (wsV RX2 36 RX2 yX2_fails wsX2_fails) := goodIn_app (goodIn_of _ (by decide +kernel)) ggX2_fault_X2_fails
set_option maxRecDepth 20000 in
theorem ggX2_fault_X2_saves : GoodIn wsX2_fault wsX2_saves := goodIn_r _ [16, 17, 18, 19, 24, 25, 26, 27, 28, 29, 30, 31, 32, 33, 34] (by decide +kernel) (by decide +kernel)
set_option maxRecDepth 20000 in
theorem gX2_fault_X2_saves : GoodIn wsX2_fault (wsV RX2 65 RX2 yX2_saves wsX2_saves) := goodIn_app (goodIn_of _ (by decide +kernel)) ggX2_fault_X2_saves
set_option maxRecDepth 20000 in
theorem ggX2_fault_X2_changes : GoodIn wsX2_fault wsX2_changes := goodIn_r _ [23, 19, 24, 25, 26, 27, 28, 29, 30, 31, 32, 33, 34] (by decide +kernel) (by decide +kernel)
set_option maxRecDepth 20000 in
theorem gX2_fault_X2_changes : GoodIn wsX2_fault (wsV RX2 68 RX2 yX2_changes wsX2_changes) := goodIn_app (goodIn_of _ (by decide +kernel)) ggX2_fault_X2_changes
theorem dX2_fault_0 : decode cX2_fault 0 = .ok (.aload_n 0, 1) := by decide +kernel
theorem dX2_fault_1 : decode cX2_fault 1 = .ok (.iconst 0, 1) := by decide +kernel
theorem dX2_fault_2 : decode cX2_fault 2 = .ok (.putfield 25, 3) := by decide +kernel
theorem dX2_fault_5 : decode cX2_fault 5 = .ok (.iload_n 1, 1) := by decide +kernel
theorem dX2_fault_6 : decode cX2_fault 6 = .ok (.invokestatic 75, 3) := by decide +kernel
theorem dX2_fault_9 : decode cX2_fault 9 = .ok (.ifCond .ne 9, 3) := by decide +kernel
theorem dX2_fault_12 : decode cX2_fault 12 = .ok (.aload_n 0, 1) := by decide +kernel
theorem dX2_fault_13 : decode cX2_fault 13 = .ok (.iconst 1, 1) := by decide +kernel
theorem dX2_fault_14 : decode cX2_fault 14 = .ok (.invokevirtual 36, 3) := by decide +kernel
theorem dX2_fault_17 : decode cX2_fault 17 = .ok (.ireturn, 1) := by decide +kernel
theorem dX2_fault_18 : decode cX2_fault 18 = .ok (.aload_n 0, 1) := by decide +kernel
theorem dX2_fault_19 : decode cX2_fault 19 = .ok (.invokevirtual 65, 3) := by decide +kernel
theorem dX2_fault_22 : decode cX2_fault 22 = .ok (.aload_n 0, 1) := by decide +kernel
theorem dX2_fault_23 : decode cX2_fault 23 = .ok (.bipush 21, 2) := by decide +kernel
theorem dX2_fault_25 : decode cX2_fault 25 = .ok (.iconst 4, 1) := by decide +kernel
theorem dX2_fault_26 : decode cX2_fault 26 = .ok (.iload_n 1, 1) := by decide +kernel
theorem dX2_fault_27 : decode cX2_fault 27 = .ok (.imul, 1) := by decide +kernel
theorem dX2_fault_28 : decode cX2_fault 28 = .ok (.iadd, 1) := by decide +kernel
theorem dX2_fault_29 : decode cX2_fault 29 = .ok (.iconst 1, 1) := by decide +kernel
theorem dX2_fault_30 : decode cX2_fault 30 = .ok (.iadd, 1) := by decide +kernel
theorem dX2_fault_31 : decode cX2_fault 31 = .ok (.iload_n 2, 1) := by decide +kernel
theorem dX2_fault_32 : decode cX2_fault 32 = .ok (.ifCond .eq 7, 3) := by decide +kernel
theorem dX2_fault_35 : decode cX2_fault 35 = .ok (.iconst 1, 1) := by decide +kernel
theorem dX2_fault_36 : decode cX2_fault 36 = .ok (.goto 4, 3) := by decide +kernel
theorem dX2_fault_39 : decode cX2_fault 39 = .ok (.iconst 0, 1) := by decide +kernel
theorem dX2_fault_40 : decode cX2_fault 40 = .ok (.invokevirtual 68, 3) := by decide +kernel
theorem dX2_fault_43 : decode cX2_fault 43 = .ok (.ireturn, 1) := by decide +kernel
set_option maxRecDepth 20000 in
theorem ggX2_loss_X2_isMovement : GoodIn wsX2_loss wsX2_isMovement := goodIn_r _ [5, 6, 7, 4, 8] (by decide +kernel) (by decide +kernel)
set_option maxRecDepth 20000 in
theorem gX2_loss_X2_isMovement : GoodIn wsX2_loss (va_wsS RX2 75 yX2_isMovement wsX2_isMovement) := goodIn_app (goodIn_of _ (by decide +kernel)) ggX2_loss_X2_isMovement
set_option maxRecDepth 20000 in
theorem ggX2_loss_X2_fails : GoodIn wsX2_loss wsX2_fails := goodIn_r _ [12, 1, 24, 25, 26, 27, 28, 29, 30, 31, 32, 33, 34] (by decide +kernel) (by decide +kernel)
set_option maxRecDepth 20000 in
theorem gX2_loss_X2_fails : GoodIn wsX2_loss (wsV RX2 36 RX2 yX2_fails wsX2_fails) := goodIn_app (goodIn_of _ (by decide +kernel)) ggX2_loss_X2_fails
set_option maxRecDepth 20000 in
theorem ggX2_loss_X2_in : GoodIn wsX2_loss wsX2_in := goodIn_r _ [8] (by decide +kernel) (by decide +kernel)
set_option maxRecDepth 20000 in
theorem gX2_loss_X2_in : GoodIn wsX2_loss (va_wsS RX2 29 yX2_in wsX2_in) := goodIn_app (goodIn_of _ (by decide +kernel)) ggX2_loss_X2_in
set_option maxRecDepth 20000 in
theorem ggX2_loss_X2_saves : GoodIn wsX2_loss wsX2_saves := goodIn_r _ [16, 17, 18, 19, 24, 25, 26, 27, 28, 29, 30, 31, 32, 33, 34] (by decide +kernel) (by decide +kernel)
set_option maxRecDepth 20000 in
theorem gX2_loss_X2_saves : GoodIn wsX2_loss (wsV RX2 65 RX2 yX2_saves wsX2_saves) := goodIn_app (goodIn_of _ (by decide +kernel)) ggX2_loss_X2_saves
set_option maxRecDepth 20000 in
theorem ggX2_loss_X2_changes : GoodIn wsX2_loss wsX2_changes := goodIn_r _ [23, 19, 24, 25, 26, 27, 28, 29, 30, 31, 32, 33, 34] (by decide +kernel) (by decide +kernel)
set_option maxRecDepth 20000 in
theorem gX2_loss_X2_changes : GoodIn wsX2_loss (wsV RX2 68 RX2 yX2_changes wsX2_changes) := goodIn_app (goodIn_of _ (by decide +kernel)) ggX2_loss_X2_changes
theorem dX2_loss_0 : decode cX2_loss 0 = .ok (.aload_n 0, 1) := by decide +kernel
theorem dX2_loss_1 : decode cX2_loss 1 = .ok (.iconst 0, 1) := by decide +kernel
theorem dX2_loss_2 : decode cX2_loss 2 = .ok (.putfield 25, 3) := by decide +kernel
theorem dX2_loss_5 : decode cX2_loss 5 = .ok (.iload_n 1, 1) := by decide +kernel
theorem dX2_loss_6 : decode cX2_loss 6 = .ok (.invokestatic 75, 3) := by decide +kernel
theorem dX2_loss_9 : decode cX2_loss 9 = .ok (.ifCond .ne 9, 3) := by decide +kernel
theorem dX2_loss_12 : decode cX2_loss 12 = .ok (.aload_n 0, 1) := by decide +kernel
theorem dX2_loss_13 : decode cX2_loss 13 = .ok (.iconst 1, 1) := by decide +kernel
theorem dX2_loss_14 : decode cX2_loss 14 = .ok (.invokevirtual 36, 3) := by decide +kernel
theorem dX2_loss_17 : decode cX2_loss 17 = .ok (.ireturn, 1) := by decide +kernel
theorem dX2_loss_18 : decode cX2_loss 18 = .ok (.iload_n 2, 1) := by decide +kernel
theorem dX2_loss_19 : decode cX2_loss 19 = .ok (.iconst 0, 1) := by decide +kernel
theorem dX2_loss_20 : decode cX2_loss 20 = .ok (.bipush 20, 2) := by decide +kernel
theorem dX2_loss_22 : decode cX2_loss 22 = .ok (.invokestatic 29, 3) := by decide +kernel
theorem dX2_loss_25 : decode cX2_loss 25 = .ok (.ifCond .ne 9, 3) := by decide +kernel
theorem dX2_loss_28 : decode cX2_loss 28 = .ok (.aload_n 0, 1) := by decide +kernel
theorem dX2_loss_29 : decode cX2_loss 29 = .ok (.iconst 2, 1) := by decide +kernel
theorem dX2_loss_30 : decode cX2_loss 30 = .ok (.invokevirtual 36, 3) := by decide +kernel
theorem dX2_loss_33 : decode cX2_loss 33 = .ok (.ireturn, 1) := by decide +kernel
theorem dX2_loss_34 : decode cX2_loss 34 = .ok (.aload_n 0, 1) := by decide +kernel
theorem dX2_loss_35 : decode cX2_loss 35 = .ok (.invokevirtual 65, 3) := by decide +kernel
theorem dX2_loss_38 : decode cX2_loss 38 = .ok (.aload_n 0, 1) := by decide +kernel
theorem dX2_loss_39 : decode cX2_loss 39 = .ok (.bipush 21, 2) := by decide +kernel
theorem dX2_loss_41 : decode cX2_loss 41 = .ok (.iconst 4, 1) := by decide +kernel
theorem dX2_loss_42 : decode cX2_loss 42 = .ok (.iload_n 1, 1) := by decide +kernel
theorem dX2_loss_43 : decode cX2_loss 43 = .ok (.imul, 1) := by decide +kernel
theorem dX2_loss_44 : decode cX2_loss 44 = .ok (.iadd, 1) := by decide +kernel
theorem dX2_loss_45 : decode cX2_loss 45 = .ok (.iconst 2, 1) := by decide +kernel
theorem dX2_loss_46 : decode cX2_loss 46 = .ok (.iadd, 1) := by decide +kernel
theorem dX2_loss_47 : decode cX2_loss 47 = .ok (.iload_n 2, 1) := by decide +kernel
theorem dX2_loss_48 : decode cX2_loss 48 = .ok (.invokevirtual 68, 3) := by decide +kernel
theorem dX2_loss_51 : decode cX2_loss 51 = .ok (.ireturn, 1) := by decide +kernel
set_option maxRecDepth 20000 in
theorem ggX2_service_X2_isMovement : GoodIn wsX2_service wsX2_isMovement := goodIn_r _ [6, 7, 8, 5, 9] (by decide +kernel) (by decide +kernel)
set_option maxRecDepth 20000 in
theorem gX2_service_X2_isMovement : GoodIn wsX2_service (va_wsS RX2 75 yX2_isMovement wsX2_isMovement) := goodIn_app (goodIn_of _ (by decide +kernel)) ggX2_service_X2_isMovement
set_option maxRecDepth 20000 in
theorem ggX2_service_X2_fails : GoodIn wsX2_service wsX2_fails := goodIn_r _ [13, 1, 24, 25, 26, 27, 28, 29, 30, 31, 32, 33, 34] (by decide +kernel) (by decide +kernel)
set_option maxRecDepth 20000 in
theorem gX2_service_X2_fails : GoodIn wsX2_service (wsV RX2 36 RX2 yX2_fails wsX2_fails) := goodIn_app (goodIn_of _ (by decide +kernel)) ggX2_service_X2_fails
set_option maxRecDepth 20000 in
theorem ggX2_service_X2_saves : GoodIn wsX2_service wsX2_saves := goodIn_r _ [17, 18, 19, 2, 24, 25, 26, 27, 28, 29, 30, 31, 32, 33, 34] (by decide +kernel) (by decide +kernel)
set_option maxRecDepth 20000 in
theorem gX2_service_X2_saves : GoodIn wsX2_service (wsV RX2 65 RX2 yX2_saves wsX2_saves) := goodIn_app (goodIn_of _ (by decide +kernel)) ggX2_service_X2_saves
set_option maxRecDepth 20000 in
theorem ggX2_service_X2_changes : GoodIn wsX2_service wsX2_changes := goodIn_r _ [23, 2, 24, 25, 26, 27, 28, 29, 30, 31, 32, 33, 34] (by decide +kernel) (by decide +kernel)
set_option maxRecDepth 20000 in
theorem gX2_service_X2_changes : GoodIn wsX2_service (wsV RX2 68 RX2 yX2_changes wsX2_changes) := goodIn_app (goodIn_of _ (by decide +kernel)) ggX2_service_X2_changes
theorem dX2_service_0 : decode cX2_service 0 = .ok (.aload_n 0, 1) := by decide +kernel
theorem dX2_service_1 : decode cX2_service 1 = .ok (.iconst 0, 1) := by decide +kernel
theorem dX2_service_2 : decode cX2_service 2 = .ok (.putfield 25, 3) := by decide +kernel
theorem dX2_service_5 : decode cX2_service 5 = .ok (.iload_n 1, 1) := by decide +kernel
theorem dX2_service_6 : decode cX2_service 6 = .ok (.invokestatic 75, 3) := by decide +kernel
theorem dX2_service_9 : decode cX2_service 9 = .ok (.ifCond .ne 9, 3) := by decide +kernel
theorem dX2_service_12 : decode cX2_service 12 = .ok (.aload_n 0, 1) := by decide +kernel
theorem dX2_service_13 : decode cX2_service 13 = .ok (.iconst 1, 1) := by decide +kernel
theorem dX2_service_14 : decode cX2_service 14 = .ok (.invokevirtual 36, 3) := by decide +kernel
theorem dX2_service_17 : decode cX2_service 17 = .ok (.ireturn, 1) := by decide +kernel
theorem dX2_service_18 : decode cX2_service 18 = .ok (.aload_n 0, 1) := by decide +kernel
theorem dX2_service_19 : decode cX2_service 19 = .ok (.getfield 7, 3) := by decide +kernel
theorem dX2_service_22 : decode cX2_service 22 = .ok (.bipush 11, 2) := by decide +kernel
theorem dX2_service_24 : decode cX2_service 24 = .ok (.iaload, 1) := by decide +kernel
theorem dX2_service_25 : decode cX2_service 25 = .ok (.iconst 1, 1) := by decide +kernel
theorem dX2_service_26 : decode cX2_service 26 = .ok (.if_icmp .ne 9, 3) := by decide +kernel
theorem dX2_service_29 : decode cX2_service 29 = .ok (.aload_n 0, 1) := by decide +kernel
theorem dX2_service_30 : decode cX2_service 30 = .ok (.iconst 2, 1) := by decide +kernel
theorem dX2_service_31 : decode cX2_service 31 = .ok (.invokevirtual 36, 3) := by decide +kernel
theorem dX2_service_34 : decode cX2_service 34 = .ok (.ireturn, 1) := by decide +kernel
theorem dX2_service_35 : decode cX2_service 35 = .ok (.aload_n 0, 1) := by decide +kernel
theorem dX2_service_36 : decode cX2_service 36 = .ok (.invokevirtual 65, 3) := by decide +kernel
theorem dX2_service_39 : decode cX2_service 39 = .ok (.aload_n 0, 1) := by decide +kernel
theorem dX2_service_40 : decode cX2_service 40 = .ok (.getfield 7, 3) := by decide +kernel
theorem dX2_service_43 : decode cX2_service 43 = .ok (.bipush 21, 2) := by decide +kernel
theorem dX2_service_45 : decode cX2_service 45 = .ok (.iconst 4, 1) := by decide +kernel
theorem dX2_service_46 : decode cX2_service 46 = .ok (.iload_n 1, 1) := by decide +kernel
theorem dX2_service_47 : decode cX2_service 47 = .ok (.imul, 1) := by decide +kernel
theorem dX2_service_48 : decode cX2_service 48 = .ok (.iadd, 1) := by decide +kernel
theorem dX2_service_49 : decode cX2_service 49 = .ok (.iconst 1, 1) := by decide +kernel
theorem dX2_service_50 : decode cX2_service 50 = .ok (.iadd, 1) := by decide +kernel
theorem dX2_service_51 : decode cX2_service 51 = .ok (.iconst 1, 1) := by decide +kernel
theorem dX2_service_52 : decode cX2_service 52 = .ok (.iastore, 1) := by decide +kernel
theorem dX2_service_53 : decode cX2_service 53 = .ok (.aload_n 0, 1) := by decide +kernel
theorem dX2_service_54 : decode cX2_service 54 = .ok (.getfield 7, 3) := by decide +kernel
theorem dX2_service_57 : decode cX2_service 57 = .ok (.bipush 21, 2) := by decide +kernel
theorem dX2_service_59 : decode cX2_service 59 = .ok (.iconst 4, 1) := by decide +kernel
theorem dX2_service_60 : decode cX2_service 60 = .ok (.iload_n 1, 1) := by decide +kernel
theorem dX2_service_61 : decode cX2_service 61 = .ok (.imul, 1) := by decide +kernel
theorem dX2_service_62 : decode cX2_service 62 = .ok (.iadd, 1) := by decide +kernel
theorem dX2_service_63 : decode cX2_service 63 = .ok (.iconst 2, 1) := by decide +kernel
theorem dX2_service_64 : decode cX2_service 64 = .ok (.iadd, 1) := by decide +kernel
theorem dX2_service_65 : decode cX2_service 65 = .ok (.iconst 0, 1) := by decide +kernel
theorem dX2_service_66 : decode cX2_service 66 = .ok (.iastore, 1) := by decide +kernel
theorem dX2_service_67 : decode cX2_service 67 = .ok (.aload_n 0, 1) := by decide +kernel
theorem dX2_service_68 : decode cX2_service 68 = .ok (.bipush 21, 2) := by decide +kernel
theorem dX2_service_70 : decode cX2_service 70 = .ok (.iconst 4, 1) := by decide +kernel
theorem dX2_service_71 : decode cX2_service 71 = .ok (.iload_n 1, 1) := by decide +kernel
theorem dX2_service_72 : decode cX2_service 72 = .ok (.imul, 1) := by decide +kernel
theorem dX2_service_73 : decode cX2_service 73 = .ok (.iadd, 1) := by decide +kernel
theorem dX2_service_74 : decode cX2_service 74 = .ok (.iconst 3, 1) := by decide +kernel
theorem dX2_service_75 : decode cX2_service 75 = .ok (.iadd, 1) := by decide +kernel
theorem dX2_service_76 : decode cX2_service 76 = .ok (.iconst 0, 1) := by decide +kernel
theorem dX2_service_77 : decode cX2_service 77 = .ok (.invokevirtual 68, 3) := by decide +kernel
theorem dX2_service_80 : decode cX2_service 80 = .ok (.ireturn, 1) := by decide +kernel
set_option maxRecDepth 20000 in
theorem ggX2_lock_X2_goes : GoodIn wsX2_lock wsX2_goes := goodIn_r _ [7, 2, 26, 27, 28, 29, 30, 31, 32, 33, 34, 35, 36] (by decide +kernel) (by decide +kernel)
set_option maxRecDepth 20000 in
theorem gX2_lock_X2_goes : GoodIn wsX2_lock (wsV RX2 40 RX2 yX2_goes wsX2_goes) := goodIn_app (goodIn_of _ (by decide +kernel)) ggX2_lock_X2_goes
set_option maxRecDepth 20000 in
theorem ggX2_lock_X2_hours : GoodIn wsX2_lock wsX2_hours := goodIn_r _ [11, 2, 26, 27, 28, 29, 30, 31, 32, 33, 34, 35, 36] (by decide +kernel) (by decide +kernel)
set_option maxRecDepth 20000 in
theorem gX2_lock_X2_hours : GoodIn wsX2_lock (wsV RX2 51 RX2 yX2_hours wsX2_hours) := goodIn_app (goodIn_of _ (by decide +kernel)) ggX2_lock_X2_hours
set_option maxRecDepth 20000 in
theorem ggX2_lock_X2_fails : GoodIn wsX2_lock wsX2_fails := goodIn_r _ [15, 1, 26, 27, 28, 29, 30, 31, 32, 33, 34, 35, 36] (by decide +kernel) (by decide +kernel)
set_option maxRecDepth 20000 in
theorem gX2_lock_X2_fails : GoodIn wsX2_lock (wsV RX2 36 RX2 yX2_fails wsX2_fails) := goodIn_app (goodIn_of _ (by decide +kernel)) ggX2_lock_X2_fails
set_option maxRecDepth 20000 in
theorem ggX2_lock_X2_saves : GoodIn wsX2_lock wsX2_saves := goodIn_r _ [19, 20, 21, 2, 26, 27, 28, 29, 30, 31, 32, 33, 34, 35, 36] (by decide +kernel) (by decide +kernel)
set_option maxRecDepth 20000 in
theorem gX2_lock_X2_saves : GoodIn wsX2_lock (wsV RX2 65 RX2 yX2_saves wsX2_saves) := goodIn_app (goodIn_of _ (by decide +kernel)) ggX2_lock_X2_saves
set_option maxRecDepth 20000 in
theorem ggX2_lock_X2_toOpening : GoodIn wsX2_lock wsX2_toOpening := goodIn_r _ [25, 2, 26, 27, 28, 29, 30, 31, 32, 33, 34, 35, 36] (by decide +kernel) (by decide +kernel)
set_option maxRecDepth 20000 in
theorem gX2_lock_X2_toOpening : GoodIn wsX2_lock (wsV RX2 78 RX2 yX2_toOpening wsX2_toOpening) := goodIn_app (goodIn_of _ (by decide +kernel)) ggX2_lock_X2_toOpening
theorem dX2_lock_0 : decode cX2_lock 0 = .ok (.aload_n 0, 1) := by decide +kernel
theorem dX2_lock_1 : decode cX2_lock 1 = .ok (.iconst 0, 1) := by decide +kernel
theorem dX2_lock_2 : decode cX2_lock 2 = .ok (.putfield 25, 3) := by decide +kernel
theorem dX2_lock_5 : decode cX2_lock 5 = .ok (.iconst 0, 1) := by decide +kernel
theorem dX2_lock_6 : decode cX2_lock 6 = .ok (.istore_n 1, 1) := by decide +kernel
theorem dX2_lock_7 : decode cX2_lock 7 = .ok (.iconst 0, 1) := by decide +kernel
theorem dX2_lock_8 : decode cX2_lock 8 = .ok (.istore_n 2, 1) := by decide +kernel
theorem dX2_lock_9 : decode cX2_lock 9 = .ok (.iload_n 2, 1) := by decide +kernel
theorem dX2_lock_10 : decode cX2_lock 10 = .ok (.iconst 3, 1) := by decide +kernel
theorem dX2_lock_11 : decode cX2_lock 11 = .ok (.if_icmp .ge 35, 3) := by decide +kernel
theorem dX2_lock_14 : decode cX2_lock 14 = .ok (.iload_n 1, 1) := by decide +kernel
theorem dX2_lock_15 : decode cX2_lock 15 = .ok (.ifCond .ne 19, 3) := by decide +kernel
theorem dX2_lock_18 : decode cX2_lock 18 = .ok (.aload_n 0, 1) := by decide +kernel
theorem dX2_lock_19 : decode cX2_lock 19 = .ok (.iload_n 2, 1) := by decide +kernel
theorem dX2_lock_20 : decode cX2_lock 20 = .ok (.invokevirtual 40, 3) := by decide +kernel
theorem dX2_lock_23 : decode cX2_lock 23 = .ok (.ifCond .eq 15, 3) := by decide +kernel
theorem dX2_lock_26 : decode cX2_lock 26 = .ok (.aload_n 0, 1) := by decide +kernel
theorem dX2_lock_27 : decode cX2_lock 27 = .ok (.iload_n 2, 1) := by decide +kernel
theorem dX2_lock_28 : decode cX2_lock 28 = .ok (.invokevirtual 51, 3) := by decide +kernel
theorem dX2_lock_31 : decode cX2_lock 31 = .ok (.ifCond .le 7, 3) := by decide +kernel
theorem dX2_lock_34 : decode cX2_lock 34 = .ok (.iconst 1, 1) := by decide +kernel
theorem dX2_lock_35 : decode cX2_lock 35 = .ok (.goto 4, 3) := by decide +kernel
theorem dX2_lock_38 : decode cX2_lock 38 = .ok (.iconst 0, 1) := by decide +kernel
theorem dX2_lock_39 : decode cX2_lock 39 = .ok (.istore_n 1, 1) := by decide +kernel
theorem dX2_lock_40 : decode cX2_lock 40 = .ok (.iinc 2 1, 3) := by decide +kernel
theorem dX2_lock_43 : decode cX2_lock 43 = .ok (.goto (-34), 3) := by decide +kernel
theorem dX2_lock_46 : decode cX2_lock 46 = .ok (.aload_n 0, 1) := by decide +kernel
theorem dX2_lock_47 : decode cX2_lock 47 = .ok (.getfield 7, 3) := by decide +kernel
theorem dX2_lock_50 : decode cX2_lock 50 = .ok (.bipush 11, 2) := by decide +kernel
theorem dX2_lock_52 : decode cX2_lock 52 = .ok (.iaload, 1) := by decide +kernel
theorem dX2_lock_53 : decode cX2_lock 53 = .ok (.iconst 1, 1) := by decide +kernel
theorem dX2_lock_54 : decode cX2_lock 54 = .ok (.if_icmp .eq 7, 3) := by decide +kernel
theorem dX2_lock_57 : decode cX2_lock 57 = .ok (.iload_n 1, 1) := by decide +kernel
theorem dX2_lock_58 : decode cX2_lock 58 = .ok (.ifCond .ne 9, 3) := by decide +kernel
theorem dX2_lock_61 : decode cX2_lock 61 = .ok (.aload_n 0, 1) := by decide +kernel
theorem dX2_lock_62 : decode cX2_lock 62 = .ok (.iconst 1, 1) := by decide +kernel
theorem dX2_lock_63 : decode cX2_lock 63 = .ok (.invokevirtual 36, 3) := by decide +kernel
theorem dX2_lock_66 : decode cX2_lock 66 = .ok (.ireturn, 1) := by decide +kernel
theorem dX2_lock_67 : decode cX2_lock 67 = .ok (.aload_n 0, 1) := by decide +kernel
theorem dX2_lock_68 : decode cX2_lock 68 = .ok (.invokevirtual 65, 3) := by decide +kernel
theorem dX2_lock_71 : decode cX2_lock 71 = .ok (.aload_n 0, 1) := by decide +kernel
theorem dX2_lock_72 : decode cX2_lock 72 = .ok (.invokevirtual 78, 3) := by decide +kernel
theorem dX2_lock_75 : decode cX2_lock 75 = .ok (.istore_n 2, 1) := by decide +kernel
theorem dX2_lock_76 : decode cX2_lock 76 = .ok (.aload_n 0, 1) := by decide +kernel
theorem dX2_lock_77 : decode cX2_lock 77 = .ok (.getfield 7, 3) := by decide +kernel
theorem dX2_lock_80 : decode cX2_lock 80 = .ok (.bipush 11, 2) := by decide +kernel
theorem dX2_lock_82 : decode cX2_lock 82 = .ok (.iconst 1, 1) := by decide +kernel
theorem dX2_lock_83 : decode cX2_lock 83 = .ok (.iastore, 1) := by decide +kernel
theorem dX2_lock_84 : decode cX2_lock 84 = .ok (.aload_n 0, 1) := by decide +kernel
theorem dX2_lock_85 : decode cX2_lock 85 = .ok (.getfield 7, 3) := by decide +kernel
theorem dX2_lock_88 : decode cX2_lock 88 = .ok (.bipush 12, 2) := by decide +kernel
theorem dX2_lock_90 : decode cX2_lock 90 = .ok (.iload_n 2, 1) := by decide +kernel
theorem dX2_lock_91 : decode cX2_lock 91 = .ok (.iconst (-1), 1) := by decide +kernel
theorem dX2_lock_92 : decode cX2_lock 92 = .ok (.if_icmp .ne 7, 3) := by decide +kernel
theorem dX2_lock_95 : decode cX2_lock 95 = .ok (.iconst (-1), 1) := by decide +kernel
theorem dX2_lock_96 : decode cX2_lock 96 = .ok (.goto 11, 3) := by decide +kernel
theorem dX2_lock_99 : decode cX2_lock 99 = .ok (.aload_n 0, 1) := by decide +kernel
theorem dX2_lock_100 : decode cX2_lock 100 = .ok (.getfield 7, 3) := by decide +kernel
theorem dX2_lock_103 : decode cX2_lock 103 = .ok (.iconst 0, 1) := by decide +kernel
theorem dX2_lock_104 : decode cX2_lock 104 = .ok (.iaload, 1) := by decide +kernel
theorem dX2_lock_105 : decode cX2_lock 105 = .ok (.iload_n 2, 1) := by decide +kernel
theorem dX2_lock_106 : decode cX2_lock 106 = .ok (.iadd, 1) := by decide +kernel
theorem dX2_lock_107 : decode cX2_lock 107 = .ok (.iastore, 1) := by decide +kernel
theorem dX2_lock_108 : decode cX2_lock 108 = .ok (.aload_n 0, 1) := by decide +kernel
theorem dX2_lock_109 : decode cX2_lock 109 = .ok (.getfield 7, 3) := by decide +kernel
theorem dX2_lock_112 : decode cX2_lock 112 = .ok (.bipush 13, 2) := by decide +kernel
theorem dX2_lock_114 : decode cX2_lock 114 = .ok (.iconst 0, 1) := by decide +kernel
theorem dX2_lock_115 : decode cX2_lock 115 = .ok (.iastore, 1) := by decide +kernel
theorem dX2_lock_116 : decode cX2_lock 116 = .ok (.aload_n 0, 1) := by decide +kernel
theorem dX2_lock_117 : decode cX2_lock 117 = .ok (.getfield 7, 3) := by decide +kernel
theorem dX2_lock_120 : decode cX2_lock 120 = .ok (.bipush 14, 2) := by decide +kernel
theorem dX2_lock_122 : decode cX2_lock 122 = .ok (.iconst 0, 1) := by decide +kernel
theorem dX2_lock_123 : decode cX2_lock 123 = .ok (.iastore, 1) := by decide +kernel
theorem dX2_lock_124 : decode cX2_lock 124 = .ok (.iload_n 2, 1) := by decide +kernel
theorem dX2_lock_125 : decode cX2_lock 125 = .ok (.ireturn, 1) := by decide +kernel
theorem dX2_unlocks_0 : decode cX2_unlocks 0 = .ok (.aload_n 0, 1) := by decide +kernel
theorem dX2_unlocks_1 : decode cX2_unlocks 1 = .ok (.getfield 7, 3) := by decide +kernel
theorem dX2_unlocks_4 : decode cX2_unlocks 4 = .ok (.bipush 11, 2) := by decide +kernel
theorem dX2_unlocks_6 : decode cX2_unlocks 6 = .ok (.iconst 0, 1) := by decide +kernel
theorem dX2_unlocks_7 : decode cX2_unlocks 7 = .ok (.iastore, 1) := by decide +kernel
theorem dX2_unlocks_8 : decode cX2_unlocks 8 = .ok (.aload_n 0, 1) := by decide +kernel
theorem dX2_unlocks_9 : decode cX2_unlocks 9 = .ok (.getfield 7, 3) := by decide +kernel
theorem dX2_unlocks_12 : decode cX2_unlocks 12 = .ok (.bipush 12, 2) := by decide +kernel
theorem dX2_unlocks_14 : decode cX2_unlocks 14 = .ok (.iconst (-1), 1) := by decide +kernel
theorem dX2_unlocks_15 : decode cX2_unlocks 15 = .ok (.iastore, 1) := by decide +kernel
theorem dX2_unlocks_16 : decode cX2_unlocks 16 = .ok (.aload_n 0, 1) := by decide +kernel
theorem dX2_unlocks_17 : decode cX2_unlocks 17 = .ok (.getfield 7, 3) := by decide +kernel
theorem dX2_unlocks_20 : decode cX2_unlocks 20 = .ok (.bipush 13, 2) := by decide +kernel
theorem dX2_unlocks_22 : decode cX2_unlocks 22 = .ok (.iconst 0, 1) := by decide +kernel
theorem dX2_unlocks_23 : decode cX2_unlocks 23 = .ok (.iastore, 1) := by decide +kernel
theorem dX2_unlocks_24 : decode cX2_unlocks 24 = .ok (.aload_n 0, 1) := by decide +kernel
theorem dX2_unlocks_25 : decode cX2_unlocks 25 = .ok (.getfield 7, 3) := by decide +kernel
theorem dX2_unlocks_28 : decode cX2_unlocks 28 = .ok (.bipush 14, 2) := by decide +kernel
theorem dX2_unlocks_30 : decode cX2_unlocks 30 = .ok (.iconst 0, 1) := by decide +kernel
theorem dX2_unlocks_31 : decode cX2_unlocks 31 = .ok (.iastore, 1) := by decide +kernel
theorem dX2_unlocks_32 : decode cX2_unlocks 32 = .ok (.return_, 1) := by decide +kernel
set_option maxRecDepth 20000 in
theorem ggX2_open_X2_fails : GoodIn wsX2_open wsX2_fails := goodIn_r _ [7, 1, 47, 48, 49, 50, 51, 52, 53, 54, 55, 56, 57] (by decide +kernel) (by decide +kernel)
set_option maxRecDepth 20000 in
theorem gX2_open_X2_fails : GoodIn wsX2_open (wsV RX2 36 RX2 yX2_fails wsX2_fails) := goodIn_app (goodIn_of _ (by decide +kernel)) ggX2_open_X2_fails
set_option maxRecDepth 20000 in
theorem ggX2_open_X2_saves : GoodIn wsX2_open wsX2_saves := goodIn_r _ [11, 12, 13, 2, 47, 48, 49, 50, 51, 52, 53, 54, 55, 56, 57] (by decide +kernel) (by decide +kernel)
set_option maxRecDepth 20000 in
theorem gX2_open_X2_saves : GoodIn wsX2_open (wsV RX2 65 RX2 yX2_saves wsX2_saves) := goodIn_app (goodIn_of _ (by decide +kernel)) ggX2_open_X2_saves
set_option maxRecDepth 20000 in
theorem ggX2_open_X2_opensBut : GoodIn wsX2_open wsX2_opensBut := goodIn_r _ [17, 18, 2, 19, 20, 21, 6, 22, 23, 24, 25, 26, 27, 28, 29, 30, 31, 32, 33, 34, 35, 36, 37, 38, 39, 40, 41, 42, 47, 48, 49, 50, 51, 52, 53, 54, 55, 56, 57] (by decide +kernel) (by decide +kernel)
set_option maxRecDepth 20000 in
theorem gX2_open_X2_opensBut : GoodIn wsX2_open (wsV RX2 81 RX2 yX2_opensBut wsX2_opensBut) := goodIn_app (goodIn_of _ (by decide +kernel)) ggX2_open_X2_opensBut
set_option maxRecDepth 20000 in
theorem ggX2_open_X2_unlocks : GoodIn wsX2_open wsX2_unlocks := goodIn_r _ [46, 2, 47, 48, 49, 50, 51, 52, 53, 54, 55, 56, 57] (by decide +kernel) (by decide +kernel)
set_option maxRecDepth 20000 in
theorem gX2_open_X2_unlocks : GoodIn wsX2_open (wsV RX2 84 RX2 yX2_unlocks wsX2_unlocks) := goodIn_app (goodIn_of _ (by decide +kernel)) ggX2_open_X2_unlocks
theorem dX2_open_0 : decode cX2_open 0 = .ok (.aload_n 0, 1) := by decide +kernel
theorem dX2_open_1 : decode cX2_open 1 = .ok (.iconst 0, 1) := by decide +kernel
theorem dX2_open_2 : decode cX2_open 2 = .ok (.putfield 25, 3) := by decide +kernel
theorem dX2_open_5 : decode cX2_open 5 = .ok (.aload_n 0, 1) := by decide +kernel
theorem dX2_open_6 : decode cX2_open 6 = .ok (.getfield 7, 3) := by decide +kernel
theorem dX2_open_9 : decode cX2_open 9 = .ok (.bipush 11, 2) := by decide +kernel
theorem dX2_open_11 : decode cX2_open 11 = .ok (.iaload, 1) := by decide +kernel
theorem dX2_open_12 : decode cX2_open 12 = .ok (.ifCond .ne 9, 3) := by decide +kernel
theorem dX2_open_15 : decode cX2_open 15 = .ok (.aload_n 0, 1) := by decide +kernel
theorem dX2_open_16 : decode cX2_open 16 = .ok (.iconst 1, 1) := by decide +kernel
theorem dX2_open_17 : decode cX2_open 17 = .ok (.invokevirtual 36, 3) := by decide +kernel
theorem dX2_open_20 : decode cX2_open 20 = .ok (.ireturn, 1) := by decide +kernel
theorem dX2_open_21 : decode cX2_open 21 = .ok (.aload_n 0, 1) := by decide +kernel
theorem dX2_open_22 : decode cX2_open 22 = .ok (.invokevirtual 65, 3) := by decide +kernel
theorem dX2_open_25 : decode cX2_open 25 = .ok (.aload_n 0, 1) := by decide +kernel
theorem dX2_open_26 : decode cX2_open 26 = .ok (.iconst (-1), 1) := by decide +kernel
theorem dX2_open_27 : decode cX2_open 27 = .ok (.invokevirtual 81, 3) := by decide +kernel
theorem dX2_open_30 : decode cX2_open 30 = .ok (.ifCond .ne 79, 3) := by decide +kernel
theorem dX2_open_33 : decode cX2_open 33 = .ok (.aload_n 0, 1) := by decide +kernel
theorem dX2_open_34 : decode cX2_open 34 = .ok (.getfield 7, 3) := by decide +kernel
theorem dX2_open_37 : decode cX2_open 37 = .ok (.bipush 12, 2) := by decide +kernel
theorem dX2_open_39 : decode cX2_open 39 = .ok (.iaload, 1) := by decide +kernel
theorem dX2_open_40 : decode cX2_open 40 = .ok (.iconst (-1), 1) := by decide +kernel
theorem dX2_open_41 : decode cX2_open 41 = .ok (.if_icmp .ne 7, 3) := by decide +kernel
theorem dX2_open_44 : decode cX2_open 44 = .ok (.iconst 0, 1) := by decide +kernel
theorem dX2_open_45 : decode cX2_open 45 = .ok (.goto 17, 3) := by decide +kernel
theorem dX2_open_48 : decode cX2_open 48 = .ok (.aload_n 0, 1) := by decide +kernel
theorem dX2_open_49 : decode cX2_open 49 = .ok (.getfield 7, 3) := by decide +kernel
theorem dX2_open_52 : decode cX2_open 52 = .ok (.iconst 0, 1) := by decide +kernel
theorem dX2_open_53 : decode cX2_open 53 = .ok (.iaload, 1) := by decide +kernel
theorem dX2_open_54 : decode cX2_open 54 = .ok (.aload_n 0, 1) := by decide +kernel
theorem dX2_open_55 : decode cX2_open 55 = .ok (.getfield 7, 3) := by decide +kernel
theorem dX2_open_58 : decode cX2_open 58 = .ok (.bipush 12, 2) := by decide +kernel
theorem dX2_open_60 : decode cX2_open 60 = .ok (.iaload, 1) := by decide +kernel
theorem dX2_open_61 : decode cX2_open 61 = .ok (.isub, 1) := by decide +kernel
theorem dX2_open_62 : decode cX2_open 62 = .ok (.istore_n 1, 1) := by decide +kernel
theorem dX2_open_63 : decode cX2_open 63 = .ok (.aload_n 0, 1) := by decide +kernel
theorem dX2_open_64 : decode cX2_open 64 = .ok (.getfield 7, 3) := by decide +kernel
theorem dX2_open_67 : decode cX2_open 67 = .ok (.bipush 16, 2) := by decide +kernel
theorem dX2_open_69 : decode cX2_open 69 = .ok (.dup2, 1) := by decide +kernel
theorem dX2_open_70 : decode cX2_open 70 = .ok (.iaload, 1) := by decide +kernel
theorem dX2_open_71 : decode cX2_open 71 = .ok (.iconst 1, 1) := by decide +kernel
theorem dX2_open_72 : decode cX2_open 72 = .ok (.iadd, 1) := by decide +kernel
theorem dX2_open_73 : decode cX2_open 73 = .ok (.iastore, 1) := by decide +kernel
theorem dX2_open_74 : decode cX2_open 74 = .ok (.aload_n 0, 1) := by decide +kernel
theorem dX2_open_75 : decode cX2_open 75 = .ok (.getfield 7, 3) := by decide +kernel
theorem dX2_open_78 : decode cX2_open 78 = .ok (.iload_n 1, 1) := by decide +kernel
theorem dX2_open_79 : decode cX2_open 79 = .ok (.ifCond .ne 8, 3) := by decide +kernel
theorem dX2_open_82 : decode cX2_open 82 = .ok (.bipush 17, 2) := by decide +kernel
theorem dX2_open_84 : decode cX2_open 84 = .ok (.goto 14, 3) := by decide +kernel
theorem dX2_open_87 : decode cX2_open 87 = .ok (.iload_n 1, 1) := by decide +kernel
theorem dX2_open_88 : decode cX2_open 88 = .ok (.ifCond .le 8, 3) := by decide +kernel
theorem dX2_open_91 : decode cX2_open 91 = .ok (.bipush 18, 2) := by decide +kernel
theorem dX2_open_93 : decode cX2_open 93 = .ok (.goto 5, 3) := by decide +kernel
theorem dX2_open_96 : decode cX2_open 96 = .ok (.bipush 19, 2) := by decide +kernel
theorem dX2_open_98 : decode cX2_open 98 = .ok (.dup2, 1) := by decide +kernel
theorem dX2_open_99 : decode cX2_open 99 = .ok (.iaload, 1) := by decide +kernel
theorem dX2_open_100 : decode cX2_open 100 = .ok (.iconst 1, 1) := by decide +kernel
theorem dX2_open_101 : decode cX2_open 101 = .ok (.iadd, 1) := by decide +kernel
theorem dX2_open_102 : decode cX2_open 102 = .ok (.iastore, 1) := by decide +kernel
theorem dX2_open_103 : decode cX2_open 103 = .ok (.aload_n 0, 1) := by decide +kernel
theorem dX2_open_104 : decode cX2_open 104 = .ok (.invokevirtual 84, 3) := by decide +kernel
theorem dX2_open_107 : decode cX2_open 107 = .ok (.iconst 1, 1) := by decide +kernel
theorem dX2_open_108 : decode cX2_open 108 = .ok (.ireturn, 1) := by decide +kernel
theorem dX2_open_109 : decode cX2_open 109 = .ok (.aload_n 0, 1) := by decide +kernel
theorem dX2_open_110 : decode cX2_open 110 = .ok (.getfield 7, 3) := by decide +kernel
theorem dX2_open_113 : decode cX2_open 113 = .ok (.bipush 13, 2) := by decide +kernel
theorem dX2_open_115 : decode cX2_open 115 = .ok (.dup2, 1) := by decide +kernel
theorem dX2_open_116 : decode cX2_open 116 = .ok (.iaload, 1) := by decide +kernel
theorem dX2_open_117 : decode cX2_open 117 = .ok (.iconst 1, 1) := by decide +kernel
theorem dX2_open_118 : decode cX2_open 118 = .ok (.iadd, 1) := by decide +kernel
theorem dX2_open_119 : decode cX2_open 119 = .ok (.iastore, 1) := by decide +kernel
theorem dX2_open_120 : decode cX2_open 120 = .ok (.aload_n 0, 1) := by decide +kernel
theorem dX2_open_121 : decode cX2_open 121 = .ok (.getfield 7, 3) := by decide +kernel
theorem dX2_open_124 : decode cX2_open 124 = .ok (.bipush 15, 2) := by decide +kernel
theorem dX2_open_126 : decode cX2_open 126 = .ok (.dup2, 1) := by decide +kernel
theorem dX2_open_127 : decode cX2_open 127 = .ok (.iaload, 1) := by decide +kernel
theorem dX2_open_128 : decode cX2_open 128 = .ok (.iconst 1, 1) := by decide +kernel
theorem dX2_open_129 : decode cX2_open 129 = .ok (.iadd, 1) := by decide +kernel
theorem dX2_open_130 : decode cX2_open 130 = .ok (.iastore, 1) := by decide +kernel
theorem dX2_open_131 : decode cX2_open 131 = .ok (.aload_n 0, 1) := by decide +kernel
theorem dX2_open_132 : decode cX2_open 132 = .ok (.getfield 7, 3) := by decide +kernel
theorem dX2_open_135 : decode cX2_open 135 = .ok (.bipush 13, 2) := by decide +kernel
theorem dX2_open_137 : decode cX2_open 137 = .ok (.iaload, 1) := by decide +kernel
theorem dX2_open_138 : decode cX2_open 138 = .ok (.aload_n 0, 1) := by decide +kernel
theorem dX2_open_139 : decode cX2_open 139 = .ok (.getfield 7, 3) := by decide +kernel
theorem dX2_open_142 : decode cX2_open 142 = .ok (.bipush 8, 2) := by decide +kernel
theorem dX2_open_144 : decode cX2_open 144 = .ok (.iaload, 1) := by decide +kernel
theorem dX2_open_145 : decode cX2_open 145 = .ok (.if_icmp .lt 32, 3) := by decide +kernel
theorem dX2_open_148 : decode cX2_open 148 = .ok (.aload_n 0, 1) := by decide +kernel
theorem dX2_open_149 : decode cX2_open 149 = .ok (.getfield 7, 3) := by decide +kernel
theorem dX2_open_152 : decode cX2_open 152 = .ok (.bipush 13, 2) := by decide +kernel
theorem dX2_open_154 : decode cX2_open 154 = .ok (.iconst 0, 1) := by decide +kernel
theorem dX2_open_155 : decode cX2_open 155 = .ok (.iastore, 1) := by decide +kernel
theorem dX2_open_156 : decode cX2_open 156 = .ok (.aload_n 0, 1) := by decide +kernel
theorem dX2_open_157 : decode cX2_open 157 = .ok (.getfield 7, 3) := by decide +kernel
theorem dX2_open_160 : decode cX2_open 160 = .ok (.bipush 14, 2) := by decide +kernel
theorem dX2_open_162 : decode cX2_open 162 = .ok (.aload_n 0, 1) := by decide +kernel
theorem dX2_open_163 : decode cX2_open 163 = .ok (.getfield 7, 3) := by decide +kernel
theorem dX2_open_166 : decode cX2_open 166 = .ok (.iconst 0, 1) := by decide +kernel
theorem dX2_open_167 : decode cX2_open 167 = .ok (.iaload, 1) := by decide +kernel
theorem dX2_open_168 : decode cX2_open 168 = .ok (.aload_n 0, 1) := by decide +kernel
theorem dX2_open_169 : decode cX2_open 169 = .ok (.getfield 7, 3) := by decide +kernel
theorem dX2_open_172 : decode cX2_open 172 = .ok (.bipush 9, 2) := by decide +kernel
theorem dX2_open_174 : decode cX2_open 174 = .ok (.iaload, 1) := by decide +kernel
theorem dX2_open_175 : decode cX2_open 175 = .ok (.iadd, 1) := by decide +kernel
theorem dX2_open_176 : decode cX2_open 176 = .ok (.iastore, 1) := by decide +kernel
theorem dX2_open_177 : decode cX2_open 177 = .ok (.iconst 0, 1) := by decide +kernel
theorem dX2_open_178 : decode cX2_open 178 = .ok (.ireturn, 1) := by decide +kernel
set_option maxRecDepth 20000 in
theorem ggX2_drill_X2_fails : GoodIn wsX2_drill wsX2_fails := goodIn_r _ [7, 1, 18, 19, 20, 21, 22, 23, 24, 25, 26, 27, 28] (by decide +kernel) (by decide +kernel)
set_option maxRecDepth 20000 in
theorem gX2_drill_X2_fails : GoodIn wsX2_drill (wsV RX2 36 RX2 yX2_fails wsX2_fails) := goodIn_app (goodIn_of _ (by decide +kernel)) ggX2_drill_X2_fails
set_option maxRecDepth 20000 in
theorem ggX2_drill_X2_saves : GoodIn wsX2_drill wsX2_saves := goodIn_r _ [11, 12, 13, 2, 18, 19, 20, 21, 22, 23, 24, 25, 26, 27, 28] (by decide +kernel) (by decide +kernel)
set_option maxRecDepth 20000 in
theorem gX2_drill_X2_saves : GoodIn wsX2_drill (wsV RX2 65 RX2 yX2_saves wsX2_saves) := goodIn_app (goodIn_of _ (by decide +kernel)) ggX2_drill_X2_saves
set_option maxRecDepth 20000 in
theorem ggX2_drill_X2_unlocks : GoodIn wsX2_drill wsX2_unlocks := goodIn_r _ [17, 2, 18, 19, 20, 21, 22, 23, 24, 25, 26, 27, 28] (by decide +kernel) (by decide +kernel)
set_option maxRecDepth 20000 in
theorem gX2_drill_X2_unlocks : GoodIn wsX2_drill (wsV RX2 84 RX2 yX2_unlocks wsX2_unlocks) := goodIn_app (goodIn_of _ (by decide +kernel)) ggX2_drill_X2_unlocks
theorem dX2_drill_0 : decode cX2_drill 0 = .ok (.aload_n 0, 1) := by decide +kernel
theorem dX2_drill_1 : decode cX2_drill 1 = .ok (.iconst 0, 1) := by decide +kernel
theorem dX2_drill_2 : decode cX2_drill 2 = .ok (.putfield 25, 3) := by decide +kernel
theorem dX2_drill_5 : decode cX2_drill 5 = .ok (.aload_n 0, 1) := by decide +kernel
theorem dX2_drill_6 : decode cX2_drill 6 = .ok (.getfield 7, 3) := by decide +kernel
theorem dX2_drill_9 : decode cX2_drill 9 = .ok (.bipush 11, 2) := by decide +kernel
theorem dX2_drill_11 : decode cX2_drill 11 = .ok (.iaload, 1) := by decide +kernel
theorem dX2_drill_12 : decode cX2_drill 12 = .ok (.ifCond .ne 9, 3) := by decide +kernel
theorem dX2_drill_15 : decode cX2_drill 15 = .ok (.aload_n 0, 1) := by decide +kernel
theorem dX2_drill_16 : decode cX2_drill 16 = .ok (.iconst 1, 1) := by decide +kernel
theorem dX2_drill_17 : decode cX2_drill 17 = .ok (.invokevirtual 36, 3) := by decide +kernel
theorem dX2_drill_20 : decode cX2_drill 20 = .ok (.ireturn, 1) := by decide +kernel
theorem dX2_drill_21 : decode cX2_drill 21 = .ok (.aload_n 0, 1) := by decide +kernel
theorem dX2_drill_22 : decode cX2_drill 22 = .ok (.invokevirtual 65, 3) := by decide +kernel
theorem dX2_drill_25 : decode cX2_drill 25 = .ok (.aload_n 0, 1) := by decide +kernel
theorem dX2_drill_26 : decode cX2_drill 26 = .ok (.invokevirtual 84, 3) := by decide +kernel
theorem dX2_drill_29 : decode cX2_drill 29 = .ok (.iconst 0, 1) := by decide +kernel
theorem dX2_drill_30 : decode cX2_drill 30 = .ok (.istore_n 1, 1) := by decide +kernel
theorem dX2_drill_31 : decode cX2_drill 31 = .ok (.iload_n 1, 1) := by decide +kernel
theorem dX2_drill_32 : decode cX2_drill 32 = .ok (.iconst 3, 1) := by decide +kernel
theorem dX2_drill_33 : decode cX2_drill 33 = .ok (.if_icmp .ge 35, 3) := by decide +kernel
theorem dX2_drill_36 : decode cX2_drill 36 = .ok (.aload_n 0, 1) := by decide +kernel
theorem dX2_drill_37 : decode cX2_drill 37 = .ok (.getfield 7, 3) := by decide +kernel
theorem dX2_drill_40 : decode cX2_drill 40 = .ok (.bipush 21, 2) := by decide +kernel
theorem dX2_drill_42 : decode cX2_drill 42 = .ok (.iconst 4, 1) := by decide +kernel
theorem dX2_drill_43 : decode cX2_drill 43 = .ok (.iload_n 1, 1) := by decide +kernel
theorem dX2_drill_44 : decode cX2_drill 44 = .ok (.imul, 1) := by decide +kernel
theorem dX2_drill_45 : decode cX2_drill 45 = .ok (.iadd, 1) := by decide +kernel
theorem dX2_drill_46 : decode cX2_drill 46 = .ok (.iconst 0, 1) := by decide +kernel
theorem dX2_drill_47 : decode cX2_drill 47 = .ok (.iastore, 1) := by decide +kernel
theorem dX2_drill_48 : decode cX2_drill 48 = .ok (.aload_n 0, 1) := by decide +kernel
theorem dX2_drill_49 : decode cX2_drill 49 = .ok (.getfield 7, 3) := by decide +kernel
theorem dX2_drill_52 : decode cX2_drill 52 = .ok (.bipush 21, 2) := by decide +kernel
theorem dX2_drill_54 : decode cX2_drill 54 = .ok (.iconst 4, 1) := by decide +kernel
theorem dX2_drill_55 : decode cX2_drill 55 = .ok (.iload_n 1, 1) := by decide +kernel
theorem dX2_drill_56 : decode cX2_drill 56 = .ok (.imul, 1) := by decide +kernel
theorem dX2_drill_57 : decode cX2_drill 57 = .ok (.iadd, 1) := by decide +kernel
theorem dX2_drill_58 : decode cX2_drill 58 = .ok (.iconst 1, 1) := by decide +kernel
theorem dX2_drill_59 : decode cX2_drill 59 = .ok (.iadd, 1) := by decide +kernel
theorem dX2_drill_60 : decode cX2_drill 60 = .ok (.iconst 0, 1) := by decide +kernel
theorem dX2_drill_61 : decode cX2_drill 61 = .ok (.iastore, 1) := by decide +kernel
theorem dX2_drill_62 : decode cX2_drill 62 = .ok (.iinc 1 1, 3) := by decide +kernel
theorem dX2_drill_65 : decode cX2_drill 65 = .ok (.goto (-34), 3) := by decide +kernel
theorem dX2_drill_68 : decode cX2_drill 68 = .ok (.aload_n 0, 1) := by decide +kernel
theorem dX2_drill_69 : decode cX2_drill 69 = .ok (.getfield 7, 3) := by decide +kernel
theorem dX2_drill_72 : decode cX2_drill 72 = .ok (.bipush 20, 2) := by decide +kernel
theorem dX2_drill_74 : decode cX2_drill 74 = .ok (.dup2, 1) := by decide +kernel
theorem dX2_drill_75 : decode cX2_drill 75 = .ok (.iaload, 1) := by decide +kernel
theorem dX2_drill_76 : decode cX2_drill 76 = .ok (.iconst 1, 1) := by decide +kernel
theorem dX2_drill_77 : decode cX2_drill 77 = .ok (.iadd, 1) := by decide +kernel
theorem dX2_drill_78 : decode cX2_drill 78 = .ok (.iastore, 1) := by decide +kernel
theorem dX2_drill_79 : decode cX2_drill 79 = .ok (.aload_n 0, 1) := by decide +kernel
theorem dX2_drill_80 : decode cX2_drill 80 = .ok (.getfield 7, 3) := by decide +kernel
theorem dX2_drill_83 : decode cX2_drill 83 = .ok (.bipush 20, 2) := by decide +kernel
theorem dX2_drill_85 : decode cX2_drill 85 = .ok (.iaload, 1) := by decide +kernel
theorem dX2_drill_86 : decode cX2_drill 86 = .ok (.ireturn, 1) := by decide +kernel
set_option maxRecDepth 20000 in
theorem ggX2_pass_X2_in : GoodIn wsX2_pass wsX2_in := goodIn_r _ [7] (by decide +kernel) (by decide +kernel)
set_option maxRecDepth 20000 in
theorem gX2_pass_X2_in : GoodIn wsX2_pass (va_wsS RX2 29 yX2_in wsX2_in) := goodIn_app (goodIn_of _ (by decide +kernel)) ggX2_pass_X2_in
set_option maxRecDepth 20000 in
theorem ggX2_pass_X2_fails : GoodIn wsX2_pass wsX2_fails := goodIn_r _ [11, 1, 38, 39, 40, 41, 42, 43, 44, 45, 46, 47, 48] (by decide +kernel) (by decide +kernel)
set_option maxRecDepth 20000 in
theorem gX2_pass_X2_fails : GoodIn wsX2_pass (wsV RX2 36 RX2 yX2_fails wsX2_fails) := goodIn_app (goodIn_of _ (by decide +kernel)) ggX2_pass_X2_fails
set_option maxRecDepth 20000 in
theorem ggX2_pass_X2_saves : GoodIn wsX2_pass wsX2_saves := goodIn_r _ [15, 16, 17, 2, 38, 39, 40, 41, 42, 43, 44, 45, 46, 47, 48] (by decide +kernel) (by decide +kernel)
set_option maxRecDepth 20000 in
theorem gX2_pass_X2_saves : GoodIn wsX2_pass (wsV RX2 65 RX2 yX2_saves wsX2_saves) := goodIn_app (goodIn_of _ (by decide +kernel)) ggX2_pass_X2_saves
set_option maxRecDepth 20000 in
theorem ggX2_pass_X2_hourGoes : GoodIn wsX2_pass wsX2_hourGoes := goodIn_r _ [21, 2, 22, 23, 24, 6, 25, 26, 27, 28, 29, 30, 31, 32, 33, 34, 35, 36, 37, 38, 39, 40, 41, 42, 43, 44, 45, 46, 47, 48] (by decide +kernel) (by decide +kernel)
set_option maxRecDepth 20000 in
theorem gX2_pass_X2_hourGoes : GoodIn wsX2_pass (wsV RX2 88 RX2 yX2_hourGoes wsX2_hourGoes) := goodIn_app (goodIn_of _ (by decide +kernel)) ggX2_pass_X2_hourGoes
set_option maxRecDepth 20000 in
theorem ggX2_pass_X2_hours : GoodIn wsX2_pass wsX2_hours := goodIn_r _ [29, 2, 38, 39, 40, 41, 42, 43, 44, 45, 46, 47, 48] (by decide +kernel) (by decide +kernel)
set_option maxRecDepth 20000 in
theorem gX2_pass_X2_hours : GoodIn wsX2_pass (wsV RX2 51 RX2 yX2_hours wsX2_hours) := goodIn_app (goodIn_of _ (by decide +kernel)) ggX2_pass_X2_hours
theorem dX2_pass_0 : decode cX2_pass 0 = .ok (.aload_n 0, 1) := by decide +kernel
theorem dX2_pass_1 : decode cX2_pass 1 = .ok (.iconst 0, 1) := by decide +kernel
theorem dX2_pass_2 : decode cX2_pass 2 = .ok (.putfield 25, 3) := by decide +kernel
theorem dX2_pass_5 : decode cX2_pass 5 = .ok (.iload_n 1, 1) := by decide +kernel
theorem dX2_pass_6 : decode cX2_pass 6 = .ok (.iconst 1, 1) := by decide +kernel
theorem dX2_pass_7 : decode cX2_pass 7 = .ok (.sipush 200, 3) := by decide +kernel
theorem dX2_pass_10 : decode cX2_pass 10 = .ok (.invokestatic 29, 3) := by decide +kernel
theorem dX2_pass_13 : decode cX2_pass 13 = .ok (.ifCond .ne 9, 3) := by decide +kernel
theorem dX2_pass_16 : decode cX2_pass 16 = .ok (.aload_n 0, 1) := by decide +kernel
theorem dX2_pass_17 : decode cX2_pass 17 = .ok (.iconst 1, 1) := by decide +kernel
theorem dX2_pass_18 : decode cX2_pass 18 = .ok (.invokevirtual 36, 3) := by decide +kernel
theorem dX2_pass_21 : decode cX2_pass 21 = .ok (.ireturn, 1) := by decide +kernel
theorem dX2_pass_22 : decode cX2_pass 22 = .ok (.aload_n 0, 1) := by decide +kernel
theorem dX2_pass_23 : decode cX2_pass 23 = .ok (.getfield 7, 3) := by decide +kernel
theorem dX2_pass_26 : decode cX2_pass 26 = .ok (.iconst 0, 1) := by decide +kernel
theorem dX2_pass_27 : decode cX2_pass 27 = .ok (.iaload, 1) := by decide +kernel
theorem dX2_pass_28 : decode cX2_pass 28 = .ok (.iload_n 1, 1) := by decide +kernel
theorem dX2_pass_29 : decode cX2_pass 29 = .ok (.iadd, 1) := by decide +kernel
theorem dX2_pass_30 : decode cX2_pass 30 = .ok (.ldc 87, 2) := by decide +kernel
theorem dX2_pass_32 : decode cX2_pass 32 = .ok (.if_icmp .le 9, 3) := by decide +kernel
theorem dX2_pass_35 : decode cX2_pass 35 = .ok (.aload_n 0, 1) := by decide +kernel
theorem dX2_pass_36 : decode cX2_pass 36 = .ok (.iconst 2, 1) := by decide +kernel
theorem dX2_pass_37 : decode cX2_pass 37 = .ok (.invokevirtual 36, 3) := by decide +kernel
theorem dX2_pass_40 : decode cX2_pass 40 = .ok (.ireturn, 1) := by decide +kernel
theorem dX2_pass_41 : decode cX2_pass 41 = .ok (.aload_n 0, 1) := by decide +kernel
theorem dX2_pass_42 : decode cX2_pass 42 = .ok (.invokevirtual 65, 3) := by decide +kernel
theorem dX2_pass_45 : decode cX2_pass 45 = .ok (.iconst 0, 1) := by decide +kernel
theorem dX2_pass_46 : decode cX2_pass 46 = .ok (.istore_n 2, 1) := by decide +kernel
theorem dX2_pass_47 : decode cX2_pass 47 = .ok (.iload_n 2, 1) := by decide +kernel
theorem dX2_pass_48 : decode cX2_pass 48 = .ok (.iload_n 1, 1) := by decide +kernel
theorem dX2_pass_49 : decode cX2_pass 49 = .ok (.if_icmp .ge 13, 3) := by decide +kernel
theorem dX2_pass_52 : decode cX2_pass 52 = .ok (.aload_n 0, 1) := by decide +kernel
theorem dX2_pass_53 : decode cX2_pass 53 = .ok (.invokevirtual 88, 3) := by decide +kernel
theorem dX2_pass_56 : decode cX2_pass 56 = .ok (.iinc 2 1, 3) := by decide +kernel
theorem dX2_pass_59 : decode cX2_pass 59 = .ok (.goto (-12), 3) := by decide +kernel
theorem dX2_pass_62 : decode cX2_pass 62 = .ok (.iconst 0, 1) := by decide +kernel
theorem dX2_pass_63 : decode cX2_pass 63 = .ok (.istore_n 2, 1) := by decide +kernel
theorem dX2_pass_64 : decode cX2_pass 64 = .ok (.iconst 0, 1) := by decide +kernel
theorem dX2_pass_65 : decode cX2_pass 65 = .ok (.istore_n 3, 1) := by decide +kernel
theorem dX2_pass_66 : decode cX2_pass 66 = .ok (.iload_n 3, 1) := by decide +kernel
theorem dX2_pass_67 : decode cX2_pass 67 = .ok (.iconst 3, 1) := by decide +kernel
theorem dX2_pass_68 : decode cX2_pass 68 = .ok (.if_icmp .ge 25, 3) := by decide +kernel
theorem dX2_pass_71 : decode cX2_pass 71 = .ok (.iload_n 2, 1) := by decide +kernel
theorem dX2_pass_72 : decode cX2_pass 72 = .ok (.aload_n 0, 1) := by decide +kernel
theorem dX2_pass_73 : decode cX2_pass 73 = .ok (.iload_n 3, 1) := by decide +kernel
theorem dX2_pass_74 : decode cX2_pass 74 = .ok (.invokevirtual 51, 3) := by decide +kernel
theorem dX2_pass_77 : decode cX2_pass 77 = .ok (.ifCond .ne 7, 3) := by decide +kernel
theorem dX2_pass_80 : decode cX2_pass 80 = .ok (.iconst 1, 1) := by decide +kernel
theorem dX2_pass_81 : decode cX2_pass 81 = .ok (.goto 4, 3) := by decide +kernel
theorem dX2_pass_84 : decode cX2_pass 84 = .ok (.iconst 0, 1) := by decide +kernel
theorem dX2_pass_85 : decode cX2_pass 85 = .ok (.iadd, 1) := by decide +kernel
theorem dX2_pass_86 : decode cX2_pass 86 = .ok (.istore_n 2, 1) := by decide +kernel
theorem dX2_pass_87 : decode cX2_pass 87 = .ok (.iinc 3 1, 3) := by decide +kernel
theorem dX2_pass_90 : decode cX2_pass 90 = .ok (.goto (-24), 3) := by decide +kernel
theorem dX2_pass_93 : decode cX2_pass 93 = .ok (.iload_n 2, 1) := by decide +kernel
theorem dX2_pass_94 : decode cX2_pass 94 = .ok (.ireturn, 1) := by decide +kernel
set_option maxRecDepth 20000 in
theorem ggX2_append_X2_in : GoodIn wsX2_append wsX2_in := goodIn_r _ [7] (by decide +kernel) (by decide +kernel)
set_option maxRecDepth 20000 in
theorem gX2_append_X2_in : GoodIn wsX2_append (va_wsS RX2 29 yX2_in wsX2_in) := goodIn_app (goodIn_of _ (by decide +kernel)) ggX2_append_X2_in
set_option maxRecDepth 20000 in
theorem ggX2_append_X2_fails : GoodIn wsX2_append wsX2_fails := goodIn_r _ [11, 1, 12, 13, 14, 15, 16, 17, 18, 19, 20, 21, 22] (by decide +kernel) (by decide +kernel)
set_option maxRecDepth 20000 in
theorem gX2_append_X2_fails : GoodIn wsX2_append (wsV RX2 36 RX2 yX2_fails wsX2_fails) := goodIn_app (goodIn_of _ (by decide +kernel)) ggX2_append_X2_fails
theorem dX2_append_0 : decode cX2_append 0 = .ok (.aload_n 0, 1) := by decide +kernel
theorem dX2_append_1 : decode cX2_append 1 = .ok (.iconst 0, 1) := by decide +kernel
theorem dX2_append_2 : decode cX2_append 2 = .ok (.putfield 25, 3) := by decide +kernel
theorem dX2_append_5 : decode cX2_append 5 = .ok (.iload_n 1, 1) := by decide +kernel
theorem dX2_append_6 : decode cX2_append 6 = .ok (.bipush 33, 2) := by decide +kernel
theorem dX2_append_8 : decode cX2_append 8 = .ok (.bipush 126, 2) := by decide +kernel
theorem dX2_append_10 : decode cX2_append 10 = .ok (.invokestatic 29, 3) := by decide +kernel
theorem dX2_append_13 : decode cX2_append 13 = .ok (.ifCond .ne 9, 3) := by decide +kernel
theorem dX2_append_16 : decode cX2_append 16 = .ok (.aload_n 0, 1) := by decide +kernel
theorem dX2_append_17 : decode cX2_append 17 = .ok (.iconst 1, 1) := by decide +kernel
theorem dX2_append_18 : decode cX2_append 18 = .ok (.invokevirtual 36, 3) := by decide +kernel
theorem dX2_append_21 : decode cX2_append 21 = .ok (.ireturn, 1) := by decide +kernel
theorem dX2_append_22 : decode cX2_append 22 = .ok (.aload_n 0, 1) := by decide +kernel
theorem dX2_append_23 : decode cX2_append 23 = .ok (.getfield 91, 3) := by decide +kernel
theorem dX2_append_26 : decode cX2_append 26 = .ok (.bipush 60, 2) := by decide +kernel
theorem dX2_append_28 : decode cX2_append 28 = .ok (.if_icmp .ne 9, 3) := by decide +kernel
theorem dX2_append_31 : decode cX2_append 31 = .ok (.aload_n 0, 1) := by decide +kernel
theorem dX2_append_32 : decode cX2_append 32 = .ok (.iconst 2, 1) := by decide +kernel
theorem dX2_append_33 : decode cX2_append 33 = .ok (.invokevirtual 36, 3) := by decide +kernel
theorem dX2_append_36 : decode cX2_append 36 = .ok (.ireturn, 1) := by decide +kernel
theorem dX2_append_37 : decode cX2_append 37 = .ok (.aload_n 0, 1) := by decide +kernel
theorem dX2_append_38 : decode cX2_append 38 = .ok (.getfield 16, 3) := by decide +kernel
theorem dX2_append_41 : decode cX2_append 41 = .ok (.aload_n 0, 1) := by decide +kernel
theorem dX2_append_42 : decode cX2_append 42 = .ok (.getfield 91, 3) := by decide +kernel
theorem dX2_append_45 : decode cX2_append 45 = .ok (.iload_n 1, 1) := by decide +kernel
theorem dX2_append_46 : decode cX2_append 46 = .ok (.iastore, 1) := by decide +kernel
theorem dX2_append_47 : decode cX2_append 47 = .ok (.aload_n 0, 1) := by decide +kernel
theorem dX2_append_48 : decode cX2_append 48 = .ok (.dup, 1) := by decide +kernel
theorem dX2_append_49 : decode cX2_append 49 = .ok (.getfield 91, 3) := by decide +kernel
theorem dX2_append_52 : decode cX2_append 52 = .ok (.iconst 1, 1) := by decide +kernel
theorem dX2_append_53 : decode cX2_append 53 = .ok (.iadd, 1) := by decide +kernel
theorem dX2_append_54 : decode cX2_append 54 = .ok (.putfield 91, 3) := by decide +kernel
theorem dX2_append_57 : decode cX2_append 57 = .ok (.aload_n 0, 1) := by decide +kernel
theorem dX2_append_58 : decode cX2_append 58 = .ok (.getfield 91, 3) := by decide +kernel
theorem dX2_append_61 : decode cX2_append 61 = .ok (.ireturn, 1) := by decide +kernel
theorem dX2_clearBuffer_0 : decode cX2_clearBuffer 0 = .ok (.aload_n 0, 1) := by decide +kernel
theorem dX2_clearBuffer_1 : decode cX2_clearBuffer 1 = .ok (.iconst 0, 1) := by decide +kernel
theorem dX2_clearBuffer_2 : decode cX2_clearBuffer 2 = .ok (.putfield 25, 3) := by decide +kernel
theorem dX2_clearBuffer_5 : decode cX2_clearBuffer 5 = .ok (.aload_n 0, 1) := by decide +kernel
theorem dX2_clearBuffer_6 : decode cX2_clearBuffer 6 = .ok (.getfield 91, 3) := by decide +kernel
theorem dX2_clearBuffer_9 : decode cX2_clearBuffer 9 = .ok (.istore_n 1, 1) := by decide +kernel
theorem dX2_clearBuffer_10 : decode cX2_clearBuffer 10 = .ok (.aload_n 0, 1) := by decide +kernel
theorem dX2_clearBuffer_11 : decode cX2_clearBuffer 11 = .ok (.iconst 0, 1) := by decide +kernel
theorem dX2_clearBuffer_12 : decode cX2_clearBuffer 12 = .ok (.putfield 91, 3) := by decide +kernel
theorem dX2_clearBuffer_15 : decode cX2_clearBuffer 15 = .ok (.iload_n 1, 1) := by decide +kernel
theorem dX2_clearBuffer_16 : decode cX2_clearBuffer 16 = .ok (.ireturn, 1) := by decide +kernel
set_option maxRecDepth 20000 in
theorem ggX2_isAt_X2_in : GoodIn wsX2_isAt wsX2_in := goodIn_r _ [7] (by decide +kernel) (by decide +kernel)
set_option maxRecDepth 20000 in
theorem gX2_isAt_X2_in : GoodIn wsX2_isAt (va_wsS RX2 29 yX2_in wsX2_in) := goodIn_app (goodIn_of _ (by decide +kernel)) ggX2_isAt_X2_in
theorem dX2_isAt_0 : decode cX2_isAt 0 = .ok (.aload_n 0, 1) := by decide +kernel
theorem dX2_isAt_1 : decode cX2_isAt 1 = .ok (.getfield 94, 3) := by decide +kernel
theorem dX2_isAt_4 : decode cX2_isAt 4 = .ok (.aload_n 0, 1) := by decide +kernel
theorem dX2_isAt_5 : decode cX2_isAt 5 = .ok (.getfield 91, 3) := by decide +kernel
theorem dX2_isAt_8 : decode cX2_isAt 8 = .ok (.if_icmp .ge 24, 3) := by decide +kernel
theorem dX2_isAt_11 : decode cX2_isAt 11 = .ok (.aload_n 0, 1) := by decide +kernel
theorem dX2_isAt_12 : decode cX2_isAt 12 = .ok (.getfield 16, 3) := by decide +kernel
theorem dX2_isAt_15 : decode cX2_isAt 15 = .ok (.aload_n 0, 1) := by decide +kernel
theorem dX2_isAt_16 : decode cX2_isAt 16 = .ok (.getfield 94, 3) := by decide +kernel
theorem dX2_isAt_19 : decode cX2_isAt 19 = .ok (.iaload, 1) := by decide +kernel
theorem dX2_isAt_20 : decode cX2_isAt 20 = .ok (.iload_n 1, 1) := by decide +kernel
theorem dX2_isAt_21 : decode cX2_isAt 21 = .ok (.iload_n 2, 1) := by decide +kernel
theorem dX2_isAt_22 : decode cX2_isAt 22 = .ok (.invokestatic 29, 3) := by decide +kernel
theorem dX2_isAt_25 : decode cX2_isAt 25 = .ok (.ifCond .eq 7, 3) := by decide +kernel
theorem dX2_isAt_28 : decode cX2_isAt 28 = .ok (.iconst 1, 1) := by decide +kernel
theorem dX2_isAt_29 : decode cX2_isAt 29 = .ok (.goto 4, 3) := by decide +kernel
theorem dX2_isAt_32 : decode cX2_isAt 32 = .ok (.iconst 0, 1) := by decide +kernel
theorem dX2_isAt_33 : decode cX2_isAt 33 = .ok (.ireturn, 1) := by decide +kernel
theorem dX2_stops_0 : decode cX2_stops 0 = .ok (.aload_n 0, 1) := by decide +kernel
theorem dX2_stops_1 : decode cX2_stops 1 = .ok (.aload_n 0, 1) := by decide +kernel
theorem dX2_stops_2 : decode cX2_stops 2 = .ok (.getfield 94, 3) := by decide +kernel
theorem dX2_stops_5 : decode cX2_stops 5 = .ok (.aload_n 0, 1) := by decide +kernel
theorem dX2_stops_6 : decode cX2_stops 6 = .ok (.getfield 91, 3) := by decide +kernel
theorem dX2_stops_9 : decode cX2_stops 9 = .ok (.if_icmp .ge 7, 3) := by decide +kernel
theorem dX2_stops_12 : decode cX2_stops 12 = .ok (.iconst 1, 1) := by decide +kernel
theorem dX2_stops_13 : decode cX2_stops 13 = .ok (.goto 4, 3) := by decide +kernel
theorem dX2_stops_16 : decode cX2_stops 16 = .ok (.iconst 0, 1) := by decide +kernel
theorem dX2_stops_17 : decode cX2_stops 17 = .ok (.putfield 97, 3) := by decide +kernel
theorem dX2_stops_20 : decode cX2_stops 20 = .ok (.iconst 0, 1) := by decide +kernel
theorem dX2_stops_21 : decode cX2_stops 21 = .ok (.ireturn, 1) := by decide +kernel
set_option maxRecDepth 20000 in
theorem ggX2_isSign_X2_isAt : GoodIn wsX2_isSign wsX2_isAt := goodIn_r _ [6, 1, 7, 8, 9, 10, 5, 11, 12, 13, 14, 15, 16, 17, 18, 19, 20, 21, 22] (by decide +kernel) (by decide +kernel)
set_option maxRecDepth 20000 in
theorem gX2_isSign_X2_isAt : GoodIn wsX2_isSign (wsV RX2 101 RX2 yX2_isAt wsX2_isAt) := goodIn_app (goodIn_of _ (by decide +kernel)) ggX2_isSign_X2_isAt
theorem dX2_isSign_0 : decode cX2_isSign 0 = .ok (.aload_n 0, 1) := by decide +kernel
theorem dX2_isSign_1 : decode cX2_isSign 1 = .ok (.iload_n 1, 1) := by decide +kernel
theorem dX2_isSign_2 : decode cX2_isSign 2 = .ok (.iload_n 1, 1) := by decide +kernel
theorem dX2_isSign_3 : decode cX2_isSign 3 = .ok (.invokevirtual 101, 3) := by decide +kernel
theorem dX2_isSign_6 : decode cX2_isSign 6 = .ok (.istore_n 2, 1) := by decide +kernel
theorem dX2_isSign_7 : decode cX2_isSign 7 = .ok (.aload_n 0, 1) := by decide +kernel
theorem dX2_isSign_8 : decode cX2_isSign 8 = .ok (.dup, 1) := by decide +kernel
theorem dX2_isSign_9 : decode cX2_isSign 9 = .ok (.getfield 94, 3) := by decide +kernel
theorem dX2_isSign_12 : decode cX2_isSign 12 = .ok (.iload_n 2, 1) := by decide +kernel
theorem dX2_isSign_13 : decode cX2_isSign 13 = .ok (.ifCond .eq 7, 3) := by decide +kernel
theorem dX2_isSign_16 : decode cX2_isSign 16 = .ok (.iconst 1, 1) := by decide +kernel
theorem dX2_isSign_17 : decode cX2_isSign 17 = .ok (.goto 4, 3) := by decide +kernel
theorem dX2_isSign_20 : decode cX2_isSign 20 = .ok (.iconst 0, 1) := by decide +kernel
theorem dX2_isSign_21 : decode cX2_isSign 21 = .ok (.iadd, 1) := by decide +kernel
theorem dX2_isSign_22 : decode cX2_isSign 22 = .ok (.putfield 94, 3) := by decide +kernel
theorem dX2_isSign_25 : decode cX2_isSign 25 = .ok (.iload_n 2, 1) := by decide +kernel
theorem dX2_isSign_26 : decode cX2_isSign 26 = .ok (.ireturn, 1) := by decide +kernel
set_option maxRecDepth 20000 in
theorem ggX2_isNumber_X2_isAt : GoodIn wsX2_isNumber wsX2_isAt := goodIn_r _ [8, 3, 9, 2, 10, 11, 7, 12, 18, 19, 20, 21, 22, 23, 24, 25, 26, 27, 28] (by decide +kernel) (by decide +kernel)
set_option maxRecDepth 20000 in
theorem gX2_isNumber_X2_isAt : GoodIn wsX2_isNumber (wsV RX2 101 RX2 yX2_isAt wsX2_isAt) := goodIn_app (goodIn_of _ (by decide +kernel)) ggX2_isNumber_X2_isAt
set_option maxRecDepth 20000 in
theorem ggX2_isNumber_X2_stops : GoodIn wsX2_isNumber wsX2_stops := goodIn_r _ [16, 3, 9, 17, 18, 19, 20, 21, 22, 23, 24, 25, 26, 27, 28] (by decide +kernel) (by decide +kernel)
set_option maxRecDepth 20000 in
theorem gX2_isNumber_X2_stops : GoodIn wsX2_isNumber (wsV RX2 104 RX2 yX2_stops wsX2_stops) := goodIn_app (goodIn_of _ (by decide +kernel)) ggX2_isNumber_X2_stops
theorem dX2_isNumber_0 : decode cX2_isNumber 0 = .ok (.aload_n 0, 1) := by decide +kernel
theorem dX2_isNumber_1 : decode cX2_isNumber 1 = .ok (.bipush 49, 2) := by decide +kernel
theorem dX2_isNumber_3 : decode cX2_isNumber 3 = .ok (.bipush 57, 2) := by decide +kernel
theorem dX2_isNumber_5 : decode cX2_isNumber 5 = .ok (.invokevirtual 101, 3) := by decide +kernel
theorem dX2_isNumber_8 : decode cX2_isNumber 8 = .ok (.ifCond .ne 8, 3) := by decide +kernel
theorem dX2_isNumber_11 : decode cX2_isNumber 11 = .ok (.aload_n 0, 1) := by decide +kernel
theorem dX2_isNumber_12 : decode cX2_isNumber 12 = .ok (.invokevirtual 104, 3) := by decide +kernel
theorem dX2_isNumber_15 : decode cX2_isNumber 15 = .ok (.ireturn, 1) := by decide +kernel
theorem dX2_isNumber_16 : decode cX2_isNumber 16 = .ok (.aload_n 0, 1) := by decide +kernel
theorem dX2_isNumber_17 : decode cX2_isNumber 17 = .ok (.iconst 0, 1) := by decide +kernel
theorem dX2_isNumber_18 : decode cX2_isNumber 18 = .ok (.putfield 108, 3) := by decide +kernel
theorem dX2_isNumber_21 : decode cX2_isNumber 21 = .ok (.aload_n 0, 1) := by decide +kernel
theorem dX2_isNumber_22 : decode cX2_isNumber 22 = .ok (.bipush 48, 2) := by decide +kernel
theorem dX2_isNumber_24 : decode cX2_isNumber 24 = .ok (.bipush 57, 2) := by decide +kernel
theorem dX2_isNumber_26 : decode cX2_isNumber 26 = .ok (.invokevirtual 101, 3) := by decide +kernel
theorem dX2_isNumber_29 : decode cX2_isNumber 29 = .ok (.ifCond .eq 66, 3) := by decide +kernel
theorem dX2_isNumber_32 : decode cX2_isNumber 32 = .ok (.bipush 10, 2) := by decide +kernel
theorem dX2_isNumber_34 : decode cX2_isNumber 34 = .ok (.aload_n 0, 1) := by decide +kernel
theorem dX2_isNumber_35 : decode cX2_isNumber 35 = .ok (.getfield 108, 3) := by decide +kernel
theorem dX2_isNumber_38 : decode cX2_isNumber 38 = .ok (.imul, 1) := by decide +kernel
theorem dX2_isNumber_39 : decode cX2_isNumber 39 = .ok (.aload_n 0, 1) := by decide +kernel
theorem dX2_isNumber_40 : decode cX2_isNumber 40 = .ok (.getfield 16, 3) := by decide +kernel
theorem dX2_isNumber_43 : decode cX2_isNumber 43 = .ok (.aload_n 0, 1) := by decide +kernel
theorem dX2_isNumber_44 : decode cX2_isNumber 44 = .ok (.getfield 94, 3) := by decide +kernel
theorem dX2_isNumber_47 : decode cX2_isNumber 47 = .ok (.iaload, 1) := by decide +kernel
theorem dX2_isNumber_48 : decode cX2_isNumber 48 = .ok (.iadd, 1) := by decide +kernel
theorem dX2_isNumber_49 : decode cX2_isNumber 49 = .ok (.bipush 48, 2) := by decide +kernel
theorem dX2_isNumber_51 : decode cX2_isNumber 51 = .ok (.isub, 1) := by decide +kernel
theorem dX2_isNumber_52 : decode cX2_isNumber 52 = .ok (.sipush 200, 3) := by decide +kernel
theorem dX2_isNumber_55 : decode cX2_isNumber 55 = .ok (.if_icmp .gt 40, 3) := by decide +kernel
theorem dX2_isNumber_58 : decode cX2_isNumber 58 = .ok (.aload_n 0, 1) := by decide +kernel
theorem dX2_isNumber_59 : decode cX2_isNumber 59 = .ok (.bipush 10, 2) := by decide +kernel
theorem dX2_isNumber_61 : decode cX2_isNumber 61 = .ok (.aload_n 0, 1) := by decide +kernel
theorem dX2_isNumber_62 : decode cX2_isNumber 62 = .ok (.getfield 108, 3) := by decide +kernel
theorem dX2_isNumber_65 : decode cX2_isNumber 65 = .ok (.imul, 1) := by decide +kernel
theorem dX2_isNumber_66 : decode cX2_isNumber 66 = .ok (.aload_n 0, 1) := by decide +kernel
theorem dX2_isNumber_67 : decode cX2_isNumber 67 = .ok (.getfield 16, 3) := by decide +kernel
theorem dX2_isNumber_70 : decode cX2_isNumber 70 = .ok (.aload_n 0, 1) := by decide +kernel
theorem dX2_isNumber_71 : decode cX2_isNumber 71 = .ok (.getfield 94, 3) := by decide +kernel
theorem dX2_isNumber_74 : decode cX2_isNumber 74 = .ok (.iaload, 1) := by decide +kernel
theorem dX2_isNumber_75 : decode cX2_isNumber 75 = .ok (.iadd, 1) := by decide +kernel
theorem dX2_isNumber_76 : decode cX2_isNumber 76 = .ok (.bipush 48, 2) := by decide +kernel
theorem dX2_isNumber_78 : decode cX2_isNumber 78 = .ok (.isub, 1) := by decide +kernel
theorem dX2_isNumber_79 : decode cX2_isNumber 79 = .ok (.putfield 108, 3) := by decide +kernel
theorem dX2_isNumber_82 : decode cX2_isNumber 82 = .ok (.aload_n 0, 1) := by decide +kernel
theorem dX2_isNumber_83 : decode cX2_isNumber 83 = .ok (.dup, 1) := by decide +kernel
theorem dX2_isNumber_84 : decode cX2_isNumber 84 = .ok (.getfield 94, 3) := by decide +kernel
theorem dX2_isNumber_87 : decode cX2_isNumber 87 = .ok (.iconst 1, 1) := by decide +kernel
theorem dX2_isNumber_88 : decode cX2_isNumber 88 = .ok (.iadd, 1) := by decide +kernel
theorem dX2_isNumber_89 : decode cX2_isNumber 89 = .ok (.putfield 94, 3) := by decide +kernel
theorem dX2_isNumber_92 : decode cX2_isNumber 92 = .ok (.goto (-71), 3) := by decide +kernel
theorem dX2_isNumber_95 : decode cX2_isNumber 95 = .ok (.iconst 1, 1) := by decide +kernel
theorem dX2_isNumber_96 : decode cX2_isNumber 96 = .ok (.ireturn, 1) := by decide +kernel
set_option maxRecDepth 20000 in
theorem ggX2_isWinding_X2_isSign : GoodIn wsX2_isWinding wsX2_isSign := goodIn_r _ [10, 4, 11, 12, 13, 9, 14, 15, 5, 16, 17, 18, 28, 29, 30, 31, 32, 33, 34, 35, 36, 37, 38] (by decide +kernel) (by decide +kernel)
set_option maxRecDepth 20000 in
theorem gX2_isWinding_X2_isSign : GoodIn wsX2_isWinding (wsV RX2 111 RX2 yX2_isSign wsX2_isSign) := goodIn_app (goodIn_of _ (by decide +kernel)) ggX2_isWinding_X2_isSign
set_option maxRecDepth 20000 in
theorem ggX2_isWinding_X2_isNumber : GoodIn wsX2_isWinding wsX2_isNumber := goodIn_r _ [22, 3, 5, 4, 11, 12, 13, 9, 14, 15, 16, 17, 18, 23, 24, 25, 26, 27, 28, 29, 30, 31, 32, 33, 34, 35, 36, 37, 38] (by decide +kernel) (by decide +kernel)
set_option maxRecDepth 20000 in
theorem gX2_isWinding_X2_isNumber : GoodIn wsX2_isWinding (wsV RX2 114 RX2 yX2_isNumber wsX2_isNumber) := goodIn_app (goodIn_of _ (by decide +kernel)) ggX2_isWinding_X2_isNumber
set_option maxRecDepth 20000 in
theorem ggX2_isWinding_X2_isAt : GoodIn wsX2_isWinding wsX2_isAt := goodIn_r _ [14, 4, 15, 5, 16, 17, 9, 18, 28, 29, 30, 31, 32, 33, 34, 35, 36, 37, 38] (by decide +kernel) (by decide +kernel)
set_option maxRecDepth 20000 in
theorem gX2_isWinding_X2_isAt : GoodIn wsX2_isWinding (wsV RX2 101 RX2 yX2_isAt wsX2_isAt) := goodIn_app (goodIn_of _ (by decide +kernel)) ggX2_isWinding_X2_isAt
set_option maxRecDepth 20000 in
theorem ggX2_isWinding_X2_stops : GoodIn wsX2_isWinding wsX2_stops := goodIn_r _ [26, 4, 15, 27, 28, 29, 30, 31, 32, 33, 34, 35, 36, 37, 38] (by decide +kernel) (by decide +kernel)
set_option maxRecDepth 20000 in
theorem gX2_isWinding_X2_stops : GoodIn wsX2_isWinding (wsV RX2 104 RX2 yX2_stops wsX2_stops) := goodIn_app (goodIn_of _ (by decide +kernel)) ggX2_isWinding_X2_stops
theorem dX2_isWinding_0 : decode cX2_isWinding 0 = .ok (.aload_n 0, 1) := by decide +kernel
theorem dX2_isWinding_1 : decode cX2_isWinding 1 = .ok (.getfield 19, 3) := by decide +kernel
theorem dX2_isWinding_4 : decode cX2_isWinding 4 = .ok (.iload_n 1, 1) := by decide +kernel
theorem dX2_isWinding_5 : decode cX2_isWinding 5 = .ok (.iconst 0, 1) := by decide +kernel
theorem dX2_isWinding_6 : decode cX2_isWinding 6 = .ok (.iastore, 1) := by decide +kernel
theorem dX2_isWinding_7 : decode cX2_isWinding 7 = .ok (.aload_n 0, 1) := by decide +kernel
theorem dX2_isWinding_8 : decode cX2_isWinding 8 = .ok (.getfield 22, 3) := by decide +kernel
theorem dX2_isWinding_11 : decode cX2_isWinding 11 = .ok (.iload_n 1, 1) := by decide +kernel
theorem dX2_isWinding_12 : decode cX2_isWinding 12 = .ok (.iconst 0, 1) := by decide +kernel
theorem dX2_isWinding_13 : decode cX2_isWinding 13 = .ok (.iastore, 1) := by decide +kernel
theorem dX2_isWinding_14 : decode cX2_isWinding 14 = .ok (.aload_n 0, 1) := by decide +kernel
theorem dX2_isWinding_15 : decode cX2_isWinding 15 = .ok (.bipush 45, 2) := by decide +kernel
theorem dX2_isWinding_17 : decode cX2_isWinding 17 = .ok (.invokevirtual 111, 3) := by decide +kernel
theorem dX2_isWinding_20 : decode cX2_isWinding 20 = .ok (.ifCond .eq 5, 3) := by decide +kernel
theorem dX2_isWinding_23 : decode cX2_isWinding 23 = .ok (.iconst 1, 1) := by decide +kernel
theorem dX2_isWinding_24 : decode cX2_isWinding 24 = .ok (.ireturn, 1) := by decide +kernel
theorem dX2_isWinding_25 : decode cX2_isWinding 25 = .ok (.aload_n 0, 1) := by decide +kernel
theorem dX2_isWinding_26 : decode cX2_isWinding 26 = .ok (.bipush 110, 2) := by decide +kernel
theorem dX2_isWinding_28 : decode cX2_isWinding 28 = .ok (.invokevirtual 111, 3) := by decide +kernel
theorem dX2_isWinding_31 : decode cX2_isWinding 31 = .ok (.ifCond .ne 27, 3) := by decide +kernel
theorem dX2_isWinding_34 : decode cX2_isWinding 34 = .ok (.aload_n 0, 1) := by decide +kernel
theorem dX2_isWinding_35 : decode cX2_isWinding 35 = .ok (.getfield 19, 3) := by decide +kernel
theorem dX2_isWinding_38 : decode cX2_isWinding 38 = .ok (.iload_n 1, 1) := by decide +kernel
theorem dX2_isWinding_39 : decode cX2_isWinding 39 = .ok (.iconst 1, 1) := by decide +kernel
theorem dX2_isWinding_40 : decode cX2_isWinding 40 = .ok (.iastore, 1) := by decide +kernel
theorem dX2_isWinding_41 : decode cX2_isWinding 41 = .ok (.aload_n 0, 1) := by decide +kernel
theorem dX2_isWinding_42 : decode cX2_isWinding 42 = .ok (.invokevirtual 114, 3) := by decide +kernel
theorem dX2_isWinding_45 : decode cX2_isWinding 45 = .ok (.istore_n 2, 1) := by decide +kernel
theorem dX2_isWinding_46 : decode cX2_isWinding 46 = .ok (.aload_n 0, 1) := by decide +kernel
theorem dX2_isWinding_47 : decode cX2_isWinding 47 = .ok (.getfield 22, 3) := by decide +kernel
theorem dX2_isWinding_50 : decode cX2_isWinding 50 = .ok (.iload_n 1, 1) := by decide +kernel
theorem dX2_isWinding_51 : decode cX2_isWinding 51 = .ok (.aload_n 0, 1) := by decide +kernel
theorem dX2_isWinding_52 : decode cX2_isWinding 52 = .ok (.getfield 108, 3) := by decide +kernel
theorem dX2_isWinding_55 : decode cX2_isWinding 55 = .ok (.iastore, 1) := by decide +kernel
theorem dX2_isWinding_56 : decode cX2_isWinding 56 = .ok (.iload_n 2, 1) := by decide +kernel
theorem dX2_isWinding_57 : decode cX2_isWinding 57 = .ok (.ireturn, 1) := by decide +kernel
theorem dX2_isWinding_58 : decode cX2_isWinding 58 = .ok (.aload_n 0, 1) := by decide +kernel
theorem dX2_isWinding_59 : decode cX2_isWinding 59 = .ok (.getfield 19, 3) := by decide +kernel
theorem dX2_isWinding_62 : decode cX2_isWinding 62 = .ok (.iload_n 1, 1) := by decide +kernel
theorem dX2_isWinding_63 : decode cX2_isWinding 63 = .ok (.iconst 2, 1) := by decide +kernel
theorem dX2_isWinding_64 : decode cX2_isWinding 64 = .ok (.iastore, 1) := by decide +kernel
theorem dX2_isWinding_65 : decode cX2_isWinding 65 = .ok (.aload_n 0, 1) := by decide +kernel
theorem dX2_isWinding_66 : decode cX2_isWinding 66 = .ok (.bipush 45, 2) := by decide +kernel
theorem dX2_isWinding_68 : decode cX2_isWinding 68 = .ok (.bipush 45, 2) := by decide +kernel
theorem dX2_isWinding_70 : decode cX2_isWinding 70 = .ok (.invokevirtual 101, 3) := by decide +kernel
theorem dX2_isWinding_73 : decode cX2_isWinding 73 = .ok (.istore_n 2, 1) := by decide +kernel
theorem dX2_isWinding_74 : decode cX2_isWinding 74 = .ok (.iload_n 2, 1) := by decide +kernel
theorem dX2_isWinding_75 : decode cX2_isWinding 75 = .ok (.ifCond .ne 14, 3) := by decide +kernel
theorem dX2_isWinding_78 : decode cX2_isWinding 78 = .ok (.aload_n 0, 1) := by decide +kernel
theorem dX2_isWinding_79 : decode cX2_isWinding 79 = .ok (.bipush 43, 2) := by decide +kernel
theorem dX2_isWinding_81 : decode cX2_isWinding 81 = .ok (.bipush 43, 2) := by decide +kernel
theorem dX2_isWinding_83 : decode cX2_isWinding 83 = .ok (.invokevirtual 101, 3) := by decide +kernel
theorem dX2_isWinding_86 : decode cX2_isWinding 86 = .ok (.ifCond .eq 76, 3) := by decide +kernel
theorem dX2_isWinding_89 : decode cX2_isWinding 89 = .ok (.aload_n 0, 1) := by decide +kernel
theorem dX2_isWinding_90 : decode cX2_isWinding 90 = .ok (.dup, 1) := by decide +kernel
theorem dX2_isWinding_91 : decode cX2_isWinding 91 = .ok (.getfield 94, 3) := by decide +kernel
theorem dX2_isWinding_94 : decode cX2_isWinding 94 = .ok (.iconst 1, 1) := by decide +kernel
theorem dX2_isWinding_95 : decode cX2_isWinding 95 = .ok (.iadd, 1) := by decide +kernel
theorem dX2_isWinding_96 : decode cX2_isWinding 96 = .ok (.putfield 94, 3) := by decide +kernel
theorem dX2_isWinding_99 : decode cX2_isWinding 99 = .ok (.aload_n 0, 1) := by decide +kernel
theorem dX2_isWinding_100 : decode cX2_isWinding 100 = .ok (.bipush 49, 2) := by decide +kernel
theorem dX2_isWinding_102 : decode cX2_isWinding 102 = .ok (.bipush 57, 2) := by decide +kernel
theorem dX2_isWinding_104 : decode cX2_isWinding 104 = .ok (.invokevirtual 101, 3) := by decide +kernel
theorem dX2_isWinding_107 : decode cX2_isWinding 107 = .ok (.ifCond .ne 8, 3) := by decide +kernel
theorem dX2_isWinding_110 : decode cX2_isWinding 110 = .ok (.aload_n 0, 1) := by decide +kernel
theorem dX2_isWinding_111 : decode cX2_isWinding 111 = .ok (.invokevirtual 104, 3) := by decide +kernel
theorem dX2_isWinding_114 : decode cX2_isWinding 114 = .ok (.ireturn, 1) := by decide +kernel
theorem dX2_isWinding_115 : decode cX2_isWinding 115 = .ok (.aload_n 0, 1) := by decide +kernel
theorem dX2_isWinding_116 : decode cX2_isWinding 116 = .ok (.getfield 22, 3) := by decide +kernel
theorem dX2_isWinding_119 : decode cX2_isWinding 119 = .ok (.iload_n 1, 1) := by decide +kernel
theorem dX2_isWinding_120 : decode cX2_isWinding 120 = .ok (.iload_n 2, 1) := by decide +kernel
theorem dX2_isWinding_121 : decode cX2_isWinding 121 = .ok (.ifCond .eq 18, 3) := by decide +kernel
theorem dX2_isWinding_124 : decode cX2_isWinding 124 = .ok (.bipush 48, 2) := by decide +kernel
theorem dX2_isWinding_126 : decode cX2_isWinding 126 = .ok (.aload_n 0, 1) := by decide +kernel
theorem dX2_isWinding_127 : decode cX2_isWinding 127 = .ok (.getfield 16, 3) := by decide +kernel
theorem dX2_isWinding_130 : decode cX2_isWinding 130 = .ok (.aload_n 0, 1) := by decide +kernel
theorem dX2_isWinding_131 : decode cX2_isWinding 131 = .ok (.getfield 94, 3) := by decide +kernel
theorem dX2_isWinding_134 : decode cX2_isWinding 134 = .ok (.iaload, 1) := by decide +kernel
theorem dX2_isWinding_135 : decode cX2_isWinding 135 = .ok (.isub, 1) := by decide +kernel
theorem dX2_isWinding_136 : decode cX2_isWinding 136 = .ok (.goto 15, 3) := by decide +kernel
theorem dX2_isWinding_139 : decode cX2_isWinding 139 = .ok (.aload_n 0, 1) := by decide +kernel
theorem dX2_isWinding_140 : decode cX2_isWinding 140 = .ok (.getfield 16, 3) := by decide +kernel
theorem dX2_isWinding_143 : decode cX2_isWinding 143 = .ok (.aload_n 0, 1) := by decide +kernel
theorem dX2_isWinding_144 : decode cX2_isWinding 144 = .ok (.getfield 94, 3) := by decide +kernel
theorem dX2_isWinding_147 : decode cX2_isWinding 147 = .ok (.iaload, 1) := by decide +kernel
theorem dX2_isWinding_148 : decode cX2_isWinding 148 = .ok (.bipush 48, 2) := by decide +kernel
theorem dX2_isWinding_150 : decode cX2_isWinding 150 = .ok (.isub, 1) := by decide +kernel
theorem dX2_isWinding_151 : decode cX2_isWinding 151 = .ok (.iastore, 1) := by decide +kernel
theorem dX2_isWinding_152 : decode cX2_isWinding 152 = .ok (.aload_n 0, 1) := by decide +kernel
theorem dX2_isWinding_153 : decode cX2_isWinding 153 = .ok (.dup, 1) := by decide +kernel
theorem dX2_isWinding_154 : decode cX2_isWinding 154 = .ok (.getfield 94, 3) := by decide +kernel
theorem dX2_isWinding_157 : decode cX2_isWinding 157 = .ok (.iconst 1, 1) := by decide +kernel
theorem dX2_isWinding_158 : decode cX2_isWinding 158 = .ok (.iadd, 1) := by decide +kernel
theorem dX2_isWinding_159 : decode cX2_isWinding 159 = .ok (.putfield 94, 3) := by decide +kernel
theorem dX2_isWinding_162 : decode cX2_isWinding 162 = .ok (.iconst 1, 1) := by decide +kernel
theorem dX2_isWinding_163 : decode cX2_isWinding 163 = .ok (.ireturn, 1) := by decide +kernel
set_option maxRecDepth 20000 in
theorem ggX2_isText_X2_isSign : GoodIn wsX2_isText wsX2_isSign := goodIn_r _ [8, 1, 9, 10, 11, 7, 12, 3, 13, 14, 15, 16, 32, 33, 34, 35, 36, 37, 38, 39, 40, 41, 42] (by decide +kernel) (by decide +kernel)
set_option maxRecDepth 20000 in
theorem gX2_isText_X2_isSign : GoodIn wsX2_isText (wsV RX2 111 RX2 yX2_isSign wsX2_isSign) := goodIn_app (goodIn_of _ (by decide +kernel)) ggX2_isText_X2_isSign
set_option maxRecDepth 20000 in
theorem ggX2_isText_X2_stops : GoodIn wsX2_isText wsX2_stops := goodIn_r _ [20, 1, 3, 2, 32, 33, 34, 35, 36, 37, 38, 39, 40, 41, 42] (by decide +kernel) (by decide +kernel)
set_option maxRecDepth 20000 in
theorem gX2_isText_X2_stops : GoodIn wsX2_isText (wsV RX2 104 RX2 yX2_stops wsX2_stops) := goodIn_app (goodIn_of _ (by decide +kernel)) ggX2_isText_X2_stops
set_option maxRecDepth 20000 in
theorem ggX2_isText_X2_isWinding : GoodIn wsX2_isText wsX2_isWinding := goodIn_r _ [24, 25, 26, 27, 1, 13, 4, 5, 6, 7, 8, 9, 10, 11, 12, 3, 14, 15, 16, 28, 29, 30, 31, 17, 18, 19, 20, 2, 32, 33, 34, 35, 36, 37, 38, 39, 40, 41, 42] (by decide +kernel) (by decide +kernel)
set_option maxRecDepth 20000 in
theorem gX2_isText_X2_isWinding : GoodIn wsX2_isText (wsV RX2 117 RX2 yX2_isWinding wsX2_isWinding) := goodIn_app (goodIn_of _ (by decide +kernel)) ggX2_isText_X2_isWinding
theorem dX2_isText_0 : decode cX2_isText 0 = .ok (.aload_n 0, 1) := by decide +kernel
theorem dX2_isText_1 : decode cX2_isText 1 = .ok (.iconst 0, 1) := by decide +kernel
theorem dX2_isText_2 : decode cX2_isText 2 = .ok (.putfield 94, 3) := by decide +kernel
theorem dX2_isText_5 : decode cX2_isText 5 = .ok (.aload_n 0, 1) := by decide +kernel
theorem dX2_isText_6 : decode cX2_isText 6 = .ok (.iconst 0, 1) := by decide +kernel
theorem dX2_isText_7 : decode cX2_isText 7 = .ok (.putfield 97, 3) := by decide +kernel
theorem dX2_isText_10 : decode cX2_isText 10 = .ok (.iconst 0, 1) := by decide +kernel
theorem dX2_isText_11 : decode cX2_isText 11 = .ok (.istore_n 1, 1) := by decide +kernel
theorem dX2_isText_12 : decode cX2_isText 12 = .ok (.iload_n 1, 1) := by decide +kernel
theorem dX2_isText_13 : decode cX2_isText 13 = .ok (.iconst 3, 1) := by decide +kernel
theorem dX2_isText_14 : decode cX2_isText 14 = .ok (.if_icmp .ge 37, 3) := by decide +kernel
theorem dX2_isText_17 : decode cX2_isText 17 = .ok (.iload_n 1, 1) := by decide +kernel
theorem dX2_isText_18 : decode cX2_isText 18 = .ok (.ifCond .le 17, 3) := by decide +kernel
theorem dX2_isText_21 : decode cX2_isText 21 = .ok (.aload_n 0, 1) := by decide +kernel
theorem dX2_isText_22 : decode cX2_isText 22 = .ok (.bipush 44, 2) := by decide +kernel
theorem dX2_isText_24 : decode cX2_isText 24 = .ok (.invokevirtual 111, 3) := by decide +kernel
theorem dX2_isText_27 : decode cX2_isText 27 = .ok (.ifCond .ne 8, 3) := by decide +kernel
theorem dX2_isText_30 : decode cX2_isText 30 = .ok (.aload_n 0, 1) := by decide +kernel
theorem dX2_isText_31 : decode cX2_isText 31 = .ok (.invokevirtual 104, 3) := by decide +kernel
theorem dX2_isText_34 : decode cX2_isText 34 = .ok (.ireturn, 1) := by decide +kernel
theorem dX2_isText_35 : decode cX2_isText 35 = .ok (.aload_n 0, 1) := by decide +kernel
theorem dX2_isText_36 : decode cX2_isText 36 = .ok (.iload_n 1, 1) := by decide +kernel
theorem dX2_isText_37 : decode cX2_isText 37 = .ok (.invokevirtual 117, 3) := by decide +kernel
theorem dX2_isText_40 : decode cX2_isText 40 = .ok (.ifCond .ne 5, 3) := by decide +kernel
theorem dX2_isText_43 : decode cX2_isText 43 = .ok (.iconst 0, 1) := by decide +kernel
theorem dX2_isText_44 : decode cX2_isText 44 = .ok (.ireturn, 1) := by decide +kernel
theorem dX2_isText_45 : decode cX2_isText 45 = .ok (.iinc 1 1, 3) := by decide +kernel
theorem dX2_isText_48 : decode cX2_isText 48 = .ok (.goto (-36), 3) := by decide +kernel
theorem dX2_isText_51 : decode cX2_isText 51 = .ok (.aload_n 0, 1) := by decide +kernel
theorem dX2_isText_52 : decode cX2_isText 52 = .ok (.aload_n 0, 1) := by decide +kernel
theorem dX2_isText_53 : decode cX2_isText 53 = .ok (.getfield 94, 3) := by decide +kernel
theorem dX2_isText_56 : decode cX2_isText 56 = .ok (.aload_n 0, 1) := by decide +kernel
theorem dX2_isText_57 : decode cX2_isText 57 = .ok (.getfield 91, 3) := by decide +kernel
theorem dX2_isText_60 : decode cX2_isText 60 = .ok (.if_icmp .ge 7, 3) := by decide +kernel
theorem dX2_isText_63 : decode cX2_isText 63 = .ok (.iconst 1, 1) := by decide +kernel
theorem dX2_isText_64 : decode cX2_isText 64 = .ok (.goto 4, 3) := by decide +kernel
theorem dX2_isText_67 : decode cX2_isText 67 = .ok (.iconst 0, 1) := by decide +kernel
theorem dX2_isText_68 : decode cX2_isText 68 = .ok (.putfield 97, 3) := by decide +kernel
theorem dX2_isText_71 : decode cX2_isText 71 = .ok (.aload_n 0, 1) := by decide +kernel
theorem dX2_isText_72 : decode cX2_isText 72 = .ok (.getfield 94, 3) := by decide +kernel
theorem dX2_isText_75 : decode cX2_isText 75 = .ok (.aload_n 0, 1) := by decide +kernel
theorem dX2_isText_76 : decode cX2_isText 76 = .ok (.getfield 91, 3) := by decide +kernel
theorem dX2_isText_79 : decode cX2_isText 79 = .ok (.if_icmp .ne 7, 3) := by decide +kernel
theorem dX2_isText_82 : decode cX2_isText 82 = .ok (.iconst 1, 1) := by decide +kernel
theorem dX2_isText_83 : decode cX2_isText 83 = .ok (.goto 4, 3) := by decide +kernel
theorem dX2_isText_86 : decode cX2_isText 86 = .ok (.iconst 0, 1) := by decide +kernel
theorem dX2_isText_87 : decode cX2_isText 87 = .ok (.ireturn, 1) := by decide +kernel
set_option maxRecDepth 20000 in
theorem ggX2_firstError_X2_isText : GoodIn wsX2_firstError wsX2_isText := goodIn_r _ [9, 3, 2, 4, 10, 11, 12, 8, 13, 14, 15, 16, 17, 18, 19, 20, 21, 22, 23, 24, 25, 26, 27, 28, 29, 30, 31, 32, 33, 34, 35, 36, 37, 38, 39, 40, 41, 42, 43, 44, 45, 46, 47] (by decide +kernel) (by decide +kernel)
set_option maxRecDepth 20000 in
theorem gX2_firstError_X2_isText : GoodIn wsX2_firstError (wsV RX2 120 RX2 yX2_isText wsX2_isText) := goodIn_app (goodIn_of _ (by decide +kernel)) ggX2_firstError_X2_isText
theorem dX2_firstError_0 : decode cX2_firstError 0 = .ok (.aload_n 0, 1) := by decide +kernel
theorem dX2_firstError_1 : decode cX2_firstError 1 = .ok (.iconst 0, 1) := by decide +kernel
theorem dX2_firstError_2 : decode cX2_firstError 2 = .ok (.putfield 25, 3) := by decide +kernel
theorem dX2_firstError_5 : decode cX2_firstError 5 = .ok (.aload_n 0, 1) := by decide +kernel
theorem dX2_firstError_6 : decode cX2_firstError 6 = .ok (.invokevirtual 120, 3) := by decide +kernel
theorem dX2_firstError_9 : decode cX2_firstError 9 = .ok (.istore_n 1, 1) := by decide +kernel
theorem dX2_firstError_10 : decode cX2_firstError 10 = .ok (.iload_n 1, 1) := by decide +kernel
theorem dX2_firstError_11 : decode cX2_firstError 11 = .ok (.ifCond .ne 17, 3) := by decide +kernel
theorem dX2_firstError_14 : decode cX2_firstError 14 = .ok (.aload_n 0, 1) := by decide +kernel
theorem dX2_firstError_15 : decode cX2_firstError 15 = .ok (.getfield 97, 3) := by decide +kernel
theorem dX2_firstError_18 : decode cX2_firstError 18 = .ok (.ifCond .eq 10, 3) := by decide +kernel
theorem dX2_firstError_21 : decode cX2_firstError 21 = .ok (.aload_n 0, 1) := by decide +kernel
theorem dX2_firstError_22 : decode cX2_firstError 22 = .ok (.getfield 94, 3) := by decide +kernel
theorem dX2_firstError_25 : decode cX2_firstError 25 = .ok (.goto 7, 3) := by decide +kernel
theorem dX2_firstError_28 : decode cX2_firstError 28 = .ok (.aload_n 0, 1) := by decide +kernel
theorem dX2_firstError_29 : decode cX2_firstError 29 = .ok (.getfield 91, 3) := by decide +kernel
theorem dX2_firstError_32 : decode cX2_firstError 32 = .ok (.ireturn, 1) := by decide +kernel
end
section
set_option maxRecDepth 20000 in
theorem ggX2_woundBy_X2_toOpening : GoodIn wsX2_woundBy wsX2_toOpening := goodIn_r _ [7, 8, 9, 10, 11, 12, 13, 14, 15, 16, 17, 18, 19] (by decide +kernel) (by decide +kernel)
set_option maxRecDepth 20000 in
theorem gX2_woundBy_X2_toOpening : GoodIn wsX2_woundBy (wsV RX2 78 RX2 yX2_toOpening wsX2_toOpening) := goodIn_app (goodIn_of _ (by decide +kernel)) ggX2_woundBy_X2_toOpening
theorem dX2_woundBy_0 : decode cX2_woundBy 0 = .ok (.aload_n 0, 1) := by decide +kernel
theorem dX2_woundBy_1 : decode cX2_woundBy 1 = .ok (.getfield 19, 3) := by decide +kernel
theorem dX2_woundBy_4 : decode cX2_woundBy 4 = .ok (.iload_n 1, 1) := by decide +kernel
theorem dX2_woundBy_5 : decode cX2_woundBy 5 = .ok (.iaload, 1) := by decide +kernel
theorem dX2_woundBy_6 : decode cX2_woundBy 6 = .ok (.iconst 2, 1) := by decide +kernel
theorem dX2_woundBy_7 : decode cX2_woundBy 7 = .ok (.if_icmp .ne 17, 3) := by decide +kernel
theorem dX2_woundBy_10 : decode cX2_woundBy 10 = .ok (.aload_n 0, 1) := by decide +kernel
theorem dX2_woundBy_11 : decode cX2_woundBy 11 = .ok (.invokevirtual 78, 3) := by decide +kernel
theorem dX2_woundBy_14 : decode cX2_woundBy 14 = .ok (.aload_n 0, 1) := by decide +kernel
theorem dX2_woundBy_15 : decode cX2_woundBy 15 = .ok (.getfield 22, 3) := by decide +kernel
theorem dX2_woundBy_18 : decode cX2_woundBy 18 = .ok (.iload_n 1, 1) := by decide +kernel
theorem dX2_woundBy_19 : decode cX2_woundBy 19 = .ok (.iaload, 1) := by decide +kernel
theorem dX2_woundBy_20 : decode cX2_woundBy 20 = .ok (.iadd, 1) := by decide +kernel
theorem dX2_woundBy_21 : decode cX2_woundBy 21 = .ok (.goto 9, 3) := by decide +kernel
theorem dX2_woundBy_24 : decode cX2_woundBy 24 = .ok (.aload_n 0, 1) := by decide +kernel
theorem dX2_woundBy_25 : decode cX2_woundBy 25 = .ok (.getfield 22, 3) := by decide +kernel
theorem dX2_woundBy_28 : decode cX2_woundBy 28 = .ok (.iload_n 1, 1) := by decide +kernel
theorem dX2_woundBy_29 : decode cX2_woundBy 29 = .ok (.iaload, 1) := by decide +kernel
theorem dX2_woundBy_30 : decode cX2_woundBy 30 = .ok (.ireturn, 1) := by decide +kernel
set_option maxRecDepth 20000 in
theorem ggX2_mayWind_X2_goes : GoodIn wsX2_mayWind wsX2_goes := goodIn_r _ [7, 1, 20, 21, 22, 23, 24, 25, 26, 27, 28, 29, 30] (by decide +kernel) (by decide +kernel)
set_option maxRecDepth 20000 in
theorem gX2_mayWind_X2_goes : GoodIn wsX2_mayWind (wsV RX2 40 RX2 yX2_goes wsX2_goes) := goodIn_app (goodIn_of _ (by decide +kernel)) ggX2_mayWind_X2_goes
set_option maxRecDepth 20000 in
theorem ggX2_mayWind_X2_toOpening : GoodIn wsX2_mayWind wsX2_toOpening := goodIn_r _ [11, 1, 20, 21, 22, 23, 24, 25, 26, 27, 28, 29, 30] (by decide +kernel) (by decide +kernel)
set_option maxRecDepth 20000 in
theorem gX2_mayWind_X2_toOpening : GoodIn wsX2_mayWind (wsV RX2 78 RX2 yX2_toOpening wsX2_toOpening) := goodIn_app (goodIn_of _ (by decide +kernel)) ggX2_mayWind_X2_toOpening
set_option maxRecDepth 20000 in
theorem ggX2_mayWind_X2_woundBy : GoodIn wsX2_mayWind wsX2_woundBy := goodIn_r _ [15, 2, 16, 8, 9, 10, 6, 11, 1, 20, 21, 22, 23, 24, 25, 26, 27, 28, 29, 30] (by decide +kernel) (by decide +kernel)
set_option maxRecDepth 20000 in
theorem gX2_mayWind_X2_woundBy : GoodIn wsX2_mayWind (wsV RX2 123 RX2 yX2_woundBy wsX2_woundBy) := goodIn_app (goodIn_of _ (by decide +kernel)) ggX2_mayWind_X2_woundBy
set_option maxRecDepth 20000 in
theorem ggX2_mayWind_X2_in : GoodIn wsX2_mayWind wsX2_in := goodIn_r _ [19] (by decide +kernel) (by decide +kernel)
set_option maxRecDepth 20000 in
theorem gX2_mayWind_X2_in : GoodIn wsX2_mayWind (va_wsS RX2 29 yX2_in wsX2_in) := goodIn_app (goodIn_of _ (by decide +kernel)) ggX2_mayWind_X2_in
theorem dX2_mayWind_0 : decode cX2_mayWind 0 = .ok (.aload_n 0, 1) := by decide +kernel
theorem dX2_mayWind_1 : decode cX2_mayWind 1 = .ok (.getfield 7, 3) := by decide +kernel
theorem dX2_mayWind_4 : decode cX2_mayWind 4 = .ok (.bipush 11, 2) := by decide +kernel
theorem dX2_mayWind_6 : decode cX2_mayWind 6 = .ok (.iaload, 1) := by decide +kernel
theorem dX2_mayWind_7 : decode cX2_mayWind 7 = .ok (.ifCond .ne 7, 3) := by decide +kernel
theorem dX2_mayWind_10 : decode cX2_mayWind 10 = .ok (.iconst 1, 1) := by decide +kernel
theorem dX2_mayWind_11 : decode cX2_mayWind 11 = .ok (.goto 4, 3) := by decide +kernel
theorem dX2_mayWind_14 : decode cX2_mayWind 14 = .ok (.iconst 0, 1) := by decide +kernel
theorem dX2_mayWind_15 : decode cX2_mayWind 15 = .ok (.istore_n 1, 1) := by decide +kernel
theorem dX2_mayWind_16 : decode cX2_mayWind 16 = .ok (.iconst 0, 1) := by decide +kernel
theorem dX2_mayWind_17 : decode cX2_mayWind 17 = .ok (.istore_n 2, 1) := by decide +kernel
theorem dX2_mayWind_18 : decode cX2_mayWind 18 = .ok (.iload_n 2, 1) := by decide +kernel
theorem dX2_mayWind_19 : decode cX2_mayWind 19 = .ok (.iconst 3, 1) := by decide +kernel
theorem dX2_mayWind_20 : decode cX2_mayWind 20 = .ok (.if_icmp .ge 79, 3) := by decide +kernel
theorem dX2_mayWind_23 : decode cX2_mayWind 23 = .ok (.aload_n 0, 1) := by decide +kernel
theorem dX2_mayWind_24 : decode cX2_mayWind 24 = .ok (.iload_n 2, 1) := by decide +kernel
theorem dX2_mayWind_25 : decode cX2_mayWind 25 = .ok (.invokevirtual 40, 3) := by decide +kernel
theorem dX2_mayWind_28 : decode cX2_mayWind 28 = .ok (.ifCond .eq 40, 3) := by decide +kernel
theorem dX2_mayWind_31 : decode cX2_mayWind 31 = .ok (.aload_n 0, 1) := by decide +kernel
theorem dX2_mayWind_32 : decode cX2_mayWind 32 = .ok (.getfield 19, 3) := by decide +kernel
theorem dX2_mayWind_35 : decode cX2_mayWind 35 = .ok (.iload_n 2, 1) := by decide +kernel
theorem dX2_mayWind_36 : decode cX2_mayWind 36 = .ok (.iaload, 1) := by decide +kernel
theorem dX2_mayWind_37 : decode cX2_mayWind 37 = .ok (.iconst 2, 1) := by decide +kernel
theorem dX2_mayWind_38 : decode cX2_mayWind 38 = .ok (.if_icmp .ne 11, 3) := by decide +kernel
theorem dX2_mayWind_41 : decode cX2_mayWind 41 = .ok (.aload_n 0, 1) := by decide +kernel
theorem dX2_mayWind_42 : decode cX2_mayWind 42 = .ok (.invokevirtual 78, 3) := by decide +kernel
theorem dX2_mayWind_45 : decode cX2_mayWind 45 = .ok (.iconst (-1), 1) := by decide +kernel
theorem dX2_mayWind_46 : decode cX2_mayWind 46 = .ok (.if_icmp .eq 22, 3) := by decide +kernel
theorem dX2_mayWind_49 : decode cX2_mayWind 49 = .ok (.aload_n 0, 1) := by decide +kernel
theorem dX2_mayWind_50 : decode cX2_mayWind 50 = .ok (.iload_n 2, 1) := by decide +kernel
theorem dX2_mayWind_51 : decode cX2_mayWind 51 = .ok (.invokevirtual 123, 3) := by decide +kernel
theorem dX2_mayWind_54 : decode cX2_mayWind 54 = .ok (.iconst 1, 1) := by decide +kernel
theorem dX2_mayWind_55 : decode cX2_mayWind 55 = .ok (.sipush 200, 3) := by decide +kernel
theorem dX2_mayWind_58 : decode cX2_mayWind 58 = .ok (.invokestatic 29, 3) := by decide +kernel
theorem dX2_mayWind_61 : decode cX2_mayWind 61 = .ok (.ifCond .eq 7, 3) := by decide +kernel
theorem dX2_mayWind_64 : decode cX2_mayWind 64 = .ok (.iconst 1, 1) := by decide +kernel
theorem dX2_mayWind_65 : decode cX2_mayWind 65 = .ok (.goto 4, 3) := by decide +kernel
theorem dX2_mayWind_68 : decode cX2_mayWind 68 = .ok (.iconst 0, 1) := by decide +kernel
theorem dX2_mayWind_69 : decode cX2_mayWind 69 = .ok (.istore_n 3, 1) := by decide +kernel
theorem dX2_mayWind_70 : decode cX2_mayWind 70 = .ok (.iload_n 1, 1) := by decide +kernel
theorem dX2_mayWind_71 : decode cX2_mayWind 71 = .ok (.ifCond .eq 20, 3) := by decide +kernel
theorem dX2_mayWind_74 : decode cX2_mayWind 74 = .ok (.aload_n 0, 1) := by decide +kernel
theorem dX2_mayWind_75 : decode cX2_mayWind 75 = .ok (.getfield 19, 3) := by decide +kernel
theorem dX2_mayWind_78 : decode cX2_mayWind 78 = .ok (.iload_n 2, 1) := by decide +kernel
theorem dX2_mayWind_79 : decode cX2_mayWind 79 = .ok (.iaload, 1) := by decide +kernel
theorem dX2_mayWind_80 : decode cX2_mayWind 80 = .ok (.ifCond .eq 7, 3) := by decide +kernel
theorem dX2_mayWind_83 : decode cX2_mayWind 83 = .ok (.iload_n 3, 1) := by decide +kernel
theorem dX2_mayWind_84 : decode cX2_mayWind 84 = .ok (.ifCond .eq 7, 3) := by decide +kernel
theorem dX2_mayWind_87 : decode cX2_mayWind 87 = .ok (.iconst 1, 1) := by decide +kernel
theorem dX2_mayWind_88 : decode cX2_mayWind 88 = .ok (.goto 4, 3) := by decide +kernel
theorem dX2_mayWind_91 : decode cX2_mayWind 91 = .ok (.iconst 0, 1) := by decide +kernel
theorem dX2_mayWind_92 : decode cX2_mayWind 92 = .ok (.istore_n 1, 1) := by decide +kernel
theorem dX2_mayWind_93 : decode cX2_mayWind 93 = .ok (.iinc 2 1, 3) := by decide +kernel
theorem dX2_mayWind_96 : decode cX2_mayWind 96 = .ok (.goto (-78), 3) := by decide +kernel
theorem dX2_mayWind_99 : decode cX2_mayWind 99 = .ok (.iload_n 1, 1) := by decide +kernel
theorem dX2_mayWind_100 : decode cX2_mayWind 100 = .ok (.ireturn, 1) := by decide +kernel
set_option maxRecDepth 20000 in
theorem ggX2_windAll_X2_isText : GoodIn wsX2_windAll wsX2_isText := goodIn_r _ [9, 10, 11, 2, 12, 13, 14, 8, 15, 16, 17, 18, 19, 20, 21, 22, 23, 24, 25, 26, 27, 28, 29, 30, 31, 3, 32, 33, 34, 35, 36, 37, 64, 65, 66, 67, 68, 69, 70, 71, 72, 73, 74] (by decide +kernel) (by decide +kernel)
set_option maxRecDepth 20000 in
theorem gX2_windAll_X2_isText : GoodIn wsX2_windAll (wsV RX2 120 RX2 yX2_isText wsX2_isText) := goodIn_app (goodIn_of _ (by decide +kernel)) ggX2_windAll_X2_isText
set_option maxRecDepth 20000 in
theorem ggX2_windAll_X2_fails : GoodIn wsX2_windAll wsX2_fails := goodIn_r _ [41, 1, 64, 65, 66, 67, 68, 69, 70, 71, 72, 73, 74] (by decide +kernel) (by decide +kernel)
set_option maxRecDepth 20000 in
theorem gX2_windAll_X2_fails : GoodIn wsX2_windAll (wsV RX2 36 RX2 yX2_fails wsX2_fails) := goodIn_app (goodIn_of _ (by decide +kernel)) ggX2_windAll_X2_fails
set_option maxRecDepth 20000 in
theorem ggX2_windAll_X2_mayWind : GoodIn wsX2_windAll wsX2_mayWind := goodIn_r _ [45, 4, 3, 46, 47, 48, 8, 49, 50, 51, 52, 53, 54, 55, 56, 57, 32, 21, 22, 23, 64, 65, 66, 67, 68, 69, 70, 71, 72, 73, 74] (by decide +kernel) (by decide +kernel)
set_option maxRecDepth 20000 in
theorem gX2_windAll_X2_mayWind : GoodIn wsX2_windAll (wsV RX2 126 RX2 yX2_mayWind wsX2_mayWind) := goodIn_app (goodIn_of _ (by decide +kernel)) ggX2_windAll_X2_mayWind
set_option maxRecDepth 20000 in
theorem ggX2_windAll_X2_saves : GoodIn wsX2_windAll wsX2_saves := goodIn_r _ [61, 62, 63, 4, 64, 65, 66, 67, 68, 69, 70, 71, 72, 73, 74] (by decide +kernel) (by decide +kernel)
set_option maxRecDepth 20000 in
theorem gX2_windAll_X2_saves : GoodIn wsX2_windAll (wsV RX2 65 RX2 yX2_saves wsX2_saves) := goodIn_app (goodIn_of _ (by decide +kernel)) ggX2_windAll_X2_saves
set_option maxRecDepth 20000 in
theorem ggX2_windAll_X2_woundBy : GoodIn wsX2_windAll wsX2_woundBy := goodIn_r _ [57, 3, 32, 50, 51, 52, 8, 53, 4, 64, 65, 66, 67, 68, 69, 70, 71, 72, 73, 74] (by decide +kernel) (by decide +kernel)
set_option maxRecDepth 20000 in
theorem gX2_windAll_X2_woundBy : GoodIn wsX2_windAll (wsV RX2 123 RX2 yX2_woundBy wsX2_woundBy) := goodIn_app (goodIn_of _ (by decide +kernel)) ggX2_windAll_X2_woundBy
theorem dX2_windAll_0 : decode cX2_windAll 0 = .ok (.aload_n 0, 1) := by decide +kernel
theorem dX2_windAll_1 : decode cX2_windAll 1 = .ok (.iconst 0, 1) := by decide +kernel
theorem dX2_windAll_2 : decode cX2_windAll 2 = .ok (.putfield 25, 3) := by decide +kernel
theorem dX2_windAll_5 : decode cX2_windAll 5 = .ok (.aload_n 0, 1) := by decide +kernel
theorem dX2_windAll_6 : decode cX2_windAll 6 = .ok (.invokevirtual 120, 3) := by decide +kernel
theorem dX2_windAll_9 : decode cX2_windAll 9 = .ok (.ifCond .ne 9, 3) := by decide +kernel
theorem dX2_windAll_12 : decode cX2_windAll 12 = .ok (.aload_n 0, 1) := by decide +kernel
theorem dX2_windAll_13 : decode cX2_windAll 13 = .ok (.iconst 1, 1) := by decide +kernel
theorem dX2_windAll_14 : decode cX2_windAll 14 = .ok (.invokevirtual 36, 3) := by decide +kernel
theorem dX2_windAll_17 : decode cX2_windAll 17 = .ok (.ireturn, 1) := by decide +kernel
theorem dX2_windAll_18 : decode cX2_windAll 18 = .ok (.aload_n 0, 1) := by decide +kernel
theorem dX2_windAll_19 : decode cX2_windAll 19 = .ok (.invokevirtual 126, 3) := by decide +kernel
theorem dX2_windAll_22 : decode cX2_windAll 22 = .ok (.ifCond .ne 9, 3) := by decide +kernel
theorem dX2_windAll_25 : decode cX2_windAll 25 = .ok (.aload_n 0, 1) := by decide +kernel
theorem dX2_windAll_26 : decode cX2_windAll 26 = .ok (.iconst 2, 1) := by decide +kernel
theorem dX2_windAll_27 : decode cX2_windAll 27 = .ok (.invokevirtual 36, 3) := by decide +kernel
theorem dX2_windAll_30 : decode cX2_windAll 30 = .ok (.ireturn, 1) := by decide +kernel
theorem dX2_windAll_31 : decode cX2_windAll 31 = .ok (.aload_n 0, 1) := by decide +kernel
theorem dX2_windAll_32 : decode cX2_windAll 32 = .ok (.invokevirtual 65, 3) := by decide +kernel
theorem dX2_windAll_35 : decode cX2_windAll 35 = .ok (.aload_n 0, 1) := by decide +kernel
theorem dX2_windAll_36 : decode cX2_windAll 36 = .ok (.iconst 0, 1) := by decide +kernel
theorem dX2_windAll_37 : decode cX2_windAll 37 = .ok (.putfield 91, 3) := by decide +kernel
theorem dX2_windAll_40 : decode cX2_windAll 40 = .ok (.iconst 0, 1) := by decide +kernel
theorem dX2_windAll_41 : decode cX2_windAll 41 = .ok (.istore_n 1, 1) := by decide +kernel
theorem dX2_windAll_42 : decode cX2_windAll 42 = .ok (.iconst 0, 1) := by decide +kernel
theorem dX2_windAll_43 : decode cX2_windAll 43 = .ok (.istore_n 2, 1) := by decide +kernel
theorem dX2_windAll_44 : decode cX2_windAll 44 = .ok (.iload_n 2, 1) := by decide +kernel
theorem dX2_windAll_45 : decode cX2_windAll 45 = .ok (.iconst 3, 1) := by decide +kernel
theorem dX2_windAll_46 : decode cX2_windAll 46 = .ok (.if_icmp .ge 37, 3) := by decide +kernel
theorem dX2_windAll_49 : decode cX2_windAll 49 = .ok (.aload_n 0, 1) := by decide +kernel
theorem dX2_windAll_50 : decode cX2_windAll 50 = .ok (.getfield 19, 3) := by decide +kernel
theorem dX2_windAll_53 : decode cX2_windAll 53 = .ok (.iload_n 2, 1) := by decide +kernel
theorem dX2_windAll_54 : decode cX2_windAll 54 = .ok (.iaload, 1) := by decide +kernel
theorem dX2_windAll_55 : decode cX2_windAll 55 = .ok (.ifCond .le 22, 3) := by decide +kernel
theorem dX2_windAll_58 : decode cX2_windAll 58 = .ok (.aload_n 0, 1) := by decide +kernel
theorem dX2_windAll_59 : decode cX2_windAll 59 = .ok (.getfield 7, 3) := by decide +kernel
theorem dX2_windAll_62 : decode cX2_windAll 62 = .ok (.bipush 21, 2) := by decide +kernel
theorem dX2_windAll_64 : decode cX2_windAll 64 = .ok (.iconst 4, 1) := by decide +kernel
theorem dX2_windAll_65 : decode cX2_windAll 65 = .ok (.iload_n 2, 1) := by decide +kernel
theorem dX2_windAll_66 : decode cX2_windAll 66 = .ok (.imul, 1) := by decide +kernel
theorem dX2_windAll_67 : decode cX2_windAll 67 = .ok (.iadd, 1) := by decide +kernel
theorem dX2_windAll_68 : decode cX2_windAll 68 = .ok (.aload_n 0, 1) := by decide +kernel
theorem dX2_windAll_69 : decode cX2_windAll 69 = .ok (.iload_n 2, 1) := by decide +kernel
theorem dX2_windAll_70 : decode cX2_windAll 70 = .ok (.invokevirtual 123, 3) := by decide +kernel
theorem dX2_windAll_73 : decode cX2_windAll 73 = .ok (.iastore, 1) := by decide +kernel
theorem dX2_windAll_74 : decode cX2_windAll 74 = .ok (.iinc 1 1, 3) := by decide +kernel
theorem dX2_windAll_77 : decode cX2_windAll 77 = .ok (.iinc 2 1, 3) := by decide +kernel
theorem dX2_windAll_80 : decode cX2_windAll 80 = .ok (.goto (-36), 3) := by decide +kernel
theorem dX2_windAll_83 : decode cX2_windAll 83 = .ok (.iload_n 1, 1) := by decide +kernel
theorem dX2_windAll_84 : decode cX2_windAll 84 = .ok (.ireturn, 1) := by decide +kernel
set_option maxRecDepth 20000 in
theorem ggX2_ofMovement_X2_ran : GoodIn wsX2_ofMovement wsX2_ran := goodIn_r _ [6, 1, 23, 24, 25, 26, 27, 28, 29, 30, 31, 32, 33] (by decide +kernel) (by decide +kernel)
set_option maxRecDepth 20000 in
theorem gX2_ofMovement_X2_ran : GoodIn wsX2_ofMovement (wsV RX2 47 RX2 yX2_ran wsX2_ran) := goodIn_app (goodIn_of _ (by decide +kernel)) ggX2_ofMovement_X2_ran
set_option maxRecDepth 20000 in
theorem ggX2_ofMovement_X2_hours : GoodIn wsX2_ofMovement wsX2_hours := goodIn_r _ [10, 1, 23, 24, 25, 26, 27, 28, 29, 30, 31, 32, 33] (by decide +kernel) (by decide +kernel)
set_option maxRecDepth 20000 in
theorem gX2_ofMovement_X2_hours : GoodIn wsX2_ofMovement (wsV RX2 51 RX2 yX2_hours wsX2_hours) := goodIn_app (goodIn_of _ (by decide +kernel)) ggX2_ofMovement_X2_hours
set_option maxRecDepth 20000 in
theorem ggX2_ofMovement_X2_downIn : GoodIn wsX2_ofMovement wsX2_downIn := goodIn_r _ [14, 15, 16, 17, 5, 18, 1, 19, 20, 21, 22, 2, 3, 4, 6, 23, 24, 25, 26, 27, 28, 29, 30, 31, 32, 33] (by decide +kernel) (by decide +kernel)
set_option maxRecDepth 20000 in
theorem gX2_ofMovement_X2_downIn : GoodIn wsX2_ofMovement (wsV RX2 54 RX2 yX2_downIn wsX2_downIn) := goodIn_app (goodIn_of _ (by decide +kernel)) ggX2_ofMovement_X2_downIn
theorem dX2_ofMovement_0 : decode cX2_ofMovement 0 = .ok (.iload_n 2, 1) := by decide +kernel
theorem dX2_ofMovement_1 : decode cX2_ofMovement 1 = .ok (.iconst 4, 1) := by decide +kernel
theorem dX2_ofMovement_2 : decode cX2_ofMovement 2 = .ok (.if_icmp .ge 17, 3) := by decide +kernel
theorem dX2_ofMovement_5 : decode cX2_ofMovement 5 = .ok (.aload_n 0, 1) := by decide +kernel
theorem dX2_ofMovement_6 : decode cX2_ofMovement 6 = .ok (.getfield 7, 3) := by decide +kernel
theorem dX2_ofMovement_9 : decode cX2_ofMovement 9 = .ok (.bipush 21, 2) := by decide +kernel
theorem dX2_ofMovement_11 : decode cX2_ofMovement 11 = .ok (.iconst 4, 1) := by decide +kernel
theorem dX2_ofMovement_12 : decode cX2_ofMovement 12 = .ok (.iload_n 1, 1) := by decide +kernel
theorem dX2_ofMovement_13 : decode cX2_ofMovement 13 = .ok (.imul, 1) := by decide +kernel
theorem dX2_ofMovement_14 : decode cX2_ofMovement 14 = .ok (.iadd, 1) := by decide +kernel
theorem dX2_ofMovement_15 : decode cX2_ofMovement 15 = .ok (.iload_n 2, 1) := by decide +kernel
theorem dX2_ofMovement_16 : decode cX2_ofMovement 16 = .ok (.iadd, 1) := by decide +kernel
theorem dX2_ofMovement_17 : decode cX2_ofMovement 17 = .ok (.iaload, 1) := by decide +kernel
theorem dX2_ofMovement_18 : decode cX2_ofMovement 18 = .ok (.ireturn, 1) := by decide +kernel
theorem dX2_ofMovement_19 : decode cX2_ofMovement 19 = .ok (.iload_n 2, 1) := by decide +kernel
theorem dX2_ofMovement_20 : decode cX2_ofMovement 20 = .ok (.iconst 4, 1) := by decide +kernel
theorem dX2_ofMovement_21 : decode cX2_ofMovement 21 = .ok (.if_icmp .ne 26, 3) := by decide +kernel
theorem dX2_ofMovement_24 : decode cX2_ofMovement 24 = .ok (.aload_n 0, 1) := by decide +kernel
theorem dX2_ofMovement_25 : decode cX2_ofMovement 25 = .ok (.iload_n 1, 1) := by decide +kernel
theorem dX2_ofMovement_26 : decode cX2_ofMovement 26 = .ok (.invokevirtual 47, 3) := by decide +kernel
theorem dX2_ofMovement_29 : decode cX2_ofMovement 29 = .ok (.aload_n 0, 1) := by decide +kernel
theorem dX2_ofMovement_30 : decode cX2_ofMovement 30 = .ok (.getfield 7, 3) := by decide +kernel
theorem dX2_ofMovement_33 : decode cX2_ofMovement 33 = .ok (.bipush 10, 2) := by decide +kernel
theorem dX2_ofMovement_35 : decode cX2_ofMovement 35 = .ok (.iaload, 1) := by decide +kernel
theorem dX2_ofMovement_36 : decode cX2_ofMovement 36 = .ok (.if_icmp .lt 7, 3) := by decide +kernel
theorem dX2_ofMovement_39 : decode cX2_ofMovement 39 = .ok (.iconst 1, 1) := by decide +kernel
theorem dX2_ofMovement_40 : decode cX2_ofMovement 40 = .ok (.goto 17, 3) := by decide +kernel
theorem dX2_ofMovement_43 : decode cX2_ofMovement 43 = .ok (.iconst 0, 1) := by decide +kernel
theorem dX2_ofMovement_44 : decode cX2_ofMovement 44 = .ok (.goto 13, 3) := by decide +kernel
theorem dX2_ofMovement_47 : decode cX2_ofMovement 47 = .ok (.aload_n 0, 1) := by decide +kernel
theorem dX2_ofMovement_48 : decode cX2_ofMovement 48 = .ok (.iload_n 1, 1) := by decide +kernel
theorem dX2_ofMovement_49 : decode cX2_ofMovement 49 = .ok (.aload_n 0, 1) := by decide +kernel
theorem dX2_ofMovement_50 : decode cX2_ofMovement 50 = .ok (.iload_n 1, 1) := by decide +kernel
theorem dX2_ofMovement_51 : decode cX2_ofMovement 51 = .ok (.invokevirtual 51, 3) := by decide +kernel
theorem dX2_ofMovement_54 : decode cX2_ofMovement 54 = .ok (.invokevirtual 54, 3) := by decide +kernel
theorem dX2_ofMovement_57 : decode cX2_ofMovement 57 = .ok (.ireturn, 1) := by decide +kernel
set_option maxRecDepth 20000 in
theorem ggX2_movement_X2_isMovement : GoodIn wsX2_movement wsX2_isMovement := goodIn_r _ [5, 6, 7, 4, 8] (by decide +kernel) (by decide +kernel)
set_option maxRecDepth 20000 in
theorem gX2_movement_X2_isMovement : GoodIn wsX2_movement (va_wsS RX2 75 yX2_isMovement wsX2_isMovement) := goodIn_app (goodIn_of _ (by decide +kernel)) ggX2_movement_X2_isMovement
set_option maxRecDepth 20000 in
theorem ggX2_movement_X2_fails : GoodIn wsX2_movement wsX2_fails := goodIn_r _ [12, 1, 38, 39, 40, 41, 42, 43, 44, 45, 46, 47, 48] (by decide +kernel) (by decide +kernel)
set_option maxRecDepth 20000 in
theorem gX2_movement_X2_fails : GoodIn wsX2_movement (wsV RX2 36 RX2 yX2_fails wsX2_fails) := goodIn_app (goodIn_of _ (by decide +kernel)) ggX2_movement_X2_fails
set_option maxRecDepth 20000 in
theorem ggX2_movement_X2_in : GoodIn wsX2_movement wsX2_in := goodIn_r _ [8] (by decide +kernel) (by decide +kernel)
set_option maxRecDepth 20000 in
theorem gX2_movement_X2_in : GoodIn wsX2_movement (va_wsS RX2 29 yX2_in wsX2_in) := goodIn_app (goodIn_of _ (by decide +kernel)) ggX2_movement_X2_in
set_option maxRecDepth 20000 in
theorem ggX2_movement_X2_ofMovement : GoodIn wsX2_movement wsX2_ofMovement := goodIn_r _ [16, 17, 18, 19, 20, 4, 21, 22, 23, 24, 25, 26, 27, 28, 29, 30, 31, 32, 33, 34, 35, 36, 37, 38, 39, 40, 41, 42, 43, 44, 45, 46, 47, 48] (by decide +kernel) (by decide +kernel)
set_option maxRecDepth 20000 in
theorem gX2_movement_X2_ofMovement : GoodIn wsX2_movement (wsV RX2 129 RX2 yX2_ofMovement wsX2_ofMovement) := goodIn_app (goodIn_of _ (by decide +kernel)) ggX2_movement_X2_ofMovement
theorem dX2_movement_0 : decode cX2_movement 0 = .ok (.aload_n 0, 1) := by decide +kernel
theorem dX2_movement_1 : decode cX2_movement 1 = .ok (.iconst 0, 1) := by decide +kernel
theorem dX2_movement_2 : decode cX2_movement 2 = .ok (.putfield 25, 3) := by decide +kernel
theorem dX2_movement_5 : decode cX2_movement 5 = .ok (.iload_n 1, 1) := by decide +kernel
theorem dX2_movement_6 : decode cX2_movement 6 = .ok (.invokestatic 75, 3) := by decide +kernel
theorem dX2_movement_9 : decode cX2_movement 9 = .ok (.ifCond .ne 9, 3) := by decide +kernel
theorem dX2_movement_12 : decode cX2_movement 12 = .ok (.aload_n 0, 1) := by decide +kernel
theorem dX2_movement_13 : decode cX2_movement 13 = .ok (.iconst 1, 1) := by decide +kernel
theorem dX2_movement_14 : decode cX2_movement 14 = .ok (.invokevirtual 36, 3) := by decide +kernel
theorem dX2_movement_17 : decode cX2_movement 17 = .ok (.ireturn, 1) := by decide +kernel
theorem dX2_movement_18 : decode cX2_movement 18 = .ok (.iload_n 2, 1) := by decide +kernel
theorem dX2_movement_19 : decode cX2_movement 19 = .ok (.iconst 0, 1) := by decide +kernel
theorem dX2_movement_20 : decode cX2_movement 20 = .ok (.iconst 5, 1) := by decide +kernel
theorem dX2_movement_21 : decode cX2_movement 21 = .ok (.invokestatic 29, 3) := by decide +kernel
theorem dX2_movement_24 : decode cX2_movement 24 = .ok (.ifCond .eq 12, 3) := by decide +kernel
theorem dX2_movement_27 : decode cX2_movement 27 = .ok (.aload_n 0, 1) := by decide +kernel
theorem dX2_movement_28 : decode cX2_movement 28 = .ok (.iload_n 1, 1) := by decide +kernel
theorem dX2_movement_29 : decode cX2_movement 29 = .ok (.iload_n 2, 1) := by decide +kernel
theorem dX2_movement_30 : decode cX2_movement 30 = .ok (.invokevirtual 129, 3) := by decide +kernel
theorem dX2_movement_33 : decode cX2_movement 33 = .ok (.goto 8, 3) := by decide +kernel
theorem dX2_movement_36 : decode cX2_movement 36 = .ok (.aload_n 0, 1) := by decide +kernel
theorem dX2_movement_37 : decode cX2_movement 37 = .ok (.iconst 2, 1) := by decide +kernel
theorem dX2_movement_38 : decode cX2_movement 38 = .ok (.invokevirtual 36, 3) := by decide +kernel
theorem dX2_movement_41 : decode cX2_movement 41 = .ok (.ireturn, 1) := by decide +kernel
set_option maxRecDepth 20000 in
theorem ggX2_day_X2_isDay : GoodIn wsX2_day wsX2_isDay := goodIn_r _ [6, 7, 8, 5, 9] (by decide +kernel) (by decide +kernel)
set_option maxRecDepth 20000 in
theorem gX2_day_X2_isDay : GoodIn wsX2_day (va_wsS RX2 62 yX2_isDay wsX2_isDay) := goodIn_app (goodIn_of _ (by decide +kernel)) ggX2_day_X2_isDay
set_option maxRecDepth 20000 in
theorem ggX2_day_X2_fails : GoodIn wsX2_day wsX2_fails := goodIn_r _ [13, 1, 14, 15, 16, 17, 18, 19, 20, 21, 22, 23, 24] (by decide +kernel) (by decide +kernel)
set_option maxRecDepth 20000 in
theorem gX2_day_X2_fails : GoodIn wsX2_day (wsV RX2 36 RX2 yX2_fails wsX2_fails) := goodIn_app (goodIn_of _ (by decide +kernel)) ggX2_day_X2_fails
theorem dX2_day_0 : decode cX2_day 0 = .ok (.aload_n 0, 1) := by decide +kernel
theorem dX2_day_1 : decode cX2_day 1 = .ok (.iconst 0, 1) := by decide +kernel
theorem dX2_day_2 : decode cX2_day 2 = .ok (.putfield 25, 3) := by decide +kernel
theorem dX2_day_5 : decode cX2_day 5 = .ok (.iload_n 1, 1) := by decide +kernel
theorem dX2_day_6 : decode cX2_day 6 = .ok (.invokestatic 62, 3) := by decide +kernel
theorem dX2_day_9 : decode cX2_day 9 = .ok (.ifCond .eq 14, 3) := by decide +kernel
theorem dX2_day_12 : decode cX2_day 12 = .ok (.aload_n 0, 1) := by decide +kernel
theorem dX2_day_13 : decode cX2_day 13 = .ok (.getfield 7, 3) := by decide +kernel
theorem dX2_day_16 : decode cX2_day 16 = .ok (.iconst 1, 1) := by decide +kernel
theorem dX2_day_17 : decode cX2_day 17 = .ok (.iload_n 1, 1) := by decide +kernel
theorem dX2_day_18 : decode cX2_day 18 = .ok (.iadd, 1) := by decide +kernel
theorem dX2_day_19 : decode cX2_day 19 = .ok (.iaload, 1) := by decide +kernel
theorem dX2_day_20 : decode cX2_day 20 = .ok (.goto 8, 3) := by decide +kernel
theorem dX2_day_23 : decode cX2_day 23 = .ok (.aload_n 0, 1) := by decide +kernel
theorem dX2_day_24 : decode cX2_day 24 = .ok (.iconst 1, 1) := by decide +kernel
theorem dX2_day_25 : decode cX2_day 25 = .ok (.invokevirtual 36, 3) := by decide +kernel
theorem dX2_day_28 : decode cX2_day 28 = .ok (.ireturn, 1) := by decide +kernel
set_option maxRecDepth 20000 in
theorem ggX2_counted_X2_toOpening : GoodIn wsX2_counted wsX2_toOpening := goodIn_r _ [7, 1, 12, 13, 14, 15, 16, 17, 18, 19, 20, 21, 22] (by decide +kernel) (by decide +kernel)
set_option maxRecDepth 20000 in
theorem gX2_counted_X2_toOpening : GoodIn wsX2_counted (wsV RX2 78 RX2 yX2_toOpening wsX2_toOpening) := goodIn_app (goodIn_of _ (by decide +kernel)) ggX2_counted_X2_toOpening
set_option maxRecDepth 20000 in
theorem ggX2_counted_X2_waits : GoodIn wsX2_counted wsX2_waits := goodIn_r _ [11, 1, 12, 13, 14, 15, 16, 17, 18, 19, 20, 21, 22] (by decide +kernel) (by decide +kernel)
set_option maxRecDepth 20000 in
theorem gX2_counted_X2_waits : GoodIn wsX2_counted (wsV RX2 58 RX2 yX2_waits wsX2_waits) := goodIn_app (goodIn_of _ (by decide +kernel)) ggX2_counted_X2_waits
theorem dX2_counted_0 : decode cX2_counted 0 = .ok (.iload_n 1, 1) := by decide +kernel
theorem dX2_counted_1 : decode cX2_counted 1 = .ok (.iconst 4, 1) := by decide +kernel
theorem dX2_counted_2 : decode cX2_counted 2 = .ok (.if_icmp .ge 61, 3) := by decide +kernel
theorem dX2_counted_5 : decode cX2_counted 5 = .ok (.iload_n 1, 1) := by decide +kernel
theorem dX2_counted_6 : decode cX2_counted 6 = .ok (.ifCond .ne 12, 3) := by decide +kernel
theorem dX2_counted_9 : decode cX2_counted 9 = .ok (.aload_n 0, 1) := by decide +kernel
theorem dX2_counted_10 : decode cX2_counted 10 = .ok (.getfield 7, 3) := by decide +kernel
theorem dX2_counted_13 : decode cX2_counted 13 = .ok (.iconst 0, 1) := by decide +kernel
theorem dX2_counted_14 : decode cX2_counted 14 = .ok (.iaload, 1) := by decide +kernel
theorem dX2_counted_15 : decode cX2_counted 15 = .ok (.goto 47, 3) := by decide +kernel
theorem dX2_counted_18 : decode cX2_counted 18 = .ok (.iload_n 1, 1) := by decide +kernel
theorem dX2_counted_19 : decode cX2_counted 19 = .ok (.iconst 1, 1) := by decide +kernel
theorem dX2_counted_20 : decode cX2_counted 20 = .ok (.if_icmp .ne 18, 3) := by decide +kernel
theorem dX2_counted_23 : decode cX2_counted 23 = .ok (.aload_n 0, 1) := by decide +kernel
theorem dX2_counted_24 : decode cX2_counted 24 = .ok (.getfield 7, 3) := by decide +kernel
theorem dX2_counted_27 : decode cX2_counted 27 = .ok (.iconst 0, 1) := by decide +kernel
theorem dX2_counted_28 : decode cX2_counted 28 = .ok (.iaload, 1) := by decide +kernel
theorem dX2_counted_29 : decode cX2_counted 29 = .ok (.bipush 24, 2) := by decide +kernel
theorem dX2_counted_31 : decode cX2_counted 31 = .ok (.idiv, 1) := by decide +kernel
theorem dX2_counted_32 : decode cX2_counted 32 = .ok (.bipush 7, 2) := by decide +kernel
theorem dX2_counted_34 : decode cX2_counted 34 = .ok (.irem, 1) := by decide +kernel
theorem dX2_counted_35 : decode cX2_counted 35 = .ok (.goto 27, 3) := by decide +kernel
theorem dX2_counted_38 : decode cX2_counted 38 = .ok (.iload_n 1, 1) := by decide +kernel
theorem dX2_counted_39 : decode cX2_counted 39 = .ok (.iconst 2, 1) := by decide +kernel
theorem dX2_counted_40 : decode cX2_counted 40 = .ok (.if_icmp .ne 15, 3) := by decide +kernel
theorem dX2_counted_43 : decode cX2_counted 43 = .ok (.aload_n 0, 1) := by decide +kernel
theorem dX2_counted_44 : decode cX2_counted 44 = .ok (.getfield 7, 3) := by decide +kernel
theorem dX2_counted_47 : decode cX2_counted 47 = .ok (.iconst 0, 1) := by decide +kernel
theorem dX2_counted_48 : decode cX2_counted 48 = .ok (.iaload, 1) := by decide +kernel
theorem dX2_counted_49 : decode cX2_counted 49 = .ok (.bipush 24, 2) := by decide +kernel
theorem dX2_counted_51 : decode cX2_counted 51 = .ok (.irem, 1) := by decide +kernel
theorem dX2_counted_52 : decode cX2_counted 52 = .ok (.goto 10, 3) := by decide +kernel
theorem dX2_counted_55 : decode cX2_counted 55 = .ok (.aload_n 0, 1) := by decide +kernel
theorem dX2_counted_56 : decode cX2_counted 56 = .ok (.getfield 7, 3) := by decide +kernel
theorem dX2_counted_59 : decode cX2_counted 59 = .ok (.bipush 11, 2) := by decide +kernel
theorem dX2_counted_61 : decode cX2_counted 61 = .ok (.iaload, 1) := by decide +kernel
theorem dX2_counted_62 : decode cX2_counted 62 = .ok (.ireturn, 1) := by decide +kernel
theorem dX2_counted_63 : decode cX2_counted 63 = .ok (.iload_n 1, 1) := by decide +kernel
theorem dX2_counted_64 : decode cX2_counted 64 = .ok (.bipush 8, 2) := by decide +kernel
theorem dX2_counted_66 : decode cX2_counted 66 = .ok (.if_icmp .ge 51, 3) := by decide +kernel
theorem dX2_counted_69 : decode cX2_counted 69 = .ok (.iload_n 1, 1) := by decide +kernel
theorem dX2_counted_70 : decode cX2_counted 70 = .ok (.iconst 4, 1) := by decide +kernel
theorem dX2_counted_71 : decode cX2_counted 71 = .ok (.if_icmp .ne 10, 3) := by decide +kernel
theorem dX2_counted_74 : decode cX2_counted 74 = .ok (.aload_n 0, 1) := by decide +kernel
theorem dX2_counted_75 : decode cX2_counted 75 = .ok (.invokevirtual 78, 3) := by decide +kernel
theorem dX2_counted_78 : decode cX2_counted 78 = .ok (.goto 38, 3) := by decide +kernel
theorem dX2_counted_81 : decode cX2_counted 81 = .ok (.iload_n 1, 1) := by decide +kernel
theorem dX2_counted_82 : decode cX2_counted 82 = .ok (.iconst 5, 1) := by decide +kernel
theorem dX2_counted_83 : decode cX2_counted 83 = .ok (.if_icmp .ne 13, 3) := by decide +kernel
theorem dX2_counted_86 : decode cX2_counted 86 = .ok (.aload_n 0, 1) := by decide +kernel
theorem dX2_counted_87 : decode cX2_counted 87 = .ok (.getfield 7, 3) := by decide +kernel
theorem dX2_counted_90 : decode cX2_counted 90 = .ok (.bipush 12, 2) := by decide +kernel
theorem dX2_counted_92 : decode cX2_counted 92 = .ok (.iaload, 1) := by decide +kernel
theorem dX2_counted_93 : decode cX2_counted 93 = .ok (.goto 23, 3) := by decide +kernel
theorem dX2_counted_96 : decode cX2_counted 96 = .ok (.iload_n 1, 1) := by decide +kernel
theorem dX2_counted_97 : decode cX2_counted 97 = .ok (.bipush 6, 2) := by decide +kernel
theorem dX2_counted_99 : decode cX2_counted 99 = .ok (.if_icmp .ne 13, 3) := by decide +kernel
theorem dX2_counted_102 : decode cX2_counted 102 = .ok (.aload_n 0, 1) := by decide +kernel
theorem dX2_counted_103 : decode cX2_counted 103 = .ok (.getfield 7, 3) := by decide +kernel
theorem dX2_counted_106 : decode cX2_counted 106 = .ok (.bipush 13, 2) := by decide +kernel
theorem dX2_counted_108 : decode cX2_counted 108 = .ok (.iaload, 1) := by decide +kernel
theorem dX2_counted_109 : decode cX2_counted 109 = .ok (.goto 7, 3) := by decide +kernel
theorem dX2_counted_112 : decode cX2_counted 112 = .ok (.aload_n 0, 1) := by decide +kernel
theorem dX2_counted_113 : decode cX2_counted 113 = .ok (.invokevirtual 58, 3) := by decide +kernel
theorem dX2_counted_116 : decode cX2_counted 116 = .ok (.ireturn, 1) := by decide +kernel
theorem dX2_counted_117 : decode cX2_counted 117 = .ok (.iload_n 1, 1) := by decide +kernel
theorem dX2_counted_118 : decode cX2_counted 118 = .ok (.bipush 14, 2) := by decide +kernel
theorem dX2_counted_120 : decode cX2_counted 120 = .ok (.if_icmp .ge 18, 3) := by decide +kernel
theorem dX2_counted_123 : decode cX2_counted 123 = .ok (.aload_n 0, 1) := by decide +kernel
theorem dX2_counted_124 : decode cX2_counted 124 = .ok (.getfield 7, 3) := by decide +kernel
theorem dX2_counted_127 : decode cX2_counted 127 = .ok (.bipush 15, 2) := by decide +kernel
theorem dX2_counted_129 : decode cX2_counted 129 = .ok (.iload_n 1, 1) := by decide +kernel
theorem dX2_counted_130 : decode cX2_counted 130 = .ok (.iadd, 1) := by decide +kernel
theorem dX2_counted_131 : decode cX2_counted 131 = .ok (.bipush 8, 2) := by decide +kernel
theorem dX2_counted_133 : decode cX2_counted 133 = .ok (.isub, 1) := by decide +kernel
theorem dX2_counted_134 : decode cX2_counted 134 = .ok (.iaload, 1) := by decide +kernel
theorem dX2_counted_135 : decode cX2_counted 135 = .ok (.goto 7, 3) := by decide +kernel
theorem dX2_counted_138 : decode cX2_counted 138 = .ok (.aload_n 0, 1) := by decide +kernel
theorem dX2_counted_139 : decode cX2_counted 139 = .ok (.getfield 33, 3) := by decide +kernel
theorem dX2_counted_142 : decode cX2_counted 142 = .ok (.ireturn, 1) := by decide +kernel
set_option maxRecDepth 20000 in
theorem ggX2_count_X2_in : GoodIn wsX2_count wsX2_in := goodIn_r _ [5] (by decide +kernel) (by decide +kernel)
set_option maxRecDepth 20000 in
theorem gX2_count_X2_in : GoodIn wsX2_count (va_wsS RX2 29 yX2_in wsX2_in) := goodIn_app (goodIn_of _ (by decide +kernel)) ggX2_count_X2_in
set_option maxRecDepth 20000 in
theorem ggX2_count_X2_counted : GoodIn wsX2_count wsX2_counted := goodIn_r _ [9, 10, 11, 12, 13, 14, 4, 15, 16, 17, 18, 19, 24, 25, 26, 27, 28, 29, 30, 31, 32, 33, 34] (by decide +kernel) (by decide +kernel)
set_option maxRecDepth 20000 in
theorem gX2_count_X2_counted : GoodIn wsX2_count (wsV RX2 132 RX2 yX2_counted wsX2_counted) := goodIn_app (goodIn_of _ (by decide +kernel)) ggX2_count_X2_counted
set_option maxRecDepth 20000 in
theorem ggX2_count_X2_fails : GoodIn wsX2_count wsX2_fails := goodIn_r _ [23, 1, 24, 25, 26, 27, 28, 29, 30, 31, 32, 33, 34] (by decide +kernel) (by decide +kernel)
set_option maxRecDepth 20000 in
theorem gX2_count_X2_fails : GoodIn wsX2_count (wsV RX2 36 RX2 yX2_fails wsX2_fails) := goodIn_app (goodIn_of _ (by decide +kernel)) ggX2_count_X2_fails
theorem dX2_count_0 : decode cX2_count 0 = .ok (.aload_n 0, 1) := by decide +kernel
theorem dX2_count_1 : decode cX2_count 1 = .ok (.iconst 0, 1) := by decide +kernel
theorem dX2_count_2 : decode cX2_count 2 = .ok (.putfield 25, 3) := by decide +kernel
theorem dX2_count_5 : decode cX2_count 5 = .ok (.iload_n 1, 1) := by decide +kernel
theorem dX2_count_6 : decode cX2_count 6 = .ok (.iconst 0, 1) := by decide +kernel
theorem dX2_count_7 : decode cX2_count 7 = .ok (.bipush 14, 2) := by decide +kernel
theorem dX2_count_9 : decode cX2_count 9 = .ok (.invokestatic 29, 3) := by decide +kernel
theorem dX2_count_12 : decode cX2_count 12 = .ok (.ifCond .eq 11, 3) := by decide +kernel
theorem dX2_count_15 : decode cX2_count 15 = .ok (.aload_n 0, 1) := by decide +kernel
theorem dX2_count_16 : decode cX2_count 16 = .ok (.iload_n 1, 1) := by decide +kernel
theorem dX2_count_17 : decode cX2_count 17 = .ok (.invokevirtual 132, 3) := by decide +kernel
theorem dX2_count_20 : decode cX2_count 20 = .ok (.goto 8, 3) := by decide +kernel
theorem dX2_count_23 : decode cX2_count 23 = .ok (.aload_n 0, 1) := by decide +kernel
theorem dX2_count_24 : decode cX2_count 24 = .ok (.iconst 1, 1) := by decide +kernel
theorem dX2_count_25 : decode cX2_count 25 = .ok (.invokevirtual 36, 3) := by decide +kernel
theorem dX2_count_28 : decode cX2_count 28 = .ok (.ireturn, 1) := by decide +kernel
set_option maxRecDepth 20000 in
theorem ggX2_setting_X2_in : GoodIn wsX2_setting wsX2_in := goodIn_r _ [6] (by decide +kernel) (by decide +kernel)
set_option maxRecDepth 20000 in
theorem gX2_setting_X2_in : GoodIn wsX2_setting (va_wsS RX2 29 yX2_in wsX2_in) := goodIn_app (goodIn_of _ (by decide +kernel)) ggX2_setting_X2_in
set_option maxRecDepth 20000 in
theorem ggX2_setting_X2_fails : GoodIn wsX2_setting wsX2_fails := goodIn_r _ [10, 1, 11, 12, 13, 14, 15, 16, 17, 18, 19, 20, 21] (by decide +kernel) (by decide +kernel)
set_option maxRecDepth 20000 in
theorem gX2_setting_X2_fails : GoodIn wsX2_setting (wsV RX2 36 RX2 yX2_fails wsX2_fails) := goodIn_app (goodIn_of _ (by decide +kernel)) ggX2_setting_X2_fails
theorem dX2_setting_0 : decode cX2_setting 0 = .ok (.aload_n 0, 1) := by decide +kernel
theorem dX2_setting_1 : decode cX2_setting 1 = .ok (.iconst 0, 1) := by decide +kernel
theorem dX2_setting_2 : decode cX2_setting 2 = .ok (.putfield 25, 3) := by decide +kernel
theorem dX2_setting_5 : decode cX2_setting 5 = .ok (.iload_n 1, 1) := by decide +kernel
theorem dX2_setting_6 : decode cX2_setting 6 = .ok (.iconst 0, 1) := by decide +kernel
theorem dX2_setting_7 : decode cX2_setting 7 = .ok (.iconst 2, 1) := by decide +kernel
theorem dX2_setting_8 : decode cX2_setting 8 = .ok (.invokestatic 29, 3) := by decide +kernel
theorem dX2_setting_11 : decode cX2_setting 11 = .ok (.ifCond .eq 15, 3) := by decide +kernel
theorem dX2_setting_14 : decode cX2_setting 14 = .ok (.aload_n 0, 1) := by decide +kernel
theorem dX2_setting_15 : decode cX2_setting 15 = .ok (.getfield 7, 3) := by decide +kernel
theorem dX2_setting_18 : decode cX2_setting 18 = .ok (.bipush 8, 2) := by decide +kernel
theorem dX2_setting_20 : decode cX2_setting 20 = .ok (.iload_n 1, 1) := by decide +kernel
theorem dX2_setting_21 : decode cX2_setting 21 = .ok (.iadd, 1) := by decide +kernel
theorem dX2_setting_22 : decode cX2_setting 22 = .ok (.iaload, 1) := by decide +kernel
theorem dX2_setting_23 : decode cX2_setting 23 = .ok (.goto 8, 3) := by decide +kernel
theorem dX2_setting_26 : decode cX2_setting 26 = .ok (.aload_n 0, 1) := by decide +kernel
theorem dX2_setting_27 : decode cX2_setting 27 = .ok (.iconst 1, 1) := by decide +kernel
theorem dX2_setting_28 : decode cX2_setting 28 = .ok (.invokevirtual 36, 3) := by decide +kernel
theorem dX2_setting_31 : decode cX2_setting 31 = .ok (.ireturn, 1) := by decide +kernel
set_option maxRecDepth 20000 in
theorem ggX2_opensIn_X2_opensBut : GoodIn wsX2_opensIn wsX2_opensBut := goodIn_r _ [6, 7, 8, 9, 10, 11, 5, 12, 13, 14, 15, 16, 17, 18, 19, 20, 21, 22, 23, 24, 25, 26, 27, 28, 29, 30, 31, 32, 33, 34, 35, 36, 37, 38, 39, 40, 41, 42, 43] (by decide +kernel) (by decide +kernel)
set_option maxRecDepth 20000 in
theorem gX2_opensIn_X2_opensBut : GoodIn wsX2_opensIn (wsV RX2 81 RX2 yX2_opensBut wsX2_opensBut) := goodIn_app (goodIn_of _ (by decide +kernel)) ggX2_opensIn_X2_opensBut
theorem dX2_opensIn_0 : decode cX2_opensIn 0 = .ok (.aload_n 0, 1) := by decide +kernel
theorem dX2_opensIn_1 : decode cX2_opensIn 1 = .ok (.iconst 0, 1) := by decide +kernel
theorem dX2_opensIn_2 : decode cX2_opensIn 2 = .ok (.putfield 25, 3) := by decide +kernel
theorem dX2_opensIn_5 : decode cX2_opensIn 5 = .ok (.aload_n 0, 1) := by decide +kernel
theorem dX2_opensIn_6 : decode cX2_opensIn 6 = .ok (.iconst (-1), 1) := by decide +kernel
theorem dX2_opensIn_7 : decode cX2_opensIn 7 = .ok (.invokevirtual 81, 3) := by decide +kernel
theorem dX2_opensIn_10 : decode cX2_opensIn 10 = .ok (.ireturn, 1) := by decide +kernel
set_option maxRecDepth 20000 in
theorem ggX2_late_X2_opensBut : GoodIn wsX2_late wsX2_opensBut := goodIn_r _ [6, 7, 1, 8, 9, 10, 5, 11, 12, 13, 14, 15, 16, 17, 18, 19, 20, 21, 22, 23, 24, 25, 26, 27, 28, 29, 30, 31, 32, 33, 34, 35, 36, 37, 38, 39, 40, 41, 42] (by decide +kernel) (by decide +kernel)
set_option maxRecDepth 20000 in
theorem gX2_late_X2_opensBut : GoodIn wsX2_late (wsV RX2 81 RX2 yX2_opensBut wsX2_opensBut) := goodIn_app (goodIn_of _ (by decide +kernel)) ggX2_late_X2_opensBut
theorem dX2_late_0 : decode cX2_late 0 = .ok (.aload_n 0, 1) := by decide +kernel
theorem dX2_late_1 : decode cX2_late 1 = .ok (.getfield 7, 3) := by decide +kernel
theorem dX2_late_4 : decode cX2_late 4 = .ok (.bipush 11, 2) := by decide +kernel
theorem dX2_late_6 : decode cX2_late 6 = .ok (.iaload, 1) := by decide +kernel
theorem dX2_late_7 : decode cX2_late 7 = .ok (.ifCond .ne 5, 3) := by decide +kernel
theorem dX2_late_10 : decode cX2_late 10 = .ok (.iconst 0, 1) := by decide +kernel
theorem dX2_late_11 : decode cX2_late 11 = .ok (.ireturn, 1) := by decide +kernel
theorem dX2_late_12 : decode cX2_late 12 = .ok (.aload_n 0, 1) := by decide +kernel
theorem dX2_late_13 : decode cX2_late 13 = .ok (.iconst (-1), 1) := by decide +kernel
theorem dX2_late_14 : decode cX2_late 14 = .ok (.invokevirtual 81, 3) := by decide +kernel
theorem dX2_late_17 : decode cX2_late 17 = .ok (.istore_n 1, 1) := by decide +kernel
theorem dX2_late_18 : decode cX2_late 18 = .ok (.iload_n 1, 1) := by decide +kernel
theorem dX2_late_19 : decode cX2_late 19 = .ok (.iconst (-1), 1) := by decide +kernel
theorem dX2_late_20 : decode cX2_late 20 = .ok (.if_icmp .ne 7, 3) := by decide +kernel
theorem dX2_late_23 : decode cX2_late 23 = .ok (.sipush 1000, 3) := by decide +kernel
theorem dX2_late_26 : decode cX2_late 26 = .ok (.ireturn, 1) := by decide +kernel
theorem dX2_late_27 : decode cX2_late 27 = .ok (.aload_n 0, 1) := by decide +kernel
theorem dX2_late_28 : decode cX2_late 28 = .ok (.getfield 7, 3) := by decide +kernel
theorem dX2_late_31 : decode cX2_late 31 = .ok (.bipush 12, 2) := by decide +kernel
theorem dX2_late_33 : decode cX2_late 33 = .ok (.iaload, 1) := by decide +kernel
theorem dX2_late_34 : decode cX2_late 34 = .ok (.iconst (-1), 1) := by decide +kernel
theorem dX2_late_35 : decode cX2_late 35 = .ok (.if_icmp .ne 7, 3) := by decide +kernel
theorem dX2_late_38 : decode cX2_late 38 = .ok (.iconst 0, 1) := by decide +kernel
theorem dX2_late_39 : decode cX2_late 39 = .ok (.goto 27, 3) := by decide +kernel
theorem dX2_late_42 : decode cX2_late 42 = .ok (.aload_n 0, 1) := by decide +kernel
theorem dX2_late_43 : decode cX2_late 43 = .ok (.getfield 7, 3) := by decide +kernel
theorem dX2_late_46 : decode cX2_late 46 = .ok (.iconst 0, 1) := by decide +kernel
theorem dX2_late_47 : decode cX2_late 47 = .ok (.iaload, 1) := by decide +kernel
theorem dX2_late_48 : decode cX2_late 48 = .ok (.iload_n 1, 1) := by decide +kernel
theorem dX2_late_49 : decode cX2_late 49 = .ok (.ifCond .ne 7, 3) := by decide +kernel
theorem dX2_late_52 : decode cX2_late 52 = .ok (.iconst 1, 1) := by decide +kernel
theorem dX2_late_53 : decode cX2_late 53 = .ok (.goto 4, 3) := by decide +kernel
theorem dX2_late_56 : decode cX2_late 56 = .ok (.iload_n 1, 1) := by decide +kernel
theorem dX2_late_57 : decode cX2_late 57 = .ok (.iadd, 1) := by decide +kernel
theorem dX2_late_58 : decode cX2_late 58 = .ok (.aload_n 0, 1) := by decide +kernel
theorem dX2_late_59 : decode cX2_late 59 = .ok (.getfield 7, 3) := by decide +kernel
theorem dX2_late_62 : decode cX2_late 62 = .ok (.bipush 12, 2) := by decide +kernel
theorem dX2_late_64 : decode cX2_late 64 = .ok (.iaload, 1) := by decide +kernel
theorem dX2_late_65 : decode cX2_late 65 = .ok (.isub, 1) := by decide +kernel
theorem dX2_late_66 : decode cX2_late 66 = .ok (.ireturn, 1) := by decide +kernel
set_option maxRecDepth 20000 in
theorem ggX2_lateness_X2_late : GoodIn wsX2_lateness wsX2_late := goodIn_r _ [6, 7, 8, 9, 10, 5, 11, 12, 13, 14, 15, 16, 17, 18, 19, 20, 21, 22, 23, 24, 25, 26, 27, 28, 29, 30, 31, 32, 33, 34, 35, 36, 37, 38, 39, 40, 41, 42, 43, 44, 45, 46, 47] (by decide +kernel) (by decide +kernel)
set_option maxRecDepth 20000 in
theorem gX2_lateness_X2_late : GoodIn wsX2_lateness (wsV RX2 135 RX2 yX2_late wsX2_late) := goodIn_app (goodIn_of _ (by decide +kernel)) ggX2_lateness_X2_late
theorem dX2_lateness_0 : decode cX2_lateness 0 = .ok (.aload_n 0, 1) := by decide +kernel
theorem dX2_lateness_1 : decode cX2_lateness 1 = .ok (.iconst 0, 1) := by decide +kernel
theorem dX2_lateness_2 : decode cX2_lateness 2 = .ok (.putfield 25, 3) := by decide +kernel
theorem dX2_lateness_5 : decode cX2_lateness 5 = .ok (.aload_n 0, 1) := by decide +kernel
theorem dX2_lateness_6 : decode cX2_lateness 6 = .ok (.invokevirtual 135, 3) := by decide +kernel
theorem dX2_lateness_9 : decode cX2_lateness 9 = .ok (.ireturn, 1) := by decide +kernel
set_option maxRecDepth 20000 in
theorem ggX2_key_X2_goes : GoodIn wsX2_key wsX2_goes := goodIn_r _ [6, 1, 32, 33, 34, 35, 36, 37, 38, 39, 40, 41, 42] (by decide +kernel) (by decide +kernel)
set_option maxRecDepth 20000 in
theorem gX2_key_X2_goes : GoodIn wsX2_key (wsV RX2 40 RX2 yX2_goes wsX2_goes) := goodIn_app (goodIn_of _ (by decide +kernel)) ggX2_key_X2_goes
set_option maxRecDepth 20000 in
theorem ggX2_key_X2_opensBut : GoodIn wsX2_key wsX2_opensBut := goodIn_r _ [10, 11, 1, 12, 13, 14, 5, 15, 16, 17, 18, 19, 2, 3, 4, 6, 20, 21, 22, 23, 24, 25, 26, 27, 28, 29, 30, 31, 32, 33, 34, 35, 36, 37, 38, 39, 40, 41, 42] (by decide +kernel) (by decide +kernel)
set_option maxRecDepth 20000 in
theorem gX2_key_X2_opensBut : GoodIn wsX2_key (wsV RX2 81 RX2 yX2_opensBut wsX2_opensBut) := goodIn_app (goodIn_of _ (by decide +kernel)) ggX2_key_X2_opensBut
theorem dX2_key_0 : decode cX2_key 0 = .ok (.iconst 0, 1) := by decide +kernel
theorem dX2_key_1 : decode cX2_key 1 = .ok (.istore_n 1, 1) := by decide +kernel
theorem dX2_key_2 : decode cX2_key 2 = .ok (.iload_n 1, 1) := by decide +kernel
theorem dX2_key_3 : decode cX2_key 3 = .ok (.iconst 3, 1) := by decide +kernel
theorem dX2_key_4 : decode cX2_key 4 = .ok (.if_icmp .ge 43, 3) := by decide +kernel
theorem dX2_key_7 : decode cX2_key 7 = .ok (.aload_n 0, 1) := by decide +kernel
theorem dX2_key_8 : decode cX2_key 8 = .ok (.getfield 7, 3) := by decide +kernel
theorem dX2_key_11 : decode cX2_key 11 = .ok (.bipush 11, 2) := by decide +kernel
theorem dX2_key_13 : decode cX2_key 13 = .ok (.iaload, 1) := by decide +kernel
theorem dX2_key_14 : decode cX2_key 14 = .ok (.iconst 1, 1) := by decide +kernel
theorem dX2_key_15 : decode cX2_key 15 = .ok (.if_icmp .ne 32, 3) := by decide +kernel
theorem dX2_key_18 : decode cX2_key 18 = .ok (.aload_n 0, 1) := by decide +kernel
theorem dX2_key_19 : decode cX2_key 19 = .ok (.iload_n 1, 1) := by decide +kernel
theorem dX2_key_20 : decode cX2_key 20 = .ok (.invokevirtual 40, 3) := by decide +kernel
theorem dX2_key_23 : decode cX2_key 23 = .ok (.ifCond .eq 18, 3) := by decide +kernel
theorem dX2_key_26 : decode cX2_key 26 = .ok (.aload_n 0, 1) := by decide +kernel
theorem dX2_key_27 : decode cX2_key 27 = .ok (.iload_n 1, 1) := by decide +kernel
theorem dX2_key_28 : decode cX2_key 28 = .ok (.invokevirtual 81, 3) := by decide +kernel
theorem dX2_key_31 : decode cX2_key 31 = .ok (.aload_n 0, 1) := by decide +kernel
theorem dX2_key_32 : decode cX2_key 32 = .ok (.iconst (-1), 1) := by decide +kernel
theorem dX2_key_33 : decode cX2_key 33 = .ok (.invokevirtual 81, 3) := by decide +kernel
theorem dX2_key_36 : decode cX2_key 36 = .ok (.if_icmp .eq 5, 3) := by decide +kernel
theorem dX2_key_39 : decode cX2_key 39 = .ok (.iload_n 1, 1) := by decide +kernel
theorem dX2_key_40 : decode cX2_key 40 = .ok (.ireturn, 1) := by decide +kernel
theorem dX2_key_41 : decode cX2_key 41 = .ok (.iinc 1 1, 3) := by decide +kernel
theorem dX2_key_44 : decode cX2_key 44 = .ok (.goto (-42), 3) := by decide +kernel
theorem dX2_key_47 : decode cX2_key 47 = .ok (.iconst (-1), 1) := by decide +kernel
theorem dX2_key_48 : decode cX2_key 48 = .ok (.ireturn, 1) := by decide +kernel
set_option maxRecDepth 20000 in
theorem ggX2_keyMovement_X2_key : GoodIn wsX2_keyMovement wsX2_key := goodIn_r _ [6, 7, 8, 9, 10, 5, 11, 12, 13, 14, 15, 16, 17, 18, 19, 20, 21, 22, 23, 24, 25, 26, 27, 28, 29, 30, 31, 32, 33, 34, 35, 36, 37, 38, 39, 40, 41, 42, 43, 44, 45, 46, 47] (by decide +kernel) (by decide +kernel)
set_option maxRecDepth 20000 in
theorem gX2_keyMovement_X2_key : GoodIn wsX2_keyMovement (wsV RX2 138 RX2 yX2_key wsX2_key) := goodIn_app (goodIn_of _ (by decide +kernel)) ggX2_keyMovement_X2_key
theorem dX2_keyMovement_0 : decode cX2_keyMovement 0 = .ok (.aload_n 0, 1) := by decide +kernel
theorem dX2_keyMovement_1 : decode cX2_keyMovement 1 = .ok (.iconst 0, 1) := by decide +kernel
theorem dX2_keyMovement_2 : decode cX2_keyMovement 2 = .ok (.putfield 25, 3) := by decide +kernel
theorem dX2_keyMovement_5 : decode cX2_keyMovement 5 = .ok (.aload_n 0, 1) := by decide +kernel
theorem dX2_keyMovement_6 : decode cX2_keyMovement 6 = .ok (.invokevirtual 138, 3) := by decide +kernel
theorem dX2_keyMovement_9 : decode cX2_keyMovement 9 = .ok (.ireturn, 1) := by decide +kernel
set_option maxRecDepth 20000 in
theorem ggX2_right_X2_toOpening : GoodIn wsX2_right wsX2_toOpening := goodIn_r _ [5, 6, 23, 24, 25, 26, 27, 28, 29, 30, 31, 32, 33] (by decide +kernel) (by decide +kernel)
set_option maxRecDepth 20000 in
theorem gX2_right_X2_toOpening : GoodIn wsX2_right (wsV RX2 78 RX2 yX2_toOpening wsX2_toOpening) := goodIn_app (goodIn_of _ (by decide +kernel)) ggX2_right_X2_toOpening
set_option maxRecDepth 20000 in
theorem ggX2_right_X2_downIn : GoodIn wsX2_right wsX2_downIn := goodIn_r _ [10, 11, 12, 13, 4, 14, 6, 15, 16, 17, 18, 19, 20, 21, 22, 23, 24, 25, 26, 27, 28, 29, 30, 31, 32, 33] (by decide +kernel) (by decide +kernel)
set_option maxRecDepth 20000 in
theorem gX2_right_X2_downIn : GoodIn wsX2_right (wsV RX2 54 RX2 yX2_downIn wsX2_downIn) := goodIn_app (goodIn_of _ (by decide +kernel)) ggX2_right_X2_downIn
theorem dX2_right_0 : decode cX2_right 0 = .ok (.aload_n 0, 1) := by decide +kernel
theorem dX2_right_1 : decode cX2_right 1 = .ok (.invokevirtual 78, 3) := by decide +kernel
theorem dX2_right_4 : decode cX2_right 4 = .ok (.istore_n 2, 1) := by decide +kernel
theorem dX2_right_5 : decode cX2_right 5 = .ok (.iconst 1, 1) := by decide +kernel
theorem dX2_right_6 : decode cX2_right 6 = .ok (.istore_n 3, 1) := by decide +kernel
theorem dX2_right_7 : decode cX2_right 7 = .ok (.iload_n 3, 1) := by decide +kernel
theorem dX2_right_8 : decode cX2_right 8 = .ok (.sipush 200, 3) := by decide +kernel
theorem dX2_right_11 : decode cX2_right 11 = .ok (.if_icmp .gt 26, 3) := by decide +kernel
theorem dX2_right_14 : decode cX2_right 14 = .ok (.iload_n 2, 1) := by decide +kernel
theorem dX2_right_15 : decode cX2_right 15 = .ok (.iconst (-1), 1) := by decide +kernel
theorem dX2_right_16 : decode cX2_right 16 = .ok (.if_icmp .eq 21, 3) := by decide +kernel
theorem dX2_right_19 : decode cX2_right 19 = .ok (.aload_n 0, 1) := by decide +kernel
theorem dX2_right_20 : decode cX2_right 20 = .ok (.iload_n 1, 1) := by decide +kernel
theorem dX2_right_21 : decode cX2_right 21 = .ok (.iload_n 3, 1) := by decide +kernel
theorem dX2_right_22 : decode cX2_right 22 = .ok (.invokevirtual 54, 3) := by decide +kernel
theorem dX2_right_25 : decode cX2_right 25 = .ok (.iload_n 2, 1) := by decide +kernel
theorem dX2_right_26 : decode cX2_right 26 = .ok (.if_icmp .ne 5, 3) := by decide +kernel
theorem dX2_right_29 : decode cX2_right 29 = .ok (.iload_n 3, 1) := by decide +kernel
theorem dX2_right_30 : decode cX2_right 30 = .ok (.ireturn, 1) := by decide +kernel
theorem dX2_right_31 : decode cX2_right 31 = .ok (.iinc 3 1, 3) := by decide +kernel
theorem dX2_right_34 : decode cX2_right 34 = .ok (.goto (-27), 3) := by decide +kernel
theorem dX2_right_37 : decode cX2_right 37 = .ok (.iconst (-1), 1) := by decide +kernel
theorem dX2_right_38 : decode cX2_right 38 = .ok (.ireturn, 1) := by decide +kernel
set_option maxRecDepth 20000 in
theorem ggX2_rightWinding_X2_isMovement : GoodIn wsX2_rightWinding wsX2_isMovement := goodIn_r _ [5, 6, 7, 4, 8] (by decide +kernel) (by decide +kernel)
set_option maxRecDepth 20000 in
theorem gX2_rightWinding_X2_isMovement : GoodIn wsX2_rightWinding (va_wsS RX2 75 yX2_isMovement wsX2_isMovement) := goodIn_app (goodIn_of _ (by decide +kernel)) ggX2_rightWinding_X2_isMovement
set_option maxRecDepth 20000 in
theorem ggX2_rightWinding_X2_right : GoodIn wsX2_rightWinding wsX2_right := goodIn_r _ [12, 13, 14, 15, 4, 16, 17, 18, 19, 20, 21, 22, 23, 24, 25, 26, 27, 28, 29, 30, 31, 32, 33, 38, 39, 40, 41, 42, 43, 44, 45, 46, 47, 48] (by decide +kernel) (by decide +kernel)
set_option maxRecDepth 20000 in
theorem gX2_rightWinding_X2_right : GoodIn wsX2_rightWinding (wsV RX2 141 RX2 yX2_right wsX2_right) := goodIn_app (goodIn_of _ (by decide +kernel)) ggX2_rightWinding_X2_right
set_option maxRecDepth 20000 in
theorem ggX2_rightWinding_X2_fails : GoodIn wsX2_rightWinding wsX2_fails := goodIn_r _ [37, 1, 38, 39, 40, 41, 42, 43, 44, 45, 46, 47, 48] (by decide +kernel) (by decide +kernel)
set_option maxRecDepth 20000 in
theorem gX2_rightWinding_X2_fails : GoodIn wsX2_rightWinding (wsV RX2 36 RX2 yX2_fails wsX2_fails) := goodIn_app (goodIn_of _ (by decide +kernel)) ggX2_rightWinding_X2_fails
theorem dX2_rightWinding_0 : decode cX2_rightWinding 0 = .ok (.aload_n 0, 1) := by decide +kernel
theorem dX2_rightWinding_1 : decode cX2_rightWinding 1 = .ok (.iconst 0, 1) := by decide +kernel
theorem dX2_rightWinding_2 : decode cX2_rightWinding 2 = .ok (.putfield 25, 3) := by decide +kernel
theorem dX2_rightWinding_5 : decode cX2_rightWinding 5 = .ok (.iload_n 1, 1) := by decide +kernel
theorem dX2_rightWinding_6 : decode cX2_rightWinding 6 = .ok (.invokestatic 75, 3) := by decide +kernel
theorem dX2_rightWinding_9 : decode cX2_rightWinding 9 = .ok (.ifCond .eq 11, 3) := by decide +kernel
theorem dX2_rightWinding_12 : decode cX2_rightWinding 12 = .ok (.aload_n 0, 1) := by decide +kernel
theorem dX2_rightWinding_13 : decode cX2_rightWinding 13 = .ok (.iload_n 1, 1) := by decide +kernel
theorem dX2_rightWinding_14 : decode cX2_rightWinding 14 = .ok (.invokevirtual 141, 3) := by decide +kernel
theorem dX2_rightWinding_17 : decode cX2_rightWinding 17 = .ok (.goto 8, 3) := by decide +kernel
theorem dX2_rightWinding_20 : decode cX2_rightWinding 20 = .ok (.aload_n 0, 1) := by decide +kernel
theorem dX2_rightWinding_21 : decode cX2_rightWinding 21 = .ok (.iconst 1, 1) := by decide +kernel
theorem dX2_rightWinding_22 : decode cX2_rightWinding 22 = .ok (.invokevirtual 36, 3) := by decide +kernel
theorem dX2_rightWinding_25 : decode cX2_rightWinding 25 = .ok (.ireturn, 1) := by decide +kernel
theorem dX2_share_0 : decode cX2_share 0 = .ok (.aload_n 0, 1) := by decide +kernel
theorem dX2_share_1 : decode cX2_share 1 = .ok (.getfield 7, 3) := by decide +kernel
theorem dX2_share_4 : decode cX2_share 4 = .ok (.bipush 16, 2) := by decide +kernel
theorem dX2_share_6 : decode cX2_share 6 = .ok (.iaload, 1) := by decide +kernel
theorem dX2_share_7 : decode cX2_share 7 = .ok (.aload_n 0, 1) := by decide +kernel
theorem dX2_share_8 : decode cX2_share 8 = .ok (.getfield 7, 3) := by decide +kernel
theorem dX2_share_11 : decode cX2_share 11 = .ok (.bipush 20, 2) := by decide +kernel
theorem dX2_share_13 : decode cX2_share 13 = .ok (.iaload, 1) := by decide +kernel
theorem dX2_share_14 : decode cX2_share 14 = .ok (.iadd, 1) := by decide +kernel
theorem dX2_share_15 : decode cX2_share 15 = .ok (.istore_n 1, 1) := by decide +kernel
theorem dX2_share_16 : decode cX2_share 16 = .ok (.iload_n 1, 1) := by decide +kernel
theorem dX2_share_17 : decode cX2_share 17 = .ok (.ifCond .ne 7, 3) := by decide +kernel
theorem dX2_share_20 : decode cX2_share 20 = .ok (.dconst 1, 1) := by decide +kernel
theorem dX2_share_21 : decode cX2_share 21 = .ok (.goto 14, 3) := by decide +kernel
theorem dX2_share_24 : decode cX2_share 24 = .ok (.aload_n 0, 1) := by decide +kernel
theorem dX2_share_25 : decode cX2_share 25 = .ok (.getfield 7, 3) := by decide +kernel
theorem dX2_share_28 : decode cX2_share 28 = .ok (.bipush 17, 2) := by decide +kernel
theorem dX2_share_30 : decode cX2_share 30 = .ok (.iaload, 1) := by decide +kernel
theorem dX2_share_31 : decode cX2_share 31 = .ok (.i2d, 1) := by decide +kernel
theorem dX2_share_32 : decode cX2_share 32 = .ok (.iload_n 1, 1) := by decide +kernel
theorem dX2_share_33 : decode cX2_share 33 = .ok (.i2d, 1) := by decide +kernel
theorem dX2_share_34 : decode cX2_share 34 = .ok (.ddiv, 1) := by decide +kernel
theorem dX2_share_35 : decode cX2_share 35 = .ok (.dreturn, 1) := by decide +kernel
set_option maxRecDepth 20000 in
theorem ggX2_punctuality_X2_share : GoodIn wsX2_punctuality wsX2_share := goodIn_r _ [6, 7, 8, 9, 10, 11, 12, 13, 14, 15, 16, 17, 18] (by decide +kernel) (by decide +kernel)
set_option maxRecDepth 20000 in
theorem gX2_punctuality_X2_share : GoodIn wsX2_punctuality (wsV RX2 144 RX2 yX2_share wsX2_share) := goodIn_app (goodIn_of _ (by decide +kernel)) ggX2_punctuality_X2_share
theorem dX2_punctuality_0 : decode cX2_punctuality 0 = .ok (.aload_n 0, 1) := by decide +kernel
theorem dX2_punctuality_1 : decode cX2_punctuality 1 = .ok (.iconst 0, 1) := by decide +kernel
theorem dX2_punctuality_2 : decode cX2_punctuality 2 = .ok (.putfield 25, 3) := by decide +kernel
theorem dX2_punctuality_5 : decode cX2_punctuality 5 = .ok (.aload_n 0, 1) := by decide +kernel
theorem dX2_punctuality_6 : decode cX2_punctuality 6 = .ok (.invokevirtual 144, 3) := by decide +kernel
theorem dX2_punctuality_9 : decode cX2_punctuality 9 = .ok (.dreturn, 1) := by decide +kernel
set_option maxRecDepth 20000 in
theorem ggX2_digest_X2_counted : GoodIn wsX2_digest wsX2_counted := goodIn_r _ [11, 4, 12, 13, 14, 15, 10, 16, 17, 18, 19, 20, 78, 79, 80, 81, 82, 83, 84, 85, 86, 87, 88] (by decide +kernel) (by decide +kernel)
set_option maxRecDepth 20000 in
theorem gX2_digest_X2_counted : GoodIn wsX2_digest (wsV RX2 132 RX2 yX2_counted wsX2_counted) := goodIn_app (goodIn_of _ (by decide +kernel)) ggX2_digest_X2_counted
set_option maxRecDepth 20000 in
theorem ggX2_digest_X2_ofMovement : GoodIn wsX2_digest wsX2_ofMovement := goodIn_r _ [24, 4, 25, 26, 27, 10, 28, 29, 30, 31, 32, 33, 34, 35, 36, 37, 38, 39, 40, 41, 42, 43, 44, 78, 79, 80, 81, 82, 83, 84, 85, 86, 87, 88] (by decide +kernel) (by decide +kernel)
set_option maxRecDepth 20000 in
theorem gX2_digest_X2_ofMovement : GoodIn wsX2_digest (wsV RX2 129 RX2 yX2_ofMovement wsX2_ofMovement) := goodIn_app (goodIn_of _ (by decide +kernel)) ggX2_digest_X2_ofMovement
set_option maxRecDepth 20000 in
theorem ggX2_digest_X2_right : GoodIn wsX2_digest wsX2_right := goodIn_r _ [48, 13, 14, 15, 10, 16, 4, 33, 34, 35, 36, 37, 38, 39, 40, 41, 42, 43, 44, 25, 26, 27, 28, 78, 79, 80, 81, 82, 83, 84, 85, 86, 87, 88] (by decide +kernel) (by decide +kernel)
set_option maxRecDepth 20000 in
theorem gX2_digest_X2_right : GoodIn wsX2_digest (wsV RX2 141 RX2 yX2_right wsX2_right) := goodIn_app (goodIn_of _ (by decide +kernel)) ggX2_digest_X2_right
set_option maxRecDepth 20000 in
theorem ggX2_digest_X2_opensBut : GoodIn wsX2_digest wsX2_opensBut := goodIn_r _ [52, 53, 4, 29, 30, 31, 10, 32, 33, 34, 35, 36, 37, 38, 39, 40, 41, 42, 43, 44, 25, 26, 27, 28, 17, 18, 19, 20, 78, 79, 80, 81, 82, 83, 84, 85, 86, 87, 88] (by decide +kernel) (by decide +kernel)
set_option maxRecDepth 20000 in
theorem gX2_digest_X2_opensBut : GoodIn wsX2_digest (wsV RX2 81 RX2 yX2_opensBut wsX2_opensBut) := goodIn_app (goodIn_of _ (by decide +kernel)) ggX2_digest_X2_opensBut
set_option maxRecDepth 20000 in
theorem ggX2_digest_X2_late : GoodIn wsX2_digest wsX2_late := goodIn_r _ [57, 4, 49, 50, 51, 10, 52, 53, 29, 30, 31, 32, 33, 34, 35, 36, 37, 38, 39, 40, 41, 42, 43, 44, 25, 26, 27, 28, 17, 18, 19, 20, 78, 79, 80, 81, 82, 83, 84, 85, 86, 87, 88] (by decide +kernel) (by decide +kernel)
set_option maxRecDepth 20000 in
theorem gX2_digest_X2_late : GoodIn wsX2_digest (wsV RX2 135 RX2 yX2_late wsX2_late) := goodIn_app (goodIn_of _ (by decide +kernel)) ggX2_digest_X2_late
set_option maxRecDepth 20000 in
theorem ggX2_digest_X2_key : GoodIn wsX2_digest wsX2_key := goodIn_r _ [61, 4, 37, 38, 39, 10, 40, 49, 50, 51, 52, 53, 29, 30, 31, 32, 33, 34, 35, 36, 41, 42, 43, 44, 25, 26, 27, 28, 17, 18, 19, 20, 78, 79, 80, 81, 82, 83, 84, 85, 86, 87, 88] (by decide +kernel) (by decide +kernel)
set_option maxRecDepth 20000 in
theorem gX2_digest_X2_key : GoodIn wsX2_digest (wsV RX2 138 RX2 yX2_key wsX2_key) := goodIn_app (goodIn_of _ (by decide +kernel)) ggX2_digest_X2_key
set_option maxRecDepth 20000 in
theorem ggX2_digest_X2_share : GoodIn wsX2_digest wsX2_share := goodIn_r _ [65, 4, 78, 79, 80, 81, 82, 83, 84, 85, 86, 87, 88] (by decide +kernel) (by decide +kernel)
set_option maxRecDepth 20000 in
theorem gX2_digest_X2_share : GoodIn wsX2_digest (wsV RX2 144 RX2 yX2_share wsX2_share) := goodIn_app (goodIn_of _ (by decide +kernel)) ggX2_digest_X2_share
set_option maxRecDepth 20000 in
theorem ggX2_digest_Jxe99ae_doubleToLongBits_ccdee : GoodIn wsX2_digest wsJxe99ae_doubleToLongBits_ccdee := goodIn_r _ [69, 70, 71, 72, 73, 74, 75, 76, 68, 77] (by decide +kernel) (by decide +kernel)
set_option maxRecDepth 20000 in
theorem gX2_digest_Jxe99ae_doubleToLongBits_ccdee : GoodIn wsX2_digest (va_wsS RX2 152 yJxe99ae_doubleToLongBits_ccdee wsJxe99ae_doubleToLongBits_ccdee) := goodIn_app (goodIn_of _ (by decide +kernel)) ggX2_digest_Jxe99ae_doubleToLongBits_ccdee
theorem dX2_digest_0 : decode cX2_digest 0 = .ok (.aload_n 0, 1) := by decide +kernel
theorem dX2_digest_1 : decode cX2_digest 1 = .ok (.iconst 0, 1) := by decide +kernel
theorem dX2_digest_2 : decode cX2_digest 2 = .ok (.putfield 25, 3) := by decide +kernel
theorem dX2_digest_5 : decode cX2_digest 5 = .ok (.ldc2_w 148, 3) := by decide +kernel
theorem dX2_digest_8 : decode cX2_digest 8 = .ok (.lstore_n 1, 1) := by decide +kernel
theorem dX2_digest_9 : decode cX2_digest 9 = .ok (.iconst 0, 1) := by decide +kernel
theorem dX2_digest_10 : decode cX2_digest 10 = .ok (.istore_n 3, 1) := by decide +kernel
theorem dX2_digest_11 : decode cX2_digest 11 = .ok (.iload_n 3, 1) := by decide +kernel
theorem dX2_digest_12 : decode cX2_digest 12 = .ok (.bipush 15, 2) := by decide +kernel
theorem dX2_digest_14 : decode cX2_digest 14 = .ok (.if_icmp .ge 22, 3) := by decide +kernel
theorem dX2_digest_17 : decode cX2_digest 17 = .ok (.ldc2_w 150, 3) := by decide +kernel
theorem dX2_digest_20 : decode cX2_digest 20 = .ok (.lload_n 1, 1) := by decide +kernel
theorem dX2_digest_21 : decode cX2_digest 21 = .ok (.lmul, 1) := by decide +kernel
theorem dX2_digest_22 : decode cX2_digest 22 = .ok (.aload_n 0, 1) := by decide +kernel
theorem dX2_digest_23 : decode cX2_digest 23 = .ok (.iload_n 3, 1) := by decide +kernel
theorem dX2_digest_24 : decode cX2_digest 24 = .ok (.invokevirtual 132, 3) := by decide +kernel
theorem dX2_digest_27 : decode cX2_digest 27 = .ok (.i2l, 1) := by decide +kernel
theorem dX2_digest_28 : decode cX2_digest 28 = .ok (.ladd, 1) := by decide +kernel
theorem dX2_digest_29 : decode cX2_digest 29 = .ok (.lstore_n 1, 1) := by decide +kernel
theorem dX2_digest_30 : decode cX2_digest 30 = .ok (.iinc 3 1, 3) := by decide +kernel
theorem dX2_digest_33 : decode cX2_digest 33 = .ok (.goto (-22), 3) := by decide +kernel
theorem dX2_digest_36 : decode cX2_digest 36 = .ok (.iconst 0, 1) := by decide +kernel
theorem dX2_digest_37 : decode cX2_digest 37 = .ok (.istore_n 3, 1) := by decide +kernel
theorem dX2_digest_38 : decode cX2_digest 38 = .ok (.iload_n 3, 1) := by decide +kernel
theorem dX2_digest_39 : decode cX2_digest 39 = .ok (.iconst 3, 1) := by decide +kernel
theorem dX2_digest_40 : decode cX2_digest 40 = .ok (.if_icmp .ge 26, 3) := by decide +kernel
theorem dX2_digest_43 : decode cX2_digest 43 = .ok (.ldc2_w 150, 3) := by decide +kernel
theorem dX2_digest_46 : decode cX2_digest 46 = .ok (.lload_n 1, 1) := by decide +kernel
theorem dX2_digest_47 : decode cX2_digest 47 = .ok (.lmul, 1) := by decide +kernel
theorem dX2_digest_48 : decode cX2_digest 48 = .ok (.aload_n 0, 1) := by decide +kernel
theorem dX2_digest_49 : decode cX2_digest 49 = .ok (.getfield 7, 3) := by decide +kernel
theorem dX2_digest_52 : decode cX2_digest 52 = .ok (.bipush 8, 2) := by decide +kernel
theorem dX2_digest_54 : decode cX2_digest 54 = .ok (.iload_n 3, 1) := by decide +kernel
theorem dX2_digest_55 : decode cX2_digest 55 = .ok (.iadd, 1) := by decide +kernel
theorem dX2_digest_56 : decode cX2_digest 56 = .ok (.iaload, 1) := by decide +kernel
theorem dX2_digest_57 : decode cX2_digest 57 = .ok (.i2l, 1) := by decide +kernel
theorem dX2_digest_58 : decode cX2_digest 58 = .ok (.ladd, 1) := by decide +kernel
theorem dX2_digest_59 : decode cX2_digest 59 = .ok (.lstore_n 1, 1) := by decide +kernel
theorem dX2_digest_60 : decode cX2_digest 60 = .ok (.iinc 3 1, 3) := by decide +kernel
theorem dX2_digest_63 : decode cX2_digest 63 = .ok (.goto (-25), 3) := by decide +kernel
theorem dX2_digest_66 : decode cX2_digest 66 = .ok (.iconst 0, 1) := by decide +kernel
theorem dX2_digest_67 : decode cX2_digest 67 = .ok (.istore_n 3, 1) := by decide +kernel
theorem dX2_digest_68 : decode cX2_digest 68 = .ok (.iload_n 3, 1) := by decide +kernel
theorem dX2_digest_69 : decode cX2_digest 69 = .ok (.bipush 7, 2) := by decide +kernel
theorem dX2_digest_71 : decode cX2_digest 71 = .ok (.if_icmp .ge 25, 3) := by decide +kernel
theorem dX2_digest_74 : decode cX2_digest 74 = .ok (.ldc2_w 150, 3) := by decide +kernel
theorem dX2_digest_77 : decode cX2_digest 77 = .ok (.lload_n 1, 1) := by decide +kernel
theorem dX2_digest_78 : decode cX2_digest 78 = .ok (.lmul, 1) := by decide +kernel
theorem dX2_digest_79 : decode cX2_digest 79 = .ok (.aload_n 0, 1) := by decide +kernel
theorem dX2_digest_80 : decode cX2_digest 80 = .ok (.getfield 7, 3) := by decide +kernel
theorem dX2_digest_83 : decode cX2_digest 83 = .ok (.iconst 1, 1) := by decide +kernel
theorem dX2_digest_84 : decode cX2_digest 84 = .ok (.iload_n 3, 1) := by decide +kernel
theorem dX2_digest_85 : decode cX2_digest 85 = .ok (.iadd, 1) := by decide +kernel
theorem dX2_digest_86 : decode cX2_digest 86 = .ok (.iaload, 1) := by decide +kernel
theorem dX2_digest_87 : decode cX2_digest 87 = .ok (.i2l, 1) := by decide +kernel
theorem dX2_digest_88 : decode cX2_digest 88 = .ok (.ladd, 1) := by decide +kernel
theorem dX2_digest_89 : decode cX2_digest 89 = .ok (.lstore_n 1, 1) := by decide +kernel
theorem dX2_digest_90 : decode cX2_digest 90 = .ok (.iinc 3 1, 3) := by decide +kernel
theorem dX2_digest_93 : decode cX2_digest 93 = .ok (.goto (-25), 3) := by decide +kernel
theorem dX2_digest_96 : decode cX2_digest 96 = .ok (.iconst 0, 1) := by decide +kernel
theorem dX2_digest_97 : decode cX2_digest 97 = .ok (.istore_n 3, 1) := by decide +kernel
theorem dX2_digest_98 : decode cX2_digest 98 = .ok (.iload_n 3, 1) := by decide +kernel
theorem dX2_digest_99 : decode cX2_digest 99 = .ok (.iconst 3, 1) := by decide +kernel
theorem dX2_digest_100 : decode cX2_digest 100 = .ok (.if_icmp .ge 53, 3) := by decide +kernel
theorem dX2_digest_103 : decode cX2_digest 103 = .ok (.iconst 0, 1) := by decide +kernel
theorem dX2_digest_104 : decode cX2_digest 104 = .ok (.istore 4, 2) := by decide +kernel
theorem dX2_digest_106 : decode cX2_digest 106 = .ok (.iload 4, 2) := by decide +kernel
theorem dX2_digest_108 : decode cX2_digest 108 = .ok (.bipush 6, 2) := by decide +kernel
theorem dX2_digest_110 : decode cX2_digest 110 = .ok (.if_icmp .ge 24, 3) := by decide +kernel
theorem dX2_digest_113 : decode cX2_digest 113 = .ok (.ldc2_w 150, 3) := by decide +kernel
theorem dX2_digest_116 : decode cX2_digest 116 = .ok (.lload_n 1, 1) := by decide +kernel
theorem dX2_digest_117 : decode cX2_digest 117 = .ok (.lmul, 1) := by decide +kernel
theorem dX2_digest_118 : decode cX2_digest 118 = .ok (.aload_n 0, 1) := by decide +kernel
theorem dX2_digest_119 : decode cX2_digest 119 = .ok (.iload_n 3, 1) := by decide +kernel
theorem dX2_digest_120 : decode cX2_digest 120 = .ok (.iload 4, 2) := by decide +kernel
theorem dX2_digest_122 : decode cX2_digest 122 = .ok (.invokevirtual 129, 3) := by decide +kernel
theorem dX2_digest_125 : decode cX2_digest 125 = .ok (.i2l, 1) := by decide +kernel
theorem dX2_digest_126 : decode cX2_digest 126 = .ok (.ladd, 1) := by decide +kernel
theorem dX2_digest_127 : decode cX2_digest 127 = .ok (.lstore_n 1, 1) := by decide +kernel
theorem dX2_digest_128 : decode cX2_digest 128 = .ok (.iinc 4 1, 3) := by decide +kernel
theorem dX2_digest_131 : decode cX2_digest 131 = .ok (.goto (-25), 3) := by decide +kernel
theorem dX2_digest_134 : decode cX2_digest 134 = .ok (.ldc2_w 150, 3) := by decide +kernel
theorem dX2_digest_137 : decode cX2_digest 137 = .ok (.lload_n 1, 1) := by decide +kernel
theorem dX2_digest_138 : decode cX2_digest 138 = .ok (.lmul, 1) := by decide +kernel
theorem dX2_digest_139 : decode cX2_digest 139 = .ok (.aload_n 0, 1) := by decide +kernel
theorem dX2_digest_140 : decode cX2_digest 140 = .ok (.iload_n 3, 1) := by decide +kernel
theorem dX2_digest_141 : decode cX2_digest 141 = .ok (.invokevirtual 141, 3) := by decide +kernel
theorem dX2_digest_144 : decode cX2_digest 144 = .ok (.i2l, 1) := by decide +kernel
theorem dX2_digest_145 : decode cX2_digest 145 = .ok (.ladd, 1) := by decide +kernel
theorem dX2_digest_146 : decode cX2_digest 146 = .ok (.lstore_n 1, 1) := by decide +kernel
theorem dX2_digest_147 : decode cX2_digest 147 = .ok (.iinc 3 1, 3) := by decide +kernel
theorem dX2_digest_150 : decode cX2_digest 150 = .ok (.goto (-52), 3) := by decide +kernel
theorem dX2_digest_153 : decode cX2_digest 153 = .ok (.ldc2_w 150, 3) := by decide +kernel
theorem dX2_digest_156 : decode cX2_digest 156 = .ok (.ldc2_w 150, 3) := by decide +kernel
theorem dX2_digest_159 : decode cX2_digest 159 = .ok (.lload_n 1, 1) := by decide +kernel
theorem dX2_digest_160 : decode cX2_digest 160 = .ok (.lmul, 1) := by decide +kernel
theorem dX2_digest_161 : decode cX2_digest 161 = .ok (.aload_n 0, 1) := by decide +kernel
theorem dX2_digest_162 : decode cX2_digest 162 = .ok (.iconst (-1), 1) := by decide +kernel
theorem dX2_digest_163 : decode cX2_digest 163 = .ok (.invokevirtual 81, 3) := by decide +kernel
theorem dX2_digest_166 : decode cX2_digest 166 = .ok (.i2l, 1) := by decide +kernel
theorem dX2_digest_167 : decode cX2_digest 167 = .ok (.ladd, 1) := by decide +kernel
theorem dX2_digest_168 : decode cX2_digest 168 = .ok (.lmul, 1) := by decide +kernel
theorem dX2_digest_169 : decode cX2_digest 169 = .ok (.aload_n 0, 1) := by decide +kernel
theorem dX2_digest_170 : decode cX2_digest 170 = .ok (.invokevirtual 135, 3) := by decide +kernel
theorem dX2_digest_173 : decode cX2_digest 173 = .ok (.i2l, 1) := by decide +kernel
theorem dX2_digest_174 : decode cX2_digest 174 = .ok (.ladd, 1) := by decide +kernel
theorem dX2_digest_175 : decode cX2_digest 175 = .ok (.lstore_n 1, 1) := by decide +kernel
theorem dX2_digest_176 : decode cX2_digest 176 = .ok (.ldc2_w 150, 3) := by decide +kernel
theorem dX2_digest_179 : decode cX2_digest 179 = .ok (.lload_n 1, 1) := by decide +kernel
theorem dX2_digest_180 : decode cX2_digest 180 = .ok (.lmul, 1) := by decide +kernel
theorem dX2_digest_181 : decode cX2_digest 181 = .ok (.aload_n 0, 1) := by decide +kernel
theorem dX2_digest_182 : decode cX2_digest 182 = .ok (.invokevirtual 138, 3) := by decide +kernel
theorem dX2_digest_185 : decode cX2_digest 185 = .ok (.i2l, 1) := by decide +kernel
theorem dX2_digest_186 : decode cX2_digest 186 = .ok (.ladd, 1) := by decide +kernel
theorem dX2_digest_187 : decode cX2_digest 187 = .ok (.lstore_n 1, 1) := by decide +kernel
theorem dX2_digest_188 : decode cX2_digest 188 = .ok (.ldc2_w 150, 3) := by decide +kernel
theorem dX2_digest_191 : decode cX2_digest 191 = .ok (.ldc2_w 150, 3) := by decide +kernel
theorem dX2_digest_194 : decode cX2_digest 194 = .ok (.lload_n 1, 1) := by decide +kernel
theorem dX2_digest_195 : decode cX2_digest 195 = .ok (.lmul, 1) := by decide +kernel
theorem dX2_digest_196 : decode cX2_digest 196 = .ok (.aload_n 0, 1) := by decide +kernel
theorem dX2_digest_197 : decode cX2_digest 197 = .ok (.invokevirtual 144, 3) := by decide +kernel
theorem dX2_digest_200 : decode cX2_digest 200 = .ok (.invokestatic 152, 3) := by decide +kernel
theorem dX2_digest_203 : decode cX2_digest 203 = .ok (.ladd, 1) := by decide +kernel
theorem dX2_digest_204 : decode cX2_digest 204 = .ok (.lmul, 1) := by decide +kernel
theorem dX2_digest_205 : decode cX2_digest 205 = .ok (.aload_n 0, 1) := by decide +kernel
theorem dX2_digest_206 : decode cX2_digest 206 = .ok (.getfield 91, 3) := by decide +kernel
theorem dX2_digest_209 : decode cX2_digest 209 = .ok (.i2l, 1) := by decide +kernel
theorem dX2_digest_210 : decode cX2_digest 210 = .ok (.ladd, 1) := by decide +kernel
theorem dX2_digest_211 : decode cX2_digest 211 = .ok (.lstore_n 1, 1) := by decide +kernel
theorem dX2_digest_212 : decode cX2_digest 212 = .ok (.iconst 0, 1) := by decide +kernel
theorem dX2_digest_213 : decode cX2_digest 213 = .ok (.istore_n 3, 1) := by decide +kernel
theorem dX2_digest_214 : decode cX2_digest 214 = .ok (.iload_n 3, 1) := by decide +kernel
theorem dX2_digest_215 : decode cX2_digest 215 = .ok (.aload_n 0, 1) := by decide +kernel
theorem dX2_digest_216 : decode cX2_digest 216 = .ok (.getfield 91, 3) := by decide +kernel
theorem dX2_digest_219 : decode cX2_digest 219 = .ok (.if_icmp .ge 23, 3) := by decide +kernel
theorem dX2_digest_222 : decode cX2_digest 222 = .ok (.ldc2_w 150, 3) := by decide +kernel
theorem dX2_digest_225 : decode cX2_digest 225 = .ok (.lload_n 1, 1) := by decide +kernel
theorem dX2_digest_226 : decode cX2_digest 226 = .ok (.lmul, 1) := by decide +kernel
theorem dX2_digest_227 : decode cX2_digest 227 = .ok (.aload_n 0, 1) := by decide +kernel
theorem dX2_digest_228 : decode cX2_digest 228 = .ok (.getfield 16, 3) := by decide +kernel
theorem dX2_digest_231 : decode cX2_digest 231 = .ok (.iload_n 3, 1) := by decide +kernel
theorem dX2_digest_232 : decode cX2_digest 232 = .ok (.iaload, 1) := by decide +kernel
theorem dX2_digest_233 : decode cX2_digest 233 = .ok (.i2l, 1) := by decide +kernel
theorem dX2_digest_234 : decode cX2_digest 234 = .ok (.ladd, 1) := by decide +kernel
theorem dX2_digest_235 : decode cX2_digest 235 = .ok (.lstore_n 1, 1) := by decide +kernel
theorem dX2_digest_236 : decode cX2_digest 236 = .ok (.iinc 3 1, 3) := by decide +kernel
theorem dX2_digest_239 : decode cX2_digest 239 = .ok (.goto (-25), 3) := by decide +kernel
theorem dX2_digest_242 : decode cX2_digest 242 = .ok (.lload_n 1, 1) := by decide +kernel
theorem dX2_digest_243 : decode cX2_digest 243 = .ok (.lreturn, 1) := by decide +kernel
theorem dJxe99ae_isNaN_b9ae7_0 : decode cJxe99ae_isNaN_b9ae7 0 = .ok (.dload_n 0, 1) := by decide +kernel
theorem dJxe99ae_isNaN_b9ae7_1 : decode cJxe99ae_isNaN_b9ae7 1 = .ok (.dload_n 0, 1) := by decide +kernel
theorem dJxe99ae_isNaN_b9ae7_2 : decode cJxe99ae_isNaN_b9ae7 2 = .ok (.dcmp .l, 1) := by decide +kernel
theorem dJxe99ae_isNaN_b9ae7_3 : decode cJxe99ae_isNaN_b9ae7 3 = .ok (.ifCond .eq 7, 3) := by decide +kernel
theorem dJxe99ae_isNaN_b9ae7_6 : decode cJxe99ae_isNaN_b9ae7 6 = .ok (.iconst 1, 1) := by decide +kernel
theorem dJxe99ae_isNaN_b9ae7_7 : decode cJxe99ae_isNaN_b9ae7 7 = .ok (.goto 4, 3) := by decide +kernel
theorem dJxe99ae_isNaN_b9ae7_10 : decode cJxe99ae_isNaN_b9ae7 10 = .ok (.iconst 0, 1) := by decide +kernel
theorem dJxe99ae_isNaN_b9ae7_11 : decode cJxe99ae_isNaN_b9ae7 11 = .ok (.ireturn, 1) := by decide +kernel
set_option maxRecDepth 20000 in
theorem ggJxe99ae_doubleToLongBits_ccdee_Jxe99ae_isNaN_b9ae7 : GoodIn wsJxe99ae_doubleToLongBits_ccdee wsJxe99ae_isNaN_b9ae7 := goodIn_r _ [9] (by decide +kernel) (by decide +kernel)
set_option maxRecDepth 20000 in
theorem gJxe99ae_doubleToLongBits_ccdee_Jxe99ae_isNaN_b9ae7 : GoodIn wsJxe99ae_doubleToLongBits_ccdee (va_wsS RJxe99ae 122 yJxe99ae_isNaN_b9ae7 wsJxe99ae_isNaN_b9ae7) := goodIn_app (goodIn_of _ (by decide +kernel)) ggJxe99ae_doubleToLongBits_ccdee_Jxe99ae_isNaN_b9ae7
theorem dJxe99ae_doubleToLongBits_ccdee_0 : decode cJxe99ae_doubleToLongBits_ccdee 0 = .ok (.dload_n 0, 1) := by decide +kernel
theorem dJxe99ae_doubleToLongBits_ccdee_1 : decode cJxe99ae_doubleToLongBits_ccdee 1 = .ok (.invokestatic 122, 3) := by decide +kernel
theorem dJxe99ae_doubleToLongBits_ccdee_4 : decode cJxe99ae_doubleToLongBits_ccdee 4 = .ok (.ifCond .ne 8, 3) := by decide +kernel
theorem dJxe99ae_doubleToLongBits_ccdee_7 : decode cJxe99ae_doubleToLongBits_ccdee 7 = .ok (.dload_n 0, 1) := by decide +kernel
theorem dJxe99ae_doubleToLongBits_ccdee_8 : decode cJxe99ae_doubleToLongBits_ccdee 8 = .ok (.invokestatic 134, 3) := by decide +kernel
theorem dJxe99ae_doubleToLongBits_ccdee_11 : decode cJxe99ae_doubleToLongBits_ccdee 11 = .ok (.lreturn, 1) := by decide +kernel
theorem dJxe99ae_doubleToLongBits_ccdee_12 : decode cJxe99ae_doubleToLongBits_ccdee 12 = .ok (.ldc2_w 137, 3) := by decide +kernel
theorem dJxe99ae_doubleToLongBits_ccdee_15 : decode cJxe99ae_doubleToLongBits_ccdee 15 = .ok (.lreturn, 1) := by decide +kernel
theorem dJ9_max_7cf53_0 : decode cJ9_max_7cf53 0 = .ok (.iload_n 0, 1) := by decide +kernel
theorem dJ9_max_7cf53_1 : decode cJ9_max_7cf53 1 = .ok (.iload_n 1, 1) := by decide +kernel
theorem dJ9_max_7cf53_2 : decode cJ9_max_7cf53 2 = .ok (.if_icmp .lt 7, 3) := by decide +kernel
theorem dJ9_max_7cf53_5 : decode cJ9_max_7cf53 5 = .ok (.iload_n 0, 1) := by decide +kernel
theorem dJ9_max_7cf53_6 : decode cJ9_max_7cf53 6 = .ok (.goto 4, 3) := by decide +kernel
theorem dJ9_max_7cf53_9 : decode cJ9_max_7cf53 9 = .ok (.iload_n 1, 1) := by decide +kernel
theorem dJ9_max_7cf53_10 : decode cJ9_max_7cf53 10 = .ok (.ireturn, 1) := by decide +kernel
set_option maxRecDepth 20000 in
theorem ggL_opening_X1_opening : GoodIn wsL_opening wsX1_opening := goodIn_ca (goodIn_ca (goodIn_r _ [7, 8, 9, 10, 11, 12, 13, 6, 14, 15, 16, 17, 18, 19, 20, 21, 22, 23, 24, 25, 26, 27, 28, 29, 30, 31, 32, 33, 34, 35] (by decide +kernel) (by decide +kernel)) (goodIn_sub (fun _ h => List.mem_cons_of_mem _ (List.mem_append_left _ (List.mem_append_right _ h))) (by decide +kernel))) (goodIn_sub (fun _ h => List.mem_cons_of_mem _ (List.mem_append_right _ h)) (by decide +kernel))
set_option maxRecDepth 20000 in
theorem gL_opening_X1_opening : GoodIn wsL_opening (wsV RL 7 RX1 yX1_opening wsX1_opening) := goodIn_app (goodIn_of _ (by decide +kernel)) ggL_opening_X1_opening
theorem dL_opening_0 : decode cL_opening 0 = .ok (.aload_n 3, 1) := by decide +kernel
theorem dL_opening_1 : decode cL_opening 1 = .ok (.iconst 0, 1) := by decide +kernel
theorem dL_opening_2 : decode cL_opening 2 = .ok (.aload_n 0, 1) := by decide +kernel
theorem dL_opening_3 : decode cL_opening 3 = .ok (.iload_n 1, 1) := by decide +kernel
theorem dL_opening_4 : decode cL_opening 4 = .ok (.iload_n 2, 1) := by decide +kernel
theorem dL_opening_5 : decode cL_opening 5 = .ok (.invokevirtual 7, 3) := by decide +kernel
theorem dL_opening_8 : decode cL_opening 8 = .ok (.i2l, 1) := by decide +kernel
theorem dL_opening_9 : decode cL_opening 9 = .ok (.lastore, 1) := by decide +kernel
theorem dL_opening_10 : decode cL_opening 10 = .ok (.goto 11, 3) := by decide +kernel
theorem dL_opening_13 : decode cL_opening 13 = .ok (.astore 4, 2) := by decide +kernel
theorem dL_opening_15 : decode cL_opening 15 = .ok (.iconst 1, 1) := by decide +kernel
theorem dL_opening_16 : decode cL_opening 16 = .ok (.ireturn, 1) := by decide +kernel
theorem dL_opening_17 : decode cL_opening 17 = .ok (.astore 4, 2) := by decide +kernel
theorem dL_opening_19 : decode cL_opening 19 = .ok (.iconst 2, 1) := by decide +kernel
theorem dL_opening_20 : decode cL_opening 20 = .ok (.ireturn, 1) := by decide +kernel
theorem dL_opening_21 : decode cL_opening 21 = .ok (.iconst 0, 1) := by decide +kernel
theorem dL_opening_22 : decode cL_opening 22 = .ok (.ireturn, 1) := by decide +kernel
set_option maxRecDepth 20000 in
theorem ggL_set_X1_set : GoodIn wsL_set wsX1_set := goodIn_ca (goodIn_ca (goodIn_r _ [7, 8, 9, 10, 11, 12, 13, 14, 15, 6, 16, 17, 18, 19, 20, 21, 22, 23, 24, 25, 26, 27, 28, 29, 30, 31, 32, 33, 34, 35, 36, 37] (by decide +kernel) (by decide +kernel)) (goodIn_sub (fun _ h => List.mem_cons_of_mem _ (List.mem_append_left _ (List.mem_append_right _ h))) (by decide +kernel))) (goodIn_sub (fun _ h => List.mem_cons_of_mem _ (List.mem_append_right _ h)) (by decide +kernel))
set_option maxRecDepth 20000 in
theorem gL_set_X1_set : GoodIn wsL_set (wsV RL 17 RX1 yX1_set wsX1_set) := goodIn_app (goodIn_of _ (by decide +kernel)) ggL_set_X1_set
theorem dL_set_0 : decode cL_set 0 = .ok (.aload_n 3, 1) := by decide +kernel
theorem dL_set_1 : decode cL_set 1 = .ok (.iconst 0, 1) := by decide +kernel
theorem dL_set_2 : decode cL_set 2 = .ok (.aload_n 0, 1) := by decide +kernel
theorem dL_set_3 : decode cL_set 3 = .ok (.iload_n 1, 1) := by decide +kernel
theorem dL_set_4 : decode cL_set 4 = .ok (.iload_n 2, 1) := by decide +kernel
theorem dL_set_5 : decode cL_set 5 = .ok (.invokevirtual 17, 3) := by decide +kernel
theorem dL_set_8 : decode cL_set 8 = .ok (.i2l, 1) := by decide +kernel
theorem dL_set_9 : decode cL_set 9 = .ok (.lastore, 1) := by decide +kernel
theorem dL_set_10 : decode cL_set 10 = .ok (.goto 11, 3) := by decide +kernel
theorem dL_set_13 : decode cL_set 13 = .ok (.astore 4, 2) := by decide +kernel
theorem dL_set_15 : decode cL_set 15 = .ok (.iconst 1, 1) := by decide +kernel
theorem dL_set_16 : decode cL_set 16 = .ok (.ireturn, 1) := by decide +kernel
theorem dL_set_17 : decode cL_set 17 = .ok (.astore 4, 2) := by decide +kernel
theorem dL_set_19 : decode cL_set 19 = .ok (.iconst 2, 1) := by decide +kernel
theorem dL_set_20 : decode cL_set 20 = .ok (.ireturn, 1) := by decide +kernel
theorem dL_set_21 : decode cL_set 21 = .ok (.iconst 0, 1) := by decide +kernel
theorem dL_set_22 : decode cL_set 22 = .ok (.ireturn, 1) := by decide +kernel
set_option maxRecDepth 20000 in
theorem ggL_wind_X1_wind : GoodIn wsL_wind wsX1_wind := goodIn_ca (goodIn_ca (goodIn_ca (goodIn_r _ [8, 9, 10, 11, 12, 13, 14, 15, 16, 7, 17, 18, 19, 20, 21, 22, 23, 24, 25, 26, 27, 28, 29, 30, 31, 32, 33, 34, 35, 36, 37, 38, 39, 40, 41, 42, 43, 44, 45, 46, 47, 48, 49, 50, 51, 52] (by decide +kernel) (by decide +kernel)) (goodIn_sub (fun _ h => List.mem_cons_of_mem _ (List.mem_append_left _ (List.mem_append_left _ (List.mem_append_right _ h)))) (by decide +kernel))) (goodIn_sub (fun _ h => List.mem_cons_of_mem _ (List.mem_append_left _ (List.mem_append_right _ h))) (by decide +kernel))) (goodIn_sub (fun _ h => List.mem_cons_of_mem _ (List.mem_append_right _ h)) (by decide +kernel))
set_option maxRecDepth 20000 in
theorem gL_wind_X1_wind : GoodIn wsL_wind (wsV RL 20 RX1 yX1_wind wsX1_wind) := goodIn_app (goodIn_of _ (by decide +kernel)) ggL_wind_X1_wind
theorem dL_wind_0 : decode cL_wind 0 = .ok (.aload_n 3, 1) := by decide +kernel
theorem dL_wind_1 : decode cL_wind 1 = .ok (.iconst 0, 1) := by decide +kernel
theorem dL_wind_2 : decode cL_wind 2 = .ok (.aload_n 0, 1) := by decide +kernel
theorem dL_wind_3 : decode cL_wind 3 = .ok (.iload_n 1, 1) := by decide +kernel
theorem dL_wind_4 : decode cL_wind 4 = .ok (.iload_n 2, 1) := by decide +kernel
theorem dL_wind_5 : decode cL_wind 5 = .ok (.invokevirtual 20, 3) := by decide +kernel
theorem dL_wind_8 : decode cL_wind 8 = .ok (.i2l, 1) := by decide +kernel
theorem dL_wind_9 : decode cL_wind 9 = .ok (.lastore, 1) := by decide +kernel
theorem dL_wind_10 : decode cL_wind 10 = .ok (.goto 15, 3) := by decide +kernel
theorem dL_wind_13 : decode cL_wind 13 = .ok (.astore 4, 2) := by decide +kernel
theorem dL_wind_15 : decode cL_wind 15 = .ok (.iconst 1, 1) := by decide +kernel
theorem dL_wind_16 : decode cL_wind 16 = .ok (.ireturn, 1) := by decide +kernel
theorem dL_wind_17 : decode cL_wind 17 = .ok (.astore 4, 2) := by decide +kernel
theorem dL_wind_19 : decode cL_wind 19 = .ok (.iconst 2, 1) := by decide +kernel
theorem dL_wind_20 : decode cL_wind 20 = .ok (.ireturn, 1) := by decide +kernel
theorem dL_wind_21 : decode cL_wind 21 = .ok (.astore 4, 2) := by decide +kernel
theorem dL_wind_23 : decode cL_wind 23 = .ok (.iconst 3, 1) := by decide +kernel
theorem dL_wind_24 : decode cL_wind 24 = .ok (.ireturn, 1) := by decide +kernel
theorem dL_wind_25 : decode cL_wind 25 = .ok (.iconst 0, 1) := by decide +kernel
theorem dL_wind_26 : decode cL_wind 26 = .ok (.ireturn, 1) := by decide +kernel
set_option maxRecDepth 20000 in
theorem ggL_fault_X1_fault : GoodIn wsL_fault wsX1_fault := goodIn_ca (goodIn_r _ [6, 7, 8, 9, 10, 5, 11, 12, 13, 14, 15, 16, 17, 18, 19, 20, 21, 22, 23, 24, 25, 26, 27, 28, 29, 30, 31, 32, 33, 34, 35] (by decide +kernel) (by decide +kernel)) (goodIn_sub (fun _ h => List.mem_cons_of_mem _ (List.mem_append_right _ h)) (by decide +kernel))
set_option maxRecDepth 20000 in
theorem gL_fault_X1_fault : GoodIn wsL_fault (wsV RL 25 RX1 yX1_fault wsX1_fault) := goodIn_app (goodIn_of _ (by decide +kernel)) ggL_fault_X1_fault
theorem dL_fault_0 : decode cL_fault 0 = .ok (.aload_n 3, 1) := by decide +kernel
theorem dL_fault_1 : decode cL_fault 1 = .ok (.iconst 0, 1) := by decide +kernel
theorem dL_fault_2 : decode cL_fault 2 = .ok (.aload_n 0, 1) := by decide +kernel
theorem dL_fault_3 : decode cL_fault 3 = .ok (.iload_n 1, 1) := by decide +kernel
theorem dL_fault_4 : decode cL_fault 4 = .ok (.iload_n 2, 1) := by decide +kernel
theorem dL_fault_5 : decode cL_fault 5 = .ok (.invokevirtual 25, 3) := by decide +kernel
theorem dL_fault_8 : decode cL_fault 8 = .ok (.i2l, 1) := by decide +kernel
theorem dL_fault_9 : decode cL_fault 9 = .ok (.lastore, 1) := by decide +kernel
theorem dL_fault_10 : decode cL_fault 10 = .ok (.goto 7, 3) := by decide +kernel
theorem dL_fault_13 : decode cL_fault 13 = .ok (.astore 4, 2) := by decide +kernel
theorem dL_fault_15 : decode cL_fault 15 = .ok (.iconst 1, 1) := by decide +kernel
theorem dL_fault_16 : decode cL_fault 16 = .ok (.ireturn, 1) := by decide +kernel
theorem dL_fault_17 : decode cL_fault 17 = .ok (.iconst 0, 1) := by decide +kernel
theorem dL_fault_18 : decode cL_fault 18 = .ok (.ireturn, 1) := by decide +kernel
set_option maxRecDepth 20000 in
theorem ggL_loss_X1_loss : GoodIn wsL_loss wsX1_loss := goodIn_ca (goodIn_ca (goodIn_r _ [7, 8, 9, 10, 11, 12, 13, 6, 14, 15, 16, 17, 18, 19, 20, 21, 22, 23, 24, 25, 26, 27, 28, 29, 30, 31, 32, 33, 34, 35, 36, 37, 38] (by decide +kernel) (by decide +kernel)) (goodIn_sub (fun _ h => List.mem_cons_of_mem _ (List.mem_append_left _ (List.mem_append_right _ h))) (by decide +kernel))) (goodIn_sub (fun _ h => List.mem_cons_of_mem _ (List.mem_append_right _ h)) (by decide +kernel))
set_option maxRecDepth 20000 in
theorem gL_loss_X1_loss : GoodIn wsL_loss (wsV RL 29 RX1 yX1_loss wsX1_loss) := goodIn_app (goodIn_of _ (by decide +kernel)) ggL_loss_X1_loss
theorem dL_loss_0 : decode cL_loss 0 = .ok (.aload_n 3, 1) := by decide +kernel
theorem dL_loss_1 : decode cL_loss 1 = .ok (.iconst 0, 1) := by decide +kernel
theorem dL_loss_2 : decode cL_loss 2 = .ok (.aload_n 0, 1) := by decide +kernel
theorem dL_loss_3 : decode cL_loss 3 = .ok (.iload_n 1, 1) := by decide +kernel
theorem dL_loss_4 : decode cL_loss 4 = .ok (.iload_n 2, 1) := by decide +kernel
theorem dL_loss_5 : decode cL_loss 5 = .ok (.invokevirtual 29, 3) := by decide +kernel
theorem dL_loss_8 : decode cL_loss 8 = .ok (.i2l, 1) := by decide +kernel
theorem dL_loss_9 : decode cL_loss 9 = .ok (.lastore, 1) := by decide +kernel
theorem dL_loss_10 : decode cL_loss 10 = .ok (.goto 11, 3) := by decide +kernel
theorem dL_loss_13 : decode cL_loss 13 = .ok (.astore 4, 2) := by decide +kernel
theorem dL_loss_15 : decode cL_loss 15 = .ok (.iconst 1, 1) := by decide +kernel
theorem dL_loss_16 : decode cL_loss 16 = .ok (.ireturn, 1) := by decide +kernel
theorem dL_loss_17 : decode cL_loss 17 = .ok (.astore 4, 2) := by decide +kernel
theorem dL_loss_19 : decode cL_loss 19 = .ok (.iconst 2, 1) := by decide +kernel
theorem dL_loss_20 : decode cL_loss 20 = .ok (.ireturn, 1) := by decide +kernel
theorem dL_loss_21 : decode cL_loss 21 = .ok (.iconst 0, 1) := by decide +kernel
theorem dL_loss_22 : decode cL_loss 22 = .ok (.ireturn, 1) := by decide +kernel
set_option maxRecDepth 20000 in
theorem ggL_service_X1_service : GoodIn wsL_service wsX1_service := goodIn_ca (goodIn_ca (goodIn_r _ [7, 8, 9, 10, 11, 12, 13, 14, 6, 15, 16, 17, 18, 19, 20, 21, 22, 23, 24, 25, 26, 27, 28, 29, 30, 31, 32, 33, 34, 35, 36, 37, 38, 39, 40, 41, 42] (by decide +kernel) (by decide +kernel)) (goodIn_sub (fun _ h => List.mem_cons_of_mem _ (List.mem_append_left _ (List.mem_append_right _ h))) (by decide +kernel))) (goodIn_sub (fun _ h => List.mem_cons_of_mem _ (List.mem_append_right _ h)) (by decide +kernel))
set_option maxRecDepth 20000 in
theorem gL_service_X1_service : GoodIn wsL_service (wsV RL 32 RX1 yX1_service wsX1_service) := goodIn_app (goodIn_of _ (by decide +kernel)) ggL_service_X1_service
theorem dL_service_0 : decode cL_service 0 = .ok (.aload_n 2, 1) := by decide +kernel
theorem dL_service_1 : decode cL_service 1 = .ok (.iconst 0, 1) := by decide +kernel
theorem dL_service_2 : decode cL_service 2 = .ok (.aload_n 0, 1) := by decide +kernel
theorem dL_service_3 : decode cL_service 3 = .ok (.iload_n 1, 1) := by decide +kernel
theorem dL_service_4 : decode cL_service 4 = .ok (.invokevirtual 32, 3) := by decide +kernel
theorem dL_service_7 : decode cL_service 7 = .ok (.i2l, 1) := by decide +kernel
theorem dL_service_8 : decode cL_service 8 = .ok (.lastore, 1) := by decide +kernel
theorem dL_service_9 : decode cL_service 9 = .ok (.goto 9, 3) := by decide +kernel
theorem dL_service_12 : decode cL_service 12 = .ok (.astore_n 3, 1) := by decide +kernel
theorem dL_service_13 : decode cL_service 13 = .ok (.iconst 1, 1) := by decide +kernel
theorem dL_service_14 : decode cL_service 14 = .ok (.ireturn, 1) := by decide +kernel
theorem dL_service_15 : decode cL_service 15 = .ok (.astore_n 3, 1) := by decide +kernel
theorem dL_service_16 : decode cL_service 16 = .ok (.iconst 2, 1) := by decide +kernel
theorem dL_service_17 : decode cL_service 17 = .ok (.ireturn, 1) := by decide +kernel
theorem dL_service_18 : decode cL_service 18 = .ok (.iconst 0, 1) := by decide +kernel
theorem dL_service_19 : decode cL_service 19 = .ok (.ireturn, 1) := by decide +kernel
set_option maxRecDepth 20000 in
theorem ggL_lock_X1_lock : GoodIn wsL_lock wsX1_lock := goodIn_ca (goodIn_r _ [6, 7, 8, 9, 10, 11, 12, 5, 13, 14, 15, 16, 17, 18, 19, 20, 21, 22, 23, 24, 25, 26, 27, 28, 29, 30, 31, 32, 33, 34, 35, 36, 37, 38, 39, 40, 41, 42, 43, 44, 45, 46, 47, 48, 49, 50, 51, 52] (by decide +kernel) (by decide +kernel)) (goodIn_sub (fun _ h => List.mem_cons_of_mem _ (List.mem_append_right _ h)) (by decide +kernel))
set_option maxRecDepth 20000 in
theorem gL_lock_X1_lock : GoodIn wsL_lock (wsV RL 36 RX1 yX1_lock wsX1_lock) := goodIn_app (goodIn_of _ (by decide +kernel)) ggL_lock_X1_lock
theorem dL_lock_0 : decode cL_lock 0 = .ok (.aload_n 1, 1) := by decide +kernel
theorem dL_lock_1 : decode cL_lock 1 = .ok (.iconst 0, 1) := by decide +kernel
theorem dL_lock_2 : decode cL_lock 2 = .ok (.aload_n 0, 1) := by decide +kernel
theorem dL_lock_3 : decode cL_lock 3 = .ok (.invokevirtual 36, 3) := by decide +kernel
theorem dL_lock_6 : decode cL_lock 6 = .ok (.i2l, 1) := by decide +kernel
theorem dL_lock_7 : decode cL_lock 7 = .ok (.lastore, 1) := by decide +kernel
theorem dL_lock_8 : decode cL_lock 8 = .ok (.goto 6, 3) := by decide +kernel
theorem dL_lock_11 : decode cL_lock 11 = .ok (.astore_n 2, 1) := by decide +kernel
theorem dL_lock_12 : decode cL_lock 12 = .ok (.iconst 1, 1) := by decide +kernel
theorem dL_lock_13 : decode cL_lock 13 = .ok (.ireturn, 1) := by decide +kernel
theorem dL_lock_14 : decode cL_lock 14 = .ok (.iconst 0, 1) := by decide +kernel
theorem dL_lock_15 : decode cL_lock 15 = .ok (.ireturn, 1) := by decide +kernel
set_option maxRecDepth 20000 in
theorem ggL_open_X1_open : GoodIn wsL_open wsX1_open := goodIn_ca (goodIn_r _ [6, 7, 8, 9, 10, 11, 5, 12, 13, 14, 15, 16, 17, 18, 19, 20, 21, 22, 23, 24, 25, 26, 27, 28, 29, 30, 31, 32, 33, 34, 35, 36, 37, 38, 39, 40, 41, 42, 43, 44, 45, 46, 47, 48, 49, 50, 51, 52, 53, 54, 55, 56, 57, 58, 59, 60, 61, 62, 63, 64, 65, 66, 67, 68] (by decide +kernel) (by decide +kernel)) (goodIn_sub (fun _ h => List.mem_cons_of_mem _ (List.mem_append_right _ h)) (by decide +kernel))
set_option maxRecDepth 20000 in
theorem gL_open_X1_open : GoodIn wsL_open (wsV RL 40 RX1 yX1_open wsX1_open) := goodIn_app (goodIn_of _ (by decide +kernel)) ggL_open_X1_open
theorem dL_open_0 : decode cL_open 0 = .ok (.aload_n 1, 1) := by decide +kernel
theorem dL_open_1 : decode cL_open 1 = .ok (.iconst 0, 1) := by decide +kernel
theorem dL_open_2 : decode cL_open 2 = .ok (.aload_n 0, 1) := by decide +kernel
theorem dL_open_3 : decode cL_open 3 = .ok (.invokevirtual 40, 3) := by decide +kernel
theorem dL_open_6 : decode cL_open 6 = .ok (.i2l, 1) := by decide +kernel
theorem dL_open_7 : decode cL_open 7 = .ok (.lastore, 1) := by decide +kernel
theorem dL_open_8 : decode cL_open 8 = .ok (.goto 6, 3) := by decide +kernel
theorem dL_open_11 : decode cL_open 11 = .ok (.astore_n 2, 1) := by decide +kernel
theorem dL_open_12 : decode cL_open 12 = .ok (.iconst 1, 1) := by decide +kernel
theorem dL_open_13 : decode cL_open 13 = .ok (.ireturn, 1) := by decide +kernel
theorem dL_open_14 : decode cL_open 14 = .ok (.iconst 0, 1) := by decide +kernel
theorem dL_open_15 : decode cL_open 15 = .ok (.ireturn, 1) := by decide +kernel
set_option maxRecDepth 20000 in
theorem ggL_drill_X1_drill : GoodIn wsL_drill wsX1_drill := goodIn_ca (goodIn_r _ [6, 7, 8, 9, 10, 11, 12, 5, 13, 14, 15, 16, 17, 18, 19, 20, 21, 22, 23, 24, 25, 26, 27, 28, 29, 30, 31, 32, 33, 34, 35, 36] (by decide +kernel) (by decide +kernel)) (goodIn_sub (fun _ h => List.mem_cons_of_mem _ (List.mem_append_right _ h)) (by decide +kernel))
set_option maxRecDepth 20000 in
theorem gL_drill_X1_drill : GoodIn wsL_drill (wsV RL 43 RX1 yX1_drill wsX1_drill) := goodIn_app (goodIn_of _ (by decide +kernel)) ggL_drill_X1_drill
theorem dL_drill_0 : decode cL_drill 0 = .ok (.aload_n 1, 1) := by decide +kernel
theorem dL_drill_1 : decode cL_drill 1 = .ok (.iconst 0, 1) := by decide +kernel
theorem dL_drill_2 : decode cL_drill 2 = .ok (.aload_n 0, 1) := by decide +kernel
theorem dL_drill_3 : decode cL_drill 3 = .ok (.invokevirtual 43, 3) := by decide +kernel
theorem dL_drill_6 : decode cL_drill 6 = .ok (.i2l, 1) := by decide +kernel
theorem dL_drill_7 : decode cL_drill 7 = .ok (.lastore, 1) := by decide +kernel
theorem dL_drill_8 : decode cL_drill 8 = .ok (.goto 6, 3) := by decide +kernel
theorem dL_drill_11 : decode cL_drill 11 = .ok (.astore_n 2, 1) := by decide +kernel
theorem dL_drill_12 : decode cL_drill 12 = .ok (.iconst 1, 1) := by decide +kernel
end
section
theorem dL_drill_13 : decode cL_drill 13 = .ok (.ireturn, 1) := by decide +kernel
theorem dL_drill_14 : decode cL_drill 14 = .ok (.iconst 0, 1) := by decide +kernel
theorem dL_drill_15 : decode cL_drill 15 = .ok (.ireturn, 1) := by decide +kernel
set_option maxRecDepth 20000 in
theorem ggL_pass_X1_pass : GoodIn wsL_pass wsX1_pass := goodIn_ca (goodIn_ca (goodIn_r _ [7, 8, 9, 10, 11, 12, 13, 14, 15, 16, 6, 17, 18, 19, 20, 21, 22, 23, 24, 25, 26, 27, 28, 29, 30, 31, 32, 33, 34, 35, 36, 37, 38, 39, 40, 41, 42, 43, 44, 45, 46, 47, 48, 49, 50, 51, 52, 53, 54, 55] (by decide +kernel) (by decide +kernel)) (goodIn_sub (fun _ h => List.mem_cons_of_mem _ (List.mem_append_left _ (List.mem_append_right _ h))) (by decide +kernel))) (goodIn_sub (fun _ h => List.mem_cons_of_mem _ (List.mem_append_right _ h)) (by decide +kernel))
set_option maxRecDepth 20000 in
theorem gL_pass_X1_pass : GoodIn wsL_pass (wsV RL 46 RX1 yX1_pass wsX1_pass) := goodIn_app (goodIn_of _ (by decide +kernel)) ggL_pass_X1_pass
theorem dL_pass_0 : decode cL_pass 0 = .ok (.aload_n 2, 1) := by decide +kernel
theorem dL_pass_1 : decode cL_pass 1 = .ok (.iconst 0, 1) := by decide +kernel
theorem dL_pass_2 : decode cL_pass 2 = .ok (.aload_n 0, 1) := by decide +kernel
theorem dL_pass_3 : decode cL_pass 3 = .ok (.iload_n 1, 1) := by decide +kernel
theorem dL_pass_4 : decode cL_pass 4 = .ok (.invokevirtual 46, 3) := by decide +kernel
theorem dL_pass_7 : decode cL_pass 7 = .ok (.i2l, 1) := by decide +kernel
theorem dL_pass_8 : decode cL_pass 8 = .ok (.lastore, 1) := by decide +kernel
theorem dL_pass_9 : decode cL_pass 9 = .ok (.goto 9, 3) := by decide +kernel
theorem dL_pass_12 : decode cL_pass 12 = .ok (.astore_n 3, 1) := by decide +kernel
theorem dL_pass_13 : decode cL_pass 13 = .ok (.iconst 1, 1) := by decide +kernel
theorem dL_pass_14 : decode cL_pass 14 = .ok (.ireturn, 1) := by decide +kernel
theorem dL_pass_15 : decode cL_pass 15 = .ok (.astore_n 3, 1) := by decide +kernel
theorem dL_pass_16 : decode cL_pass 16 = .ok (.iconst 2, 1) := by decide +kernel
theorem dL_pass_17 : decode cL_pass 17 = .ok (.ireturn, 1) := by decide +kernel
theorem dL_pass_18 : decode cL_pass 18 = .ok (.iconst 0, 1) := by decide +kernel
theorem dL_pass_19 : decode cL_pass 19 = .ok (.ireturn, 1) := by decide +kernel
set_option maxRecDepth 20000 in
theorem ggL_append_X1_append : GoodIn wsL_append wsX1_append := goodIn_ca (goodIn_ca (goodIn_r _ [7, 8, 9, 10, 11, 12, 13, 14, 15, 16, 17, 18, 19] (by decide +kernel) (by decide +kernel)) (goodIn_sub (fun _ h => List.mem_cons_of_mem _ (List.mem_append_left _ (List.mem_append_right _ h))) (by decide +kernel))) (goodIn_sub (fun _ h => List.mem_cons_of_mem _ (List.mem_append_right _ h)) (by decide +kernel))
set_option maxRecDepth 20000 in
theorem gL_append_X1_append : GoodIn wsL_append (wsV RL 49 RX1 yX1_append wsX1_append) := goodIn_app (goodIn_of _ (by decide +kernel)) ggL_append_X1_append
theorem dL_append_0 : decode cL_append 0 = .ok (.aload_n 2, 1) := by decide +kernel
theorem dL_append_1 : decode cL_append 1 = .ok (.iconst 0, 1) := by decide +kernel
theorem dL_append_2 : decode cL_append 2 = .ok (.aload_n 0, 1) := by decide +kernel
theorem dL_append_3 : decode cL_append 3 = .ok (.iload_n 1, 1) := by decide +kernel
theorem dL_append_4 : decode cL_append 4 = .ok (.invokevirtual 49, 3) := by decide +kernel
theorem dL_append_7 : decode cL_append 7 = .ok (.i2l, 1) := by decide +kernel
theorem dL_append_8 : decode cL_append 8 = .ok (.lastore, 1) := by decide +kernel
theorem dL_append_9 : decode cL_append 9 = .ok (.goto 9, 3) := by decide +kernel
theorem dL_append_12 : decode cL_append 12 = .ok (.astore_n 3, 1) := by decide +kernel
theorem dL_append_13 : decode cL_append 13 = .ok (.iconst 1, 1) := by decide +kernel
theorem dL_append_14 : decode cL_append 14 = .ok (.ireturn, 1) := by decide +kernel
theorem dL_append_15 : decode cL_append 15 = .ok (.astore_n 3, 1) := by decide +kernel
theorem dL_append_16 : decode cL_append 16 = .ok (.iconst 2, 1) := by decide +kernel
theorem dL_append_17 : decode cL_append 17 = .ok (.ireturn, 1) := by decide +kernel
theorem dL_append_18 : decode cL_append 18 = .ok (.iconst 0, 1) := by decide +kernel
theorem dL_append_19 : decode cL_append 19 = .ok (.ireturn, 1) := by decide +kernel
set_option maxRecDepth 20000 in
theorem ggL_windAll_X1_windAll : GoodIn wsL_windAll wsX1_windAll := goodIn_ca (goodIn_ca (goodIn_r _ [7, 8, 9, 10, 11, 12, 13, 14, 15, 16, 17, 6, 18, 19, 20, 21, 22, 23, 24, 25, 26, 27, 28, 29, 30, 31, 32, 33, 34, 35, 36, 37, 38, 39, 40, 41, 42, 43, 44, 45, 46, 47, 48, 49, 50, 51, 52, 53, 54, 55, 56, 57, 58, 59, 60, 61, 62, 63, 64, 65, 66, 67, 68, 69, 70, 71, 72, 73, 74, 75, 76, 77, 78, 79, 80, 81, 82, 83, 84, 85, 86, 87, 88, 89, 90, 91, 92, 93, 94, 95, 96, 97, 98, 99, 100, 101, 102, 103, 104, 105, 106, 107, 108, 109, 110, 111, 112, 113, 114] (by decide +kernel) (by decide +kernel)) (goodIn_sub (fun _ h => List.mem_cons_of_mem _ (List.mem_append_left _ (List.mem_append_right _ h))) (by decide +kernel))) (goodIn_sub (fun _ h => List.mem_cons_of_mem _ (List.mem_append_right _ h)) (by decide +kernel))
set_option maxRecDepth 20000 in
theorem gL_windAll_X1_windAll : GoodIn wsL_windAll (wsV RL 52 RX1 yX1_windAll wsX1_windAll) := goodIn_app (goodIn_of _ (by decide +kernel)) ggL_windAll_X1_windAll
theorem dL_windAll_0 : decode cL_windAll 0 = .ok (.aload_n 1, 1) := by decide +kernel
theorem dL_windAll_1 : decode cL_windAll 1 = .ok (.iconst 0, 1) := by decide +kernel
theorem dL_windAll_2 : decode cL_windAll 2 = .ok (.aload_n 0, 1) := by decide +kernel
theorem dL_windAll_3 : decode cL_windAll 3 = .ok (.invokevirtual 52, 3) := by decide +kernel
theorem dL_windAll_6 : decode cL_windAll 6 = .ok (.i2l, 1) := by decide +kernel
theorem dL_windAll_7 : decode cL_windAll 7 = .ok (.lastore, 1) := by decide +kernel
theorem dL_windAll_8 : decode cL_windAll 8 = .ok (.goto 9, 3) := by decide +kernel
theorem dL_windAll_11 : decode cL_windAll 11 = .ok (.astore_n 2, 1) := by decide +kernel
theorem dL_windAll_12 : decode cL_windAll 12 = .ok (.iconst 1, 1) := by decide +kernel
theorem dL_windAll_13 : decode cL_windAll 13 = .ok (.ireturn, 1) := by decide +kernel
theorem dL_windAll_14 : decode cL_windAll 14 = .ok (.astore_n 2, 1) := by decide +kernel
theorem dL_windAll_15 : decode cL_windAll 15 = .ok (.iconst 2, 1) := by decide +kernel
theorem dL_windAll_16 : decode cL_windAll 16 = .ok (.ireturn, 1) := by decide +kernel
theorem dL_windAll_17 : decode cL_windAll 17 = .ok (.iconst 0, 1) := by decide +kernel
theorem dL_windAll_18 : decode cL_windAll 18 = .ok (.ireturn, 1) := by decide +kernel
set_option maxRecDepth 20000 in
theorem ggL_undo_X1_undo : GoodIn wsL_undo wsX1_undo := goodIn_ca (goodIn_r _ [6, 7, 8, 9, 10, 11, 12, 13, 14, 15, 16, 17, 18, 19, 20, 21] (by decide +kernel) (by decide +kernel)) (goodIn_sub (fun _ h => List.mem_cons_of_mem _ (List.mem_append_right _ h)) (by decide +kernel))
set_option maxRecDepth 20000 in
theorem gL_undo_X1_undo : GoodIn wsL_undo (wsV RL 55 RX1 yX1_undo wsX1_undo) := goodIn_app (goodIn_of _ (by decide +kernel)) ggL_undo_X1_undo
theorem dL_undo_0 : decode cL_undo 0 = .ok (.aload_n 1, 1) := by decide +kernel
theorem dL_undo_1 : decode cL_undo 1 = .ok (.iconst 0, 1) := by decide +kernel
theorem dL_undo_2 : decode cL_undo 2 = .ok (.aload_n 0, 1) := by decide +kernel
theorem dL_undo_3 : decode cL_undo 3 = .ok (.invokevirtual 55, 3) := by decide +kernel
theorem dL_undo_6 : decode cL_undo 6 = .ok (.i2l, 1) := by decide +kernel
theorem dL_undo_7 : decode cL_undo 7 = .ok (.lastore, 1) := by decide +kernel
theorem dL_undo_8 : decode cL_undo 8 = .ok (.goto 6, 3) := by decide +kernel
theorem dL_undo_11 : decode cL_undo 11 = .ok (.astore_n 2, 1) := by decide +kernel
theorem dL_undo_12 : decode cL_undo 12 = .ok (.iconst 1, 1) := by decide +kernel
theorem dL_undo_13 : decode cL_undo 13 = .ok (.ireturn, 1) := by decide +kernel
theorem dL_undo_14 : decode cL_undo 14 = .ok (.iconst 0, 1) := by decide +kernel
theorem dL_undo_15 : decode cL_undo 15 = .ok (.ireturn, 1) := by decide +kernel
set_option maxRecDepth 20000 in
theorem ggL_movement_X1_movement : GoodIn wsL_movement wsX1_movement := goodIn_ca (goodIn_ca (goodIn_r _ [7, 8, 9, 10, 11, 12, 13, 6, 14, 15, 16, 17, 18, 19, 20, 21, 22, 23, 24, 25, 26, 27, 28, 29, 30, 31, 32, 33, 34, 35, 36] (by decide +kernel) (by decide +kernel)) (goodIn_sub (fun _ h => List.mem_cons_of_mem _ (List.mem_append_left _ (List.mem_append_right _ h))) (by decide +kernel))) (goodIn_sub (fun _ h => List.mem_cons_of_mem _ (List.mem_append_right _ h)) (by decide +kernel))
set_option maxRecDepth 20000 in
theorem gL_movement_X1_movement : GoodIn wsL_movement (wsV RL 58 RX1 yX1_movement wsX1_movement) := goodIn_app (goodIn_of _ (by decide +kernel)) ggL_movement_X1_movement
theorem dL_movement_0 : decode cL_movement 0 = .ok (.aload_n 3, 1) := by decide +kernel
theorem dL_movement_1 : decode cL_movement 1 = .ok (.iconst 0, 1) := by decide +kernel
theorem dL_movement_2 : decode cL_movement 2 = .ok (.aload_n 0, 1) := by decide +kernel
theorem dL_movement_3 : decode cL_movement 3 = .ok (.iload_n 1, 1) := by decide +kernel
theorem dL_movement_4 : decode cL_movement 4 = .ok (.iload_n 2, 1) := by decide +kernel
theorem dL_movement_5 : decode cL_movement 5 = .ok (.invokevirtual 58, 3) := by decide +kernel
theorem dL_movement_8 : decode cL_movement 8 = .ok (.i2l, 1) := by decide +kernel
theorem dL_movement_9 : decode cL_movement 9 = .ok (.lastore, 1) := by decide +kernel
theorem dL_movement_10 : decode cL_movement 10 = .ok (.goto 11, 3) := by decide +kernel
theorem dL_movement_13 : decode cL_movement 13 = .ok (.astore 4, 2) := by decide +kernel
theorem dL_movement_15 : decode cL_movement 15 = .ok (.iconst 1, 1) := by decide +kernel
theorem dL_movement_16 : decode cL_movement 16 = .ok (.ireturn, 1) := by decide +kernel
theorem dL_movement_17 : decode cL_movement 17 = .ok (.astore 4, 2) := by decide +kernel
theorem dL_movement_19 : decode cL_movement 19 = .ok (.iconst 2, 1) := by decide +kernel
theorem dL_movement_20 : decode cL_movement 20 = .ok (.ireturn, 1) := by decide +kernel
theorem dL_movement_21 : decode cL_movement 21 = .ok (.iconst 0, 1) := by decide +kernel
theorem dL_movement_22 : decode cL_movement 22 = .ok (.ireturn, 1) := by decide +kernel
set_option maxRecDepth 20000 in
theorem ggL_day_X1_day : GoodIn wsL_day wsX1_day := goodIn_ca (goodIn_r _ [6, 7, 8, 9, 10, 11, 5, 12, 13, 14, 15, 16, 17, 18] (by decide +kernel) (by decide +kernel)) (goodIn_sub (fun _ h => List.mem_cons_of_mem _ (List.mem_append_right _ h)) (by decide +kernel))
set_option maxRecDepth 20000 in
theorem gL_day_X1_day : GoodIn wsL_day (wsV RL 61 RX1 yX1_day wsX1_day) := goodIn_app (goodIn_of _ (by decide +kernel)) ggL_day_X1_day
theorem dL_day_0 : decode cL_day 0 = .ok (.aload_n 2, 1) := by decide +kernel
theorem dL_day_1 : decode cL_day 1 = .ok (.iconst 0, 1) := by decide +kernel
theorem dL_day_2 : decode cL_day 2 = .ok (.aload_n 0, 1) := by decide +kernel
theorem dL_day_3 : decode cL_day 3 = .ok (.iload_n 1, 1) := by decide +kernel
theorem dL_day_4 : decode cL_day 4 = .ok (.invokevirtual 61, 3) := by decide +kernel
theorem dL_day_7 : decode cL_day 7 = .ok (.i2l, 1) := by decide +kernel
theorem dL_day_8 : decode cL_day 8 = .ok (.lastore, 1) := by decide +kernel
theorem dL_day_9 : decode cL_day 9 = .ok (.goto 6, 3) := by decide +kernel
theorem dL_day_12 : decode cL_day 12 = .ok (.astore_n 3, 1) := by decide +kernel
theorem dL_day_13 : decode cL_day 13 = .ok (.iconst 1, 1) := by decide +kernel
theorem dL_day_14 : decode cL_day 14 = .ok (.ireturn, 1) := by decide +kernel
theorem dL_day_15 : decode cL_day 15 = .ok (.iconst 0, 1) := by decide +kernel
theorem dL_day_16 : decode cL_day 16 = .ok (.ireturn, 1) := by decide +kernel
set_option maxRecDepth 20000 in
theorem ggL_count_X1_count : GoodIn wsL_count wsX1_count := goodIn_ca (goodIn_r _ [6, 7, 8, 9, 10, 11, 5, 12, 13, 14, 15, 16, 17, 18, 19, 20, 21, 22, 23, 24, 25, 26, 27, 28, 29, 30, 31, 32, 33, 34, 35, 36, 37, 38, 39, 40] (by decide +kernel) (by decide +kernel)) (goodIn_sub (fun _ h => List.mem_cons_of_mem _ (List.mem_append_right _ h)) (by decide +kernel))
set_option maxRecDepth 20000 in
theorem gL_count_X1_count : GoodIn wsL_count (wsV RL 64 RX1 yX1_count wsX1_count) := goodIn_app (goodIn_of _ (by decide +kernel)) ggL_count_X1_count
theorem dL_count_0 : decode cL_count 0 = .ok (.aload_n 2, 1) := by decide +kernel
theorem dL_count_1 : decode cL_count 1 = .ok (.iconst 0, 1) := by decide +kernel
theorem dL_count_2 : decode cL_count 2 = .ok (.aload_n 0, 1) := by decide +kernel
theorem dL_count_3 : decode cL_count 3 = .ok (.iload_n 1, 1) := by decide +kernel
theorem dL_count_4 : decode cL_count 4 = .ok (.invokevirtual 64, 3) := by decide +kernel
theorem dL_count_7 : decode cL_count 7 = .ok (.i2l, 1) := by decide +kernel
theorem dL_count_8 : decode cL_count 8 = .ok (.lastore, 1) := by decide +kernel
theorem dL_count_9 : decode cL_count 9 = .ok (.goto 6, 3) := by decide +kernel
theorem dL_count_12 : decode cL_count 12 = .ok (.astore_n 3, 1) := by decide +kernel
theorem dL_count_13 : decode cL_count 13 = .ok (.iconst 1, 1) := by decide +kernel
theorem dL_count_14 : decode cL_count 14 = .ok (.ireturn, 1) := by decide +kernel
theorem dL_count_15 : decode cL_count 15 = .ok (.iconst 0, 1) := by decide +kernel
theorem dL_count_16 : decode cL_count 16 = .ok (.ireturn, 1) := by decide +kernel
set_option maxRecDepth 20000 in
theorem ggL_setting_X1_setting : GoodIn wsL_setting wsX1_setting := goodIn_ca (goodIn_r _ [6, 7, 8, 9, 10, 11, 5, 12, 13, 14, 15, 16, 17, 18] (by decide +kernel) (by decide +kernel)) (goodIn_sub (fun _ h => List.mem_cons_of_mem _ (List.mem_append_right _ h)) (by decide +kernel))
set_option maxRecDepth 20000 in
theorem gL_setting_X1_setting : GoodIn wsL_setting (wsV RL 67 RX1 yX1_setting wsX1_setting) := goodIn_app (goodIn_of _ (by decide +kernel)) ggL_setting_X1_setting
theorem dL_setting_0 : decode cL_setting 0 = .ok (.aload_n 2, 1) := by decide +kernel
theorem dL_setting_1 : decode cL_setting 1 = .ok (.iconst 0, 1) := by decide +kernel
theorem dL_setting_2 : decode cL_setting 2 = .ok (.aload_n 0, 1) := by decide +kernel
theorem dL_setting_3 : decode cL_setting 3 = .ok (.iload_n 1, 1) := by decide +kernel
theorem dL_setting_4 : decode cL_setting 4 = .ok (.invokevirtual 67, 3) := by decide +kernel
theorem dL_setting_7 : decode cL_setting 7 = .ok (.i2l, 1) := by decide +kernel
theorem dL_setting_8 : decode cL_setting 8 = .ok (.lastore, 1) := by decide +kernel
theorem dL_setting_9 : decode cL_setting 9 = .ok (.goto 6, 3) := by decide +kernel
theorem dL_setting_12 : decode cL_setting 12 = .ok (.astore_n 3, 1) := by decide +kernel
theorem dL_setting_13 : decode cL_setting 13 = .ok (.iconst 1, 1) := by decide +kernel
theorem dL_setting_14 : decode cL_setting 14 = .ok (.ireturn, 1) := by decide +kernel
theorem dL_setting_15 : decode cL_setting 15 = .ok (.iconst 0, 1) := by decide +kernel
theorem dL_setting_16 : decode cL_setting 16 = .ok (.ireturn, 1) := by decide +kernel
set_option maxRecDepth 20000 in
theorem ggL_rightWinding_X1_rightWinding : GoodIn wsL_rightWinding wsX1_rightWinding := goodIn_ca (goodIn_r _ [6, 7, 8, 9, 10, 5, 11, 12, 13, 14, 15, 16, 17, 18, 19, 20, 21, 22, 23, 24, 25, 26, 27, 28, 29, 30, 31, 32, 33, 34, 35, 36, 37, 38, 39, 40, 41, 42, 43, 44, 45, 46, 47] (by decide +kernel) (by decide +kernel)) (goodIn_sub (fun _ h => List.mem_cons_of_mem _ (List.mem_append_right _ h)) (by decide +kernel))
set_option maxRecDepth 20000 in
theorem gL_rightWinding_X1_rightWinding : GoodIn wsL_rightWinding (wsV RL 70 RX1 yX1_rightWinding wsX1_rightWinding) := goodIn_app (goodIn_of _ (by decide +kernel)) ggL_rightWinding_X1_rightWinding
theorem dL_rightWinding_0 : decode cL_rightWinding 0 = .ok (.aload_n 2, 1) := by decide +kernel
theorem dL_rightWinding_1 : decode cL_rightWinding 1 = .ok (.iconst 0, 1) := by decide +kernel
theorem dL_rightWinding_2 : decode cL_rightWinding 2 = .ok (.aload_n 0, 1) := by decide +kernel
theorem dL_rightWinding_3 : decode cL_rightWinding 3 = .ok (.iload_n 1, 1) := by decide +kernel
theorem dL_rightWinding_4 : decode cL_rightWinding 4 = .ok (.invokevirtual 70, 3) := by decide +kernel
theorem dL_rightWinding_7 : decode cL_rightWinding 7 = .ok (.i2l, 1) := by decide +kernel
theorem dL_rightWinding_8 : decode cL_rightWinding 8 = .ok (.lastore, 1) := by decide +kernel
theorem dL_rightWinding_9 : decode cL_rightWinding 9 = .ok (.goto 6, 3) := by decide +kernel
theorem dL_rightWinding_12 : decode cL_rightWinding 12 = .ok (.astore_n 3, 1) := by decide +kernel
theorem dL_rightWinding_13 : decode cL_rightWinding 13 = .ok (.iconst 1, 1) := by decide +kernel
theorem dL_rightWinding_14 : decode cL_rightWinding 14 = .ok (.ireturn, 1) := by decide +kernel
theorem dL_rightWinding_15 : decode cL_rightWinding 15 = .ok (.iconst 0, 1) := by decide +kernel
theorem dL_rightWinding_16 : decode cL_rightWinding 16 = .ok (.ireturn, 1) := by decide +kernel
set_option maxRecDepth 20000 in
theorem ggL_law_X1_init : GoodIn wsL_law wsX1_init := goodIn_r _ [9, 10, 11, 12, 13, 14, 15, 16, 17, 18, 19, 20, 21, 22, 23, 24, 25, 26, 27, 28, 29, 30, 623, 624, 625, 626, 627, 628, 640, 641, 642, 643] (by decide +kernel) (by decide +kernel)
set_option maxRecDepth 20000 in
theorem gL_law_X1_init : GoodIn wsL_law (wsX1_init) := ggL_law_X1_init
set_option maxRecDepth 20000 in
theorem ggL_law_X2_init : GoodIn wsL_law wsX2_init := goodIn_r _ [33, 34, 11, 12, 13, 35, 36, 37, 38, 39, 629, 630, 631, 632, 633, 634, 635, 636, 637, 638, 639] (by decide +kernel) (by decide +kernel)
set_option maxRecDepth 20000 in
theorem gL_law_X2_init : GoodIn wsL_law (wsX2_init) := ggL_law_X2_init
set_option maxRecDepth 20000 in
theorem ggL_law_L_opening : GoodIn wsL_law wsL_opening := goodIn_ca (goodIn_ca (goodIn_r _ [43, 44, 45, 46, 47, 48, 2, 49, 50, 51, 52, 53, 54, 55, 56, 57, 58, 59, 60, 14, 61, 62, 63, 64, 16, 15, 65, 66, 67, 68, 623, 624, 625, 626, 627, 628] (by decide +kernel) (by decide +kernel)) (goodIn_sub (fun _ h => List.mem_append_left _ (List.mem_append_left _ (List.mem_append_right _ h))) (by decide +kernel))) (goodIn_sub (fun _ h => List.mem_append_left _ (List.mem_append_right _ h)) (by decide +kernel))
set_option maxRecDepth 20000 in
theorem gL_law_L_opening : GoodIn wsL_law (va_wsS RL 77 yL_opening wsL_opening) := goodIn_app (goodIn_of _ (by decide +kernel)) ggL_law_L_opening
set_option maxRecDepth 20000 in
theorem ggL_law_X2_opening : GoodIn wsL_law wsX2_opening := goodIn_r _ [72, 73, 74, 75, 5, 76, 77, 78, 79, 80, 81, 82, 83, 84, 85, 86, 87, 88, 36, 35, 89, 90, 91, 92, 629, 630, 631, 632, 633, 634, 635, 636, 637, 638, 639] (by decide +kernel) (by decide +kernel)
set_option maxRecDepth 20000 in
theorem gL_law_X2_opening : GoodIn wsL_law (wsV RL 82 RX2 yX2_opening wsX2_opening) := goodIn_app (goodIn_of _ (by decide +kernel)) ggL_law_X2_opening
set_option maxRecDepth 20000 in
theorem ggL_law_X2_thrown : GoodIn wsL_law wsX2_thrown := goodIn_r _ [96, 73, 629, 630, 631, 632, 633, 634, 635, 636, 637, 638, 639] (by decide +kernel) (by decide +kernel)
set_option maxRecDepth 20000 in
theorem gL_law_X2_thrown : GoodIn wsL_law (wsV RL 83 RX2 yX2_thrown wsX2_thrown) := goodIn_app (goodIn_of _ (by decide +kernel)) ggL_law_X2_thrown
set_option maxRecDepth 20000 in
theorem ggL_law_L_set : GoodIn wsL_law wsL_set := goodIn_ca (goodIn_ca (goodIn_r _ [99, 44, 45, 100, 101, 102, 2, 103, 50, 51, 52, 53, 104, 105, 106, 107, 108, 57, 58, 59, 60, 14, 61, 62, 63, 64, 16, 15, 65, 66, 67, 68, 623, 624, 625, 626, 627, 628] (by decide +kernel) (by decide +kernel)) (goodIn_sub (fun _ h => List.mem_append_left _ (List.mem_append_left _ (List.mem_append_right _ h))) (by decide +kernel))) (goodIn_sub (fun _ h => List.mem_append_left _ (List.mem_append_right _ h)) (by decide +kernel))
set_option maxRecDepth 20000 in
theorem gL_law_L_set : GoodIn wsL_law (va_wsS RL 86 yL_set wsL_set) := goodIn_app (goodIn_of _ (by decide +kernel)) ggL_law_L_set
set_option maxRecDepth 20000 in
theorem ggL_law_X2_set : GoodIn wsL_law wsX2_set := goodIn_r _ [112, 73, 77, 78, 5, 79, 80, 81, 82, 83, 113, 114, 115, 84, 85, 86, 87, 88, 36, 35, 89, 90, 91, 92, 629, 630, 631, 632, 633, 634, 635, 636, 637, 638, 639] (by decide +kernel) (by decide +kernel)
set_option maxRecDepth 20000 in
theorem gL_law_X2_set : GoodIn wsL_law (wsV RL 88 RX2 yX2_set wsX2_set) := goodIn_app (goodIn_of _ (by decide +kernel)) ggL_law_X2_set
set_option maxRecDepth 20000 in
theorem ggL_law_L_wind : GoodIn wsL_law wsL_wind := goodIn_ca (goodIn_ca (goodIn_ca (goodIn_r _ [118, 44, 45, 119, 120, 121, 122, 2, 123, 50, 51, 52, 53, 124, 125, 126, 127, 128, 129, 130, 131, 132, 133, 134, 135, 14, 136, 137, 138, 139, 140, 141, 142, 57, 58, 59, 60, 61, 62, 63, 64, 16, 15, 65, 66, 67, 68, 623, 624, 625, 626, 627, 628] (by decide +kernel) (by decide +kernel)) (goodIn_sub (fun _ h => List.mem_append_left _ (List.mem_append_left _ (List.mem_append_right _ h))) (by decide +kernel))) (goodIn_sub (fun _ h => List.mem_append_left _ (List.mem_append_right _ h)) (by decide +kernel))) (goodIn_sub (fun _ h => List.mem_append_right _ h) (by decide +kernel))
set_option maxRecDepth 20000 in
theorem gL_law_L_wind : GoodIn wsL_law (va_wsS RL 89 yL_wind wsL_wind) := goodIn_app (goodIn_of _ (by decide +kernel)) ggL_law_L_wind
set_option maxRecDepth 20000 in
theorem ggL_law_X2_wind : GoodIn wsL_law wsX2_wind := goodIn_r _ [146, 73, 35, 147, 148, 5, 149, 77, 78, 79, 80, 81, 82, 83, 150, 151, 152, 153, 84, 85, 86, 87, 88, 36, 89, 90, 91, 92, 629, 630, 631, 632, 633, 634, 635, 636, 637, 638, 639] (by decide +kernel) (by decide +kernel)
set_option maxRecDepth 20000 in
theorem gL_law_X2_wind : GoodIn wsL_law (wsV RL 91 RX2 yX2_wind wsX2_wind) := goodIn_app (goodIn_of _ (by decide +kernel)) ggL_law_X2_wind
set_option maxRecDepth 20000 in
theorem ggL_law_L_fault : GoodIn wsL_law wsL_fault := goodIn_ca (goodIn_r _ [156, 44, 157, 158, 159, 2, 160, 50, 51, 126, 127, 128, 140, 141, 142, 57, 58, 59, 60, 14, 61, 62, 63, 64, 16, 15, 65, 66, 67, 68, 623, 624, 625, 626, 627, 628] (by decide +kernel) (by decide +kernel)) (goodIn_sub (fun _ h => List.mem_append_left _ (List.mem_append_left _ (List.mem_append_right _ h))) (by decide +kernel))
set_option maxRecDepth 20000 in
theorem gL_law_L_fault : GoodIn wsL_law (va_wsS RL 92 yL_fault wsL_fault) := goodIn_app (goodIn_of _ (by decide +kernel)) ggL_law_L_fault
set_option maxRecDepth 20000 in
theorem ggL_law_X2_fault : GoodIn wsL_law wsX2_fault := goodIn_r _ [164, 73, 147, 148, 5, 149, 77, 78, 79, 80, 81, 82, 83, 84, 85, 86, 87, 88, 36, 35, 89, 90, 91, 92, 629, 630, 631, 632, 633, 634, 635, 636, 637, 638, 639] (by decide +kernel) (by decide +kernel)
set_option maxRecDepth 20000 in
theorem gL_law_X2_fault : GoodIn wsL_law (wsV RL 95 RX2 yX2_fault wsX2_fault) := goodIn_app (goodIn_of _ (by decide +kernel)) ggL_law_X2_fault
set_option maxRecDepth 20000 in
theorem ggL_law_L_loss : GoodIn wsL_law wsL_loss := goodIn_ca (goodIn_ca (goodIn_r _ [167, 44, 45, 168, 169, 170, 2, 171, 50, 51, 52, 53, 126, 127, 128, 140, 141, 142, 57, 58, 59, 60, 14, 61, 62, 63, 64, 16, 15, 65, 66, 67, 68, 623, 624, 625, 626, 627, 628] (by decide +kernel) (by decide +kernel)) (goodIn_sub (fun _ h => List.mem_append_left _ (List.mem_append_left _ (List.mem_append_right _ h))) (by decide +kernel))) (goodIn_sub (fun _ h => List.mem_append_left _ (List.mem_append_right _ h)) (by decide +kernel))
set_option maxRecDepth 20000 in
theorem gL_law_L_loss : GoodIn wsL_law (va_wsS RL 96 yL_loss wsL_loss) := goodIn_app (goodIn_of _ (by decide +kernel)) ggL_law_L_loss
set_option maxRecDepth 20000 in
theorem ggL_law_X2_loss : GoodIn wsL_law wsX2_loss := goodIn_r _ [175, 73, 147, 148, 5, 149, 77, 78, 79, 80, 81, 82, 83, 84, 85, 86, 87, 88, 36, 35, 89, 90, 91, 92, 629, 630, 631, 632, 633, 634, 635, 636, 637, 638, 639] (by decide +kernel) (by decide +kernel)
set_option maxRecDepth 20000 in
theorem gL_law_X2_loss : GoodIn wsL_law (wsV RL 98 RX2 yX2_loss wsX2_loss) := goodIn_app (goodIn_of _ (by decide +kernel)) ggL_law_X2_loss
set_option maxRecDepth 20000 in
theorem ggL_law_L_service : GoodIn wsL_law wsL_service := goodIn_ca (goodIn_ca (goodIn_r _ [178, 44, 119, 179, 180, 181, 2, 182, 50, 51, 124, 125, 14, 126, 127, 128, 132, 133, 134, 135, 140, 141, 142, 57, 58, 59, 60, 61, 62, 63, 64, 16, 15, 65, 66, 67, 68, 623, 624, 625, 626, 627, 628] (by decide +kernel) (by decide +kernel)) (goodIn_sub (fun _ h => List.mem_append_left _ (List.mem_append_left _ (List.mem_append_right _ h))) (by decide +kernel))) (goodIn_sub (fun _ h => List.mem_append_right _ h) (by decide +kernel))
set_option maxRecDepth 20000 in
theorem gL_law_L_service : GoodIn wsL_law (va_wsS RL 99 yL_service wsL_service) := goodIn_app (goodIn_of _ (by decide +kernel)) ggL_law_L_service
set_option maxRecDepth 20000 in
theorem ggL_law_X2_service : GoodIn wsL_law wsX2_service := goodIn_r _ [186, 73, 35, 147, 148, 5, 149, 77, 78, 79, 80, 81, 82, 83, 84, 85, 86, 87, 88, 36, 89, 90, 91, 92, 629, 630, 631, 632, 633, 634, 635, 636, 637, 638, 639] (by decide +kernel) (by decide +kernel)
set_option maxRecDepth 20000 in
theorem gL_law_X2_service : GoodIn wsL_law (wsV RL 102 RX2 yX2_service wsX2_service) := goodIn_app (goodIn_of _ (by decide +kernel)) ggL_law_X2_service
set_option maxRecDepth 20000 in
theorem ggL_law_L_lock : GoodIn wsL_law wsL_lock := goodIn_ca (goodIn_r _ [189, 119, 190, 191, 192, 2, 193, 124, 125, 14, 132, 133, 134, 135, 194, 195, 196, 197, 136, 137, 138, 139, 140, 141, 142, 61, 62, 63, 64, 16, 15, 65, 66, 67, 68, 198, 199, 200, 201, 202, 203, 204, 205, 206, 207, 208, 209, 623, 624, 625, 626, 627, 628] (by decide +kernel) (by decide +kernel)) (goodIn_sub (fun _ h => List.mem_append_right _ h) (by decide +kernel))
set_option maxRecDepth 20000 in
theorem gL_law_L_lock : GoodIn wsL_law (va_wsS RL 103 yL_lock wsL_lock) := goodIn_app (goodIn_of _ (by decide +kernel)) ggL_law_L_lock
set_option maxRecDepth 20000 in
theorem ggL_law_X2_lock : GoodIn wsL_law wsX2_lock := goodIn_r _ [213, 73, 35, 150, 151, 152, 5, 153, 214, 215, 216, 217, 80, 81, 82, 83, 84, 85, 86, 87, 88, 36, 218, 219, 220, 221, 629, 630, 631, 632, 633, 634, 635, 636, 637, 638, 639] (by decide +kernel) (by decide +kernel)
set_option maxRecDepth 20000 in
theorem gL_law_X2_lock : GoodIn wsL_law (wsV RL 106 RX2 yX2_lock wsX2_lock) := goodIn_app (goodIn_of _ (by decide +kernel)) ggL_law_X2_lock
set_option maxRecDepth 20000 in
theorem ggL_law_L_open : GoodIn wsL_law wsL_open := goodIn_ca (goodIn_r _ [224, 119, 225, 226, 227, 2, 228, 124, 125, 132, 133, 134, 135, 14, 61, 62, 63, 64, 16, 15, 65, 66, 67, 68, 229, 230, 231, 232, 233, 234, 235, 236, 136, 137, 138, 139, 140, 141, 142, 237, 238, 239, 240, 241, 242, 243, 244, 245, 246, 247, 248, 249, 250, 251, 252, 253, 254, 255, 256, 257, 258, 259, 260, 623, 624, 625, 626, 627, 628] (by decide +kernel) (by decide +kernel)) (goodIn_sub (fun _ h => List.mem_append_right _ h) (by decide +kernel))
set_option maxRecDepth 20000 in
theorem gL_law_L_open : GoodIn wsL_law (va_wsS RL 107 yL_open wsL_open) := goodIn_app (goodIn_of _ (by decide +kernel)) ggL_law_L_open
set_option maxRecDepth 20000 in
theorem ggL_law_X2_open : GoodIn wsL_law wsX2_open := goodIn_r _ [264, 73, 35, 80, 81, 82, 5, 83, 84, 85, 86, 87, 88, 36, 265, 266, 267, 268, 269, 214, 215, 216, 217, 270, 271, 272, 273, 150, 151, 152, 153, 274, 275, 276, 277, 278, 279, 280, 281, 282, 283, 284, 285, 286, 287, 288, 289, 629, 630, 631, 632, 633, 634, 635, 636, 637, 638, 639] (by decide +kernel) (by decide +kernel)
set_option maxRecDepth 20000 in
theorem gL_law_X2_open : GoodIn wsL_law (wsV RL 109 RX2 yX2_open wsX2_open) := goodIn_app (goodIn_of _ (by decide +kernel)) ggL_law_X2_open
set_option maxRecDepth 20000 in
theorem ggL_law_L_drill : GoodIn wsL_law wsL_drill := goodIn_ca (goodIn_r _ [292, 119, 293, 294, 295, 2, 296, 124, 125, 14, 132, 133, 134, 135, 61, 62, 63, 64, 16, 15, 65, 66, 67, 68, 140, 141, 142, 257, 258, 259, 260, 623, 624, 625, 626, 627, 628] (by decide +kernel) (by decide +kernel)) (goodIn_sub (fun _ h => List.mem_append_right _ h) (by decide +kernel))
set_option maxRecDepth 20000 in
theorem gL_law_L_drill : GoodIn wsL_law (va_wsS RL 110 yL_drill wsL_drill) := goodIn_app (goodIn_of _ (by decide +kernel)) ggL_law_L_drill
set_option maxRecDepth 20000 in
theorem ggL_law_X2_drill : GoodIn wsL_law wsX2_drill := goodIn_r _ [300, 73, 35, 80, 81, 82, 5, 83, 84, 85, 86, 87, 88, 36, 286, 287, 288, 289, 629, 630, 631, 632, 633, 634, 635, 636, 637, 638, 639] (by decide +kernel) (by decide +kernel)
set_option maxRecDepth 20000 in
theorem gL_law_X2_drill : GoodIn wsL_law (wsV RL 112 RX2 yX2_drill wsX2_drill) := goodIn_app (goodIn_of _ (by decide +kernel)) ggL_law_X2_drill
set_option maxRecDepth 20000 in
theorem ggL_law_L_pass : GoodIn wsL_law wsL_pass := goodIn_ca (goodIn_ca (goodIn_r _ [303, 45, 119, 304, 305, 306, 2, 307, 52, 53, 124, 125, 14, 308, 61, 62, 63, 64, 16, 15, 65, 66, 67, 68, 309, 310, 311, 312, 132, 133, 134, 135, 313, 314, 315, 316, 136, 137, 138, 139, 140, 141, 142, 317, 318, 319, 320, 321, 322, 323, 623, 624, 625, 626, 627, 628] (by decide +kernel) (by decide +kernel)) (goodIn_sub (fun _ h => List.mem_append_left _ (List.mem_append_right _ h)) (by decide +kernel))) (goodIn_sub (fun _ h => List.mem_append_right _ h) (by decide +kernel))
set_option maxRecDepth 20000 in
theorem gL_law_L_pass : GoodIn wsL_law (va_wsS RL 113 yL_pass wsL_pass) := goodIn_app (goodIn_of _ (by decide +kernel)) ggL_law_L_pass
set_option maxRecDepth 20000 in
theorem ggL_law_X2_pass : GoodIn wsL_law wsX2_pass := goodIn_r _ [327, 73, 35, 328, 77, 78, 5, 79, 80, 81, 82, 83, 84, 85, 86, 87, 88, 36, 329, 330, 331, 332, 150, 151, 152, 153, 214, 215, 216, 217, 274, 275, 276, 277, 278, 279, 280, 281, 629, 630, 631, 632, 633, 634, 635, 636, 637, 638, 639] (by decide +kernel) (by decide +kernel)
set_option maxRecDepth 20000 in
theorem gL_law_X2_pass : GoodIn wsL_law (wsV RL 115 RX2 yX2_pass wsX2_pass) := goodIn_app (goodIn_of _ (by decide +kernel)) ggL_law_X2_pass
set_option maxRecDepth 20000 in
theorem ggL_law_L_append : GoodIn wsL_law wsL_append := goodIn_ca (goodIn_ca (goodIn_r _ [335, 45, 119, 336, 337, 338, 2, 339, 52, 53, 124, 125, 18, 17, 623, 624, 625, 626, 627, 628] (by decide +kernel) (by decide +kernel)) (goodIn_sub (fun _ h => List.mem_append_left _ (List.mem_append_right _ h)) (by decide +kernel))) (goodIn_sub (fun _ h => List.mem_append_right _ h) (by decide +kernel))
set_option maxRecDepth 20000 in
theorem gL_law_L_append : GoodIn wsL_law (va_wsS RL 116 yL_append wsL_append) := goodIn_app (goodIn_of _ (by decide +kernel)) ggL_law_L_append
set_option maxRecDepth 20000 in
theorem ggL_law_X2_append : GoodIn wsL_law wsX2_append := goodIn_r _ [343, 73, 344, 37, 77, 78, 5, 79, 80, 81, 82, 83, 629, 630, 631, 632, 633, 634, 635, 636, 637, 638, 639] (by decide +kernel) (by decide +kernel)
set_option maxRecDepth 20000 in
theorem gL_law_X2_append : GoodIn wsL_law (wsV RL 118 RX2 yX2_append wsX2_append) := goodIn_app (goodIn_of _ (by decide +kernel)) ggL_law_X2_append
set_option maxRecDepth 20000 in
theorem ggL_law_X1_clearBuffer : GoodIn wsL_law wsX1_clearBuffer := goodIn_r _ [348, 18, 623, 624, 625, 626, 627, 628] (by decide +kernel) (by decide +kernel)
set_option maxRecDepth 20000 in
theorem gL_law_X1_clearBuffer : GoodIn wsL_law (wsV RL 119 RX1 yX1_clearBuffer wsX1_clearBuffer) := goodIn_app (goodIn_of _ (by decide +kernel)) ggL_law_X1_clearBuffer
set_option maxRecDepth 20000 in
theorem ggL_law_X2_clearBuffer : GoodIn wsL_law wsX2_clearBuffer := goodIn_r _ [352, 73, 344, 629, 630, 631, 632, 633, 634, 635, 636, 637, 638, 639] (by decide +kernel) (by decide +kernel)
set_option maxRecDepth 20000 in
theorem gL_law_X2_clearBuffer : GoodIn wsL_law (wsV RL 122 RX2 yX2_clearBuffer wsX2_clearBuffer) := goodIn_app (goodIn_of _ (by decide +kernel)) ggL_law_X2_clearBuffer
set_option maxRecDepth 20000 in
theorem ggL_law_X1_firstError : GoodIn wsL_law wsX1_firstError := goodIn_r _ [356, 357, 358, 359, 2, 360, 22, 18, 17, 361, 362, 363, 21, 364, 30, 27, 28, 29, 365, 366, 367, 368, 369, 370, 371, 372, 373, 374, 375, 376, 377, 378, 379, 380, 381, 382, 383, 384, 385, 386, 387, 388, 623, 624, 625, 626, 627, 628, 640, 641, 642, 643] (by decide +kernel) (by decide +kernel)
set_option maxRecDepth 20000 in
theorem gL_law_X1_firstError : GoodIn wsL_law (wsV RL 123 RX1 yX1_firstError wsX1_firstError) := goodIn_app (goodIn_of _ (by decide +kernel)) ggL_law_X1_firstError
set_option maxRecDepth 20000 in
theorem ggL_law_X2_firstError : GoodIn wsL_law wsX2_firstError := goodIn_r _ [392, 73, 393, 394, 344, 395, 396, 397, 5, 398, 399, 400, 401, 402, 403, 404, 405, 406, 37, 77, 78, 79, 407, 408, 409, 410, 411, 412, 413, 414, 38, 39, 415, 416, 417, 418, 419, 629, 630, 631, 632, 633, 634, 635, 636, 637, 638, 639] (by decide +kernel) (by decide +kernel)
set_option maxRecDepth 20000 in
theorem gL_law_X2_firstError : GoodIn wsL_law (wsV RL 126 RX2 yX2_firstError wsX2_firstError) := goodIn_app (goodIn_of _ (by decide +kernel)) ggL_law_X2_firstError
set_option maxRecDepth 20000 in
theorem ggL_law_L_windAll : GoodIn wsL_law wsL_windAll := goodIn_ca (goodIn_ca (goodIn_r _ [422, 45, 119, 423, 424, 425, 2, 426, 52, 53, 124, 125, 18, 22, 14, 357, 358, 359, 360, 17, 361, 362, 363, 21, 364, 30, 27, 28, 29, 365, 366, 367, 368, 369, 370, 371, 372, 373, 374, 375, 376, 377, 378, 379, 380, 381, 382, 383, 384, 385, 386, 387, 388, 427, 428, 429, 430, 198, 199, 200, 201, 202, 203, 204, 205, 206, 207, 208, 209, 132, 133, 134, 135, 431, 432, 433, 434, 435, 436, 437, 438, 136, 137, 138, 139, 140, 141, 142, 439, 440, 441, 442, 129, 130, 131, 61, 62, 63, 64, 16, 15, 65, 66, 67, 68, 623, 624, 625, 626, 627, 628, 640, 641, 642, 643] (by decide +kernel) (by decide +kernel)) (goodIn_sub (fun _ h => List.mem_append_left _ (List.mem_append_right _ h)) (by decide +kernel))) (goodIn_sub (fun _ h => List.mem_append_right _ h) (by decide +kernel))
set_option maxRecDepth 20000 in
theorem gL_law_L_windAll : GoodIn wsL_law (va_wsS RL 127 yL_windAll wsL_windAll) := goodIn_app (goodIn_of _ (by decide +kernel)) ggL_law_L_windAll
set_option maxRecDepth 20000 in
theorem ggL_law_X2_windAll : GoodIn wsL_law wsX2_windAll := goodIn_r _ [446, 73, 344, 38, 35, 395, 396, 397, 5, 398, 394, 393, 399, 400, 401, 402, 403, 404, 405, 406, 37, 77, 78, 79, 407, 408, 409, 410, 411, 412, 413, 414, 39, 415, 416, 417, 418, 419, 80, 81, 82, 83, 447, 448, 449, 450, 150, 151, 152, 153, 218, 219, 220, 221, 451, 452, 453, 454, 84, 85, 86, 87, 88, 36, 629, 630, 631, 632, 633, 634, 635, 636, 637, 638, 639] (by decide +kernel) (by decide +kernel)
set_option maxRecDepth 20000 in
theorem gL_law_X2_windAll : GoodIn wsL_law (wsV RL 129 RX2 yX2_windAll wsX2_windAll) := goodIn_app (goodIn_of _ (by decide +kernel)) ggL_law_X2_windAll
set_option maxRecDepth 20000 in
theorem ggL_law_L_undo : GoodIn wsL_law wsL_undo := goodIn_ca (goodIn_r _ [457, 119, 458, 459, 460, 2, 461, 124, 125, 16, 15, 14, 65, 66, 67, 68, 623, 624, 625, 626, 627, 628] (by decide +kernel) (by decide +kernel)) (goodIn_sub (fun _ h => List.mem_append_right _ h) (by decide +kernel))
set_option maxRecDepth 20000 in
theorem gL_law_L_undo : GoodIn wsL_law (va_wsS RL 130 yL_undo wsL_undo) := goodIn_app (goodIn_of _ (by decide +kernel)) ggL_law_L_undo
set_option maxRecDepth 20000 in
theorem ggL_law_X2_undo : GoodIn wsL_law wsX2_undo := goodIn_r _ [465, 73, 88, 35, 36, 80, 81, 82, 5, 83, 629, 630, 631, 632, 633, 634, 635, 636, 637, 638, 639] (by decide +kernel) (by decide +kernel)
set_option maxRecDepth 20000 in
theorem gL_law_X2_undo : GoodIn wsL_law (wsV RL 132 RX2 yX2_undo wsX2_undo) := goodIn_app (goodIn_of _ (by decide +kernel)) ggL_law_X2_undo
set_option maxRecDepth 20000 in
theorem ggL_law_L_movement : GoodIn wsL_law wsL_movement := goodIn_ca (goodIn_ca (goodIn_r _ [468, 44, 45, 469, 470, 471, 2, 472, 50, 51, 52, 53, 126, 127, 128, 473, 474, 475, 476, 14, 140, 141, 142, 136, 137, 138, 139, 237, 238, 239, 240, 623, 624, 625, 626, 627, 628] (by decide +kernel) (by decide +kernel)) (goodIn_sub (fun _ h => List.mem_append_left _ (List.mem_append_left _ (List.mem_append_right _ h))) (by decide +kernel))) (goodIn_sub (fun _ h => List.mem_append_left _ (List.mem_append_right _ h)) (by decide +kernel))
set_option maxRecDepth 20000 in
theorem gL_law_L_movement : GoodIn wsL_law (va_wsS RL 133 yL_movement wsL_movement) := goodIn_app (goodIn_of _ (by decide +kernel)) ggL_law_L_movement
set_option maxRecDepth 20000 in
theorem ggL_law_X2_movement : GoodIn wsL_law wsX2_movement := goodIn_r _ [480, 73, 147, 148, 5, 149, 77, 78, 79, 80, 81, 82, 83, 481, 482, 483, 484, 35, 278, 279, 280, 281, 214, 215, 216, 217, 270, 271, 272, 273, 150, 151, 152, 153, 274, 275, 276, 277, 629, 630, 631, 632, 633, 634, 635, 636, 637, 638, 639] (by decide +kernel) (by decide +kernel)
set_option maxRecDepth 20000 in
theorem gL_law_X2_movement : GoodIn wsL_law (wsV RL 135 RX2 yX2_movement wsX2_movement) := goodIn_app (goodIn_of _ (by decide +kernel)) ggL_law_X2_movement
set_option maxRecDepth 20000 in
theorem ggL_law_L_day : GoodIn wsL_law wsL_day := goodIn_ca (goodIn_r _ [487, 44, 488, 489, 490, 2, 491, 50, 51, 14, 54, 55, 56, 623, 624, 625, 626, 627, 628] (by decide +kernel) (by decide +kernel)) (goodIn_sub (fun _ h => List.mem_append_left _ (List.mem_append_left _ (List.mem_append_right _ h))) (by decide +kernel))
set_option maxRecDepth 20000 in
theorem gL_law_L_day : GoodIn wsL_law (va_wsS RL 136 yL_day wsL_day) := goodIn_app (goodIn_of _ (by decide +kernel)) ggL_law_L_day
set_option maxRecDepth 20000 in
theorem ggL_law_X2_day : GoodIn wsL_law wsX2_day := goodIn_r _ [495, 73, 35, 74, 75, 5, 76, 77, 78, 79, 80, 81, 82, 83, 629, 630, 631, 632, 633, 634, 635, 636, 637, 638, 639] (by decide +kernel) (by decide +kernel)
set_option maxRecDepth 20000 in
theorem gL_law_X2_day : GoodIn wsL_law (wsV RL 138 RX2 yX2_day wsX2_day) := goodIn_app (goodIn_of _ (by decide +kernel)) ggL_law_X2_day
set_option maxRecDepth 20000 in
theorem ggL_law_L_count : GoodIn wsL_law wsL_count := goodIn_ca (goodIn_r _ [498, 45, 499, 500, 501, 2, 502, 52, 53, 503, 504, 505, 506, 14, 16, 202, 203, 204, 205, 206, 207, 208, 209, 198, 199, 200, 201, 241, 242, 243, 244, 233, 234, 235, 236, 623, 624, 625, 626, 627, 628] (by decide +kernel) (by decide +kernel)) (goodIn_sub (fun _ h => List.mem_append_left _ (List.mem_append_right _ h)) (by decide +kernel))
set_option maxRecDepth 20000 in
theorem gL_law_L_count : GoodIn wsL_law (va_wsS RL 139 yL_count wsL_count) := goodIn_app (goodIn_of _ (by decide +kernel)) ggL_law_L_count
set_option maxRecDepth 20000 in
theorem ggL_law_X2_count : GoodIn wsL_law wsX2_count := goodIn_r _ [510, 73, 77, 78, 5, 79, 511, 512, 513, 514, 35, 88, 218, 219, 220, 221, 282, 283, 284, 285, 80, 81, 82, 83, 629, 630, 631, 632, 633, 634, 635, 636, 637, 638, 639] (by decide +kernel) (by decide +kernel)
set_option maxRecDepth 20000 in
theorem gL_law_X2_count : GoodIn wsL_law (wsV RL 141 RX2 yX2_count wsX2_count) := goodIn_app (goodIn_of _ (by decide +kernel)) ggL_law_X2_count
set_option maxRecDepth 20000 in
theorem ggL_law_L_setting : GoodIn wsL_law wsL_setting := goodIn_ca (goodIn_r _ [517, 44, 518, 519, 520, 2, 521, 50, 51, 14, 106, 107, 108, 623, 624, 625, 626, 627, 628] (by decide +kernel) (by decide +kernel)) (goodIn_sub (fun _ h => List.mem_append_left _ (List.mem_append_left _ (List.mem_append_right _ h))) (by decide +kernel))
set_option maxRecDepth 20000 in
theorem gL_law_L_setting : GoodIn wsL_law (va_wsS RL 142 yL_setting wsL_setting) := goodIn_app (goodIn_of _ (by decide +kernel)) ggL_law_L_setting
set_option maxRecDepth 20000 in
theorem ggL_law_X2_setting : GoodIn wsL_law wsX2_setting := goodIn_r _ [525, 73, 35, 77, 78, 5, 79, 80, 81, 82, 83, 629, 630, 631, 632, 633, 634, 635, 636, 637, 638, 639] (by decide +kernel) (by decide +kernel)
set_option maxRecDepth 20000 in
theorem gL_law_X2_setting : GoodIn wsL_law (wsV RL 144 RX2 yX2_setting wsX2_setting) := goodIn_app (goodIn_of _ (by decide +kernel)) ggL_law_X2_setting
set_option maxRecDepth 20000 in
theorem ggL_law_X1_opensIn : GoodIn wsL_law wsX1_opensIn := goodIn_r _ [529, 229, 230, 231, 2, 232, 233, 234, 235, 236, 132, 133, 134, 135, 14, 136, 137, 138, 139, 140, 141, 142, 237, 238, 239, 240, 241, 242, 243, 244, 623, 624, 625, 626, 627, 628] (by decide +kernel) (by decide +kernel)
set_option maxRecDepth 20000 in
theorem gL_law_X1_opensIn : GoodIn wsL_law (wsV RL 145 RX1 yX1_opensIn wsX1_opensIn) := goodIn_app (goodIn_of _ (by decide +kernel)) ggL_law_X1_opensIn
set_option maxRecDepth 20000 in
theorem ggL_law_X2_opensIn : GoodIn wsL_law wsX2_opensIn := goodIn_r _ [533, 73, 265, 266, 267, 5, 268, 269, 35, 214, 215, 216, 217, 270, 271, 272, 273, 150, 151, 152, 153, 274, 275, 276, 277, 278, 279, 280, 281, 282, 283, 284, 285, 629, 630, 631, 632, 633, 634, 635, 636, 637, 638, 639] (by decide +kernel) (by decide +kernel)
set_option maxRecDepth 20000 in
theorem gL_law_X2_opensIn : GoodIn wsL_law (wsV RL 148 RX2 yX2_opensIn wsX2_opensIn) := goodIn_app (goodIn_of _ (by decide +kernel)) ggL_law_X2_opensIn
set_option maxRecDepth 20000 in
theorem ggL_law_X1_lateness : GoodIn wsL_law wsX1_lateness := goodIn_r _ [537, 233, 234, 235, 236, 132, 133, 134, 2, 135, 14, 229, 230, 231, 232, 136, 137, 138, 139, 140, 141, 142, 237, 238, 239, 240, 241, 242, 243, 244, 249, 250, 251, 252, 623, 624, 625, 626, 627, 628] (by decide +kernel) (by decide +kernel)
set_option maxRecDepth 20000 in
theorem gL_law_X1_lateness : GoodIn wsL_law (wsV RL 149 RX1 yX1_lateness wsX1_lateness) := goodIn_app (goodIn_of _ (by decide +kernel)) ggL_law_X1_lateness
set_option maxRecDepth 20000 in
theorem ggL_law_X2_lateness : GoodIn wsL_law wsX2_lateness := goodIn_r _ [541, 73, 542, 543, 544, 5, 545, 35, 265, 266, 267, 268, 269, 214, 215, 216, 217, 270, 271, 272, 273, 150, 151, 152, 153, 274, 275, 276, 277, 278, 279, 280, 281, 282, 283, 284, 285, 629, 630, 631, 632, 633, 634, 635, 636, 637, 638, 639] (by decide +kernel) (by decide +kernel)
set_option maxRecDepth 20000 in
theorem gL_law_X2_lateness : GoodIn wsL_law (wsV RL 152 RX2 yX2_lateness wsX2_lateness) := goodIn_app (goodIn_of _ (by decide +kernel)) ggL_law_X2_lateness
set_option maxRecDepth 20000 in
theorem ggL_law_X1_keyMovement : GoodIn wsL_law wsX1_keyMovement := goodIn_r _ [549, 229, 230, 231, 2, 232, 233, 234, 235, 236, 132, 133, 134, 135, 14, 136, 137, 138, 139, 140, 141, 142, 237, 238, 239, 240, 241, 242, 243, 244, 623, 624, 625, 626, 627, 628] (by decide +kernel) (by decide +kernel)
set_option maxRecDepth 20000 in
theorem gL_law_X1_keyMovement : GoodIn wsL_law (wsV RL 153 RX1 yX1_keyMovement wsX1_keyMovement) := goodIn_app (goodIn_of _ (by decide +kernel)) ggL_law_X1_keyMovement
set_option maxRecDepth 20000 in
theorem ggL_law_X2_keyMovement : GoodIn wsL_law wsX2_keyMovement := goodIn_r _ [553, 73, 554, 555, 556, 5, 557, 35, 150, 151, 152, 153, 265, 266, 267, 268, 269, 214, 215, 216, 217, 270, 271, 272, 273, 274, 275, 276, 277, 278, 279, 280, 281, 282, 283, 284, 285, 629, 630, 631, 632, 633, 634, 635, 636, 637, 638, 639] (by decide +kernel) (by decide +kernel)
set_option maxRecDepth 20000 in
theorem gL_law_X2_keyMovement : GoodIn wsL_law (wsV RL 156 RX2 yX2_keyMovement wsX2_keyMovement) := goodIn_app (goodIn_of _ (by decide +kernel)) ggL_law_X2_keyMovement
set_option maxRecDepth 20000 in
theorem ggL_law_L_rightWinding : GoodIn wsL_law wsL_rightWinding := goodIn_ca (goodIn_r _ [560, 44, 561, 562, 563, 2, 564, 50, 51, 126, 127, 128, 565, 566, 567, 568, 14, 198, 199, 200, 201, 202, 203, 204, 205, 206, 207, 208, 209, 140, 141, 142, 136, 137, 138, 139, 317, 318, 319, 129, 130, 131, 623, 624, 625, 626, 627, 628] (by decide +kernel) (by decide +kernel)) (goodIn_sub (fun _ h => List.mem_append_left _ (List.mem_append_left _ (List.mem_append_right _ h))) (by decide +kernel))
set_option maxRecDepth 20000 in
theorem gL_law_L_rightWinding : GoodIn wsL_law (va_wsS RL 157 yL_rightWinding wsL_rightWinding) := goodIn_app (goodIn_of _ (by decide +kernel)) ggL_law_L_rightWinding
set_option maxRecDepth 20000 in
theorem ggL_law_X2_rightWinding : GoodIn wsL_law wsX2_rightWinding := goodIn_r _ [572, 73, 147, 148, 5, 149, 77, 78, 79, 573, 574, 575, 576, 218, 219, 220, 221, 35, 270, 271, 272, 273, 150, 151, 152, 153, 274, 275, 276, 277, 278, 279, 280, 281, 80, 81, 82, 83, 629, 630, 631, 632, 633, 634, 635, 636, 637, 638, 639] (by decide +kernel) (by decide +kernel)
set_option maxRecDepth 20000 in
theorem gL_law_X2_rightWinding : GoodIn wsL_law (wsV RL 159 RX2 yX2_rightWinding wsX2_rightWinding) := goodIn_app (goodIn_of _ (by decide +kernel)) ggL_law_X2_rightWinding
set_option maxRecDepth 20000 in
theorem ggL_law_X1_punctuality : GoodIn wsL_law wsX1_punctuality := goodIn_r _ [580, 14, 623, 624, 625, 626, 627, 628] (by decide +kernel) (by decide +kernel)
set_option maxRecDepth 20000 in
theorem gL_law_X1_punctuality : GoodIn wsL_law (wsV RL 160 RX1 yX1_punctuality wsX1_punctuality) := goodIn_app (goodIn_of _ (by decide +kernel)) ggL_law_X1_punctuality
set_option maxRecDepth 20000 in
theorem ggL_law_X2_punctuality : GoodIn wsL_law wsX2_punctuality := goodIn_r _ [584, 73, 585, 586, 587, 5, 588, 35, 629, 630, 631, 632, 633, 634, 635, 636, 637, 638, 639] (by decide +kernel) (by decide +kernel)
set_option maxRecDepth 20000 in
theorem gL_law_X2_punctuality : GoodIn wsL_law (wsV RL 164 RX2 yX2_punctuality wsX2_punctuality) := goodIn_app (goodIn_of _ (by decide +kernel)) ggL_law_X2_punctuality
set_option maxRecDepth 20000 in
theorem ggL_law_X1_digest : GoodIn wsL_law wsX1_digest := goodIn_r _ [592, 593, 594, 14, 18, 17, 503, 504, 505, 2, 506, 16, 202, 203, 204, 205, 206, 207, 208, 209, 198, 199, 200, 201, 241, 242, 243, 244, 233, 234, 235, 236, 473, 474, 475, 476, 140, 141, 142, 136, 137, 138, 139, 237, 238, 239, 240, 565, 566, 567, 568, 317, 318, 319, 129, 130, 131, 595, 527, 528, 529, 229, 230, 231, 232, 132, 133, 134, 135, 596, 535, 536, 537, 249, 250, 251, 252, 597, 547, 548, 549, 598, 578, 579, 580, 599, 600, 601, 602, 603, 604, 623, 624, 625, 626, 627, 628] (by decide +kernel) (by decide +kernel)
set_option maxRecDepth 20000 in
theorem gL_law_X1_digest : GoodIn wsL_law (wsV RL 165 RX1 yX1_digest wsX1_digest) := goodIn_app (goodIn_of _ (by decide +kernel)) ggL_law_X1_digest
set_option maxRecDepth 20000 in
theorem ggL_law_X2_digest : GoodIn wsL_law wsX2_digest := goodIn_r _ [608, 73, 609, 610, 35, 344, 37, 511, 512, 513, 5, 514, 88, 218, 219, 220, 221, 282, 283, 284, 285, 481, 482, 483, 484, 278, 279, 280, 281, 214, 215, 216, 217, 270, 271, 272, 273, 150, 151, 152, 153, 274, 275, 276, 277, 573, 574, 575, 576, 265, 266, 267, 268, 269, 542, 543, 544, 545, 554, 555, 556, 557, 585, 586, 587, 588, 611, 612, 613, 614, 615, 616, 617, 618, 619, 620, 621, 622, 629, 630, 631, 632, 633, 634, 635, 636, 637, 638, 639] (by decide +kernel) (by decide +kernel)
set_option maxRecDepth 20000 in
theorem gL_law_X2_digest : GoodIn wsL_law (wsV RL 169 RX2 yX2_digest wsX2_digest) := goodIn_app (goodIn_of _ (by decide +kernel)) ggL_law_X2_digest
theorem dL_law_0 : decode cL_law 0 = .ok (.new 8, 3) := by decide +kernel
theorem dL_law_3 : decode cL_law 3 = .ok (.dup, 1) := by decide +kernel
theorem dL_law_4 : decode cL_law 4 = .ok (.invokespecial 73, 3) := by decide +kernel
theorem dL_law_7 : decode cL_law 7 = .ok (.astore_n 1, 1) := by decide +kernel
theorem dL_law_8 : decode cL_law 8 = .ok (.new 74, 3) := by decide +kernel
theorem dL_law_11 : decode cL_law 11 = .ok (.dup, 1) := by decide +kernel
theorem dL_law_12 : decode cL_law 12 = .ok (.invokespecial 76, 3) := by decide +kernel
theorem dL_law_15 : decode cL_law 15 = .ok (.astore_n 2, 1) := by decide +kernel
theorem dL_law_16 : decode cL_law 16 = .ok (.iconst 1, 1) := by decide +kernel
theorem dL_law_17 : decode cL_law 17 = .ok (.newarray .long, 2) := by decide +kernel
theorem dL_law_19 : decode cL_law 19 = .ok (.astore_n 3, 1) := by decide +kernel
theorem dL_law_20 : decode cL_law 20 = .ok (.iconst 0, 1) := by decide +kernel
theorem dL_law_21 : decode cL_law 21 = .ok (.istore 4, 2) := by decide +kernel
theorem dL_law_23 : decode cL_law 23 = .ok (.iload 4, 2) := by decide +kernel
theorem dL_law_25 : decode cL_law 25 = .ok (.aload_n 0, 1) := by decide +kernel
theorem dL_law_26 : decode cL_law 26 = .ok (.arraylength, 1) := by decide +kernel
theorem dL_law_27 : decode cL_law 27 = .ok (.iconst 3, 1) := by decide +kernel
theorem dL_law_28 : decode cL_law 28 = .ok (.isub, 1) := by decide +kernel
theorem dL_law_29 : decode cL_law 29 = .ok (.if_icmp .gt 1285, 3) := by decide +kernel
theorem dL_law_32 : decode cL_law 32 = .ok (.aload_n 0, 1) := by decide +kernel
theorem dL_law_33 : decode cL_law 33 = .ok (.iload 4, 2) := by decide +kernel
theorem dL_law_35 : decode cL_law 35 = .ok (.iaload, 1) := by decide +kernel
theorem dL_law_36 : decode cL_law 36 = .ok (.bipush 31, 2) := by decide +kernel
theorem dL_law_38 : decode cL_law 38 = .ok (.iand, 1) := by decide +kernel
theorem dL_law_39 : decode cL_law 39 = .ok (.tableswitch 1269 0 24 #[113, 181, 249, 317, 401, 469, 525, 569, 613, 657, 713, 769, 782, 795, 839, 883, 951, 1007, 1063, 1119, 1132, 1145, 1158, 1214, 1255], 113) := by decide +kernel
theorem dL_law_152 : decode cL_law 152 = .ok (.aload_n 1, 1) := by decide +kernel
theorem dL_law_153 : decode cL_law 153 = .ok (.aload_n 0, 1) := by decide +kernel
theorem dL_law_154 : decode cL_law 154 = .ok (.iload 4, 2) := by decide +kernel
theorem dL_law_156 : decode cL_law 156 = .ok (.iconst 1, 1) := by decide +kernel
theorem dL_law_157 : decode cL_law 157 = .ok (.iadd, 1) := by decide +kernel
theorem dL_law_158 : decode cL_law 158 = .ok (.iaload, 1) := by decide +kernel
theorem dL_law_159 : decode cL_law 159 = .ok (.aload_n 0, 1) := by decide +kernel
theorem dL_law_160 : decode cL_law 160 = .ok (.iload 4, 2) := by decide +kernel
theorem dL_law_162 : decode cL_law 162 = .ok (.iconst 2, 1) := by decide +kernel
theorem dL_law_163 : decode cL_law 163 = .ok (.iadd, 1) := by decide +kernel
theorem dL_law_164 : decode cL_law 164 = .ok (.iaload, 1) := by decide +kernel
theorem dL_law_165 : decode cL_law 165 = .ok (.aload_n 3, 1) := by decide +kernel
theorem dL_law_166 : decode cL_law 166 = .ok (.invokestatic 77, 3) := by decide +kernel
theorem dL_law_169 : decode cL_law 169 = .ok (.istore 5, 2) := by decide +kernel
theorem dL_law_171 : decode cL_law 171 = .ok (.aload_n 2, 1) := by decide +kernel
theorem dL_law_172 : decode cL_law 172 = .ok (.aload_n 0, 1) := by decide +kernel
theorem dL_law_173 : decode cL_law 173 = .ok (.iload 4, 2) := by decide +kernel
theorem dL_law_175 : decode cL_law 175 = .ok (.iconst 1, 1) := by decide +kernel
theorem dL_law_176 : decode cL_law 176 = .ok (.iadd, 1) := by decide +kernel
theorem dL_law_177 : decode cL_law 177 = .ok (.iaload, 1) := by decide +kernel
theorem dL_law_178 : decode cL_law 178 = .ok (.aload_n 0, 1) := by decide +kernel
theorem dL_law_179 : decode cL_law 179 = .ok (.iload 4, 2) := by decide +kernel
theorem dL_law_181 : decode cL_law 181 = .ok (.iconst 2, 1) := by decide +kernel
theorem dL_law_182 : decode cL_law 182 = .ok (.iadd, 1) := by decide +kernel
theorem dL_law_183 : decode cL_law 183 = .ok (.iaload, 1) := by decide +kernel
theorem dL_law_184 : decode cL_law 184 = .ok (.invokevirtual 82, 3) := by decide +kernel
theorem dL_law_187 : decode cL_law 187 = .ok (.istore 6, 2) := by decide +kernel
theorem dL_law_189 : decode cL_law 189 = .ok (.aload_n 2, 1) := by decide +kernel
theorem dL_law_190 : decode cL_law 190 = .ok (.invokevirtual 83, 3) := by decide +kernel
theorem dL_law_193 : decode cL_law 193 = .ok (.iload 5, 2) := by decide +kernel
theorem dL_law_195 : decode cL_law 195 = .ok (.if_icmp .eq 5, 3) := by decide +kernel
theorem dL_law_198 : decode cL_law 198 = .ok (.iconst 0, 1) := by decide +kernel
theorem dL_law_199 : decode cL_law 199 = .ok (.ireturn, 1) := by decide +kernel
theorem dL_law_200 : decode cL_law 200 = .ok (.iload 5, 2) := by decide +kernel
theorem dL_law_202 : decode cL_law 202 = .ok (.ifCond .ne 15, 3) := by decide +kernel
theorem dL_law_205 : decode cL_law 205 = .ok (.aload_n 3, 1) := by decide +kernel
theorem dL_law_206 : decode cL_law 206 = .ok (.iconst 0, 1) := by decide +kernel
theorem dL_law_207 : decode cL_law 207 = .ok (.laload, 1) := by decide +kernel
theorem dL_law_208 : decode cL_law 208 = .ok (.iload 6, 2) := by decide +kernel
theorem dL_law_210 : decode cL_law 210 = .ok (.i2l, 1) := by decide +kernel
theorem dL_law_211 : decode cL_law 211 = .ok (.lcmp, 1) := by decide +kernel
theorem dL_law_212 : decode cL_law 212 = .ok (.ifCond .eq 5, 3) := by decide +kernel
theorem dL_law_215 : decode cL_law 215 = .ok (.iconst 0, 1) := by decide +kernel
theorem dL_law_216 : decode cL_law 216 = .ok (.ireturn, 1) := by decide +kernel
theorem dL_law_217 : decode cL_law 217 = .ok (.goto 1091, 3) := by decide +kernel
theorem dL_law_220 : decode cL_law 220 = .ok (.aload_n 1, 1) := by decide +kernel
theorem dL_law_221 : decode cL_law 221 = .ok (.aload_n 0, 1) := by decide +kernel
theorem dL_law_222 : decode cL_law 222 = .ok (.iload 4, 2) := by decide +kernel
theorem dL_law_224 : decode cL_law 224 = .ok (.iconst 1, 1) := by decide +kernel
theorem dL_law_225 : decode cL_law 225 = .ok (.iadd, 1) := by decide +kernel
theorem dL_law_226 : decode cL_law 226 = .ok (.iaload, 1) := by decide +kernel
theorem dL_law_227 : decode cL_law 227 = .ok (.aload_n 0, 1) := by decide +kernel
theorem dL_law_228 : decode cL_law 228 = .ok (.iload 4, 2) := by decide +kernel
theorem dL_law_230 : decode cL_law 230 = .ok (.iconst 2, 1) := by decide +kernel
theorem dL_law_231 : decode cL_law 231 = .ok (.iadd, 1) := by decide +kernel
theorem dL_law_232 : decode cL_law 232 = .ok (.iaload, 1) := by decide +kernel
theorem dL_law_233 : decode cL_law 233 = .ok (.aload_n 3, 1) := by decide +kernel
theorem dL_law_234 : decode cL_law 234 = .ok (.invokestatic 86, 3) := by decide +kernel
theorem dL_law_237 : decode cL_law 237 = .ok (.istore 5, 2) := by decide +kernel
theorem dL_law_239 : decode cL_law 239 = .ok (.aload_n 2, 1) := by decide +kernel
theorem dL_law_240 : decode cL_law 240 = .ok (.aload_n 0, 1) := by decide +kernel
theorem dL_law_241 : decode cL_law 241 = .ok (.iload 4, 2) := by decide +kernel
theorem dL_law_243 : decode cL_law 243 = .ok (.iconst 1, 1) := by decide +kernel
theorem dL_law_244 : decode cL_law 244 = .ok (.iadd, 1) := by decide +kernel
theorem dL_law_245 : decode cL_law 245 = .ok (.iaload, 1) := by decide +kernel
theorem dL_law_246 : decode cL_law 246 = .ok (.aload_n 0, 1) := by decide +kernel
theorem dL_law_247 : decode cL_law 247 = .ok (.iload 4, 2) := by decide +kernel
theorem dL_law_249 : decode cL_law 249 = .ok (.iconst 2, 1) := by decide +kernel
theorem dL_law_250 : decode cL_law 250 = .ok (.iadd, 1) := by decide +kernel
theorem dL_law_251 : decode cL_law 251 = .ok (.iaload, 1) := by decide +kernel
theorem dL_law_252 : decode cL_law 252 = .ok (.invokevirtual 88, 3) := by decide +kernel
theorem dL_law_255 : decode cL_law 255 = .ok (.istore 6, 2) := by decide +kernel
theorem dL_law_257 : decode cL_law 257 = .ok (.aload_n 2, 1) := by decide +kernel
theorem dL_law_258 : decode cL_law 258 = .ok (.invokevirtual 83, 3) := by decide +kernel
theorem dL_law_261 : decode cL_law 261 = .ok (.iload 5, 2) := by decide +kernel
theorem dL_law_263 : decode cL_law 263 = .ok (.if_icmp .eq 5, 3) := by decide +kernel
theorem dL_law_266 : decode cL_law 266 = .ok (.iconst 0, 1) := by decide +kernel
theorem dL_law_267 : decode cL_law 267 = .ok (.ireturn, 1) := by decide +kernel
theorem dL_law_268 : decode cL_law 268 = .ok (.iload 5, 2) := by decide +kernel
theorem dL_law_270 : decode cL_law 270 = .ok (.ifCond .ne 15, 3) := by decide +kernel
theorem dL_law_273 : decode cL_law 273 = .ok (.aload_n 3, 1) := by decide +kernel
theorem dL_law_274 : decode cL_law 274 = .ok (.iconst 0, 1) := by decide +kernel
theorem dL_law_275 : decode cL_law 275 = .ok (.laload, 1) := by decide +kernel
theorem dL_law_276 : decode cL_law 276 = .ok (.iload 6, 2) := by decide +kernel
theorem dL_law_278 : decode cL_law 278 = .ok (.i2l, 1) := by decide +kernel
theorem dL_law_279 : decode cL_law 279 = .ok (.lcmp, 1) := by decide +kernel
theorem dL_law_280 : decode cL_law 280 = .ok (.ifCond .eq 5, 3) := by decide +kernel
theorem dL_law_283 : decode cL_law 283 = .ok (.iconst 0, 1) := by decide +kernel
theorem dL_law_284 : decode cL_law 284 = .ok (.ireturn, 1) := by decide +kernel
theorem dL_law_285 : decode cL_law 285 = .ok (.goto 1023, 3) := by decide +kernel
theorem dL_law_288 : decode cL_law 288 = .ok (.aload_n 1, 1) := by decide +kernel
theorem dL_law_289 : decode cL_law 289 = .ok (.aload_n 0, 1) := by decide +kernel
theorem dL_law_290 : decode cL_law 290 = .ok (.iload 4, 2) := by decide +kernel
theorem dL_law_292 : decode cL_law 292 = .ok (.iconst 1, 1) := by decide +kernel
theorem dL_law_293 : decode cL_law 293 = .ok (.iadd, 1) := by decide +kernel
theorem dL_law_294 : decode cL_law 294 = .ok (.iaload, 1) := by decide +kernel
theorem dL_law_295 : decode cL_law 295 = .ok (.aload_n 0, 1) := by decide +kernel
theorem dL_law_296 : decode cL_law 296 = .ok (.iload 4, 2) := by decide +kernel
theorem dL_law_298 : decode cL_law 298 = .ok (.iconst 2, 1) := by decide +kernel
theorem dL_law_299 : decode cL_law 299 = .ok (.iadd, 1) := by decide +kernel
theorem dL_law_300 : decode cL_law 300 = .ok (.iaload, 1) := by decide +kernel
theorem dL_law_301 : decode cL_law 301 = .ok (.aload_n 3, 1) := by decide +kernel
theorem dL_law_302 : decode cL_law 302 = .ok (.invokestatic 89, 3) := by decide +kernel
theorem dL_law_305 : decode cL_law 305 = .ok (.istore 5, 2) := by decide +kernel
theorem dL_law_307 : decode cL_law 307 = .ok (.aload_n 2, 1) := by decide +kernel
theorem dL_law_308 : decode cL_law 308 = .ok (.aload_n 0, 1) := by decide +kernel
theorem dL_law_309 : decode cL_law 309 = .ok (.iload 4, 2) := by decide +kernel
theorem dL_law_311 : decode cL_law 311 = .ok (.iconst 1, 1) := by decide +kernel
theorem dL_law_312 : decode cL_law 312 = .ok (.iadd, 1) := by decide +kernel
theorem dL_law_313 : decode cL_law 313 = .ok (.iaload, 1) := by decide +kernel
theorem dL_law_314 : decode cL_law 314 = .ok (.aload_n 0, 1) := by decide +kernel
theorem dL_law_315 : decode cL_law 315 = .ok (.iload 4, 2) := by decide +kernel
theorem dL_law_317 : decode cL_law 317 = .ok (.iconst 2, 1) := by decide +kernel
theorem dL_law_318 : decode cL_law 318 = .ok (.iadd, 1) := by decide +kernel
theorem dL_law_319 : decode cL_law 319 = .ok (.iaload, 1) := by decide +kernel
theorem dL_law_320 : decode cL_law 320 = .ok (.invokevirtual 91, 3) := by decide +kernel
theorem dL_law_323 : decode cL_law 323 = .ok (.istore 6, 2) := by decide +kernel
theorem dL_law_325 : decode cL_law 325 = .ok (.aload_n 2, 1) := by decide +kernel
theorem dL_law_326 : decode cL_law 326 = .ok (.invokevirtual 83, 3) := by decide +kernel
theorem dL_law_329 : decode cL_law 329 = .ok (.iload 5, 2) := by decide +kernel
theorem dL_law_331 : decode cL_law 331 = .ok (.if_icmp .eq 5, 3) := by decide +kernel
theorem dL_law_334 : decode cL_law 334 = .ok (.iconst 0, 1) := by decide +kernel
theorem dL_law_335 : decode cL_law 335 = .ok (.ireturn, 1) := by decide +kernel
theorem dL_law_336 : decode cL_law 336 = .ok (.iload 5, 2) := by decide +kernel
theorem dL_law_338 : decode cL_law 338 = .ok (.ifCond .ne 15, 3) := by decide +kernel
theorem dL_law_341 : decode cL_law 341 = .ok (.aload_n 3, 1) := by decide +kernel
theorem dL_law_342 : decode cL_law 342 = .ok (.iconst 0, 1) := by decide +kernel
theorem dL_law_343 : decode cL_law 343 = .ok (.laload, 1) := by decide +kernel
theorem dL_law_344 : decode cL_law 344 = .ok (.iload 6, 2) := by decide +kernel
theorem dL_law_346 : decode cL_law 346 = .ok (.i2l, 1) := by decide +kernel
theorem dL_law_347 : decode cL_law 347 = .ok (.lcmp, 1) := by decide +kernel
theorem dL_law_348 : decode cL_law 348 = .ok (.ifCond .eq 5, 3) := by decide +kernel
theorem dL_law_351 : decode cL_law 351 = .ok (.iconst 0, 1) := by decide +kernel
theorem dL_law_352 : decode cL_law 352 = .ok (.ireturn, 1) := by decide +kernel
theorem dL_law_353 : decode cL_law 353 = .ok (.goto 955, 3) := by decide +kernel
theorem dL_law_356 : decode cL_law 356 = .ok (.aload_n 1, 1) := by decide +kernel
theorem dL_law_357 : decode cL_law 357 = .ok (.aload_n 0, 1) := by decide +kernel
theorem dL_law_358 : decode cL_law 358 = .ok (.iload 4, 2) := by decide +kernel
theorem dL_law_360 : decode cL_law 360 = .ok (.iconst 1, 1) := by decide +kernel
theorem dL_law_361 : decode cL_law 361 = .ok (.iadd, 1) := by decide +kernel
theorem dL_law_362 : decode cL_law 362 = .ok (.iaload, 1) := by decide +kernel
theorem dL_law_363 : decode cL_law 363 = .ok (.aload_n 0, 1) := by decide +kernel
theorem dL_law_364 : decode cL_law 364 = .ok (.iload 4, 2) := by decide +kernel
theorem dL_law_366 : decode cL_law 366 = .ok (.iconst 2, 1) := by decide +kernel
theorem dL_law_367 : decode cL_law 367 = .ok (.iadd, 1) := by decide +kernel
theorem dL_law_368 : decode cL_law 368 = .ok (.iaload, 1) := by decide +kernel
theorem dL_law_369 : decode cL_law 369 = .ok (.ifCond .eq 7, 3) := by decide +kernel
theorem dL_law_372 : decode cL_law 372 = .ok (.iconst 1, 1) := by decide +kernel
theorem dL_law_373 : decode cL_law 373 = .ok (.goto 4, 3) := by decide +kernel
theorem dL_law_376 : decode cL_law 376 = .ok (.iconst 0, 1) := by decide +kernel
theorem dL_law_377 : decode cL_law 377 = .ok (.aload_n 3, 1) := by decide +kernel
theorem dL_law_378 : decode cL_law 378 = .ok (.invokestatic 92, 3) := by decide +kernel
theorem dL_law_381 : decode cL_law 381 = .ok (.istore 5, 2) := by decide +kernel
theorem dL_law_383 : decode cL_law 383 = .ok (.aload_n 2, 1) := by decide +kernel
theorem dL_law_384 : decode cL_law 384 = .ok (.aload_n 0, 1) := by decide +kernel
theorem dL_law_385 : decode cL_law 385 = .ok (.iload 4, 2) := by decide +kernel
theorem dL_law_387 : decode cL_law 387 = .ok (.iconst 1, 1) := by decide +kernel
theorem dL_law_388 : decode cL_law 388 = .ok (.iadd, 1) := by decide +kernel
theorem dL_law_389 : decode cL_law 389 = .ok (.iaload, 1) := by decide +kernel
theorem dL_law_390 : decode cL_law 390 = .ok (.aload_n 0, 1) := by decide +kernel
theorem dL_law_391 : decode cL_law 391 = .ok (.iload 4, 2) := by decide +kernel
theorem dL_law_393 : decode cL_law 393 = .ok (.iconst 2, 1) := by decide +kernel
theorem dL_law_394 : decode cL_law 394 = .ok (.iadd, 1) := by decide +kernel
theorem dL_law_395 : decode cL_law 395 = .ok (.iaload, 1) := by decide +kernel
theorem dL_law_396 : decode cL_law 396 = .ok (.ifCond .eq 7, 3) := by decide +kernel
theorem dL_law_399 : decode cL_law 399 = .ok (.iconst 1, 1) := by decide +kernel
theorem dL_law_400 : decode cL_law 400 = .ok (.goto 4, 3) := by decide +kernel
theorem dL_law_403 : decode cL_law 403 = .ok (.iconst 0, 1) := by decide +kernel
theorem dL_law_404 : decode cL_law 404 = .ok (.invokevirtual 95, 3) := by decide +kernel
theorem dL_law_407 : decode cL_law 407 = .ok (.istore 6, 2) := by decide +kernel
theorem dL_law_409 : decode cL_law 409 = .ok (.aload_n 2, 1) := by decide +kernel
theorem dL_law_410 : decode cL_law 410 = .ok (.invokevirtual 83, 3) := by decide +kernel
theorem dL_law_413 : decode cL_law 413 = .ok (.iload 5, 2) := by decide +kernel
theorem dL_law_415 : decode cL_law 415 = .ok (.if_icmp .eq 5, 3) := by decide +kernel
theorem dL_law_418 : decode cL_law 418 = .ok (.iconst 0, 1) := by decide +kernel
theorem dL_law_419 : decode cL_law 419 = .ok (.ireturn, 1) := by decide +kernel
theorem dL_law_420 : decode cL_law 420 = .ok (.iload 5, 2) := by decide +kernel
theorem dL_law_422 : decode cL_law 422 = .ok (.ifCond .ne 15, 3) := by decide +kernel
theorem dL_law_425 : decode cL_law 425 = .ok (.aload_n 3, 1) := by decide +kernel
theorem dL_law_426 : decode cL_law 426 = .ok (.iconst 0, 1) := by decide +kernel
theorem dL_law_427 : decode cL_law 427 = .ok (.laload, 1) := by decide +kernel
theorem dL_law_428 : decode cL_law 428 = .ok (.iload 6, 2) := by decide +kernel
theorem dL_law_430 : decode cL_law 430 = .ok (.i2l, 1) := by decide +kernel
theorem dL_law_431 : decode cL_law 431 = .ok (.lcmp, 1) := by decide +kernel
theorem dL_law_432 : decode cL_law 432 = .ok (.ifCond .eq 5, 3) := by decide +kernel
theorem dL_law_435 : decode cL_law 435 = .ok (.iconst 0, 1) := by decide +kernel
theorem dL_law_436 : decode cL_law 436 = .ok (.ireturn, 1) := by decide +kernel
theorem dL_law_437 : decode cL_law 437 = .ok (.goto 871, 3) := by decide +kernel
theorem dL_law_440 : decode cL_law 440 = .ok (.aload_n 1, 1) := by decide +kernel
theorem dL_law_441 : decode cL_law 441 = .ok (.aload_n 0, 1) := by decide +kernel
theorem dL_law_442 : decode cL_law 442 = .ok (.iload 4, 2) := by decide +kernel
theorem dL_law_444 : decode cL_law 444 = .ok (.iconst 1, 1) := by decide +kernel
theorem dL_law_445 : decode cL_law 445 = .ok (.iadd, 1) := by decide +kernel
theorem dL_law_446 : decode cL_law 446 = .ok (.iaload, 1) := by decide +kernel
theorem dL_law_447 : decode cL_law 447 = .ok (.aload_n 0, 1) := by decide +kernel
theorem dL_law_448 : decode cL_law 448 = .ok (.iload 4, 2) := by decide +kernel
theorem dL_law_450 : decode cL_law 450 = .ok (.iconst 2, 1) := by decide +kernel
theorem dL_law_451 : decode cL_law 451 = .ok (.iadd, 1) := by decide +kernel
theorem dL_law_452 : decode cL_law 452 = .ok (.iaload, 1) := by decide +kernel
theorem dL_law_453 : decode cL_law 453 = .ok (.aload_n 3, 1) := by decide +kernel
theorem dL_law_454 : decode cL_law 454 = .ok (.invokestatic 96, 3) := by decide +kernel
theorem dL_law_457 : decode cL_law 457 = .ok (.istore 5, 2) := by decide +kernel
theorem dL_law_459 : decode cL_law 459 = .ok (.aload_n 2, 1) := by decide +kernel
theorem dL_law_460 : decode cL_law 460 = .ok (.aload_n 0, 1) := by decide +kernel
theorem dL_law_461 : decode cL_law 461 = .ok (.iload 4, 2) := by decide +kernel
theorem dL_law_463 : decode cL_law 463 = .ok (.iconst 1, 1) := by decide +kernel
theorem dL_law_464 : decode cL_law 464 = .ok (.iadd, 1) := by decide +kernel
theorem dL_law_465 : decode cL_law 465 = .ok (.iaload, 1) := by decide +kernel
theorem dL_law_466 : decode cL_law 466 = .ok (.aload_n 0, 1) := by decide +kernel
theorem dL_law_467 : decode cL_law 467 = .ok (.iload 4, 2) := by decide +kernel
theorem dL_law_469 : decode cL_law 469 = .ok (.iconst 2, 1) := by decide +kernel
theorem dL_law_470 : decode cL_law 470 = .ok (.iadd, 1) := by decide +kernel
theorem dL_law_471 : decode cL_law 471 = .ok (.iaload, 1) := by decide +kernel
theorem dL_law_472 : decode cL_law 472 = .ok (.invokevirtual 98, 3) := by decide +kernel
theorem dL_law_475 : decode cL_law 475 = .ok (.istore 6, 2) := by decide +kernel
theorem dL_law_477 : decode cL_law 477 = .ok (.aload_n 2, 1) := by decide +kernel
theorem dL_law_478 : decode cL_law 478 = .ok (.invokevirtual 83, 3) := by decide +kernel
theorem dL_law_481 : decode cL_law 481 = .ok (.iload 5, 2) := by decide +kernel
theorem dL_law_483 : decode cL_law 483 = .ok (.if_icmp .eq 5, 3) := by decide +kernel
theorem dL_law_486 : decode cL_law 486 = .ok (.iconst 0, 1) := by decide +kernel
theorem dL_law_487 : decode cL_law 487 = .ok (.ireturn, 1) := by decide +kernel
theorem dL_law_488 : decode cL_law 488 = .ok (.iload 5, 2) := by decide +kernel
theorem dL_law_490 : decode cL_law 490 = .ok (.ifCond .ne 15, 3) := by decide +kernel
theorem dL_law_493 : decode cL_law 493 = .ok (.aload_n 3, 1) := by decide +kernel
theorem dL_law_494 : decode cL_law 494 = .ok (.iconst 0, 1) := by decide +kernel
theorem dL_law_495 : decode cL_law 495 = .ok (.laload, 1) := by decide +kernel
theorem dL_law_496 : decode cL_law 496 = .ok (.iload 6, 2) := by decide +kernel
theorem dL_law_498 : decode cL_law 498 = .ok (.i2l, 1) := by decide +kernel
theorem dL_law_499 : decode cL_law 499 = .ok (.lcmp, 1) := by decide +kernel
theorem dL_law_500 : decode cL_law 500 = .ok (.ifCond .eq 5, 3) := by decide +kernel
theorem dL_law_503 : decode cL_law 503 = .ok (.iconst 0, 1) := by decide +kernel
theorem dL_law_504 : decode cL_law 504 = .ok (.ireturn, 1) := by decide +kernel
theorem dL_law_505 : decode cL_law 505 = .ok (.goto 803, 3) := by decide +kernel
theorem dL_law_508 : decode cL_law 508 = .ok (.aload_n 1, 1) := by decide +kernel
theorem dL_law_509 : decode cL_law 509 = .ok (.aload_n 0, 1) := by decide +kernel
theorem dL_law_510 : decode cL_law 510 = .ok (.iload 4, 2) := by decide +kernel
theorem dL_law_512 : decode cL_law 512 = .ok (.iconst 1, 1) := by decide +kernel
theorem dL_law_513 : decode cL_law 513 = .ok (.iadd, 1) := by decide +kernel
theorem dL_law_514 : decode cL_law 514 = .ok (.iaload, 1) := by decide +kernel
theorem dL_law_515 : decode cL_law 515 = .ok (.aload_n 3, 1) := by decide +kernel
theorem dL_law_516 : decode cL_law 516 = .ok (.invokestatic 99, 3) := by decide +kernel
theorem dL_law_519 : decode cL_law 519 = .ok (.istore 5, 2) := by decide +kernel
theorem dL_law_521 : decode cL_law 521 = .ok (.aload_n 2, 1) := by decide +kernel
theorem dL_law_522 : decode cL_law 522 = .ok (.aload_n 0, 1) := by decide +kernel
theorem dL_law_523 : decode cL_law 523 = .ok (.iload 4, 2) := by decide +kernel
theorem dL_law_525 : decode cL_law 525 = .ok (.iconst 1, 1) := by decide +kernel
theorem dL_law_526 : decode cL_law 526 = .ok (.iadd, 1) := by decide +kernel
theorem dL_law_527 : decode cL_law 527 = .ok (.iaload, 1) := by decide +kernel
theorem dL_law_528 : decode cL_law 528 = .ok (.invokevirtual 102, 3) := by decide +kernel
theorem dL_law_531 : decode cL_law 531 = .ok (.istore 6, 2) := by decide +kernel
theorem dL_law_533 : decode cL_law 533 = .ok (.aload_n 2, 1) := by decide +kernel
theorem dL_law_534 : decode cL_law 534 = .ok (.invokevirtual 83, 3) := by decide +kernel
theorem dL_law_537 : decode cL_law 537 = .ok (.iload 5, 2) := by decide +kernel
theorem dL_law_539 : decode cL_law 539 = .ok (.if_icmp .eq 5, 3) := by decide +kernel
theorem dL_law_542 : decode cL_law 542 = .ok (.iconst 0, 1) := by decide +kernel
theorem dL_law_543 : decode cL_law 543 = .ok (.ireturn, 1) := by decide +kernel
theorem dL_law_544 : decode cL_law 544 = .ok (.iload 5, 2) := by decide +kernel
theorem dL_law_546 : decode cL_law 546 = .ok (.ifCond .ne 15, 3) := by decide +kernel
theorem dL_law_549 : decode cL_law 549 = .ok (.aload_n 3, 1) := by decide +kernel
theorem dL_law_550 : decode cL_law 550 = .ok (.iconst 0, 1) := by decide +kernel
theorem dL_law_551 : decode cL_law 551 = .ok (.laload, 1) := by decide +kernel
theorem dL_law_552 : decode cL_law 552 = .ok (.iload 6, 2) := by decide +kernel
theorem dL_law_554 : decode cL_law 554 = .ok (.i2l, 1) := by decide +kernel
theorem dL_law_555 : decode cL_law 555 = .ok (.lcmp, 1) := by decide +kernel
theorem dL_law_556 : decode cL_law 556 = .ok (.ifCond .eq 5, 3) := by decide +kernel
theorem dL_law_559 : decode cL_law 559 = .ok (.iconst 0, 1) := by decide +kernel
theorem dL_law_560 : decode cL_law 560 = .ok (.ireturn, 1) := by decide +kernel
theorem dL_law_561 : decode cL_law 561 = .ok (.goto 747, 3) := by decide +kernel
theorem dL_law_564 : decode cL_law 564 = .ok (.aload_n 1, 1) := by decide +kernel
theorem dL_law_565 : decode cL_law 565 = .ok (.aload_n 3, 1) := by decide +kernel
theorem dL_law_566 : decode cL_law 566 = .ok (.invokestatic 103, 3) := by decide +kernel
theorem dL_law_569 : decode cL_law 569 = .ok (.istore 5, 2) := by decide +kernel
theorem dL_law_571 : decode cL_law 571 = .ok (.aload_n 2, 1) := by decide +kernel
theorem dL_law_572 : decode cL_law 572 = .ok (.invokevirtual 106, 3) := by decide +kernel
theorem dL_law_575 : decode cL_law 575 = .ok (.istore 6, 2) := by decide +kernel
theorem dL_law_577 : decode cL_law 577 = .ok (.aload_n 2, 1) := by decide +kernel
theorem dL_law_578 : decode cL_law 578 = .ok (.invokevirtual 83, 3) := by decide +kernel
theorem dL_law_581 : decode cL_law 581 = .ok (.iload 5, 2) := by decide +kernel
theorem dL_law_583 : decode cL_law 583 = .ok (.if_icmp .eq 5, 3) := by decide +kernel
theorem dL_law_586 : decode cL_law 586 = .ok (.iconst 0, 1) := by decide +kernel
theorem dL_law_587 : decode cL_law 587 = .ok (.ireturn, 1) := by decide +kernel
theorem dL_law_588 : decode cL_law 588 = .ok (.iload 5, 2) := by decide +kernel
theorem dL_law_590 : decode cL_law 590 = .ok (.ifCond .ne 15, 3) := by decide +kernel
theorem dL_law_593 : decode cL_law 593 = .ok (.aload_n 3, 1) := by decide +kernel
theorem dL_law_594 : decode cL_law 594 = .ok (.iconst 0, 1) := by decide +kernel
theorem dL_law_595 : decode cL_law 595 = .ok (.laload, 1) := by decide +kernel
theorem dL_law_596 : decode cL_law 596 = .ok (.iload 6, 2) := by decide +kernel
theorem dL_law_598 : decode cL_law 598 = .ok (.i2l, 1) := by decide +kernel
theorem dL_law_599 : decode cL_law 599 = .ok (.lcmp, 1) := by decide +kernel
theorem dL_law_600 : decode cL_law 600 = .ok (.ifCond .eq 5, 3) := by decide +kernel
theorem dL_law_603 : decode cL_law 603 = .ok (.iconst 0, 1) := by decide +kernel
theorem dL_law_604 : decode cL_law 604 = .ok (.ireturn, 1) := by decide +kernel
theorem dL_law_605 : decode cL_law 605 = .ok (.goto 703, 3) := by decide +kernel
theorem dL_law_608 : decode cL_law 608 = .ok (.aload_n 1, 1) := by decide +kernel
theorem dL_law_609 : decode cL_law 609 = .ok (.aload_n 3, 1) := by decide +kernel
theorem dL_law_610 : decode cL_law 610 = .ok (.invokestatic 107, 3) := by decide +kernel
theorem dL_law_613 : decode cL_law 613 = .ok (.istore 5, 2) := by decide +kernel
theorem dL_law_615 : decode cL_law 615 = .ok (.aload_n 2, 1) := by decide +kernel
theorem dL_law_616 : decode cL_law 616 = .ok (.invokevirtual 109, 3) := by decide +kernel
theorem dL_law_619 : decode cL_law 619 = .ok (.istore 6, 2) := by decide +kernel
theorem dL_law_621 : decode cL_law 621 = .ok (.aload_n 2, 1) := by decide +kernel
theorem dL_law_622 : decode cL_law 622 = .ok (.invokevirtual 83, 3) := by decide +kernel
theorem dL_law_625 : decode cL_law 625 = .ok (.iload 5, 2) := by decide +kernel
theorem dL_law_627 : decode cL_law 627 = .ok (.if_icmp .eq 5, 3) := by decide +kernel
theorem dL_law_630 : decode cL_law 630 = .ok (.iconst 0, 1) := by decide +kernel
theorem dL_law_631 : decode cL_law 631 = .ok (.ireturn, 1) := by decide +kernel
theorem dL_law_632 : decode cL_law 632 = .ok (.iload 5, 2) := by decide +kernel
theorem dL_law_634 : decode cL_law 634 = .ok (.ifCond .ne 15, 3) := by decide +kernel
theorem dL_law_637 : decode cL_law 637 = .ok (.aload_n 3, 1) := by decide +kernel
theorem dL_law_638 : decode cL_law 638 = .ok (.iconst 0, 1) := by decide +kernel
theorem dL_law_639 : decode cL_law 639 = .ok (.laload, 1) := by decide +kernel
theorem dL_law_640 : decode cL_law 640 = .ok (.iload 6, 2) := by decide +kernel
theorem dL_law_642 : decode cL_law 642 = .ok (.i2l, 1) := by decide +kernel
theorem dL_law_643 : decode cL_law 643 = .ok (.lcmp, 1) := by decide +kernel
theorem dL_law_644 : decode cL_law 644 = .ok (.ifCond .eq 5, 3) := by decide +kernel
theorem dL_law_647 : decode cL_law 647 = .ok (.iconst 0, 1) := by decide +kernel
theorem dL_law_648 : decode cL_law 648 = .ok (.ireturn, 1) := by decide +kernel
theorem dL_law_649 : decode cL_law 649 = .ok (.goto 659, 3) := by decide +kernel
theorem dL_law_652 : decode cL_law 652 = .ok (.aload_n 1, 1) := by decide +kernel
theorem dL_law_653 : decode cL_law 653 = .ok (.aload_n 3, 1) := by decide +kernel
theorem dL_law_654 : decode cL_law 654 = .ok (.invokestatic 110, 3) := by decide +kernel
theorem dL_law_657 : decode cL_law 657 = .ok (.istore 5, 2) := by decide +kernel
theorem dL_law_659 : decode cL_law 659 = .ok (.aload_n 2, 1) := by decide +kernel
theorem dL_law_660 : decode cL_law 660 = .ok (.invokevirtual 112, 3) := by decide +kernel
theorem dL_law_663 : decode cL_law 663 = .ok (.istore 6, 2) := by decide +kernel
theorem dL_law_665 : decode cL_law 665 = .ok (.aload_n 2, 1) := by decide +kernel
theorem dL_law_666 : decode cL_law 666 = .ok (.invokevirtual 83, 3) := by decide +kernel
theorem dL_law_669 : decode cL_law 669 = .ok (.iload 5, 2) := by decide +kernel
theorem dL_law_671 : decode cL_law 671 = .ok (.if_icmp .eq 5, 3) := by decide +kernel
theorem dL_law_674 : decode cL_law 674 = .ok (.iconst 0, 1) := by decide +kernel
theorem dL_law_675 : decode cL_law 675 = .ok (.ireturn, 1) := by decide +kernel
theorem dL_law_676 : decode cL_law 676 = .ok (.iload 5, 2) := by decide +kernel
theorem dL_law_678 : decode cL_law 678 = .ok (.ifCond .ne 15, 3) := by decide +kernel
theorem dL_law_681 : decode cL_law 681 = .ok (.aload_n 3, 1) := by decide +kernel
theorem dL_law_682 : decode cL_law 682 = .ok (.iconst 0, 1) := by decide +kernel
theorem dL_law_683 : decode cL_law 683 = .ok (.laload, 1) := by decide +kernel
theorem dL_law_684 : decode cL_law 684 = .ok (.iload 6, 2) := by decide +kernel
theorem dL_law_686 : decode cL_law 686 = .ok (.i2l, 1) := by decide +kernel
theorem dL_law_687 : decode cL_law 687 = .ok (.lcmp, 1) := by decide +kernel
theorem dL_law_688 : decode cL_law 688 = .ok (.ifCond .eq 5, 3) := by decide +kernel
theorem dL_law_691 : decode cL_law 691 = .ok (.iconst 0, 1) := by decide +kernel
theorem dL_law_692 : decode cL_law 692 = .ok (.ireturn, 1) := by decide +kernel
theorem dL_law_693 : decode cL_law 693 = .ok (.goto 615, 3) := by decide +kernel
theorem dL_law_696 : decode cL_law 696 = .ok (.aload_n 1, 1) := by decide +kernel
theorem dL_law_697 : decode cL_law 697 = .ok (.aload_n 0, 1) := by decide +kernel
theorem dL_law_698 : decode cL_law 698 = .ok (.iload 4, 2) := by decide +kernel
theorem dL_law_700 : decode cL_law 700 = .ok (.iconst 1, 1) := by decide +kernel
theorem dL_law_701 : decode cL_law 701 = .ok (.iadd, 1) := by decide +kernel
theorem dL_law_702 : decode cL_law 702 = .ok (.iaload, 1) := by decide +kernel
theorem dL_law_703 : decode cL_law 703 = .ok (.aload_n 3, 1) := by decide +kernel
theorem dL_law_704 : decode cL_law 704 = .ok (.invokestatic 113, 3) := by decide +kernel
theorem dL_law_707 : decode cL_law 707 = .ok (.istore 5, 2) := by decide +kernel
theorem dL_law_709 : decode cL_law 709 = .ok (.aload_n 2, 1) := by decide +kernel
theorem dL_law_710 : decode cL_law 710 = .ok (.aload_n 0, 1) := by decide +kernel
theorem dL_law_711 : decode cL_law 711 = .ok (.iload 4, 2) := by decide +kernel
theorem dL_law_713 : decode cL_law 713 = .ok (.iconst 1, 1) := by decide +kernel
theorem dL_law_714 : decode cL_law 714 = .ok (.iadd, 1) := by decide +kernel
theorem dL_law_715 : decode cL_law 715 = .ok (.iaload, 1) := by decide +kernel
theorem dL_law_716 : decode cL_law 716 = .ok (.invokevirtual 115, 3) := by decide +kernel
theorem dL_law_719 : decode cL_law 719 = .ok (.istore 6, 2) := by decide +kernel
theorem dL_law_721 : decode cL_law 721 = .ok (.aload_n 2, 1) := by decide +kernel
theorem dL_law_722 : decode cL_law 722 = .ok (.invokevirtual 83, 3) := by decide +kernel
theorem dL_law_725 : decode cL_law 725 = .ok (.iload 5, 2) := by decide +kernel
theorem dL_law_727 : decode cL_law 727 = .ok (.if_icmp .eq 5, 3) := by decide +kernel
theorem dL_law_730 : decode cL_law 730 = .ok (.iconst 0, 1) := by decide +kernel
theorem dL_law_731 : decode cL_law 731 = .ok (.ireturn, 1) := by decide +kernel
theorem dL_law_732 : decode cL_law 732 = .ok (.iload 5, 2) := by decide +kernel
theorem dL_law_734 : decode cL_law 734 = .ok (.ifCond .ne 15, 3) := by decide +kernel
theorem dL_law_737 : decode cL_law 737 = .ok (.aload_n 3, 1) := by decide +kernel
theorem dL_law_738 : decode cL_law 738 = .ok (.iconst 0, 1) := by decide +kernel
theorem dL_law_739 : decode cL_law 739 = .ok (.laload, 1) := by decide +kernel
theorem dL_law_740 : decode cL_law 740 = .ok (.iload 6, 2) := by decide +kernel
theorem dL_law_742 : decode cL_law 742 = .ok (.i2l, 1) := by decide +kernel
theorem dL_law_743 : decode cL_law 743 = .ok (.lcmp, 1) := by decide +kernel
theorem dL_law_744 : decode cL_law 744 = .ok (.ifCond .eq 5, 3) := by decide +kernel
theorem dL_law_747 : decode cL_law 747 = .ok (.iconst 0, 1) := by decide +kernel
theorem dL_law_748 : decode cL_law 748 = .ok (.ireturn, 1) := by decide +kernel
theorem dL_law_749 : decode cL_law 749 = .ok (.goto 559, 3) := by decide +kernel
theorem dL_law_752 : decode cL_law 752 = .ok (.aload_n 1, 1) := by decide +kernel
theorem dL_law_753 : decode cL_law 753 = .ok (.aload_n 0, 1) := by decide +kernel
theorem dL_law_754 : decode cL_law 754 = .ok (.iload 4, 2) := by decide +kernel
theorem dL_law_756 : decode cL_law 756 = .ok (.iconst 1, 1) := by decide +kernel
theorem dL_law_757 : decode cL_law 757 = .ok (.iadd, 1) := by decide +kernel
theorem dL_law_758 : decode cL_law 758 = .ok (.iaload, 1) := by decide +kernel
theorem dL_law_759 : decode cL_law 759 = .ok (.aload_n 3, 1) := by decide +kernel
theorem dL_law_760 : decode cL_law 760 = .ok (.invokestatic 116, 3) := by decide +kernel
theorem dL_law_763 : decode cL_law 763 = .ok (.istore 5, 2) := by decide +kernel
theorem dL_law_765 : decode cL_law 765 = .ok (.aload_n 2, 1) := by decide +kernel
theorem dL_law_766 : decode cL_law 766 = .ok (.aload_n 0, 1) := by decide +kernel
theorem dL_law_767 : decode cL_law 767 = .ok (.iload 4, 2) := by decide +kernel
theorem dL_law_769 : decode cL_law 769 = .ok (.iconst 1, 1) := by decide +kernel
theorem dL_law_770 : decode cL_law 770 = .ok (.iadd, 1) := by decide +kernel
theorem dL_law_771 : decode cL_law 771 = .ok (.iaload, 1) := by decide +kernel
theorem dL_law_772 : decode cL_law 772 = .ok (.invokevirtual 118, 3) := by decide +kernel
theorem dL_law_775 : decode cL_law 775 = .ok (.istore 6, 2) := by decide +kernel
theorem dL_law_777 : decode cL_law 777 = .ok (.aload_n 2, 1) := by decide +kernel
theorem dL_law_778 : decode cL_law 778 = .ok (.invokevirtual 83, 3) := by decide +kernel
theorem dL_law_781 : decode cL_law 781 = .ok (.iload 5, 2) := by decide +kernel
theorem dL_law_783 : decode cL_law 783 = .ok (.if_icmp .eq 5, 3) := by decide +kernel
theorem dL_law_786 : decode cL_law 786 = .ok (.iconst 0, 1) := by decide +kernel
theorem dL_law_787 : decode cL_law 787 = .ok (.ireturn, 1) := by decide +kernel
theorem dL_law_788 : decode cL_law 788 = .ok (.iload 5, 2) := by decide +kernel
theorem dL_law_790 : decode cL_law 790 = .ok (.ifCond .ne 15, 3) := by decide +kernel
theorem dL_law_793 : decode cL_law 793 = .ok (.aload_n 3, 1) := by decide +kernel
theorem dL_law_794 : decode cL_law 794 = .ok (.iconst 0, 1) := by decide +kernel
theorem dL_law_795 : decode cL_law 795 = .ok (.laload, 1) := by decide +kernel
theorem dL_law_796 : decode cL_law 796 = .ok (.iload 6, 2) := by decide +kernel
theorem dL_law_798 : decode cL_law 798 = .ok (.i2l, 1) := by decide +kernel
theorem dL_law_799 : decode cL_law 799 = .ok (.lcmp, 1) := by decide +kernel
theorem dL_law_800 : decode cL_law 800 = .ok (.ifCond .eq 5, 3) := by decide +kernel
theorem dL_law_803 : decode cL_law 803 = .ok (.iconst 0, 1) := by decide +kernel
theorem dL_law_804 : decode cL_law 804 = .ok (.ireturn, 1) := by decide +kernel
theorem dL_law_805 : decode cL_law 805 = .ok (.goto 503, 3) := by decide +kernel
theorem dL_law_808 : decode cL_law 808 = .ok (.aload_n 1, 1) := by decide +kernel
theorem dL_law_809 : decode cL_law 809 = .ok (.invokevirtual 119, 3) := by decide +kernel
theorem dL_law_812 : decode cL_law 812 = .ok (.aload_n 2, 1) := by decide +kernel
theorem dL_law_813 : decode cL_law 813 = .ok (.invokevirtual 122, 3) := by decide +kernel
theorem dL_law_816 : decode cL_law 816 = .ok (.if_icmp .eq 492, 3) := by decide +kernel
theorem dL_law_819 : decode cL_law 819 = .ok (.iconst 0, 1) := by decide +kernel
theorem dL_law_820 : decode cL_law 820 = .ok (.ireturn, 1) := by decide +kernel
theorem dL_law_821 : decode cL_law 821 = .ok (.aload_n 1, 1) := by decide +kernel
theorem dL_law_822 : decode cL_law 822 = .ok (.invokevirtual 123, 3) := by decide +kernel
theorem dL_law_825 : decode cL_law 825 = .ok (.aload_n 2, 1) := by decide +kernel
theorem dL_law_826 : decode cL_law 826 = .ok (.invokevirtual 126, 3) := by decide +kernel
theorem dL_law_829 : decode cL_law 829 = .ok (.if_icmp .eq 479, 3) := by decide +kernel
theorem dL_law_832 : decode cL_law 832 = .ok (.iconst 0, 1) := by decide +kernel
theorem dL_law_833 : decode cL_law 833 = .ok (.ireturn, 1) := by decide +kernel
theorem dL_law_834 : decode cL_law 834 = .ok (.aload_n 1, 1) := by decide +kernel
theorem dL_law_835 : decode cL_law 835 = .ok (.aload_n 3, 1) := by decide +kernel
theorem dL_law_836 : decode cL_law 836 = .ok (.invokestatic 127, 3) := by decide +kernel
theorem dL_law_839 : decode cL_law 839 = .ok (.istore 5, 2) := by decide +kernel
theorem dL_law_841 : decode cL_law 841 = .ok (.aload_n 2, 1) := by decide +kernel
theorem dL_law_842 : decode cL_law 842 = .ok (.invokevirtual 129, 3) := by decide +kernel
theorem dL_law_845 : decode cL_law 845 = .ok (.istore 6, 2) := by decide +kernel
theorem dL_law_847 : decode cL_law 847 = .ok (.aload_n 2, 1) := by decide +kernel
theorem dL_law_848 : decode cL_law 848 = .ok (.invokevirtual 83, 3) := by decide +kernel
theorem dL_law_851 : decode cL_law 851 = .ok (.iload 5, 2) := by decide +kernel
theorem dL_law_853 : decode cL_law 853 = .ok (.if_icmp .eq 5, 3) := by decide +kernel
theorem dL_law_856 : decode cL_law 856 = .ok (.iconst 0, 1) := by decide +kernel
theorem dL_law_857 : decode cL_law 857 = .ok (.ireturn, 1) := by decide +kernel
theorem dL_law_858 : decode cL_law 858 = .ok (.iload 5, 2) := by decide +kernel
theorem dL_law_860 : decode cL_law 860 = .ok (.ifCond .ne 15, 3) := by decide +kernel
theorem dL_law_863 : decode cL_law 863 = .ok (.aload_n 3, 1) := by decide +kernel
theorem dL_law_864 : decode cL_law 864 = .ok (.iconst 0, 1) := by decide +kernel
theorem dL_law_865 : decode cL_law 865 = .ok (.laload, 1) := by decide +kernel
theorem dL_law_866 : decode cL_law 866 = .ok (.iload 6, 2) := by decide +kernel
theorem dL_law_868 : decode cL_law 868 = .ok (.i2l, 1) := by decide +kernel
theorem dL_law_869 : decode cL_law 869 = .ok (.lcmp, 1) := by decide +kernel
theorem dL_law_870 : decode cL_law 870 = .ok (.ifCond .eq 5, 3) := by decide +kernel
theorem dL_law_873 : decode cL_law 873 = .ok (.iconst 0, 1) := by decide +kernel
theorem dL_law_874 : decode cL_law 874 = .ok (.ireturn, 1) := by decide +kernel
theorem dL_law_875 : decode cL_law 875 = .ok (.goto 433, 3) := by decide +kernel
theorem dL_law_878 : decode cL_law 878 = .ok (.aload_n 1, 1) := by decide +kernel
theorem dL_law_879 : decode cL_law 879 = .ok (.aload_n 3, 1) := by decide +kernel
theorem dL_law_880 : decode cL_law 880 = .ok (.invokestatic 130, 3) := by decide +kernel
theorem dL_law_883 : decode cL_law 883 = .ok (.istore 5, 2) := by decide +kernel
theorem dL_law_885 : decode cL_law 885 = .ok (.aload_n 2, 1) := by decide +kernel
theorem dL_law_886 : decode cL_law 886 = .ok (.invokevirtual 132, 3) := by decide +kernel
theorem dL_law_889 : decode cL_law 889 = .ok (.istore 6, 2) := by decide +kernel
theorem dL_law_891 : decode cL_law 891 = .ok (.aload_n 2, 1) := by decide +kernel
theorem dL_law_892 : decode cL_law 892 = .ok (.invokevirtual 83, 3) := by decide +kernel
theorem dL_law_895 : decode cL_law 895 = .ok (.iload 5, 2) := by decide +kernel
theorem dL_law_897 : decode cL_law 897 = .ok (.if_icmp .eq 5, 3) := by decide +kernel
theorem dL_law_900 : decode cL_law 900 = .ok (.iconst 0, 1) := by decide +kernel
theorem dL_law_901 : decode cL_law 901 = .ok (.ireturn, 1) := by decide +kernel
theorem dL_law_902 : decode cL_law 902 = .ok (.iload 5, 2) := by decide +kernel
theorem dL_law_904 : decode cL_law 904 = .ok (.ifCond .ne 15, 3) := by decide +kernel
theorem dL_law_907 : decode cL_law 907 = .ok (.aload_n 3, 1) := by decide +kernel
theorem dL_law_908 : decode cL_law 908 = .ok (.iconst 0, 1) := by decide +kernel
theorem dL_law_909 : decode cL_law 909 = .ok (.laload, 1) := by decide +kernel
theorem dL_law_910 : decode cL_law 910 = .ok (.iload 6, 2) := by decide +kernel
theorem dL_law_912 : decode cL_law 912 = .ok (.i2l, 1) := by decide +kernel
theorem dL_law_913 : decode cL_law 913 = .ok (.lcmp, 1) := by decide +kernel
theorem dL_law_914 : decode cL_law 914 = .ok (.ifCond .eq 5, 3) := by decide +kernel
theorem dL_law_917 : decode cL_law 917 = .ok (.iconst 0, 1) := by decide +kernel
theorem dL_law_918 : decode cL_law 918 = .ok (.ireturn, 1) := by decide +kernel
theorem dL_law_919 : decode cL_law 919 = .ok (.goto 389, 3) := by decide +kernel
theorem dL_law_922 : decode cL_law 922 = .ok (.aload_n 1, 1) := by decide +kernel
theorem dL_law_923 : decode cL_law 923 = .ok (.aload_n 0, 1) := by decide +kernel
theorem dL_law_924 : decode cL_law 924 = .ok (.iload 4, 2) := by decide +kernel
theorem dL_law_926 : decode cL_law 926 = .ok (.iconst 1, 1) := by decide +kernel
theorem dL_law_927 : decode cL_law 927 = .ok (.iadd, 1) := by decide +kernel
theorem dL_law_928 : decode cL_law 928 = .ok (.iaload, 1) := by decide +kernel
theorem dL_law_929 : decode cL_law 929 = .ok (.aload_n 0, 1) := by decide +kernel
theorem dL_law_930 : decode cL_law 930 = .ok (.iload 4, 2) := by decide +kernel
theorem dL_law_932 : decode cL_law 932 = .ok (.iconst 2, 1) := by decide +kernel
theorem dL_law_933 : decode cL_law 933 = .ok (.iadd, 1) := by decide +kernel
theorem dL_law_934 : decode cL_law 934 = .ok (.iaload, 1) := by decide +kernel
theorem dL_law_935 : decode cL_law 935 = .ok (.aload_n 3, 1) := by decide +kernel
theorem dL_law_936 : decode cL_law 936 = .ok (.invokestatic 133, 3) := by decide +kernel
theorem dL_law_939 : decode cL_law 939 = .ok (.istore 5, 2) := by decide +kernel
theorem dL_law_941 : decode cL_law 941 = .ok (.aload_n 2, 1) := by decide +kernel
theorem dL_law_942 : decode cL_law 942 = .ok (.aload_n 0, 1) := by decide +kernel
theorem dL_law_943 : decode cL_law 943 = .ok (.iload 4, 2) := by decide +kernel
theorem dL_law_945 : decode cL_law 945 = .ok (.iconst 1, 1) := by decide +kernel
theorem dL_law_946 : decode cL_law 946 = .ok (.iadd, 1) := by decide +kernel
theorem dL_law_947 : decode cL_law 947 = .ok (.iaload, 1) := by decide +kernel
theorem dL_law_948 : decode cL_law 948 = .ok (.aload_n 0, 1) := by decide +kernel
theorem dL_law_949 : decode cL_law 949 = .ok (.iload 4, 2) := by decide +kernel
theorem dL_law_951 : decode cL_law 951 = .ok (.iconst 2, 1) := by decide +kernel
theorem dL_law_952 : decode cL_law 952 = .ok (.iadd, 1) := by decide +kernel
theorem dL_law_953 : decode cL_law 953 = .ok (.iaload, 1) := by decide +kernel
theorem dL_law_954 : decode cL_law 954 = .ok (.invokevirtual 135, 3) := by decide +kernel
theorem dL_law_957 : decode cL_law 957 = .ok (.istore 6, 2) := by decide +kernel
theorem dL_law_959 : decode cL_law 959 = .ok (.aload_n 2, 1) := by decide +kernel
theorem dL_law_960 : decode cL_law 960 = .ok (.invokevirtual 83, 3) := by decide +kernel
theorem dL_law_963 : decode cL_law 963 = .ok (.iload 5, 2) := by decide +kernel
theorem dL_law_965 : decode cL_law 965 = .ok (.if_icmp .eq 5, 3) := by decide +kernel
theorem dL_law_968 : decode cL_law 968 = .ok (.iconst 0, 1) := by decide +kernel
theorem dL_law_969 : decode cL_law 969 = .ok (.ireturn, 1) := by decide +kernel
theorem dL_law_970 : decode cL_law 970 = .ok (.iload 5, 2) := by decide +kernel
theorem dL_law_972 : decode cL_law 972 = .ok (.ifCond .ne 15, 3) := by decide +kernel
theorem dL_law_975 : decode cL_law 975 = .ok (.aload_n 3, 1) := by decide +kernel
theorem dL_law_976 : decode cL_law 976 = .ok (.iconst 0, 1) := by decide +kernel
theorem dL_law_977 : decode cL_law 977 = .ok (.laload, 1) := by decide +kernel
theorem dL_law_978 : decode cL_law 978 = .ok (.iload 6, 2) := by decide +kernel
theorem dL_law_980 : decode cL_law 980 = .ok (.i2l, 1) := by decide +kernel
theorem dL_law_981 : decode cL_law 981 = .ok (.lcmp, 1) := by decide +kernel
theorem dL_law_982 : decode cL_law 982 = .ok (.ifCond .eq 5, 3) := by decide +kernel
theorem dL_law_985 : decode cL_law 985 = .ok (.iconst 0, 1) := by decide +kernel
theorem dL_law_986 : decode cL_law 986 = .ok (.ireturn, 1) := by decide +kernel
theorem dL_law_987 : decode cL_law 987 = .ok (.goto 321, 3) := by decide +kernel
theorem dL_law_990 : decode cL_law 990 = .ok (.aload_n 1, 1) := by decide +kernel
theorem dL_law_991 : decode cL_law 991 = .ok (.aload_n 0, 1) := by decide +kernel
theorem dL_law_992 : decode cL_law 992 = .ok (.iload 4, 2) := by decide +kernel
theorem dL_law_994 : decode cL_law 994 = .ok (.iconst 1, 1) := by decide +kernel
theorem dL_law_995 : decode cL_law 995 = .ok (.iadd, 1) := by decide +kernel
theorem dL_law_996 : decode cL_law 996 = .ok (.iaload, 1) := by decide +kernel
theorem dL_law_997 : decode cL_law 997 = .ok (.aload_n 3, 1) := by decide +kernel
theorem dL_law_998 : decode cL_law 998 = .ok (.invokestatic 136, 3) := by decide +kernel
theorem dL_law_1001 : decode cL_law 1001 = .ok (.istore 5, 2) := by decide +kernel
theorem dL_law_1003 : decode cL_law 1003 = .ok (.aload_n 2, 1) := by decide +kernel
theorem dL_law_1004 : decode cL_law 1004 = .ok (.aload_n 0, 1) := by decide +kernel
theorem dL_law_1005 : decode cL_law 1005 = .ok (.iload 4, 2) := by decide +kernel
theorem dL_law_1007 : decode cL_law 1007 = .ok (.iconst 1, 1) := by decide +kernel
theorem dL_law_1008 : decode cL_law 1008 = .ok (.iadd, 1) := by decide +kernel
theorem dL_law_1009 : decode cL_law 1009 = .ok (.iaload, 1) := by decide +kernel
theorem dL_law_1010 : decode cL_law 1010 = .ok (.invokevirtual 138, 3) := by decide +kernel
theorem dL_law_1013 : decode cL_law 1013 = .ok (.istore 6, 2) := by decide +kernel
theorem dL_law_1015 : decode cL_law 1015 = .ok (.aload_n 2, 1) := by decide +kernel
theorem dL_law_1016 : decode cL_law 1016 = .ok (.invokevirtual 83, 3) := by decide +kernel
theorem dL_law_1019 : decode cL_law 1019 = .ok (.iload 5, 2) := by decide +kernel
theorem dL_law_1021 : decode cL_law 1021 = .ok (.if_icmp .eq 5, 3) := by decide +kernel
theorem dL_law_1024 : decode cL_law 1024 = .ok (.iconst 0, 1) := by decide +kernel
theorem dL_law_1025 : decode cL_law 1025 = .ok (.ireturn, 1) := by decide +kernel
theorem dL_law_1026 : decode cL_law 1026 = .ok (.iload 5, 2) := by decide +kernel
theorem dL_law_1028 : decode cL_law 1028 = .ok (.ifCond .ne 15, 3) := by decide +kernel
theorem dL_law_1031 : decode cL_law 1031 = .ok (.aload_n 3, 1) := by decide +kernel
theorem dL_law_1032 : decode cL_law 1032 = .ok (.iconst 0, 1) := by decide +kernel
theorem dL_law_1033 : decode cL_law 1033 = .ok (.laload, 1) := by decide +kernel
theorem dL_law_1034 : decode cL_law 1034 = .ok (.iload 6, 2) := by decide +kernel
theorem dL_law_1036 : decode cL_law 1036 = .ok (.i2l, 1) := by decide +kernel
theorem dL_law_1037 : decode cL_law 1037 = .ok (.lcmp, 1) := by decide +kernel
theorem dL_law_1038 : decode cL_law 1038 = .ok (.ifCond .eq 5, 3) := by decide +kernel
theorem dL_law_1041 : decode cL_law 1041 = .ok (.iconst 0, 1) := by decide +kernel
theorem dL_law_1042 : decode cL_law 1042 = .ok (.ireturn, 1) := by decide +kernel
theorem dL_law_1043 : decode cL_law 1043 = .ok (.goto 265, 3) := by decide +kernel
theorem dL_law_1046 : decode cL_law 1046 = .ok (.aload_n 1, 1) := by decide +kernel
theorem dL_law_1047 : decode cL_law 1047 = .ok (.aload_n 0, 1) := by decide +kernel
theorem dL_law_1048 : decode cL_law 1048 = .ok (.iload 4, 2) := by decide +kernel
theorem dL_law_1050 : decode cL_law 1050 = .ok (.iconst 1, 1) := by decide +kernel
theorem dL_law_1051 : decode cL_law 1051 = .ok (.iadd, 1) := by decide +kernel
theorem dL_law_1052 : decode cL_law 1052 = .ok (.iaload, 1) := by decide +kernel
theorem dL_law_1053 : decode cL_law 1053 = .ok (.aload_n 3, 1) := by decide +kernel
theorem dL_law_1054 : decode cL_law 1054 = .ok (.invokestatic 139, 3) := by decide +kernel
theorem dL_law_1057 : decode cL_law 1057 = .ok (.istore 5, 2) := by decide +kernel
theorem dL_law_1059 : decode cL_law 1059 = .ok (.aload_n 2, 1) := by decide +kernel
theorem dL_law_1060 : decode cL_law 1060 = .ok (.aload_n 0, 1) := by decide +kernel
theorem dL_law_1061 : decode cL_law 1061 = .ok (.iload 4, 2) := by decide +kernel
theorem dL_law_1063 : decode cL_law 1063 = .ok (.iconst 1, 1) := by decide +kernel
theorem dL_law_1064 : decode cL_law 1064 = .ok (.iadd, 1) := by decide +kernel
theorem dL_law_1065 : decode cL_law 1065 = .ok (.iaload, 1) := by decide +kernel
theorem dL_law_1066 : decode cL_law 1066 = .ok (.invokevirtual 141, 3) := by decide +kernel
theorem dL_law_1069 : decode cL_law 1069 = .ok (.istore 6, 2) := by decide +kernel
theorem dL_law_1071 : decode cL_law 1071 = .ok (.aload_n 2, 1) := by decide +kernel
theorem dL_law_1072 : decode cL_law 1072 = .ok (.invokevirtual 83, 3) := by decide +kernel
theorem dL_law_1075 : decode cL_law 1075 = .ok (.iload 5, 2) := by decide +kernel
theorem dL_law_1077 : decode cL_law 1077 = .ok (.if_icmp .eq 5, 3) := by decide +kernel
theorem dL_law_1080 : decode cL_law 1080 = .ok (.iconst 0, 1) := by decide +kernel
theorem dL_law_1081 : decode cL_law 1081 = .ok (.ireturn, 1) := by decide +kernel
theorem dL_law_1082 : decode cL_law 1082 = .ok (.iload 5, 2) := by decide +kernel
theorem dL_law_1084 : decode cL_law 1084 = .ok (.ifCond .ne 15, 3) := by decide +kernel
theorem dL_law_1087 : decode cL_law 1087 = .ok (.aload_n 3, 1) := by decide +kernel
theorem dL_law_1088 : decode cL_law 1088 = .ok (.iconst 0, 1) := by decide +kernel
theorem dL_law_1089 : decode cL_law 1089 = .ok (.laload, 1) := by decide +kernel
theorem dL_law_1090 : decode cL_law 1090 = .ok (.iload 6, 2) := by decide +kernel
theorem dL_law_1092 : decode cL_law 1092 = .ok (.i2l, 1) := by decide +kernel
theorem dL_law_1093 : decode cL_law 1093 = .ok (.lcmp, 1) := by decide +kernel
theorem dL_law_1094 : decode cL_law 1094 = .ok (.ifCond .eq 5, 3) := by decide +kernel
theorem dL_law_1097 : decode cL_law 1097 = .ok (.iconst 0, 1) := by decide +kernel
theorem dL_law_1098 : decode cL_law 1098 = .ok (.ireturn, 1) := by decide +kernel
theorem dL_law_1099 : decode cL_law 1099 = .ok (.goto 209, 3) := by decide +kernel
theorem dL_law_1102 : decode cL_law 1102 = .ok (.aload_n 1, 1) := by decide +kernel
theorem dL_law_1103 : decode cL_law 1103 = .ok (.aload_n 0, 1) := by decide +kernel
theorem dL_law_1104 : decode cL_law 1104 = .ok (.iload 4, 2) := by decide +kernel
theorem dL_law_1106 : decode cL_law 1106 = .ok (.iconst 1, 1) := by decide +kernel
end
section
theorem dL_law_1107 : decode cL_law 1107 = .ok (.iadd, 1) := by decide +kernel
theorem dL_law_1108 : decode cL_law 1108 = .ok (.iaload, 1) := by decide +kernel
theorem dL_law_1109 : decode cL_law 1109 = .ok (.aload_n 3, 1) := by decide +kernel
theorem dL_law_1110 : decode cL_law 1110 = .ok (.invokestatic 142, 3) := by decide +kernel
theorem dL_law_1113 : decode cL_law 1113 = .ok (.istore 5, 2) := by decide +kernel
theorem dL_law_1115 : decode cL_law 1115 = .ok (.aload_n 2, 1) := by decide +kernel
theorem dL_law_1116 : decode cL_law 1116 = .ok (.aload_n 0, 1) := by decide +kernel
theorem dL_law_1117 : decode cL_law 1117 = .ok (.iload 4, 2) := by decide +kernel
theorem dL_law_1119 : decode cL_law 1119 = .ok (.iconst 1, 1) := by decide +kernel
theorem dL_law_1120 : decode cL_law 1120 = .ok (.iadd, 1) := by decide +kernel
theorem dL_law_1121 : decode cL_law 1121 = .ok (.iaload, 1) := by decide +kernel
theorem dL_law_1122 : decode cL_law 1122 = .ok (.invokevirtual 144, 3) := by decide +kernel
theorem dL_law_1125 : decode cL_law 1125 = .ok (.istore 6, 2) := by decide +kernel
theorem dL_law_1127 : decode cL_law 1127 = .ok (.aload_n 2, 1) := by decide +kernel
theorem dL_law_1128 : decode cL_law 1128 = .ok (.invokevirtual 83, 3) := by decide +kernel
theorem dL_law_1131 : decode cL_law 1131 = .ok (.iload 5, 2) := by decide +kernel
theorem dL_law_1133 : decode cL_law 1133 = .ok (.if_icmp .eq 5, 3) := by decide +kernel
theorem dL_law_1136 : decode cL_law 1136 = .ok (.iconst 0, 1) := by decide +kernel
theorem dL_law_1137 : decode cL_law 1137 = .ok (.ireturn, 1) := by decide +kernel
theorem dL_law_1138 : decode cL_law 1138 = .ok (.iload 5, 2) := by decide +kernel
theorem dL_law_1140 : decode cL_law 1140 = .ok (.ifCond .ne 15, 3) := by decide +kernel
theorem dL_law_1143 : decode cL_law 1143 = .ok (.aload_n 3, 1) := by decide +kernel
theorem dL_law_1144 : decode cL_law 1144 = .ok (.iconst 0, 1) := by decide +kernel
theorem dL_law_1145 : decode cL_law 1145 = .ok (.laload, 1) := by decide +kernel
theorem dL_law_1146 : decode cL_law 1146 = .ok (.iload 6, 2) := by decide +kernel
theorem dL_law_1148 : decode cL_law 1148 = .ok (.i2l, 1) := by decide +kernel
theorem dL_law_1149 : decode cL_law 1149 = .ok (.lcmp, 1) := by decide +kernel
theorem dL_law_1150 : decode cL_law 1150 = .ok (.ifCond .eq 5, 3) := by decide +kernel
theorem dL_law_1153 : decode cL_law 1153 = .ok (.iconst 0, 1) := by decide +kernel
theorem dL_law_1154 : decode cL_law 1154 = .ok (.ireturn, 1) := by decide +kernel
theorem dL_law_1155 : decode cL_law 1155 = .ok (.goto 153, 3) := by decide +kernel
theorem dL_law_1158 : decode cL_law 1158 = .ok (.aload_n 1, 1) := by decide +kernel
theorem dL_law_1159 : decode cL_law 1159 = .ok (.invokevirtual 145, 3) := by decide +kernel
theorem dL_law_1162 : decode cL_law 1162 = .ok (.aload_n 2, 1) := by decide +kernel
theorem dL_law_1163 : decode cL_law 1163 = .ok (.invokevirtual 148, 3) := by decide +kernel
theorem dL_law_1166 : decode cL_law 1166 = .ok (.if_icmp .eq 142, 3) := by decide +kernel
theorem dL_law_1169 : decode cL_law 1169 = .ok (.iconst 0, 1) := by decide +kernel
theorem dL_law_1170 : decode cL_law 1170 = .ok (.ireturn, 1) := by decide +kernel
theorem dL_law_1171 : decode cL_law 1171 = .ok (.aload_n 1, 1) := by decide +kernel
theorem dL_law_1172 : decode cL_law 1172 = .ok (.invokevirtual 149, 3) := by decide +kernel
theorem dL_law_1175 : decode cL_law 1175 = .ok (.aload_n 2, 1) := by decide +kernel
theorem dL_law_1176 : decode cL_law 1176 = .ok (.invokevirtual 152, 3) := by decide +kernel
theorem dL_law_1179 : decode cL_law 1179 = .ok (.if_icmp .eq 129, 3) := by decide +kernel
theorem dL_law_1182 : decode cL_law 1182 = .ok (.iconst 0, 1) := by decide +kernel
theorem dL_law_1183 : decode cL_law 1183 = .ok (.ireturn, 1) := by decide +kernel
theorem dL_law_1184 : decode cL_law 1184 = .ok (.aload_n 1, 1) := by decide +kernel
theorem dL_law_1185 : decode cL_law 1185 = .ok (.invokevirtual 153, 3) := by decide +kernel
theorem dL_law_1188 : decode cL_law 1188 = .ok (.aload_n 2, 1) := by decide +kernel
theorem dL_law_1189 : decode cL_law 1189 = .ok (.invokevirtual 156, 3) := by decide +kernel
theorem dL_law_1192 : decode cL_law 1192 = .ok (.if_icmp .eq 116, 3) := by decide +kernel
theorem dL_law_1195 : decode cL_law 1195 = .ok (.iconst 0, 1) := by decide +kernel
theorem dL_law_1196 : decode cL_law 1196 = .ok (.ireturn, 1) := by decide +kernel
theorem dL_law_1197 : decode cL_law 1197 = .ok (.aload_n 1, 1) := by decide +kernel
theorem dL_law_1198 : decode cL_law 1198 = .ok (.aload_n 0, 1) := by decide +kernel
theorem dL_law_1199 : decode cL_law 1199 = .ok (.iload 4, 2) := by decide +kernel
theorem dL_law_1201 : decode cL_law 1201 = .ok (.iconst 1, 1) := by decide +kernel
theorem dL_law_1202 : decode cL_law 1202 = .ok (.iadd, 1) := by decide +kernel
theorem dL_law_1203 : decode cL_law 1203 = .ok (.iaload, 1) := by decide +kernel
theorem dL_law_1204 : decode cL_law 1204 = .ok (.aload_n 3, 1) := by decide +kernel
theorem dL_law_1205 : decode cL_law 1205 = .ok (.invokestatic 157, 3) := by decide +kernel
theorem dL_law_1208 : decode cL_law 1208 = .ok (.istore 5, 2) := by decide +kernel
theorem dL_law_1210 : decode cL_law 1210 = .ok (.aload_n 2, 1) := by decide +kernel
theorem dL_law_1211 : decode cL_law 1211 = .ok (.aload_n 0, 1) := by decide +kernel
theorem dL_law_1212 : decode cL_law 1212 = .ok (.iload 4, 2) := by decide +kernel
theorem dL_law_1214 : decode cL_law 1214 = .ok (.iconst 1, 1) := by decide +kernel
theorem dL_law_1215 : decode cL_law 1215 = .ok (.iadd, 1) := by decide +kernel
theorem dL_law_1216 : decode cL_law 1216 = .ok (.iaload, 1) := by decide +kernel
theorem dL_law_1217 : decode cL_law 1217 = .ok (.invokevirtual 159, 3) := by decide +kernel
theorem dL_law_1220 : decode cL_law 1220 = .ok (.istore 6, 2) := by decide +kernel
theorem dL_law_1222 : decode cL_law 1222 = .ok (.aload_n 2, 1) := by decide +kernel
theorem dL_law_1223 : decode cL_law 1223 = .ok (.invokevirtual 83, 3) := by decide +kernel
theorem dL_law_1226 : decode cL_law 1226 = .ok (.iload 5, 2) := by decide +kernel
theorem dL_law_1228 : decode cL_law 1228 = .ok (.if_icmp .eq 5, 3) := by decide +kernel
theorem dL_law_1231 : decode cL_law 1231 = .ok (.iconst 0, 1) := by decide +kernel
theorem dL_law_1232 : decode cL_law 1232 = .ok (.ireturn, 1) := by decide +kernel
theorem dL_law_1233 : decode cL_law 1233 = .ok (.iload 5, 2) := by decide +kernel
theorem dL_law_1235 : decode cL_law 1235 = .ok (.ifCond .ne 15, 3) := by decide +kernel
theorem dL_law_1238 : decode cL_law 1238 = .ok (.aload_n 3, 1) := by decide +kernel
theorem dL_law_1239 : decode cL_law 1239 = .ok (.iconst 0, 1) := by decide +kernel
theorem dL_law_1240 : decode cL_law 1240 = .ok (.laload, 1) := by decide +kernel
theorem dL_law_1241 : decode cL_law 1241 = .ok (.iload 6, 2) := by decide +kernel
theorem dL_law_1243 : decode cL_law 1243 = .ok (.i2l, 1) := by decide +kernel
theorem dL_law_1244 : decode cL_law 1244 = .ok (.lcmp, 1) := by decide +kernel
theorem dL_law_1245 : decode cL_law 1245 = .ok (.ifCond .eq 5, 3) := by decide +kernel
theorem dL_law_1248 : decode cL_law 1248 = .ok (.iconst 0, 1) := by decide +kernel
theorem dL_law_1249 : decode cL_law 1249 = .ok (.ireturn, 1) := by decide +kernel
theorem dL_law_1250 : decode cL_law 1250 = .ok (.goto 58, 3) := by decide +kernel
theorem dL_law_1253 : decode cL_law 1253 = .ok (.aload_n 1, 1) := by decide +kernel
theorem dL_law_1254 : decode cL_law 1254 = .ok (.invokevirtual 160, 3) := by decide +kernel
theorem dL_law_1257 : decode cL_law 1257 = .ok (.dstore 5, 2) := by decide +kernel
theorem dL_law_1259 : decode cL_law 1259 = .ok (.aload_n 2, 1) := by decide +kernel
theorem dL_law_1260 : decode cL_law 1260 = .ok (.invokevirtual 164, 3) := by decide +kernel
theorem dL_law_1263 : decode cL_law 1263 = .ok (.dstore 7, 2) := by decide +kernel
theorem dL_law_1265 : decode cL_law 1265 = .ok (.dload 5, 2) := by decide +kernel
theorem dL_law_1267 : decode cL_law 1267 = .ok (.dload 7, 2) := by decide +kernel
theorem dL_law_1269 : decode cL_law 1269 = .ok (.dcmp .l, 1) := by decide +kernel
theorem dL_law_1270 : decode cL_law 1270 = .ok (.ifCond .eq 21, 3) := by decide +kernel
theorem dL_law_1273 : decode cL_law 1273 = .ok (.dload 5, 2) := by decide +kernel
theorem dL_law_1275 : decode cL_law 1275 = .ok (.dload 5, 2) := by decide +kernel
theorem dL_law_1277 : decode cL_law 1277 = .ok (.dcmp .l, 1) := by decide +kernel
theorem dL_law_1278 : decode cL_law 1278 = .ok (.ifCond .eq 11, 3) := by decide +kernel
theorem dL_law_1281 : decode cL_law 1281 = .ok (.dload 7, 2) := by decide +kernel
theorem dL_law_1283 : decode cL_law 1283 = .ok (.dload 7, 2) := by decide +kernel
theorem dL_law_1285 : decode cL_law 1285 = .ok (.dcmp .l, 1) := by decide +kernel
theorem dL_law_1286 : decode cL_law 1286 = .ok (.ifCond .ne 5, 3) := by decide +kernel
theorem dL_law_1289 : decode cL_law 1289 = .ok (.iconst 0, 1) := by decide +kernel
theorem dL_law_1290 : decode cL_law 1290 = .ok (.ireturn, 1) := by decide +kernel
theorem dL_law_1291 : decode cL_law 1291 = .ok (.goto 17, 3) := by decide +kernel
theorem dL_law_1294 : decode cL_law 1294 = .ok (.aload_n 1, 1) := by decide +kernel
theorem dL_law_1295 : decode cL_law 1295 = .ok (.invokevirtual 165, 3) := by decide +kernel
theorem dL_law_1298 : decode cL_law 1298 = .ok (.aload_n 2, 1) := by decide +kernel
theorem dL_law_1299 : decode cL_law 1299 = .ok (.invokevirtual 169, 3) := by decide +kernel
theorem dL_law_1302 : decode cL_law 1302 = .ok (.lcmp, 1) := by decide +kernel
theorem dL_law_1303 : decode cL_law 1303 = .ok (.ifCond .eq 5, 3) := by decide +kernel
theorem dL_law_1306 : decode cL_law 1306 = .ok (.iconst 0, 1) := by decide +kernel
theorem dL_law_1307 : decode cL_law 1307 = .ok (.ireturn, 1) := by decide +kernel
theorem dL_law_1308 : decode cL_law 1308 = .ok (.iinc 4 3, 3) := by decide +kernel
theorem dL_law_1311 : decode cL_law 1311 = .ok (.goto (-1288), 3) := by decide +kernel
theorem dL_law_1314 : decode cL_law 1314 = .ok (.iconst 1, 1) := by decide +kernel
theorem dL_law_1315 : decode cL_law 1315 = .ok (.ireturn, 1) := by decide +kernel
end
section
/-! ints as integers -/
def jI (x : Int) : Int32 := Int32.ofInt x
theorem jI_add (x y : Int) : jI x + jI y = jI (x + y) := (Int32.ofInt_add x y).symm
theorem jI_sub (x y : Int) : jI x - jI y = jI (x - y) := (Int32.ofInt_sub x y).symm
theorem jI_mul (x y : Int) : jI x * jI y = jI (x * y) := (Int32.ofInt_mul x y).symm
theorem jI_toInt {x : Int} (h : -2147483648 ≤ x ∧ x < 2147483648) : (jI x).toInt = x := Int32.toInt_ofInt_of_le (by omega) (by omega)
theorem jI_of (x : Int32) : jI x.toInt = x := Int32.ofInt_toInt x
theorem jI_lt {x y : Int} (hx : -2147483648 ≤ x ∧ x < 2147483648) (hy : -2147483648 ≤ y ∧ y < 2147483648) : jI x < jI y ↔ x < y := by
  rw [Int32.lt_iff_toInt_lt, jI_toInt hx, jI_toInt hy]
theorem jI_le {x y : Int} (hx : -2147483648 ≤ x ∧ x < 2147483648) (hy : -2147483648 ≤ y ∧ y < 2147483648) : jI x ≤ jI y ↔ x ≤ y := by
  rw [Int32.le_iff_toInt_le, jI_toInt hx, jI_toInt hy]
theorem jI_eq {x y : Int} (hx : -2147483648 ≤ x ∧ x < 2147483648) (hy : -2147483648 ≤ y ∧ y < 2147483648) : jI x = jI y ↔ x = y := by
  rw [← Int32.toInt_inj, jI_toInt hx, jI_toInt hy]
theorem jI_div {x y : Int} (h0 : 0 ≤ x) (h1 : x < 2147483648) (h2 : 0 < y) (h3 : y < 2147483648) : jI x / jI y = jI (x / y) := by
  apply Int32.toInt_inj.mp
  have q0 : 0 ≤ x / y := Int.ediv_nonneg h0 (by omega)
  have q1 : x / y ≤ x := Int.ediv_le_self y h0
  rw [lg_idiv_nonneg (by rw [jI_toInt (by omega)]; omega) (by rw [jI_toInt (by omega)]; omega), jI_toInt (by omega), jI_toInt (by omega), jI_toInt (by omega)]
  try first | rfl | exact (Int.tdiv_eq_ediv_of_nonneg h0)
theorem jI_rem {x y : Int} (h0 : 0 ≤ x) (h1 : x < 2147483648) (h2 : 0 < y) (h3 : y < 2147483648) : jI x - jI x / jI y * jI y = jI (x % y) := by
  rw [jI_div h0 h1 h2 h3, jI_mul, jI_sub]
  refine congrArg jI ?_
  have := Int.mul_ediv_add_emod x y
  rw [Int.mul_comm] at this
  omega
theorem jI_nat (n : Nat) : jI (n : Int) = nI n := by
  show Int32.ofInt (n : Int) = Int32.ofNat n
  exact Int32.ofInt_eq_ofNat
theorem jI_inc (i n : Nat) : jI (i : Int) + Int32.ofInt (n : Int) = jI ((i + n : Nat) : Int) := jI_add i n
theorem b01 {x : Int} (h : x = 0 ∨ x = 1) : -2147483648 ≤ x ∧ x < 2147483648 := by omega
def rng (F : Nat → Int) : Prop := ∀ k, -2147483648 ≤ F k ∧ F k < 2147483648
theorem jI_ne0 {y : Int} (h2 : 0 < y) (h3 : y < 2147483648) : ¬ jI y = 0 := fun h => by
  have h' : jI y = jI 0 := h
  rw [jI_eq (by omega) (by omega)] at h'
  omega
def upz (F : Nat → Int) (k : Nat) (v : Int) : Nat → Int := fun j => if j = k then v else F j
theorem upz_s {F : Nat → Int} {k : Nat} {v : Int} : upz F k v k = v := if_pos rfl
theorem upz_n {F : Nat → Int} {k j : Nat} {v : Int} (h : j ≠ k) : upz F k v j = F j := if_neg h
abbrev jA (F : Nat → Int) : Nat → Int32 := fun k => jI (F k)
theorem jA_up (F : Nat → Int) (k : Nat) (v : Int) : upd (jA F) k (jI v) = jA (upz F k v) := by
  funext j
  by_cases h : j = k <;> simp [upd, jA, upz, h]
theorem jA_cpy (F G : Nat → Int) (sp dp n : Nat) : va_cpy (jA F) (jA G) sp dp n = jA (va_cpy F G sp dp n) := by
  funext j
  by_cases h : dp ≤ j ∧ j < dp + n <;> simp [va_cpy, jA, h]
/-! rows of our own: contracts by their answers, in four shapes -/
abbrev xq_R (D : va_G) (cI : ClassId) (av : List Value) (w : va_W) : Array Value → State → Prop := va_Pc av (fun U => va_P D vwCl w U.heap ∧ va_K D vwCl [(cI, .int)] U)
abbrev xq_W (D : va_G) (cI : ClassId) (av : List Value) (w : va_W) (sz : Nat) : Array Value → State → Prop := va_Pc av (fun U => U.heap.size = sz ∧ va_P D vwCl w U.heap ∧ va_K D vwCl [(cI, .int)] U ∧ va_D (fun _ => True) w)
abbrev xq_B (D : va_G) (cI : ClassId) (A : Nat → Prop) (w : va_W) : Unit → State → Prop := fun _ t => va_P D vwCl w t.heap ∧ va_K D vwCl [(cI, .int)] t ∧ va_D A w
theorem xq_Rbl {D : va_G} {cI : ClassId} {av : List Value} {w : va_W} : FrameBlind (xq_R D cI av w) := fun a U g mk q => ⟨q.1, q.2.1, va_K.moved (u := U) (U := U.calling g mk a) (Vm.Alike.refl U.vm) q.2.2⟩
theorem xq_Wbl {D : va_G} {cI : ClassId} {av : List Value} {w : va_W} {sz : Nat} : FrameBlind (xq_W D cI av w sz) := fun a U g mk q => ⟨q.1, q.2.1, q.2.2.1, va_K.moved (u := U) (U := U.calling g mk a) (Vm.Alike.refl U.vm) q.2.2.2.1, q.2.2.2.2⟩
/-- no heap at all -/
def MetP (l : Launch) (y : MethodName) (ws : List Cond) (rm : Room) (av : List Value) (r : Int) : Prop := Met l y ws rm (va_Pc av (fun _ => True)) (vp_Si (fun x => x = jI r)) 0 0 (fun _ => False)
/-- reads the world alone -/
def MetR (l : Launch) (y : MethodName) (ws : List Cond) (rm : Room) (D : va_G) (cI : ClassId) (av : List Value) (w : va_W) (r : Int) : Prop := Met l y ws rm (xq_R D cI av w) (vp_Si (fun x => x = jI r)) 0 0 (fun _ => False)
def MetRl (l : Launch) (y : MethodName) (ws : List Cond) (rm : Room) (D : va_G) (cI : ClassId) (av : List Value) (w : va_W) (r : Int64) : Prop := Met l y ws rm (xq_R D cI av w) (vp_Sl (fun x => x = r)) 0 0 (fun _ => False)
def MetRd (l : Launch) (y : MethodName) (ws : List Cond) (rm : Room) (D : va_G) (cI : ClassId) (av : List Value) (w : va_W) (r : UInt64) : Prop := Met l y ws rm (xq_R D cI av w) (vp_Sd (fun x => x = r)) 0 0 (fun _ => False)
/-- writes the world, answers an int -/
def MetI (l : Launch) (y : MethodName) (ws : List Cond) (rm : Room) (D : va_G) (cI : ClassId) (av : List Value) (w w1 : va_W) (r : Int) : Prop := ∀ sz : Nat, Met l y ws rm (xq_W D cI av w sz) (va_Qi (fun x (_ : Unit) => x = jI r) (xq_B D cI (va_A w sz) w1) (va_A w sz)) 0 0 (va_A w sz)
/-- writes the world, answers nothing -/
def MetV (l : Launch) (y : MethodName) (ws : List Cond) (rm : Room) (D : va_G) (cI : ClassId) (av : List Value) (w w1 : va_W) : Prop := ∀ sz : Nat, Met l y ws rm (xq_W D cI av w sz) (va_Qv (fun (_ : Unit) => True) (xq_B D cI (va_A w sz) w1) (va_A w sz)) 0 0 (va_A w sz)
section XE
variable {l : Launch} {y : MethodName} {ws ws' : List Cond} {rm : Room} {D : va_G} {cI : ClassId} {av : List Value} {w w1 : va_W} {r : Int} {cc : ByteArray} {maxL : Nat} {ret : Option FieldType}
theorem xe_P (hy : plainName y.cls = true) (hw : ws = Cond.code y cc maxL ret :: ws') (hlen : (lg_sl av).length ≤ maxL)
    (body : ∀ (p : Program) (e : Env) (s : State) (m : MethodId) (below : List Frame) (meth : Method) (c : Code), p.tables.exec = Jvm.exec → c.code = cc → meth.sig.returnType = ret → c.maxLocals = maxL → (∀ z ∈ ws, z.before av.toArray s = true) → s.vm.findClass y.cls = some m.cls → meth.locks = false →
      ∀ ls : Array Slot, lv_has ls maxL (lv_args 0 av) → W p l e rm s m av.toArray below meth c s.heap [] 0 0 (MQ below (vp_Si (fun x => x = jI r)) av.toArray s 0 0 (fun _ => False)) (F0 m 0 ls [])) : MetP l y ws rm av r := by
  refine Met.ofW hy hw ?_
  intro p e s m args below meth c s₁ B hml hv
  obtain ⟨rfl, -⟩ := hv
  have hl := lv_entry av (n := maxL) hlen
  rw [lg_entry_eq]
  exact body p e s m below meth c B.exec B.bytes B.returns hml (atoms_spec (ws := ws) B.pre) (findClass_of_methodNamed B.named) B.notSynchronized _ hl
theorem xe_R (hy : plainName y.cls = true) (hw : ws = Cond.code y cc maxL ret :: ws') (hlen : (lg_sl av).length ≤ maxL)
    (body : ∀ (p : Program) (e : Env) (s : State) (m : MethodId) (below : List Frame) (meth : Method) (c : Code), p.tables.exec = Jvm.exec → c.code = cc → meth.sig.returnType = ret → c.maxLocals = maxL → (∀ z ∈ ws, z.before av.toArray s = true) → s.vm.findClass y.cls = some m.cls → meth.locks = false →
      va_P D vwCl w s.heap → va_K D vwCl [(cI, .int)] s → ∀ ls : Array Slot, lv_has ls maxL (lv_args 0 av) → W p l e rm s m av.toArray below meth c s.heap [] 0 0 (MQ below (vp_Si (fun x => x = jI r)) av.toArray s 0 0 (fun _ => False)) (F0 m 0 ls [])) : MetR l y ws rm D cI av w r := by
  refine Met.ofW hy hw ?_
  intro p e s m args below meth c s₁ B hml hv
  obtain ⟨rfl, hP, hK⟩ := hv
  have hl := lv_entry av (n := maxL) hlen
  rw [lg_entry_eq]
  exact body p e s m below meth c B.exec B.bytes B.returns hml (atoms_spec (ws := ws) B.pre) (findClass_of_methodNamed B.named) B.notSynchronized hP hK _ hl
theorem xe_Rl {r : Int64} (hy : plainName y.cls = true) (hw : ws = Cond.code y cc maxL ret :: ws') (hlen : (lg_sl av).length ≤ maxL)
    (body : ∀ (p : Program) (e : Env) (s : State) (m : MethodId) (below : List Frame) (meth : Method) (c : Code), p.tables.exec = Jvm.exec → c.code = cc → meth.sig.returnType = ret → c.maxLocals = maxL → (∀ z ∈ ws, z.before av.toArray s = true) → s.vm.findClass y.cls = some m.cls → meth.locks = false →
      va_P D vwCl w s.heap → va_K D vwCl [(cI, .int)] s → ∀ ls : Array Slot, lv_has ls maxL (lv_args 0 av) → W p l e rm s m av.toArray below meth c s.heap [] 0 0 (MQ below (vp_Sl (fun x => x = r)) av.toArray s 0 0 (fun _ => False)) (F0 m 0 ls [])) : MetRl l y ws rm D cI av w r := by
  refine Met.ofW hy hw ?_
  intro p e s m args below meth c s₁ B hml hv
  obtain ⟨rfl, hP, hK⟩ := hv
  have hl := lv_entry av (n := maxL) hlen
  rw [lg_entry_eq]
  exact body p e s m below meth c B.exec B.bytes B.returns hml (atoms_spec (ws := ws) B.pre) (findClass_of_methodNamed B.named) B.notSynchronized hP hK _ hl
theorem xe_Rd {r : UInt64} (hy : plainName y.cls = true) (hw : ws = Cond.code y cc maxL ret :: ws') (hlen : (lg_sl av).length ≤ maxL)
    (body : ∀ (p : Program) (e : Env) (s : State) (m : MethodId) (below : List Frame) (meth : Method) (c : Code), p.tables.exec = Jvm.exec → c.code = cc → meth.sig.returnType = ret → c.maxLocals = maxL → (∀ z ∈ ws, z.before av.toArray s = true) → s.vm.findClass y.cls = some m.cls → meth.locks = false →
      va_P D vwCl w s.heap → va_K D vwCl [(cI, .int)] s → ∀ ls : Array Slot, lv_has ls maxL (lv_args 0 av) → W p l e rm s m av.toArray below meth c s.heap [] 0 0 (MQ below (vp_Sd (fun x => x = r)) av.toArray s 0 0 (fun _ => False)) (F0 m 0 ls [])) : MetRd l y ws rm D cI av w r := by
  refine Met.ofW hy hw ?_
  intro p e s m args below meth c s₁ B hml hv
  obtain ⟨rfl, hP, hK⟩ := hv
  have hl := lv_entry av (n := maxL) hlen
  rw [lg_entry_eq]
  exact body p e s m below meth c B.exec B.bytes B.returns hml (atoms_spec (ws := ws) B.pre) (findClass_of_methodNamed B.named) B.notSynchronized hP hK _ hl
theorem xe_I (hy : plainName y.cls = true) (hw : ws = Cond.code y cc maxL ret :: ws') (hlen : (lg_sl av).length ≤ maxL)
    (body : ∀ (p : Program) (e : Env) (s : State) (m : MethodId) (below : List Frame) (meth : Method) (c : Code), p.tables.exec = Jvm.exec → c.code = cc → meth.sig.returnType = ret → c.maxLocals = maxL → (∀ z ∈ ws, z.before av.toArray s = true) → s.vm.findClass y.cls = some m.cls → meth.locks = false →
      va_P D vwCl w s.heap → va_K D vwCl [(cI, .int)] s → ∀ A : Nat → Prop, (∀ q, s.heap.size ≤ q → A q) → va_D A w → va_S A s.heap s.heap [] → ∀ ls : Array Slot, lv_has ls maxL (lv_args 0 av) →
      W p l e rm s m av.toArray below meth c s.heap [] 0 0 (MQ below (va_Qi (fun x (_ : Unit) => x = jI r) (xq_B D cI A w1) A) av.toArray s 0 0 A) (F0 m 0 ls [])) : MetI l y ws rm D cI av w w1 r := by
  intro sz
  refine Met.ofW hy hw ?_
  intro p e s m args below meth c s₁ B hml hv
  obtain ⟨rfl, hsz, hP, hK, hD0⟩ := hv
  subst hsz
  have hl := lv_entry av (n := maxL) hlen
  rw [lg_entry_eq]
  exact body p e s m below meth c B.exec B.bytes B.returns hml (atoms_spec (ws := ws) B.pre) (findClass_of_methodNamed B.named) B.notSynchronized hP hK (va_A w s.heap.size) (fun q h => Or.inr h) hD0.self va_S.rf _ hl
theorem xe_V (hy : plainName y.cls = true) (hw : ws = Cond.code y cc maxL ret :: ws') (hlen : (lg_sl av).length ≤ maxL)
    (body : ∀ (p : Program) (e : Env) (s : State) (m : MethodId) (below : List Frame) (meth : Method) (c : Code), p.tables.exec = Jvm.exec → c.code = cc → meth.sig.returnType = ret → c.maxLocals = maxL → (∀ z ∈ ws, z.before av.toArray s = true) → s.vm.findClass y.cls = some m.cls → meth.locks = false →
      va_P D vwCl w s.heap → va_K D vwCl [(cI, .int)] s → ∀ A : Nat → Prop, (∀ q, s.heap.size ≤ q → A q) → va_D A w → va_S A s.heap s.heap [] → ∀ ls : Array Slot, lv_has ls maxL (lv_args 0 av) →
      W p l e rm s m av.toArray below meth c s.heap [] 0 0 (MQ below (va_Qv (fun (_ : Unit) => True) (xq_B D cI A w1) A) av.toArray s 0 0 A) (F0 m 0 ls [])) : MetV l y ws rm D cI av w w1 := by
  intro sz
  refine Met.ofW hy hw ?_
  intro p e s m args below meth c s₁ B hml hv
  obtain ⟨rfl, hsz, hP, hK, hD0⟩ := hv
  subst hsz
  have hl := lv_entry av (n := maxL) hlen
  rw [lg_entry_eq]
  exact body p e s m below meth c B.exec B.bytes B.returns hml (atoms_spec (ws := ws) B.pre) (findClass_of_methodNamed B.named) B.notSynchronized hP hK (va_A w s.heap.size) (fun q h => Or.inr h) hD0.self va_S.rf _ hl
end XE
section XW
variable {p : Program} {l : Launch} {e : Env} {R : Room} {s : State} {m : MethodId} {args : Array Value} {below : List Frame} {meth : Method} {c : Code} {H : Heap} {locs : List Loc} {cells slots : Nat} {Q : State → Prop}
variable {cc : ByteArray} {pc : Nat} {ls : Array Slot} {rest st0 : List Value} {D : va_G} {cI : ClassId} {A : Nat → Prop} {w w1 w2 : va_W} {tys : List (ClassId × FieldType)}
variable {y : MethodName} {bytes : ByteArray} {maxL nL n index : Nat} {ret : Option FieldType} {ws : List Cond} {rm : Room} {Ts : List Cond} {own C : String} {b : Addr} {As : List Value}
/-- an array's place by its number -/
theorem x_iald (hexec : p.tables.exec = Jvm.exec) (hb : c.code = cc) (hK : va_K D vwCl tys s) (hP : va_P D vwCl w H) (q0 t0 : Nat) {a : Nat} {cA : ClassId} {N : Nat} {F : Nat → Int} (ha : w[q0]? = some (a, .inl (cA, N, .inl (jA F)))) (ht : tys[t0]? = some (cA, .int)) {i : Int} (j : Nat) (hi : i = (j : Int)) (hj : j < N) (hN : N < 2147483648) (hdg : decode cc pc = .ok (.iaload, 1))
    (kk : W p l e R s m args below meth c H locs cells slots Q (F0 m (pc + 1) ls (.int (jI (F j)) :: rest))) : W p l e R s m args below meth c H locs cells slots Q (F0 m pc ls (.int (jI i) :: .ref a :: rest)) := by
  subst hi
  rw [jI_nat]
  refine va_iald hexec hb hK hP q0 t0 ha ht (vp_in_nI hj (by omega)) hdg ?_
  rw [nI_clamp (by omega)]
  exact kk
theorem x_iast (hexec : p.tables.exec = Jvm.exec) (hb : c.code = cc) (hK : va_K D vwCl tys s) (hP : va_P D vwCl w H) (hD : va_D A w) {H0 : Heap} (hS : va_S A H0 H locs) (q0 t0 : Nat) {a : Nat} {cA : ClassId} {N : Nat} {F : Nat → Int} (ha : w[q0]? = some (a, .inl (cA, N, .inl (jA F)))) (ht : tys[t0]? = some (cA, .int)) {i x : Int} (j : Nat) (hi : i = (j : Int)) (hj : j < N) (hN : N < 2147483648) (hdg : decode cc pc = .ok (.iastore, 1))
    (hw : w.set q0 (a, .inl (cA, N, .inl (jA (upz F j x)))) = w1)
    (kk : ∀ (H1 : Heap) (locs1 : List Loc), va_P D vwCl w1 H1 → va_D A w1 → va_S A H0 H1 locs1 → W p l e R s m args below meth c H1 locs1 cells slots Q (F0 m (pc + 1) ls rest)) : W p l e R s m args below meth c H locs cells slots Q (F0 m pc ls (.int (jI x) :: .int (jI i) :: .ref a :: rest)) := by
  subst hi
  subst hw
  rw [jI_nat]
  refine va_iast hexec hb hK hP hD hS q0 t0 ha ht (vp_in_nI hj (by omega)) hdg ?_
  rw [nI_clamp (by omega), jA_up]
  exact kk
theorem x_copy (hexec : p.tables.exec = Jvm.exec) (hb : c.code = cc) (hml : c.maxLocals = ls.size) {own : String} {index : Nat} (hown : s.vm.findClass own = some m.cls) (hlink : (Cond.methodLink own index arraycopyName).before args s = true) (hnat : (Cond.native arraycopyName).before args s = true) (hstat : (Cond.static arraycopyName).before args s = true) (hini : (Cond.initialized "java/lang/System").before args s = true)
    (hK : va_K D vwCl tys s) (hP : va_P D vwCl w H) (hD : va_D A w) {H0 : Heap} (hS : va_S A H0 H locs) (q0 q1 t0 : Nat) {a0 a1 : Nat} {cA : ClassId} {n0 n1 : Nat} {F G : Nat → Int} (ha0 : w[q0]? = some (a0, .inl (cA, n0, .inl (jA F)))) (ha1 : w[q1]? = some (a1, .inl (cA, n1, .inl (jA G)))) (ht0 : tys[t0]? = some (cA, .int))
    (sp dp n : Nat) {spi dpi ni : Int} (e1 : spi = (sp : Int)) (e2 : dpi = (dp : Int)) (e3 : ni = (n : Int)) (hb1 : sp + n ≤ n0) (hb2 : dp + n ≤ n1 ∧ n0 < 2147483648 ∧ n1 < 2147483648)
    (hframes : 1 ≤ R.frames) (hlocals : (rest.map fun v => v.category).sum + (nativeFrameWords "java/lang/System" "arraycopy" 5 + 11) ≤ R.locals) (hdg : decode cc pc = .ok (.invokestatic index, 3))
    (hw : w.set q1 (a1, .inl (cA, n1, .inl (jA (va_cpy F G sp dp n)))) = w1)
    (kk : ∀ (H1 : Heap) (locs1 : List Loc), va_P D vwCl w1 H1 → va_D A w1 → va_S A H0 H1 locs1 → W p l e R s m args below meth c H1 locs1 cells slots Q (F0 m (pc + 3) ls rest)) : W p l e R s m args below meth c H locs cells slots Q (F0 m pc ls (.int (jI ni) :: .int (jI dpi) :: .ref a1 :: .int (jI spi) :: .ref a0 :: rest)) := by
  subst e1
  subst e2
  subst e3
  subst hw
  rw [jI_nat, jI_nat, jI_nat]
  refine va_copyi hexec hb hml hown hlink hnat hstat hini hK hP hD hS q0 q1 t0 t0 ha0 ha1 ht0 ht0 rfl (nI_pos (by omega)) (nI_pos (by omega)) (nI_pos (by omega)) (by rw [nI_clamp (by omega), nI_clamp (by omega)]; omega) (by rw [nI_clamp (by omega), nI_clamp (by omega)]; omega) (fun i _ => rfl) hframes hlocals hdg ?_
  rw [nI_clamp (by omega), nI_clamp (by omega), nI_clamp (by omega), jA_cpy]
  exact kk
/-- arithmetic -/
theorem x_iadd (hexec : p.tables.exec = Jvm.exec) (hb : c.code = cc) {x y : Int} (hdg : decode cc pc = .ok (.iadd, 1)) (k : W p l e R s m args below meth c H locs cells slots Q (F0 m (pc + 1) ls (.int (jI (x + y)) :: rest))) : W p l e R s m args below meth c H locs cells slots Q (F0 m pc ls (.int (jI y) :: .int (jI x) :: rest)) :=
  lv_iadd hexec hb hdg (by rw [jI_add]; exact k)
theorem x_isub (hexec : p.tables.exec = Jvm.exec) (hb : c.code = cc) {x y : Int} (hdg : decode cc pc = .ok (.isub, 1)) (k : W p l e R s m args below meth c H locs cells slots Q (F0 m (pc + 1) ls (.int (jI (x - y)) :: rest))) : W p l e R s m args below meth c H locs cells slots Q (F0 m pc ls (.int (jI y) :: .int (jI x) :: rest)) :=
  lv_isub hexec hb hdg (by rw [jI_sub]; exact k)
theorem x_imul (hexec : p.tables.exec = Jvm.exec) (hb : c.code = cc) {x y : Int} (hdg : decode cc pc = .ok (.imul, 1)) (k : W p l e R s m args below meth c H locs cells slots Q (F0 m (pc + 1) ls (.int (jI (x * y)) :: rest))) : W p l e R s m args below meth c H locs cells slots Q (F0 m pc ls (.int (jI y) :: .int (jI x) :: rest)) :=
  lv_imul hexec hb hdg (by rw [jI_mul]; exact k)
theorem x_idiv (hexec : p.tables.exec = Jvm.exec) (hb : c.code = cc) {x y : Int} (hdg : decode cc pc = .ok (.idiv, 1)) (h : (0 ≤ x ∧ x < 2147483648) ∧ 0 < y ∧ y < 2147483648) (k : W p l e R s m args below meth c H locs cells slots Q (F0 m (pc + 1) ls (.int (jI (x / y)) :: rest))) : W p l e R s m args below meth c H locs cells slots Q (F0 m pc ls (.int (jI y) :: .int (jI x) :: rest)) :=
  lv_idiv hexec hb hdg (jI_ne0 h.2.1 h.2.2) (by rw [jI_div h.1.1 h.1.2 h.2.1 h.2.2]; exact k)
theorem x_irem (hexec : p.tables.exec = Jvm.exec) (hb : c.code = cc) {x y : Int} (hdg : decode cc pc = .ok (.irem, 1)) (h : (0 ≤ x ∧ x < 2147483648) ∧ 0 < y ∧ y < 2147483648) (k : W p l e R s m args below meth c H locs cells slots Q (F0 m (pc + 1) ls (.int (jI (x % y)) :: rest))) : W p l e R s m args below meth c H locs cells slots Q (F0 m pc ls (.int (jI y) :: .int (jI x) :: rest)) :=
  lv_irem hexec hb hdg (jI_ne0 h.2.1 h.2.2) (by rw [jI_rem h.1.1 h.1.2 h.2.1 h.2.2]; exact k)
/-- branches -/
theorem x_if_eq (hexec : p.tables.exec = Jvm.exec) (hb : c.code = cc) {x : Int} {off : Int} {tgt : Nat} (hdg : decode cc pc = .ok (.ifCond .eq off, 3)) (ht : (pc : Int) + off = (tgt : Int)) (hr : -2147483648 ≤ x ∧ x < 2147483648)
    (kt : x = 0 → W p l e R s m args below meth c H locs cells slots Q (F0 m tgt ls rest)) (kf : ¬ x = 0 → W p l e R s m args below meth c H locs cells slots Q (F0 m (pc + 3) ls rest)) : W p l e R s m args below meth c H locs cells slots Q (F0 m pc ls (.int (jI x) :: rest)) :=
  lv_if_eq hexec hb hdg ht (fun h => kt ((jI_eq hr (by decide) : jI x = jI 0 ↔ x = 0).mp h)) (fun h => kf (fun q => h ((jI_eq hr (by decide) : jI x = jI 0 ↔ x = 0).mpr q)))
theorem x_if_ne (hexec : p.tables.exec = Jvm.exec) (hb : c.code = cc) {x : Int} {off : Int} {tgt : Nat} (hdg : decode cc pc = .ok (.ifCond .ne off, 3)) (ht : (pc : Int) + off = (tgt : Int)) (hr : -2147483648 ≤ x ∧ x < 2147483648)
    (kt : ¬ x = 0 → W p l e R s m args below meth c H locs cells slots Q (F0 m tgt ls rest)) (kf : x = 0 → W p l e R s m args below meth c H locs cells slots Q (F0 m (pc + 3) ls rest)) : W p l e R s m args below meth c H locs cells slots Q (F0 m pc ls (.int (jI x) :: rest)) :=
  lv_if_ne hexec hb hdg ht (fun h => kt (fun q => h ((jI_eq hr (by decide) : jI x = jI 0 ↔ x = 0).mpr q))) (fun h => kf ((jI_eq hr (by decide) : jI x = jI 0 ↔ x = 0).mp h))
theorem x_if_lt (hexec : p.tables.exec = Jvm.exec) (hb : c.code = cc) {x : Int} {off : Int} {tgt : Nat} (hdg : decode cc pc = .ok (.ifCond .lt off, 3)) (ht : (pc : Int) + off = (tgt : Int)) (hr : -2147483648 ≤ x ∧ x < 2147483648)
    (kt : x < 0 → W p l e R s m args below meth c H locs cells slots Q (F0 m tgt ls rest)) (kf : ¬ x < 0 → W p l e R s m args below meth c H locs cells slots Q (F0 m (pc + 3) ls rest)) : W p l e R s m args below meth c H locs cells slots Q (F0 m pc ls (.int (jI x) :: rest)) :=
  lv_if_lt hexec hb hdg ht (fun h => kt ((jI_lt hr (by decide) : jI x < jI 0 ↔ x < 0).mp h)) (fun h => kf (fun q => h ((jI_lt hr (by decide) : jI x < jI 0 ↔ x < 0).mpr q)))
theorem x_if_le (hexec : p.tables.exec = Jvm.exec) (hb : c.code = cc) {x : Int} {off : Int} {tgt : Nat} (hdg : decode cc pc = .ok (.ifCond .le off, 3)) (ht : (pc : Int) + off = (tgt : Int)) (hr : -2147483648 ≤ x ∧ x < 2147483648)
    (kt : x ≤ 0 → W p l e R s m args below meth c H locs cells slots Q (F0 m tgt ls rest)) (kf : ¬ x ≤ 0 → W p l e R s m args below meth c H locs cells slots Q (F0 m (pc + 3) ls rest)) : W p l e R s m args below meth c H locs cells slots Q (F0 m pc ls (.int (jI x) :: rest)) :=
  lv_if_le hexec hb hdg ht (fun h => kt ((jI_le hr (by decide) : jI x ≤ jI 0 ↔ x ≤ 0).mp h)) (fun h => kf (fun q => h ((jI_le hr (by decide) : jI x ≤ jI 0 ↔ x ≤ 0).mpr q)))
theorem x_if_gt (hexec : p.tables.exec = Jvm.exec) (hb : c.code = cc) {x : Int} {off : Int} {tgt : Nat} (hdg : decode cc pc = .ok (.ifCond .gt off, 3)) (ht : (pc : Int) + off = (tgt : Int)) (hr : -2147483648 ≤ x ∧ x < 2147483648)
    (kt : 0 < x → W p l e R s m args below meth c H locs cells slots Q (F0 m tgt ls rest)) (kf : ¬ 0 < x → W p l e R s m args below meth c H locs cells slots Q (F0 m (pc + 3) ls rest)) : W p l e R s m args below meth c H locs cells slots Q (F0 m pc ls (.int (jI x) :: rest)) :=
  lv_if_gt hexec hb hdg ht (fun h => kt ((jI_lt (by decide) hr : jI 0 < jI x ↔ 0 < x).mp h)) (fun h => kf (fun q => h ((jI_lt (by decide) hr : jI 0 < jI x ↔ 0 < x).mpr q)))
theorem x_if_ge (hexec : p.tables.exec = Jvm.exec) (hb : c.code = cc) {x : Int} {off : Int} {tgt : Nat} (hdg : decode cc pc = .ok (.ifCond .ge off, 3)) (ht : (pc : Int) + off = (tgt : Int)) (hr : -2147483648 ≤ x ∧ x < 2147483648)
    (kt : 0 ≤ x → W p l e R s m args below meth c H locs cells slots Q (F0 m tgt ls rest)) (kf : ¬ 0 ≤ x → W p l e R s m args below meth c H locs cells slots Q (F0 m (pc + 3) ls rest)) : W p l e R s m args below meth c H locs cells slots Q (F0 m pc ls (.int (jI x) :: rest)) :=
  lv_if_ge hexec hb hdg ht (fun h => kt ((jI_le (by decide) hr : jI 0 ≤ jI x ↔ 0 ≤ x).mp h)) (fun h => kf (fun q => h ((jI_le (by decide) hr : jI 0 ≤ jI x ↔ 0 ≤ x).mpr q)))
theorem x_icmp_eq (hexec : p.tables.exec = Jvm.exec) (hb : c.code = cc) {x y : Int} {off : Int} {tgt : Nat} (hdg : decode cc pc = .ok (.if_icmp .eq off, 3)) (ht : (pc : Int) + off = (tgt : Int)) (hr : (-2147483648 ≤ x ∧ x < 2147483648) ∧ -2147483648 ≤ y ∧ y < 2147483648)
    (kt : x = y → W p l e R s m args below meth c H locs cells slots Q (F0 m tgt ls rest)) (kf : ¬ x = y → W p l e R s m args below meth c H locs cells slots Q (F0 m (pc + 3) ls rest)) : W p l e R s m args below meth c H locs cells slots Q (F0 m pc ls (.int (jI y) :: .int (jI x) :: rest)) :=
  lv_icmp_eq hexec hb hdg ht (fun h => kt ((jI_eq hr.1 hr.2 : jI x = jI y ↔ x = y).mp h)) (fun h => kf (fun q => h ((jI_eq hr.1 hr.2 : jI x = jI y ↔ x = y).mpr q)))
theorem x_icmp_ne (hexec : p.tables.exec = Jvm.exec) (hb : c.code = cc) {x y : Int} {off : Int} {tgt : Nat} (hdg : decode cc pc = .ok (.if_icmp .ne off, 3)) (ht : (pc : Int) + off = (tgt : Int)) (hr : (-2147483648 ≤ x ∧ x < 2147483648) ∧ -2147483648 ≤ y ∧ y < 2147483648)
    (kt : ¬ x = y → W p l e R s m args below meth c H locs cells slots Q (F0 m tgt ls rest)) (kf : x = y → W p l e R s m args below meth c H locs cells slots Q (F0 m (pc + 3) ls rest)) : W p l e R s m args below meth c H locs cells slots Q (F0 m pc ls (.int (jI y) :: .int (jI x) :: rest)) :=
  lv_icmp_ne hexec hb hdg ht (fun h => kt (fun q => h ((jI_eq hr.1 hr.2 : jI x = jI y ↔ x = y).mpr q))) (fun h => kf ((jI_eq hr.1 hr.2 : jI x = jI y ↔ x = y).mp h))
theorem x_icmp_lt (hexec : p.tables.exec = Jvm.exec) (hb : c.code = cc) {x y : Int} {off : Int} {tgt : Nat} (hdg : decode cc pc = .ok (.if_icmp .lt off, 3)) (ht : (pc : Int) + off = (tgt : Int)) (hr : (-2147483648 ≤ x ∧ x < 2147483648) ∧ -2147483648 ≤ y ∧ y < 2147483648)
    (kt : x < y → W p l e R s m args below meth c H locs cells slots Q (F0 m tgt ls rest)) (kf : ¬ x < y → W p l e R s m args below meth c H locs cells slots Q (F0 m (pc + 3) ls rest)) : W p l e R s m args below meth c H locs cells slots Q (F0 m pc ls (.int (jI y) :: .int (jI x) :: rest)) :=
  lv_icmp_lt hexec hb hdg ht (fun h => kt ((jI_lt hr.1 hr.2 : jI x < jI y ↔ x < y).mp h)) (fun h => kf (fun q => h ((jI_lt hr.1 hr.2 : jI x < jI y ↔ x < y).mpr q)))
theorem x_icmp_le (hexec : p.tables.exec = Jvm.exec) (hb : c.code = cc) {x y : Int} {off : Int} {tgt : Nat} (hdg : decode cc pc = .ok (.if_icmp .le off, 3)) (ht : (pc : Int) + off = (tgt : Int)) (hr : (-2147483648 ≤ x ∧ x < 2147483648) ∧ -2147483648 ≤ y ∧ y < 2147483648)
    (kt : x ≤ y → W p l e R s m args below meth c H locs cells slots Q (F0 m tgt ls rest)) (kf : ¬ x ≤ y → W p l e R s m args below meth c H locs cells slots Q (F0 m (pc + 3) ls rest)) : W p l e R s m args below meth c H locs cells slots Q (F0 m pc ls (.int (jI y) :: .int (jI x) :: rest)) :=
  lv_icmp_le hexec hb hdg ht (fun h => kt ((jI_le hr.1 hr.2 : jI x ≤ jI y ↔ x ≤ y).mp h)) (fun h => kf (fun q => h ((jI_le hr.1 hr.2 : jI x ≤ jI y ↔ x ≤ y).mpr q)))
theorem x_icmp_gt (hexec : p.tables.exec = Jvm.exec) (hb : c.code = cc) {x y : Int} {off : Int} {tgt : Nat} (hdg : decode cc pc = .ok (.if_icmp .gt off, 3)) (ht : (pc : Int) + off = (tgt : Int)) (hr : (-2147483648 ≤ x ∧ x < 2147483648) ∧ -2147483648 ≤ y ∧ y < 2147483648)
    (kt : y < x → W p l e R s m args below meth c H locs cells slots Q (F0 m tgt ls rest)) (kf : ¬ y < x → W p l e R s m args below meth c H locs cells slots Q (F0 m (pc + 3) ls rest)) : W p l e R s m args below meth c H locs cells slots Q (F0 m pc ls (.int (jI y) :: .int (jI x) :: rest)) :=
  lv_icmp_gt hexec hb hdg ht (fun h => kt ((jI_lt hr.2 hr.1 : jI y < jI x ↔ y < x).mp h)) (fun h => kf (fun q => h ((jI_lt hr.2 hr.1 : jI y < jI x ↔ y < x).mpr q)))
theorem x_icmp_ge (hexec : p.tables.exec = Jvm.exec) (hb : c.code = cc) {x y : Int} {off : Int} {tgt : Nat} (hdg : decode cc pc = .ok (.if_icmp .ge off, 3)) (ht : (pc : Int) + off = (tgt : Int)) (hr : (-2147483648 ≤ x ∧ x < 2147483648) ∧ -2147483648 ≤ y ∧ y < 2147483648)
    (kt : y ≤ x → W p l e R s m args below meth c H locs cells slots Q (F0 m tgt ls rest)) (kf : ¬ y ≤ x → W p l e R s m args below meth c H locs cells slots Q (F0 m (pc + 3) ls rest)) : W p l e R s m args below meth c H locs cells slots Q (F0 m pc ls (.int (jI y) :: .int (jI x) :: rest)) :=
  lv_icmp_ge hexec hb hdg ht (fun h => kt ((jI_le hr.2 hr.1 : jI y ≤ jI x ↔ y ≤ x).mp h)) (fun h => kf (fun q => h ((jI_le hr.2 hr.1 : jI y ≤ jI x ↔ y ≤ x).mpr q)))
theorem x_mmax (hexec : p.tables.exec = Jvm.exec) (hb : c.code = cc) (hml : c.maxLocals = ls.size) {own : String} {index : Nat} (hown : s.vm.findClass own = some m.cls) (hlink : (Cond.methodLink own index Lib.Math.max.name).before args s = true) (hstat : (Cond.static Lib.Math.max.name).before args s = true) (hini : (Cond.initialized "java/lang/Math").before args s = true) (hcode : (Cond.code Lib.Math.max.name Lib.Math.max.code 2 (some .int)).before args s = true)
    (hframes : 1 ≤ R.frames) (hlocals : (rest.map fun v => v.category).sum + 13 ≤ R.locals) (hc : cells ≤ R.cells) (hs : slots ≤ R.slots) {x y : Int} (hdg : decode cc pc = .ok (.invokestatic index, 3)) (hr : (-2147483648 ≤ x ∧ x < 2147483648) ∧ -2147483648 ≤ y ∧ y < 2147483648)
    (kk : W p l e R s m args below meth c H locs cells slots Q (F0 m (pc + 3) ls (.int (jI (if x < y then y else x)) :: rest))) : W p l e R s m args below meth c H locs cells slots Q (F0 m pc ls (.int (jI y) :: .int (jI x) :: rest)) := by
  refine va_mmax hexec hb hml hown hlink hstat hini hcode hframes hlocals hc hs hdg ?_
  by_cases h : x < y
  · rw [if_pos h] at kk
    rw [if_pos ((jI_lt hr.1 hr.2).mpr h)]
    exact kk
  · rw [if_neg h] at kk
    rw [if_neg (fun q => h ((jI_lt hr.1 hr.2).mp q))]
    exact kk
/-- the ends -/
theorem xr_i {v r : Int} (hx : p.tables.exec = Jvm.exec) (hb : c.code = cc) (hr : meth.sig.returnType = some .int) (hlocks : meth.locks = false) (h : v = r) (hdg : decode cc pc = .ok (.ireturn, 1)) : W p l e R s m args below meth c s.heap [] cells slots (MQ below (vp_Si (fun x => x = jI r)) args s cells slots (fun _ => False)) (F0 m pc ls [.int (jI v)]) :=
  W.iret hx hb hr (fun t ht hW => ⟨_, rfl, congrArg jI h, ht⟩) (fun q h => absurd h List.not_mem_nil) hdg hlocks
theorem xr_z {v r : Int} (hx : p.tables.exec = Jvm.exec) (hb : c.code = cc) (hr : meth.sig.returnType = some .boolean) (hlocks : meth.locks = false) (hn : v = 0 ∨ v = 1) (h : v = r) (hdg : decode cc pc = .ok (.ireturn, 1)) : W p l e R s m args below meth c s.heap [] cells slots (MQ below (vp_Si (fun x => x = jI r)) args s cells slots (fun _ => False)) (F0 m pc ls [.int (jI v)]) :=
  W.zret hx hb hr (by rcases hn with rfl | rfl <;> rfl) (fun t ht hW => ⟨_, rfl, congrArg jI h, ht⟩) (fun q h => absurd h List.not_mem_nil) hdg hlocks
theorem xr_l {v r : Int64} (hx : p.tables.exec = Jvm.exec) (hb : c.code = cc) (hr : meth.sig.returnType = some .long) (hlocks : meth.locks = false) (h : v = r) (hdg : decode cc pc = .ok (.lreturn, 1)) : W p l e R s m args below meth c s.heap [] cells slots (MQ below (vp_Sl (fun x => x = r)) args s cells slots (fun _ => False)) (F0 m pc ls [.long v]) :=
  W.lret hx hb hr (fun t ht hW => ⟨v, rfl, h, ht⟩) (fun q h => absurd h List.not_mem_nil) hdg hlocks
theorem xr_d {v r : UInt64} (hx : p.tables.exec = Jvm.exec) (hb : c.code = cc) (hr : meth.sig.returnType = some .double) (hlocks : meth.locks = false) (h : v = r) (hdg : decode cc pc = .ok (.dreturn, 1)) : W p l e R s m args below meth c s.heap [] cells slots (MQ below (vp_Sd (fun x => x = r)) args s cells slots (fun _ => False)) (F0 m pc ls [.double v]) :=
  W.dret hx hb hr (fun t ht hW => ⟨v, rfl, h, ht⟩) (fun q h => absurd h List.not_mem_nil) hdg hlocks
theorem xi_i {v r : Int} (hx : p.tables.exec = Jvm.exec) (hb : c.code = cc) (hr : meth.sig.returnType = some .int) (hlocks : meth.locks = false) (hK : va_K D vwCl [(cI, .int)] s) (hP : va_P D vwCl w H) (hD : va_D A w) (hS : va_S A s.heap H locs) (h : v = r) (hw : w = w1) (hdg : decode cc pc = .ok (.ireturn, 1)) : W p l e R s m args below meth c H locs cells slots (MQ below (va_Qi (fun x (_ : Unit) => x = jI r) (xq_B D cI A w1) A) args s cells slots A) (F0 m pc ls [.int (jI v)]) := by
  subst hw
  exact W.iret hx hb hr (fun t ht hW => ⟨⟨_, (), rfl, congrArg jI h, by rw [ht]; exact hP, va_K.moved hW.alike hK, hD⟩, hS.F ht⟩) hS.2.2 hdg hlocks
theorem xi_z {v r : Int} (hx : p.tables.exec = Jvm.exec) (hb : c.code = cc) (hr : meth.sig.returnType = some .boolean) (hlocks : meth.locks = false) (hn : v = 0 ∨ v = 1) (hK : va_K D vwCl [(cI, .int)] s) (hP : va_P D vwCl w H) (hD : va_D A w) (hS : va_S A s.heap H locs) (h : v = r) (hw : w = w1) (hdg : decode cc pc = .ok (.ireturn, 1)) : W p l e R s m args below meth c H locs cells slots (MQ below (va_Qi (fun x (_ : Unit) => x = jI r) (xq_B D cI A w1) A) args s cells slots A) (F0 m pc ls [.int (jI v)]) := by
  subst hw
  exact W.zret hx hb hr (by rcases hn with rfl | rfl <;> rfl) (fun t ht hW => ⟨⟨_, (), rfl, congrArg jI h, by rw [ht]; exact hP, va_K.moved hW.alike hK, hD⟩, hS.F ht⟩) hS.2.2 hdg hlocks
theorem xi_v (hx : p.tables.exec = Jvm.exec) (hb : c.code = cc) (hr : meth.sig.returnType = none) (hlocks : meth.locks = false) (hK : va_K D vwCl [(cI, .int)] s) (hP : va_P D vwCl w H) (hD : va_D A w) (hS : va_S A s.heap H locs) (hw : w = w1) (hdg : decode cc pc = .ok (.return_, 1)) : W p l e R s m args below meth c H locs cells slots (MQ below (va_Qv (fun (_ : Unit) => True) (xq_B D cI A w1) A) args s cells slots A) (F0 m pc ls []) := by
  subst hw
  exact W.vret hx hb hr (fun t ht hW => ⟨⟨(), rfl, trivial, by rw [ht]; exact hP, va_K.moved hW.alike hK, hD⟩, hS.F ht⟩) hS.2.2 hdg hlocks
/-- the calls -/
theorem xc_P {r : Int} (S : CallFix p m c cc nL s args Ts own) (hM : MetP l y ws rm As r) (cw : CallB R s args own index y bytes maxL ret ws rm 0 0 n ∧ (Cond.static y).before args s = true) (hn : As.length = n) (hl : ls.size = nL) (hst : st0 = As.reverse ++ rest) (hsum : (rest.map fun v => v.category).sum ≤ 8) (hdg : decode cc pc = .ok (.invokestatic index, 3)) (hf : cells ≤ R.cells ∧ slots ≤ R.slots)
    (kk : W p l e R s m args below meth c H locs cells slots Q (F0 m (pc + 3) ls (.int (jI r) :: rest))) : W p l e R s m args below meth c H locs cells slots Q (F0 m pc ls st0) :=
  vp_callSi (va_runS (As := As) (rest := rest) S hM cw ⟨fun a U g mk q => q, fun U hU hW => ⟨rfl, trivial⟩⟩ rfl hn hl hst (lv_room hsum) hdg hf).run (fun x hx => by rw [hx]; exact kk)
theorem xc_R {r : Int} (S : CallFix p m c cc nL s args Ts own) (hM : MetR l y ws rm D cI (.ref b :: As) w r) (cw : CallW R s args own C index y bytes maxL ret ws rm 0 0 n) (hP : va_P D vwCl w H) (hK : va_K D vwCl [(cI, .int)] s) (q0 : Nat) {ci : Nat} {fs : List Value} {q : vw_C} (he : w[q0]? = some (b, .inr (ci, fs))) (hc : vwCl[ci]? = some q) (hC : q.1 = C) (hn : As.length = n) (hl : ls.size = nL) (hst : st0 = As.reverse ++ .ref b :: rest) (hsum : (rest.map fun v => v.category).sum ≤ 8) (hdg : decode cc pc = .ok (.invokevirtual index, 3)) (hf : cells ≤ R.cells ∧ slots ≤ R.slots)
    (kk : W p l e R s m args below meth c H locs cells slots Q (F0 m (pc + 3) ls (.int (jI r) :: rest))) : W p l e R s m args below meth c H locs cells slots Q (F0 m pc ls st0) := by
  subst hC
  exact vp_callSi (va_runV (As := As) (rest := rest) S hM cw ⟨xq_Rbl, va_recv hK hP hc he, fun U hU hW => ⟨rfl, by rw [hU]; exact hP, va_K.moved hW.alike hK⟩⟩ rfl hn hl hst (lv_room hsum) hdg hf).run (fun x hx => by rw [hx]; exact kk)
theorem xc_Rl {r : Int64} (S : CallFix p m c cc nL s args Ts own) (hM : MetRl l y ws rm D cI (.ref b :: As) w r) (cw : CallW R s args own C index y bytes maxL ret ws rm 0 0 n) (hP : va_P D vwCl w H) (hK : va_K D vwCl [(cI, .int)] s) (q0 : Nat) {ci : Nat} {fs : List Value} {q : vw_C} (he : w[q0]? = some (b, .inr (ci, fs))) (hc : vwCl[ci]? = some q) (hC : q.1 = C) (hn : As.length = n) (hl : ls.size = nL) (hst : st0 = As.reverse ++ .ref b :: rest) (hsum : (rest.map fun v => v.category).sum ≤ 8) (hdg : decode cc pc = .ok (.invokevirtual index, 3)) (hf : cells ≤ R.cells ∧ slots ≤ R.slots)
    (kk : W p l e R s m args below meth c H locs cells slots Q (F0 m (pc + 3) ls (.long r :: rest))) : W p l e R s m args below meth c H locs cells slots Q (F0 m pc ls st0) := by
  subst hC
  exact vp_callSl (va_runV (As := As) (rest := rest) S hM cw ⟨xq_Rbl, va_recv hK hP hc he, fun U hU hW => ⟨rfl, by rw [hU]; exact hP, va_K.moved hW.alike hK⟩⟩ rfl hn hl hst (lv_room hsum) hdg hf).run (fun x hx => by rw [hx]; exact kk)
theorem xc_Rd {r : UInt64} (S : CallFix p m c cc nL s args Ts own) (hM : MetRd l y ws rm D cI (.ref b :: As) w r) (cw : CallW R s args own C index y bytes maxL ret ws rm 0 0 n) (hP : va_P D vwCl w H) (hK : va_K D vwCl [(cI, .int)] s) (q0 : Nat) {ci : Nat} {fs : List Value} {q : vw_C} (he : w[q0]? = some (b, .inr (ci, fs))) (hc : vwCl[ci]? = some q) (hC : q.1 = C) (hn : As.length = n) (hl : ls.size = nL) (hst : st0 = As.reverse ++ .ref b :: rest) (hsum : (rest.map fun v => v.category).sum ≤ 8) (hdg : decode cc pc = .ok (.invokevirtual index, 3)) (hf : cells ≤ R.cells ∧ slots ≤ R.slots)
    (kk : W p l e R s m args below meth c H locs cells slots Q (F0 m (pc + 3) ls (.double r :: rest))) : W p l e R s m args below meth c H locs cells slots Q (F0 m pc ls st0) := by
  subst hC
  exact vp_callSd (va_runV (As := As) (rest := rest) S hM cw ⟨xq_Rbl, va_recv hK hP hc he, fun U hU hW => ⟨rfl, by rw [hU]; exact hP, va_K.moved hW.alike hK⟩⟩ rfl hn hl hst (lv_room hsum) hdg hf).run (fun x hx => by rw [hx]; exact kk)
/-- a callee that has the caller's world as its own -/
theorem xc_I {r : Int} (S : CallFix p m c cc nL s args Ts own) (hM : MetI l y ws rm D cI (.ref b :: As) w w1 r) (cw : CallW R s args own C index y bytes maxL ret ws rm 0 0 n) (hP : va_P D vwCl w H) (hD : va_D A w) {H0 : Heap} (hS : va_S A H0 H locs) (hA : ∀ q, H0.size ≤ q → A q) (hK : va_K D vwCl [(cI, .int)] s) (q0 : Nat) {ci : Nat} {fs : List Value} {q : vw_C} (he : w[q0]? = some (b, .inr (ci, fs))) (hc : vwCl[ci]? = some q) (hC : q.1 = C) (hn : As.length = n) (hl : ls.size = nL) (hst : st0 = As.reverse ++ .ref b :: rest) (hsum : (rest.map fun v => v.category).sum ≤ 8) (hdg : decode cc pc = .ok (.invokevirtual index, 3)) (hf : cells ≤ R.cells ∧ slots ≤ R.slots)
    (kk : ∀ (H1 : Heap) (locs1 : List Loc), va_P D vwCl w1 H1 → va_D A w1 → va_S A H0 H1 locs1 → W p l e R s m args below meth c H1 locs1 cells slots Q (F0 m (pc + 3) ls (.int (jI r) :: rest))) : W p l e R s m args below meth c H locs cells slots Q (F0 m pc ls st0) := by
  subst hC
  have hF : ∀ q, va_A w H.size q → A q := fun q h => by
    rcases h with ⟨k, e, h⟩ | h
    · exact hD.2 k (q, e) h
    · exact hA q (Nat.le_trans hS.1 h)
  refine va_calli (va_runV (As := As) (rest := rest) S (hM H.size) cw ⟨xq_Wbl, va_recv hK hP hc he, fun U hU hW => ⟨rfl, by rw [hU], by rw [hU]; exact hP, va_K.moved hW.alike hK, hD.weaken (fun _ _ _ _ => trivial)⟩⟩ rfl hn hl hst (lv_room hsum) hdg hf) hS (fun q _ h => hF q h) hF (fun x u t H1 locs1 ht hvm hw hB hz1 hk1 hS1 => ?_)
  obtain ⟨hP1, -, hD1⟩ := hB
  rw [ht] at hP1
  rw [hw]
  exact kk H1 locs1 hP1 (hD1.weaken (fun _ q _ h => hF q.1 h)) hS1
theorem xc_V (S : CallFix p m c cc nL s args Ts own) (hM : MetV l y ws rm D cI (.ref b :: As) w w1) (cw : CallW R s args own C index y bytes maxL ret ws rm 0 0 n) (hP : va_P D vwCl w H) (hD : va_D A w) {H0 : Heap} (hS : va_S A H0 H locs) (hA : ∀ q, H0.size ≤ q → A q) (hK : va_K D vwCl [(cI, .int)] s) (q0 : Nat) {ci : Nat} {fs : List Value} {q : vw_C} (he : w[q0]? = some (b, .inr (ci, fs))) (hc : vwCl[ci]? = some q) (hC : q.1 = C) (hn : As.length = n) (hl : ls.size = nL) (hst : st0 = As.reverse ++ .ref b :: rest) (hsum : (rest.map fun v => v.category).sum ≤ 8) (hdg : decode cc pc = .ok (.invokevirtual index, 3)) (hf : cells ≤ R.cells ∧ slots ≤ R.slots)
    (kk : ∀ (H1 : Heap) (locs1 : List Loc), va_P D vwCl w1 H1 → va_D A w1 → va_S A H0 H1 locs1 → W p l e R s m args below meth c H1 locs1 cells slots Q (F0 m (pc + 3) ls rest)) : W p l e R s m args below meth c H locs cells slots Q (F0 m pc ls st0) := by
  subst hC
  have hF : ∀ q, va_A w H.size q → A q := fun q h => by
    rcases h with ⟨k, e, h⟩ | h
    · exact hD.2 k (q, e) h
    · exact hA q (Nat.le_trans hS.1 h)
  refine va_callv (va_runV (As := As) (rest := rest) S (hM H.size) cw ⟨xq_Wbl, va_recv hK hP hc he, fun U hU hW => ⟨rfl, by rw [hU], by rw [hU]; exact hP, va_K.moved hW.alike hK, hD.weaken (fun _ _ _ _ => trivial)⟩⟩ rfl hn hl hst (lv_room hsum) hdg hf) hS (fun q _ h => hF q h) hF (fun u t H1 locs1 ht hvm hw hB hz1 hk1 hS1 => ?_)
  obtain ⟨hP1, -, hD1⟩ := hB
  rw [ht] at hP1
  exact kk H1 locs1 hP1 (hD1.weaken (fun _ q _ h => hF q.1 h)) hS1
end XW
/-- the cells of the system: object, now, saved, buffer, windings, their three rows -/
abbrev w1 (cI : ClassId) (a : Nat → Nat) (f g : Nat → Int) (n : Int) (b : Nat → Int) (len : Int) (kd sg nb : Nat → Int) (pt : Int) : va_W :=
  [(a 0, .inr (1, [.ref (a 1), .ref (a 2), .int (jI n), .ref (a 3), .int (jI len), .ref (a 4)])), (a 1, .inl (cI, 33, .inl (jA f))), (a 2, .inl (cI, 198, .inl (jA g))), (a 3, .inl (cI, 60, .inl (jA b))),
   (a 4, .inr (0, [.ref (a 5), .ref (a 6), .ref (a 7), .int (jI pt)])), (a 5, .inl (cI, 3, .inl (jA kd))), (a 6, .inl (cI, 3, .inl (jA sg))), (a 7, .inl (cI, 3, .inl (jA nb)))]
/-- the cells of the reference: object, now, past, text, sorts, many -/
abbrev w2 (cI : ClassId) (a : Nat → Nat) (f g : Nat → Int) (n : Int) (b : Nat → Int) (len th at_ fl va : Int) (so ma : Nat → Int) : va_W :=
  [(a 0, .inr (2, [.ref (a 1), .ref (a 2), .int (jI n), .ref (a 3), .int (jI len), .int (jI th), .int (jI at_), .int (jI fl), .int (jI va), .ref (a 4), .ref (a 5)])), (a 1, .inl (cI, 33, .inl (jA f))), (a 2, .inl (cI, 198, .inl (jA g))), (a 3, .inl (cI, 60, .inl (jA b))), (a 4, .inl (cI, 3, .inl (jA so))), (a 5, .inl (cI, 3, .inl (jA ma)))]
end
section
/-- what a movement's places hold -/
def mvs (f : Nat → Int) : Prop := ∀ j : Nat, j < 3 → (0 ≤ f (21 + j * 4 + 0) ∧ f (21 + j * 4 + 0) ≤ 200) ∧ (f (21 + j * 4 + 1) = 0 ∨ f (21 + j * 4 + 1) = 1) ∧ (0 ≤ f (21 + j * 4 + 2) ∧ f (21 + j * 4 + 2) ≤ 20) ∧ 0 ≤ f (21 + j * 4 + 3) ∧ f (21 + j * 4 + 3) ≤ 99999
theorem rem_rng {x y : Int} (hy : 0 < y) (hy2 : y < 2147483648) : -2147483648 ≤ x % y ∧ x % y < 2147483648 := by
  have q0 := Int.emod_nonneg x (show y ≠ 0 by omega)
  have q1 := Int.emod_lt_of_pos x hy
  omega
def s_X1_isDay (x0 : Int) : Int := if x0 < 0 then 0 else (if 7 ≤ x0 then 0 else 1)
theorem b_X1_isDay (x0 : Int) : (s_X1_isDay x0) = 0 ∨ (s_X1_isDay x0) = 1 := by unfold s_X1_isDay; (repeat' split) <;> first | exact Or.inl rfl | exact Or.inr rfl
abbrev rm_X1_isDay : Room := { frames := 0, cells := 0, slots := 0, locals := 0 }
set_option maxHeartbeats 4000000 in
set_option maxRecDepth 100000 in
theorem m_X1_isDay (l : Launch) (x0 : Int) (hx0 : -2147483648 ≤ x0 ∧ x0 < 2147483648) : MetP l yX1_isDay wsX1_isDay rm_X1_isDay [.int (jI x0)] (s_X1_isDay x0) := by
  refine xe_P (cc := cX1_isDay) (maxL := 1) (ret := (some .boolean)) (by decide) rfl (Nat.le_of_ble_eq_true rfl) ?_
  intro p e s m below meth c hx hb hr hml hts hown hlocks ls hl
  have hl : lv_has ls 1 [(0, .int (jI x0))] := hl
  have hown : s.vm.findClass RX1 = some m.cls := hown
  have hSx : CallFix p m c cX1_isDay 1 s ([.int (jI x0)] : List Value).toArray wsX1_isDay RX1 := ⟨hx, hb, hml, hown, hts⟩
  obtain ⟨z, hz⟩ : ∃ z, z = (s_X1_isDay x0) := ⟨_, rfl⟩
  rw [← hz]
  unfold s_X1_isDay at hz
  refine lv_iload_n hx hb dX1_isDay_0 rfl (lv_at hl 0 rfl) ?_
  refine x_if_lt (tgt := 14) hx hb dX1_isDay_1 (by decide) (by omega) (fun c1 => ?_) (fun c1 => ?_)
  · rw [if_pos c1] at hz
    refine lv_iconst (v := jI 0) hx hb dX1_isDay_14 rfl ?_
    subst hz
    exact xr_z hx hb hr hlocks (Or.inl rfl) rfl dX1_isDay_15
  · rw [if_neg c1] at hz
    refine lv_iload_n hx hb dX1_isDay_4 rfl (lv_at hl 0 rfl) ?_
    refine lv_bipush (v := jI 7) hx hb dX1_isDay_5 (by decide) ?_
    refine x_icmp_ge (tgt := 14) hx hb dX1_isDay_7 (by decide) ⟨(by omega), (by decide)⟩ (fun c7 => ?_) (fun c7 => ?_)
    · rw [if_pos c7] at hz
      refine lv_iconst (v := jI 0) hx hb dX1_isDay_14 rfl ?_
      subst hz
      exact xr_z hx hb hr hlocks (Or.inl rfl) rfl dX1_isDay_15
    · rw [if_neg c7] at hz
      refine lv_iconst (v := jI 1) hx hb dX1_isDay_10 rfl ?_
      refine lv_goto (tgt := 15) hx hb dX1_isDay_11 (by decide) ?_
      subst hz
      exact xr_z hx hb hr hlocks (Or.inr rfl) rfl dX1_isDay_15
def s_X1_isSetting (x0 : Int) : Int := if x0 < 0 then 0 else (if 3 ≤ x0 then 0 else 1)
theorem b_X1_isSetting (x0 : Int) : (s_X1_isSetting x0) = 0 ∨ (s_X1_isSetting x0) = 1 := by unfold s_X1_isSetting; (repeat' split) <;> first | exact Or.inl rfl | exact Or.inr rfl
abbrev rm_X1_isSetting : Room := { frames := 0, cells := 0, slots := 0, locals := 0 }
set_option maxHeartbeats 4000000 in
set_option maxRecDepth 100000 in
theorem m_X1_isSetting (l : Launch) (x0 : Int) (hx0 : -2147483648 ≤ x0 ∧ x0 < 2147483648) : MetP l yX1_isSetting wsX1_isSetting rm_X1_isSetting [.int (jI x0)] (s_X1_isSetting x0) := by
  refine xe_P (cc := cX1_isSetting) (maxL := 1) (ret := (some .boolean)) (by decide) rfl (Nat.le_of_ble_eq_true rfl) ?_
  intro p e s m below meth c hx hb hr hml hts hown hlocks ls hl
  have hl : lv_has ls 1 [(0, .int (jI x0))] := hl
  have hown : s.vm.findClass RX1 = some m.cls := hown
  have hSx : CallFix p m c cX1_isSetting 1 s ([.int (jI x0)] : List Value).toArray wsX1_isSetting RX1 := ⟨hx, hb, hml, hown, hts⟩
  obtain ⟨z, hz⟩ : ∃ z, z = (s_X1_isSetting x0) := ⟨_, rfl⟩
  rw [← hz]
  unfold s_X1_isSetting at hz
  refine lv_iload_n hx hb dX1_isSetting_0 rfl (lv_at hl 0 rfl) ?_
  refine x_if_lt (tgt := 13) hx hb dX1_isSetting_1 (by decide) (by omega) (fun c1 => ?_) (fun c1 => ?_)
  · rw [if_pos c1] at hz
    refine lv_iconst (v := jI 0) hx hb dX1_isSetting_13 rfl ?_
    subst hz
    exact xr_z hx hb hr hlocks (Or.inl rfl) rfl dX1_isSetting_14
  · rw [if_neg c1] at hz
    refine lv_iload_n hx hb dX1_isSetting_4 rfl (lv_at hl 0 rfl) ?_
    refine lv_iconst (v := jI 3) hx hb dX1_isSetting_5 rfl ?_
    refine x_icmp_ge (tgt := 13) hx hb dX1_isSetting_6 (by decide) ⟨(by omega), (by decide)⟩ (fun c6 => ?_) (fun c6 => ?_)
    · rw [if_pos c6] at hz
      refine lv_iconst (v := jI 0) hx hb dX1_isSetting_13 rfl ?_
      subst hz
      exact xr_z hx hb hr hlocks (Or.inl rfl) rfl dX1_isSetting_14
    · rw [if_neg c6] at hz
      refine lv_iconst (v := jI 1) hx hb dX1_isSetting_9 rfl ?_
      refine lv_goto (tgt := 14) hx hb dX1_isSetting_10 (by decide) ?_
      subst hz
      exact xr_z hx hb hr hlocks (Or.inr rfl) rfl dX1_isSetting_14
def s_X1_isMovement (x0 : Int) : Int := if x0 < 0 then 0 else (if 3 ≤ x0 then 0 else 1)
theorem b_X1_isMovement (x0 : Int) : (s_X1_isMovement x0) = 0 ∨ (s_X1_isMovement x0) = 1 := by unfold s_X1_isMovement; (repeat' split) <;> first | exact Or.inl rfl | exact Or.inr rfl
abbrev rm_X1_isMovement : Room := { frames := 0, cells := 0, slots := 0, locals := 0 }
set_option maxHeartbeats 4000000 in
set_option maxRecDepth 100000 in
theorem m_X1_isMovement (l : Launch) (x0 : Int) (hx0 : -2147483648 ≤ x0 ∧ x0 < 2147483648) : MetP l yX1_isMovement wsX1_isMovement rm_X1_isMovement [.int (jI x0)] (s_X1_isMovement x0) := by
  refine xe_P (cc := cX1_isMovement) (maxL := 1) (ret := (some .boolean)) (by decide) rfl (Nat.le_of_ble_eq_true rfl) ?_
  intro p e s m below meth c hx hb hr hml hts hown hlocks ls hl
  have hl : lv_has ls 1 [(0, .int (jI x0))] := hl
  have hown : s.vm.findClass RX1 = some m.cls := hown
  have hSx : CallFix p m c cX1_isMovement 1 s ([.int (jI x0)] : List Value).toArray wsX1_isMovement RX1 := ⟨hx, hb, hml, hown, hts⟩
  obtain ⟨z, hz⟩ : ∃ z, z = (s_X1_isMovement x0) := ⟨_, rfl⟩
  rw [← hz]
  unfold s_X1_isMovement at hz
  refine lv_iload_n hx hb dX1_isMovement_0 rfl (lv_at hl 0 rfl) ?_
  refine x_if_lt (tgt := 13) hx hb dX1_isMovement_1 (by decide) (by omega) (fun c1 => ?_) (fun c1 => ?_)
  · rw [if_pos c1] at hz
    refine lv_iconst (v := jI 0) hx hb dX1_isMovement_13 rfl ?_
    subst hz
    exact xr_z hx hb hr hlocks (Or.inl rfl) rfl dX1_isMovement_14
  · rw [if_neg c1] at hz
    refine lv_iload_n hx hb dX1_isMovement_4 rfl (lv_at hl 0 rfl) ?_
    refine lv_iconst (v := jI 3) hx hb dX1_isMovement_5 rfl ?_
    refine x_icmp_ge (tgt := 13) hx hb dX1_isMovement_6 (by decide) ⟨(by omega), (by decide)⟩ (fun c6 => ?_) (fun c6 => ?_)
    · rw [if_pos c6] at hz
      refine lv_iconst (v := jI 0) hx hb dX1_isMovement_13 rfl ?_
      subst hz
      exact xr_z hx hb hr hlocks (Or.inl rfl) rfl dX1_isMovement_14
    · rw [if_neg c6] at hz
      refine lv_iconst (v := jI 1) hx hb dX1_isMovement_9 rfl ?_
      refine lv_goto (tgt := 14) hx hb dX1_isMovement_10 (by decide) ?_
      subst hz
      exact xr_z hx hb hr hlocks (Or.inr rfl) rfl dX1_isMovement_14
def s_X1_areWindingHours (x0 : Int) : Int := if x0 < 1 then 0 else (if 200 < x0 then 0 else 1)
theorem b_X1_areWindingHours (x0 : Int) : (s_X1_areWindingHours x0) = 0 ∨ (s_X1_areWindingHours x0) = 1 := by unfold s_X1_areWindingHours; (repeat' split) <;> first | exact Or.inl rfl | exact Or.inr rfl
abbrev rm_X1_areWindingHours : Room := { frames := 0, cells := 0, slots := 0, locals := 0 }
set_option maxHeartbeats 4000000 in
set_option maxRecDepth 100000 in
theorem m_X1_areWindingHours (l : Launch) (x0 : Int) (hx0 : -2147483648 ≤ x0 ∧ x0 < 2147483648) : MetP l yX1_areWindingHours wsX1_areWindingHours rm_X1_areWindingHours [.int (jI x0)] (s_X1_areWindingHours x0) := by
  refine xe_P (cc := cX1_areWindingHours) (maxL := 1) (ret := (some .boolean)) (by decide) rfl (Nat.le_of_ble_eq_true rfl) ?_
  intro p e s m below meth c hx hb hr hml hts hown hlocks ls hl
  have hl : lv_has ls 1 [(0, .int (jI x0))] := hl
  have hown : s.vm.findClass RX1 = some m.cls := hown
  have hSx : CallFix p m c cX1_areWindingHours 1 s ([.int (jI x0)] : List Value).toArray wsX1_areWindingHours RX1 := ⟨hx, hb, hml, hown, hts⟩
  obtain ⟨z, hz⟩ : ∃ z, z = (s_X1_areWindingHours x0) := ⟨_, rfl⟩
  rw [← hz]
  unfold s_X1_areWindingHours at hz
  refine lv_iload_n hx hb dX1_areWindingHours_0 rfl (lv_at hl 0 rfl) ?_
  refine lv_iconst (v := jI 1) hx hb dX1_areWindingHours_1 rfl ?_
  refine x_icmp_lt (tgt := 16) hx hb dX1_areWindingHours_2 (by decide) ⟨(by omega), (by decide)⟩ (fun c2 => ?_) (fun c2 => ?_)
  · rw [if_pos c2] at hz
    refine lv_iconst (v := jI 0) hx hb dX1_areWindingHours_16 rfl ?_
    subst hz
    exact xr_z hx hb hr hlocks (Or.inl rfl) rfl dX1_areWindingHours_17
  · rw [if_neg c2] at hz
    refine lv_iload_n hx hb dX1_areWindingHours_5 rfl (lv_at hl 0 rfl) ?_
    refine lv_sipush (v := jI 200) hx hb dX1_areWindingHours_6 (by decide) ?_
    refine x_icmp_gt (tgt := 16) hx hb dX1_areWindingHours_9 (by decide) ⟨(by omega), (by decide)⟩ (fun c9 => ?_) (fun c9 => ?_)
    · rw [if_pos c9] at hz
      refine lv_iconst (v := jI 0) hx hb dX1_areWindingHours_16 rfl ?_
      subst hz
      exact xr_z hx hb hr hlocks (Or.inl rfl) rfl dX1_areWindingHours_17
    · rw [if_neg c9] at hz
      refine lv_iconst (v := jI 1) hx hb dX1_areWindingHours_12 rfl ?_
      refine lv_goto (tgt := 17) hx hb dX1_areWindingHours_13 (by decide) ?_
      subst hz
      exact xr_z hx hb hr hlocks (Or.inr rfl) rfl dX1_areWindingHours_17
def s_X1_isLostHour (x0 : Int) (x1 : Int) : Int := if x1 ≤ 0 then 0 else (if (x0 % x1) = 0 then 1 else 0)
theorem b_X1_isLostHour (x0 : Int) (x1 : Int) : (s_X1_isLostHour x0 x1) = 0 ∨ (s_X1_isLostHour x0 x1) = 1 := by unfold s_X1_isLostHour; (repeat' split) <;> first | exact Or.inl rfl | exact Or.inr rfl
abbrev rm_X1_isLostHour : Room := { frames := 0, cells := 0, slots := 0, locals := 0 }
set_option maxHeartbeats 4000000 in
set_option maxRecDepth 100000 in
theorem m_X1_isLostHour (l : Launch) (x0 : Int) (x1 : Int) (hx0 : 0 ≤ x0 ∧ x0 < 2147483648) (hx1 : -2147483648 ≤ x1 ∧ x1 < 2147483648) : MetP l yX1_isLostHour wsX1_isLostHour rm_X1_isLostHour [.int (jI x0), .int (jI x1)] (s_X1_isLostHour x0 x1) := by
  refine xe_P (cc := cX1_isLostHour) (maxL := 2) (ret := (some .boolean)) (by decide) rfl (Nat.le_of_ble_eq_true rfl) ?_
  intro p e s m below meth c hx hb hr hml hts hown hlocks ls hl
  have hl : lv_has ls 2 [(0, .int (jI x0)), (1, .int (jI x1))] := hl
  have hown : s.vm.findClass RX1 = some m.cls := hown
  have hSx : CallFix p m c cX1_isLostHour 2 s ([.int (jI x0), .int (jI x1)] : List Value).toArray wsX1_isLostHour RX1 := ⟨hx, hb, hml, hown, hts⟩
  obtain ⟨z, hz⟩ : ∃ z, z = (s_X1_isLostHour x0 x1) := ⟨_, rfl⟩
  rw [← hz]
  unfold s_X1_isLostHour at hz
  refine lv_iload_n hx hb dX1_isLostHour_0 rfl (lv_at hl 1 rfl) ?_
  refine x_if_le (tgt := 14) hx hb dX1_isLostHour_1 (by decide) (by omega) (fun c1 => ?_) (fun c1 => ?_)
  · rw [if_pos c1] at hz
    refine lv_iconst (v := jI 0) hx hb dX1_isLostHour_14 rfl ?_
    subst hz
    exact xr_z hx hb hr hlocks (Or.inl rfl) rfl dX1_isLostHour_15
  · rw [if_neg c1] at hz
    refine lv_iload_n hx hb dX1_isLostHour_4 rfl (lv_at hl 0 rfl) ?_
    refine lv_iload_n hx hb dX1_isLostHour_5 rfl (lv_at hl 1 rfl) ?_
    refine x_irem hx hb dX1_isLostHour_6 (by omega) ?_
    refine x_if_ne (tgt := 14) hx hb dX1_isLostHour_7 (by decide) (rem_rng (by omega) (by omega)) (fun c7 => ?_) (fun c7 => ?_)
    · rw [if_neg c7] at hz
      refine lv_iconst (v := jI 0) hx hb dX1_isLostHour_14 rfl ?_
      subst hz
      exact xr_z hx hb hr hlocks (Or.inl rfl) rfl dX1_isLostHour_15
    · rw [if_pos c7] at hz
      refine lv_iconst (v := jI 1) hx hb dX1_isLostHour_10 rfl ?_
      refine lv_goto (tgt := 15) hx hb dX1_isLostHour_11 (by decide) ?_
      subst hz
      exact xr_z hx hb hr hlocks (Or.inr rfl) rfl dX1_isLostHour_15
abbrev rm_X1_place : Room := { frames := 0, cells := 0, slots := 0, locals := 0 }
set_option maxHeartbeats 4000000 in
set_option maxRecDepth 100000 in
theorem m_X1_place (l : Launch) (m9 : Int) (k9 : Int) : MetP l yX1_place wsX1_place rm_X1_place [.int (jI m9), .int (jI k9)] ((21 + (m9 * 4)) + k9) := by
  refine xe_P (cc := cX1_place) (maxL := 2) (ret := (some .int)) (by decide) rfl (Nat.le_of_ble_eq_true rfl) ?_
  intro p e s m below meth c hx hb hr hml hts hown hlocks ls hl
  have hl : lv_has ls 2 [(0, .int (jI m9)), (1, .int (jI k9))] := hl
  have hown : s.vm.findClass RX1 = some m.cls := hown
  have hSx : CallFix p m c cX1_place 2 s ([.int (jI m9), .int (jI k9)] : List Value).toArray wsX1_place RX1 := ⟨hx, hb, hml, hown, hts⟩
  obtain ⟨z, hz⟩ : ∃ z, z = ((21 + (m9 * 4)) + k9) := ⟨_, rfl⟩
  rw [← hz]
  refine lv_bipush (v := jI 21) hx hb dX1_place_0 (by decide) ?_
  refine lv_iload_n hx hb dX1_place_2 rfl (lv_at hl 0 rfl) ?_
  refine lv_iconst (v := jI 4) hx hb dX1_place_3 rfl ?_
  refine x_imul hx hb dX1_place_4 ?_
  refine x_iadd hx hb dX1_place_5 ?_
  refine lv_iload_n hx hb dX1_place_6 rfl (lv_at hl 1 rfl) ?_
  refine x_iadd hx hb dX1_place_7 ?_
  subst hz
  exact xr_i hx hb hr hlocks rfl dX1_place_8
def s_X1_isLocked (f : Nat → Int) : Int := if (f 1) = 0 then 0 else 1
theorem b_X1_isLocked (f : Nat → Int) : (s_X1_isLocked f) = 0 ∨ (s_X1_isLocked f) = 1 := by unfold s_X1_isLocked; (repeat' split) <;> first | exact Or.inl rfl | exact Or.inr rfl
abbrev rm_X1_isLocked : Room := { frames := 0, cells := 0, slots := 0, locals := 0 }
set_option maxHeartbeats 4000000 in
set_option maxRecDepth 100000 in
theorem m_X1_isLocked (l : Launch) (D : va_G) (cI : ClassId) (a : Nat → Nat) (f : Nat → Int) (g : Nat → Int) (n : Int) (b : Nat → Int) (len : Int) (kd : Nat → Int) (sg : Nat → Int) (nb : Nat → Int) (pt : Int) (hrf : rng f) : MetR l yX1_isLocked wsX1_isLocked rm_X1_isLocked D cI [.ref (a 0)] (w1 cI a f g n b len kd sg nb pt) (s_X1_isLocked f) := by
  refine xe_R (cc := cX1_isLocked) (maxL := 1) (ret := (some .boolean)) (by decide) rfl (Nat.le_of_ble_eq_true rfl) ?_
  intro p e s m below meth c hx hb hr hml hts hown hlocks hP hK ls hl
  have hl : lv_has ls 1 [(0, .ref (a 0))] := hl
  have hown : s.vm.findClass RX1 = some m.cls := hown
  have hSx : CallFix p m c cX1_isLocked 1 s ([.ref (a 0)] : List Value).toArray wsX1_isLocked RX1 := ⟨hx, hb, hml, hown, hts⟩
  have inRX1 : ∀ w ∈ u_ws RX1 TX1 6, w ∈ wsX1_isLocked := by decide +kernel
  have qf9 := hts (.fieldLink RX1 9 "VaultMovements" "now" "[I") (by decide +kernel)
  obtain ⟨z, hz⟩ : ∃ z, z = (s_X1_isLocked f) := ⟨_, rfl⟩
  rw [← hz]
  unfold s_X1_isLocked at hz
  refine lv_aload_n hx hb dX1_isLocked_0 rfl (lv_at hl 0 rfl) ?_
  refine va_get (D := D) (ci := 1) (v := .ref (a 1)) (C := RX1) (T := TX1) (N := 6) hx hb hts inRX1 hown hK hP 0 rfl rfl 0 (by decide) qf9 (fun _ h9 => h9) rfl dX1_isLocked_1 ?_
  refine lv_iconst (v := jI 1) hx hb dX1_isLocked_4 rfl ?_
  refine x_iald hx hb hK hP 1 0 rfl rfl 1 rfl (by decide) (by decide) dX1_isLocked_5 ?_
  refine x_if_eq (tgt := 13) hx hb dX1_isLocked_6 (by decide) (hrf _) (fun c6 => ?_) (fun c6 => ?_)
  · rw [if_pos c6] at hz
    refine lv_iconst (v := jI 0) hx hb dX1_isLocked_13 rfl ?_
    subst hz
    exact xr_z hx hb hr hlocks (Or.inl rfl) rfl dX1_isLocked_14
  · rw [if_neg c6] at hz
    refine lv_iconst (v := jI 1) hx hb dX1_isLocked_9 rfl ?_
    refine lv_goto (tgt := 14) hx hb dX1_isLocked_10 (by decide) ?_
    subst hz
    exact xr_z hx hb hr hlocks (Or.inr rfl) rfl dX1_isLocked_14
abbrev rm_X1_today : Room := { frames := 0, cells := 0, slots := 0, locals := 0 }
set_option maxHeartbeats 4000000 in
set_option maxRecDepth 100000 in
theorem m_X1_today (l : Launch) (D : va_G) (cI : ClassId) (a : Nat → Nat) (f : Nat → Int) (g : Nat → Int) (n : Int) (b : Nat → Int) (len : Int) (kd : Nat → Int) (sg : Nat → Int) (nb : Nat → Int) (pt : Int) (hh : 0 ≤ f 0 ∧ f 0 ≤ 99999) : MetR l yX1_today wsX1_today rm_X1_today D cI [.ref (a 0)] (w1 cI a f g n b len kd sg nb pt) (((f 0) / 24) % 7) := by
  refine xe_R (cc := cX1_today) (maxL := 1) (ret := (some .int)) (by decide) rfl (Nat.le_of_ble_eq_true rfl) ?_
  intro p e s m below meth c hx hb hr hml hts hown hlocks hP hK ls hl
  have hl : lv_has ls 1 [(0, .ref (a 0))] := hl
  have hown : s.vm.findClass RX1 = some m.cls := hown
  have hSx : CallFix p m c cX1_today 1 s ([.ref (a 0)] : List Value).toArray wsX1_today RX1 := ⟨hx, hb, hml, hown, hts⟩
  have inRX1 : ∀ w ∈ u_ws RX1 TX1 6, w ∈ wsX1_today := by decide +kernel
  have qf9 := hts (.fieldLink RX1 9 "VaultMovements" "now" "[I") (by decide +kernel)
  obtain ⟨z, hz⟩ : ∃ z, z = (((f 0) / 24) % 7) := ⟨_, rfl⟩
  rw [← hz]
  refine lv_aload_n hx hb dX1_today_0 rfl (lv_at hl 0 rfl) ?_
  refine va_get (D := D) (ci := 1) (v := .ref (a 1)) (C := RX1) (T := TX1) (N := 6) hx hb hts inRX1 hown hK hP 0 rfl rfl 0 (by decide) qf9 (fun _ h9 => h9) rfl dX1_today_1 ?_
  refine lv_iconst (v := jI 0) hx hb dX1_today_4 rfl ?_
  refine x_iald hx hb hK hP 1 0 rfl rfl 0 rfl (by decide) (by decide) dX1_today_5 ?_
  refine lv_bipush (v := jI 24) hx hb dX1_today_6 (by decide) ?_
  refine x_idiv hx hb dX1_today_8 (by omega) ?_
  refine lv_bipush (v := jI 7) hx hb dX1_today_9 (by decide) ?_
  refine x_irem hx hb dX1_today_11 (by omega) ?_
  subst hz
  exact xr_i hx hb hr hlocks rfl dX1_today_12
abbrev rm_X1_timeOfDay : Room := { frames := 0, cells := 0, slots := 0, locals := 0 }
set_option maxHeartbeats 4000000 in
set_option maxRecDepth 100000 in
theorem m_X1_timeOfDay (l : Launch) (D : va_G) (cI : ClassId) (a : Nat → Nat) (f : Nat → Int) (g : Nat → Int) (n : Int) (b : Nat → Int) (len : Int) (kd : Nat → Int) (sg : Nat → Int) (nb : Nat → Int) (pt : Int) (hh : 0 ≤ f 0 ∧ f 0 ≤ 99999) : MetR l yX1_timeOfDay wsX1_timeOfDay rm_X1_timeOfDay D cI [.ref (a 0)] (w1 cI a f g n b len kd sg nb pt) ((f 0) % 24) := by
  refine xe_R (cc := cX1_timeOfDay) (maxL := 1) (ret := (some .int)) (by decide) rfl (Nat.le_of_ble_eq_true rfl) ?_
  intro p e s m below meth c hx hb hr hml hts hown hlocks hP hK ls hl
  have hl : lv_has ls 1 [(0, .ref (a 0))] := hl
  have hown : s.vm.findClass RX1 = some m.cls := hown
  have hSx : CallFix p m c cX1_timeOfDay 1 s ([.ref (a 0)] : List Value).toArray wsX1_timeOfDay RX1 := ⟨hx, hb, hml, hown, hts⟩
  have inRX1 : ∀ w ∈ u_ws RX1 TX1 6, w ∈ wsX1_timeOfDay := by decide +kernel
  have qf9 := hts (.fieldLink RX1 9 "VaultMovements" "now" "[I") (by decide +kernel)
  obtain ⟨z, hz⟩ : ∃ z, z = ((f 0) % 24) := ⟨_, rfl⟩
  rw [← hz]
  refine lv_aload_n hx hb dX1_timeOfDay_0 rfl (lv_at hl 0 rfl) ?_
  refine va_get (D := D) (ci := 1) (v := .ref (a 1)) (C := RX1) (T := TX1) (N := 6) hx hb hts inRX1 hown hK hP 0 rfl rfl 0 (by decide) qf9 (fun _ h9 => h9) rfl dX1_timeOfDay_1 ?_
  refine lv_iconst (v := jI 0) hx hb dX1_timeOfDay_4 rfl ?_
  refine x_iald hx hb hK hP 1 0 rfl rfl 0 rfl (by decide) (by decide) dX1_timeOfDay_5 ?_
  refine lv_bipush (v := jI 24) hx hb dX1_timeOfDay_6 (by decide) ?_
  refine x_irem hx hb dX1_timeOfDay_8 (by omega) ?_
  subst hz
  exact xr_i hx hb hr hlocks rfl dX1_timeOfDay_9
def s_X1_goes (f : Nat → Int) (j : Nat) : Int := if (f ((21 + (j * 4)) + 1)) = 0 then 0 else 1
theorem b_X1_goes (f : Nat → Int) (j : Nat) : (s_X1_goes f j) = 0 ∨ (s_X1_goes f j) = 1 := by unfold s_X1_goes; (repeat' split) <;> first | exact Or.inl rfl | exact Or.inr rfl
abbrev rm_X1_goes : Room := { frames := 1, cells := 0, slots := 0, locals := 21 }
set_option maxHeartbeats 4000000 in
set_option maxRecDepth 100000 in
theorem m_X1_goes (l : Launch) (D : va_G) (cI : ClassId) (a : Nat → Nat) (f : Nat → Int) (g : Nat → Int) (n : Int) (b : Nat → Int) (len : Int) (kd : Nat → Int) (sg : Nat → Int) (nb : Nat → Int) (pt : Int) (j : Nat) (hj : j < 3) (hrf : rng f) : MetR l yX1_goes wsX1_goes rm_X1_goes D cI [.ref (a 0), .int (jI (j : Int))] (w1 cI a f g n b len kd sg nb pt) (s_X1_goes f j) := by
  refine xe_R (cc := cX1_goes) (maxL := 2) (ret := (some .boolean)) (by decide) rfl (Nat.le_of_ble_eq_true rfl) ?_
  intro p e s m below meth c hx hb hr hml hts hown hlocks hP hK ls hl
  have hl : lv_has ls 2 [(0, .ref (a 0)), (1, .int (jI (j : Int)))] := hl
  have hown : s.vm.findClass RX1 = some m.cls := hown
  have hSx : CallFix p m c cX1_goes 2 s ([.ref (a 0), .int (jI (j : Int))] : List Value).toArray wsX1_goes RX1 := ⟨hx, hb, hml, hown, hts⟩
  have inRX1 : ∀ w ∈ u_ws RX1 TX1 6, w ∈ wsX1_goes := by decide +kernel
  have qf9 := hts (.fieldLink RX1 9 "VaultMovements" "now" "[I") (by decide +kernel)
  obtain ⟨z, hz⟩ : ∃ z, z = (s_X1_goes f j) := ⟨_, rfl⟩
  rw [← hz]
  unfold s_X1_goes at hz
  refine lv_aload_n hx hb dX1_goes_0 rfl (lv_at hl 0 rfl) ?_
  refine va_get (D := D) (ci := 1) (v := .ref (a 1)) (C := RX1) (T := TX1) (N := 6) hx hb hts inRX1 hown hK hP 0 rfl rfl 0 (by decide) qf9 (fun _ h9 => h9) rfl dX1_goes_1 ?_
  refine lv_iload_n hx hb dX1_goes_4 rfl (lv_at hl 1 rfl) ?_
  refine lv_iconst (v := jI 1) hx hb dX1_goes_5 rfl ?_
  refine xc_P (As := [.int (jI (j : Int)), .int (jI 1)]) (rest := [.ref (a 1)]) hSx (m_X1_place l (j : Int) 1 ) (va_cwS 2 hts gX1_goes_X1_place rfl rfl rfl (by decide +kernel) ⟨Nat.le_of_ble_eq_true rfl, Nat.le_of_ble_eq_true rfl⟩) rfl hl.1 rfl (Nat.le_of_ble_eq_true rfl) dX1_goes_6 ⟨Nat.zero_le _, Nat.zero_le _⟩ ?_
  refine x_iald hx hb hK hP 1 0 rfl rfl ((21 + (j * 4)) + 1) (by omega) (by omega) (by decide) dX1_goes_9 ?_
  refine x_if_eq (tgt := 17) hx hb dX1_goes_10 (by decide) (hrf _) (fun c10 => ?_) (fun c10 => ?_)
  · rw [if_pos c10] at hz
    refine lv_iconst (v := jI 0) hx hb dX1_goes_17 rfl ?_
    subst hz
    exact xr_z hx hb hr hlocks (Or.inl rfl) rfl dX1_goes_18
  · rw [if_neg c10] at hz
    refine lv_iconst (v := jI 1) hx hb dX1_goes_13 rfl ?_
    refine lv_goto (tgt := 18) hx hb dX1_goes_14 (by decide) ?_
    subst hz
    exact xr_z hx hb hr hlocks (Or.inr rfl) rfl dX1_goes_18
def s_X1_hoursToOpening_lp2 (f : Nat → Int) : Nat → Nat → Int
  | 0, _ => default
  | k + 1, i => if 7 < (i : Int) then (-1) else (if (f (((14 + (((((f 0) / 24) % 7) + (i : Int)) % 7))).toNat)) = (-1) then (s_X1_hoursToOpening_lp2 f k (i + 1)) else (if ((((i : Int) * 24) + (f (((14 + (((((f 0) / 24) % 7) + (i : Int)) % 7))).toNat))) - ((f 0) % 24)) ≤ 0 then (s_X1_hoursToOpening_lp2 f k (i + 1)) else ((((i : Int) * 24) + (f (((14 + (((((f 0) / 24) % 7) + (i : Int)) % 7))).toNat))) - ((f 0) % 24))))
def s_X1_hoursToOpening (f : Nat → Int) : Int := s_X1_hoursToOpening_lp2 f (8 + 1 - 0) 0
abbrev rm_X1_hoursToOpening : Room := { frames := 1, cells := 0, slots := 0, locals := 20 }
set_option maxHeartbeats 4000000 in
set_option maxRecDepth 100000 in
theorem m_X1_hoursToOpening (l : Launch) (D : va_G) (cI : ClassId) (a : Nat → Nat) (f : Nat → Int) (g : Nat → Int) (n : Int) (b : Nat → Int) (len : Int) (kd : Nat → Int) (sg : Nat → Int) (nb : Nat → Int) (pt : Int) (hrf : rng f) (hh : 0 ≤ f 0 ∧ f 0 ≤ 99999) (hd : ∀ k : Nat, 14 ≤ k → k < 21 → -1 ≤ f k ∧ f k ≤ 23) : MetR l yX1_hoursToOpening wsX1_hoursToOpening rm_X1_hoursToOpening D cI [.ref (a 0)] (w1 cI a f g n b len kd sg nb pt) (s_X1_hoursToOpening f) := by
  refine xe_R (cc := cX1_hoursToOpening) (maxL := 4) (ret := (some .int)) (by decide) rfl (Nat.le_of_ble_eq_true rfl) ?_
  intro p e s m below meth c hx hb hr hml hts hown hlocks hP hK ls hl
  have hl : lv_has ls 4 [(0, .ref (a 0))] := hl
  have hown : s.vm.findClass RX1 = some m.cls := hown
  have hSx : CallFix p m c cX1_hoursToOpening 4 s ([.ref (a 0)] : List Value).toArray wsX1_hoursToOpening RX1 := ⟨hx, hb, hml, hown, hts⟩
  have inRX1 : ∀ w ∈ u_ws RX1 TX1 6, w ∈ wsX1_hoursToOpening := by decide +kernel
  have qf9 := hts (.fieldLink RX1 9 "VaultMovements" "now" "[I") (by decide +kernel)
  obtain ⟨z, hz⟩ : ∃ z, z = (s_X1_hoursToOpening f) := ⟨_, rfl⟩
  rw [← hz]
  unfold s_X1_hoursToOpening at hz
  refine lv_iconst (v := jI 0) hx hb dX1_hoursToOpening_0 rfl ?_
  refine lv_istore_n (lv' := [(1, .int (jI 0)), (0, .ref (a 0))]) hx hb dX1_hoursToOpening_1 rfl hl (by decide) rfl (fun ls hl => ?_)
  have LP2 : ∀ (k i : Nat) (ls : Array Slot), i ≤ 8 → i + k = 8 + 1 → z = (s_X1_hoursToOpening_lp2 f) k i → lv_has ls 4 [(0, .ref (a 0)), (1, .int (jI (i : Int)))] → W p l e rm_X1_hoursToOpening s m ([.ref (a 0)] : List Value).toArray below meth c s.heap [] 0 0 (MQ below (vp_Si (fun x => x = jI z)) ([.ref (a 0)] : List Value).toArray s 0 0 (fun _ => False)) (F0 m 2 ls []) := by
    intro k
    induction k with
    | zero => intro i  ls h1 h2; exact absurd h2 (by omega)
    | succ k ih =>
      intro i   ls h1 h2 hz hl
      rw [s_X1_hoursToOpening_lp2] at hz
      refine lv_iload_n hx hb dX1_hoursToOpening_2 rfl (lv_at hl 1 rfl) ?_
      refine lv_bipush (v := jI 7) hx hb dX1_hoursToOpening_3 (by decide) ?_
      refine x_icmp_gt (tgt := 55) hx hb dX1_hoursToOpening_5 (by decide) ⟨(by omega), (by decide)⟩ (fun c5 => ?_) (fun c5 => ?_)
      · rw [if_pos c5] at hz
        refine lv_iconst (v := jI (-1)) hx hb dX1_hoursToOpening_55 rfl ?_
        subst hz
        exact xr_i hx hb hr hlocks rfl dX1_hoursToOpening_56
      · rw [if_neg c5] at hz
        refine lv_aload_n hx hb dX1_hoursToOpening_8 rfl (lv_at hl 0 rfl) ?_
        refine va_get (D := D) (ci := 1) (v := .ref (a 1)) (C := RX1) (T := TX1) (N := 6) hx hb hts inRX1 hown hK hP 0 rfl rfl 0 (by decide) qf9 (fun _ h9 => h9) rfl dX1_hoursToOpening_9 ?_
        refine lv_bipush (v := jI 14) hx hb dX1_hoursToOpening_12 (by decide) ?_
        refine lv_aload_n hx hb dX1_hoursToOpening_14 rfl (lv_at hl 0 rfl) ?_
        refine xc_R (As := []) (rest := [.int (jI 14), .ref (a 1)]) hSx (m_X1_today l D cI a f g n b len kd sg nb pt  (by omega)) (cwV 0 hts gX1_hoursToOpening_X1_today rfl rfl rfl (by decide +kernel) ⟨Nat.le_of_ble_eq_true rfl, Nat.le_of_ble_eq_true rfl⟩) hP hK 0 rfl rfl rfl rfl hl.1 rfl (Nat.le_of_ble_eq_true rfl) dX1_hoursToOpening_15 ⟨Nat.zero_le _, Nat.zero_le _⟩ ?_
        refine lv_iload_n hx hb dX1_hoursToOpening_18 rfl (lv_at hl 1 rfl) ?_
        refine x_iadd hx hb dX1_hoursToOpening_19 ?_
        refine lv_bipush (v := jI 7) hx hb dX1_hoursToOpening_20 (by decide) ?_
        refine x_irem hx hb dX1_hoursToOpening_22 (by omega) ?_
        refine x_iadd hx hb dX1_hoursToOpening_23 ?_
        refine x_iald hx hb hK hP 1 0 rfl rfl (((14 + (((((f 0) / 24) % 7) + (i : Int)) % 7))).toNat) (by omega) (by omega) (by decide) dX1_hoursToOpening_24 ?_
        have hd1 := hd (((14 + (((((f 0) / 24) % 7) + (i : Int)) % 7))).toNat) (by omega) (by omega)
        refine lv_istore_n (lv' := [(2, .int (jI (f (((14 + (((((f 0) / 24) % 7) + (i : Int)) % 7))).toNat)))), (0, .ref (a 0)), (1, .int (jI (i : Int)))]) hx hb dX1_hoursToOpening_25 rfl hl (by decide) rfl (fun ls hl => ?_)
        refine lv_iload_n hx hb dX1_hoursToOpening_26 rfl (lv_at hl 2 rfl) ?_
        refine lv_bipush (v := jI 24) hx hb dX1_hoursToOpening_27 (by decide) ?_
        refine x_imul hx hb dX1_hoursToOpening_29 ?_
        refine lv_iload_n hx hb dX1_hoursToOpening_30 rfl (lv_at hl 0 rfl) ?_
        refine x_iadd hx hb dX1_hoursToOpening_31 ?_
        refine lv_aload_n hx hb dX1_hoursToOpening_32 rfl (lv_at hl 1 rfl) ?_
        refine xc_R (As := []) (rest := [.int (jI (((i : Int) * 24) + (f (((14 + (((((f 0) / 24) % 7) + (i : Int)) % 7))).toNat))))]) hSx (m_X1_timeOfDay l D cI a f g n b len kd sg nb pt  (by omega)) (cwV 0 hts gX1_hoursToOpening_X1_timeOfDay rfl rfl rfl (by decide +kernel) ⟨Nat.le_of_ble_eq_true rfl, Nat.le_of_ble_eq_true rfl⟩) hP hK 0 rfl rfl rfl rfl hl.1 rfl (Nat.le_of_ble_eq_true rfl) dX1_hoursToOpening_33 ⟨Nat.zero_le _, Nat.zero_le _⟩ ?_
        refine x_isub hx hb dX1_hoursToOpening_36 ?_
        refine lv_istore_n (lv' := [(3, .int (jI ((((i : Int) * 24) + (f (((14 + (((((f 0) / 24) % 7) + (i : Int)) % 7))).toNat))) - ((f 0) % 24)))), (2, .int (jI (f (((14 + (((((f 0) / 24) % 7) + (i : Int)) % 7))).toNat)))), (0, .ref (a 0)), (1, .int (jI (i : Int)))]) hx hb dX1_hoursToOpening_37 rfl hl (by decide) rfl (fun ls hl => ?_)
        refine lv_iload_n hx hb dX1_hoursToOpening_38 rfl (lv_at hl 1 rfl) ?_
        refine lv_iconst (v := jI (-1)) hx hb dX1_hoursToOpening_39 rfl ?_
        refine x_icmp_eq (tgt := 49) hx hb dX1_hoursToOpening_40 (by decide) ⟨(hrf _), (by decide)⟩ (fun c40 => ?_) (fun c40 => ?_)
        · rw [if_pos c40] at hz
          refine lv_iinc (v := jI ((i + 1 : Nat) : Int)) (lv' := [(1, .int (jI ((i + 1 : Nat) : Int))), (3, .int (jI ((((i : Int) * 24) + (f (((14 + (((((f 0) / 24) % 7) + (i : Int)) % 7))).toNat))) - ((f 0) % 24)))), (2, .int (jI (f (((14 + (((((f 0) / 24) % 7) + (i : Int)) % 7))).toNat)))), (0, .ref (a 0))]) hx hb dX1_hoursToOpening_49 hl (k := 3) rfl (jI_inc _ 1) (by decide) rfl (fun ls hl => ?_)
          refine lv_goto (tgt := 2) hx hb dX1_hoursToOpening_52 (by decide) ?_
          exact ih (i + 1)  ls (by omega) (by omega) hz (lv_sub hl [3, 0] rfl)
        · rw [if_neg c40] at hz
          refine lv_iload_n hx hb dX1_hoursToOpening_43 rfl (lv_at hl 0 rfl) ?_
          refine x_if_le (tgt := 49) hx hb dX1_hoursToOpening_44 (by decide) (by omega) (fun c44 => ?_) (fun c44 => ?_)
          · rw [if_pos c44] at hz
            refine lv_iinc (v := jI ((i + 1 : Nat) : Int)) (lv' := [(1, .int (jI ((i + 1 : Nat) : Int))), (3, .int (jI ((((i : Int) * 24) + (f (((14 + (((((f 0) / 24) % 7) + (i : Int)) % 7))).toNat))) - ((f 0) % 24)))), (2, .int (jI (f (((14 + (((((f 0) / 24) % 7) + (i : Int)) % 7))).toNat)))), (0, .ref (a 0))]) hx hb dX1_hoursToOpening_49 hl (k := 3) rfl (jI_inc _ 1) (by decide) rfl (fun ls hl => ?_)
            refine lv_goto (tgt := 2) hx hb dX1_hoursToOpening_52 (by decide) ?_
            exact ih (i + 1)  ls (by omega) (by omega) hz (lv_sub hl [3, 0] rfl)
          · rw [if_neg c44] at hz
            refine lv_iload_n hx hb dX1_hoursToOpening_47 rfl (lv_at hl 0 rfl) ?_
            subst hz
            exact xr_i hx hb hr hlocks rfl dX1_hoursToOpening_48
  exact LP2 (8 + 1 - 0) 0  ls (by omega) (by omega) hz (lv_sub hl [1, 0] rfl)
def s_X1_someMovementRuns_lp2 (f : Nat → Int) : Nat → Nat → Int
  | 0, _ => default
  | k + 1, i => if 3 ≤ (i : Int) then 0 else (if (s_X1_goes f i) = 0 then (s_X1_someMovementRuns_lp2 f k (i + 1)) else (if (f ((21 + (i * 4)) + 0)) ≤ 0 then (s_X1_someMovementRuns_lp2 f k (i + 1)) else 1))
def s_X1_someMovementRuns (f : Nat → Int) : Int := s_X1_someMovementRuns_lp2 f (3 + 1 - 0) 0
abbrev rm_X1_someMovementRuns : Room := { frames := 2, cells := 0, slots := 0, locals := 42 }
set_option maxHeartbeats 4000000 in
set_option maxRecDepth 100000 in
theorem m_X1_someMovementRuns (l : Launch) (D : va_G) (cI : ClassId) (a : Nat → Nat) (f : Nat → Int) (g : Nat → Int) (n : Int) (b : Nat → Int) (len : Int) (kd : Nat → Int) (sg : Nat → Int) (nb : Nat → Int) (pt : Int) (hrf : rng f) (hm : mvs f) : MetR l yX1_someMovementRuns wsX1_someMovementRuns rm_X1_someMovementRuns D cI [.ref (a 0)] (w1 cI a f g n b len kd sg nb pt) (s_X1_someMovementRuns f) := by
  refine xe_R (cc := cX1_someMovementRuns) (maxL := 2) (ret := (some .boolean)) (by decide) rfl (Nat.le_of_ble_eq_true rfl) ?_
  intro p e s m below meth c hx hb hr hml hts hown hlocks hP hK ls hl
  have hl : lv_has ls 2 [(0, .ref (a 0))] := hl
  have hown : s.vm.findClass RX1 = some m.cls := hown
  have hSx : CallFix p m c cX1_someMovementRuns 2 s ([.ref (a 0)] : List Value).toArray wsX1_someMovementRuns RX1 := ⟨hx, hb, hml, hown, hts⟩
  have inRX1 : ∀ w ∈ u_ws RX1 TX1 6, w ∈ wsX1_someMovementRuns := by decide +kernel
  have qf9 := hts (.fieldLink RX1 9 "VaultMovements" "now" "[I") (by decide +kernel)
  obtain ⟨z, hz⟩ : ∃ z, z = (s_X1_someMovementRuns f) := ⟨_, rfl⟩
  rw [← hz]
  unfold s_X1_someMovementRuns at hz
  refine lv_iconst (v := jI 0) hx hb dX1_someMovementRuns_0 rfl ?_
  refine lv_istore_n (lv' := [(1, .int (jI 0)), (0, .ref (a 0))]) hx hb dX1_someMovementRuns_1 rfl hl (by decide) rfl (fun ls hl => ?_)
  have LP2 : ∀ (k i : Nat) (ls : Array Slot), i ≤ 3 → i + k = 3 + 1 → z = (s_X1_someMovementRuns_lp2 f) k i → lv_has ls 2 [(0, .ref (a 0)), (1, .int (jI (i : Int)))] → W p l e rm_X1_someMovementRuns s m ([.ref (a 0)] : List Value).toArray below meth c s.heap [] 0 0 (MQ below (vp_Si (fun x => x = jI z)) ([.ref (a 0)] : List Value).toArray s 0 0 (fun _ => False)) (F0 m 2 ls []) := by
    intro k
    induction k with
    | zero => intro i  ls h1 h2; exact absurd h2 (by omega)
    | succ k ih =>
      intro i   ls h1 h2 hz hl
      rw [s_X1_someMovementRuns_lp2] at hz
      refine lv_iload_n hx hb dX1_someMovementRuns_2 rfl (lv_at hl 1 rfl) ?_
      refine lv_iconst (v := jI 3) hx hb dX1_someMovementRuns_3 rfl ?_
      refine x_icmp_ge (tgt := 36) hx hb dX1_someMovementRuns_4 (by decide) ⟨(by omega), (by decide)⟩ (fun c4 => ?_) (fun c4 => ?_)
      · rw [if_pos c4] at hz
        refine lv_iconst (v := jI 0) hx hb dX1_someMovementRuns_36 rfl ?_
        subst hz
        exact xr_z hx hb hr hlocks (Or.inl rfl) rfl dX1_someMovementRuns_37
      · rw [if_neg c4] at hz
        refine lv_aload_n hx hb dX1_someMovementRuns_7 rfl (lv_at hl 0 rfl) ?_
        refine lv_iload_n hx hb dX1_someMovementRuns_8 rfl (lv_at hl 1 rfl) ?_
        refine xc_R (As := [.int (jI (i : Int))]) (rest := []) hSx (m_X1_goes l D cI a f g n b len kd sg nb pt i (by omega) (by omega)) (cwV 1 hts gX1_someMovementRuns_X1_goes rfl rfl rfl (by decide +kernel) ⟨Nat.le_of_ble_eq_true rfl, Nat.le_of_ble_eq_true rfl⟩) hP hK 0 rfl rfl rfl rfl hl.1 rfl (Nat.le_of_ble_eq_true rfl) dX1_someMovementRuns_9 ⟨Nat.zero_le _, Nat.zero_le _⟩ ?_
        refine x_if_eq (tgt := 30) hx hb dX1_someMovementRuns_12 (by decide) (b01 (b_X1_goes f i)) (fun c12 => ?_) (fun c12 => ?_)
        · rw [if_pos c12] at hz
          refine lv_iinc (v := jI ((i + 1 : Nat) : Int)) (lv' := [(1, .int (jI ((i + 1 : Nat) : Int))), (0, .ref (a 0))]) hx hb dX1_someMovementRuns_30 hl (k := 1) rfl (jI_inc _ 1) (by decide) rfl (fun ls hl => ?_)
          refine lv_goto (tgt := 2) hx hb dX1_someMovementRuns_33 (by decide) ?_
          exact ih (i + 1)  ls (by omega) (by omega) hz (lv_sub hl [1, 0] rfl)
        · rw [if_neg c12] at hz
          refine lv_aload_n hx hb dX1_someMovementRuns_15 rfl (lv_at hl 0 rfl) ?_
          refine va_get (D := D) (ci := 1) (v := .ref (a 1)) (C := RX1) (T := TX1) (N := 6) hx hb hts inRX1 hown hK hP 0 rfl rfl 0 (by decide) qf9 (fun _ h9 => h9) rfl dX1_someMovementRuns_16 ?_
          refine lv_iload_n hx hb dX1_someMovementRuns_19 rfl (lv_at hl 1 rfl) ?_
          refine lv_iconst (v := jI 0) hx hb dX1_someMovementRuns_20 rfl ?_
          refine xc_P (As := [.int (jI (i : Int)), .int (jI 0)]) (rest := [.ref (a 1)]) hSx (m_X1_place l (i : Int) 0 ) (va_cwS 2 hts gX1_someMovementRuns_X1_place rfl rfl rfl (by decide +kernel) ⟨Nat.le_of_ble_eq_true rfl, Nat.le_of_ble_eq_true rfl⟩) rfl hl.1 rfl (Nat.le_of_ble_eq_true rfl) dX1_someMovementRuns_21 ⟨Nat.zero_le _, Nat.zero_le _⟩ ?_
          refine x_iald hx hb hK hP 1 0 rfl rfl ((21 + (i * 4)) + 0) (by omega) (by omega) (by decide) dX1_someMovementRuns_24 ?_
          refine x_if_le (tgt := 30) hx hb dX1_someMovementRuns_25 (by decide) (hrf _) (fun c25 => ?_) (fun c25 => ?_)
          · rw [if_pos c25] at hz
            refine lv_iinc (v := jI ((i + 1 : Nat) : Int)) (lv' := [(1, .int (jI ((i + 1 : Nat) : Int))), (0, .ref (a 0))]) hx hb dX1_someMovementRuns_30 hl (k := 1) rfl (jI_inc _ 1) (by decide) rfl (fun ls hl => ?_)
            refine lv_goto (tgt := 2) hx hb dX1_someMovementRuns_33 (by decide) ?_
            exact ih (i + 1)  ls (by omega) (by omega) hz (lv_sub hl [1, 0] rfl)
          · rw [if_neg c25] at hz
            refine lv_iconst (v := jI 1) hx hb dX1_someMovementRuns_28 rfl ?_
            subst hz
            exact xr_z hx hb hr hlocks (Or.inr rfl) rfl dX1_someMovementRuns_29
  exact LP2 (3 + 1 - 0) 0  ls (by omega) (by omega) hz (lv_sub hl [1, 0] rfl)
def s_X1_movementsRunDown_lp4 (f : Nat → Int) : Nat → Nat → Int → Int
  | 0, _, _ => default
  | k + 1, i, v => if 3 ≤ (i : Int) then v else (if (f ((21 + (i * 4)) + 0)) = 0 then (s_X1_movementsRunDown_lp4 f k (i + 1) (v + 1)) else (s_X1_movementsRunDown_lp4 f k (i + 1) v))
def s_X1_movementsRunDown (f : Nat → Int) : Int := s_X1_movementsRunDown_lp4 f (3 + 1 - 0) 0 0
abbrev rm_X1_movementsRunDown : Room := { frames := 1, cells := 0, slots := 0, locals := 21 }
set_option maxHeartbeats 4000000 in
set_option maxRecDepth 100000 in
theorem m_X1_movementsRunDown (l : Launch) (D : va_G) (cI : ClassId) (a : Nat → Nat) (f : Nat → Int) (g : Nat → Int) (n : Int) (b : Nat → Int) (len : Int) (kd : Nat → Int) (sg : Nat → Int) (nb : Nat → Int) (pt : Int) (hrf : rng f) : MetR l yX1_movementsRunDown wsX1_movementsRunDown rm_X1_movementsRunDown D cI [.ref (a 0)] (w1 cI a f g n b len kd sg nb pt) (s_X1_movementsRunDown f) := by
  refine xe_R (cc := cX1_movementsRunDown) (maxL := 3) (ret := (some .int)) (by decide) rfl (Nat.le_of_ble_eq_true rfl) ?_
  intro p e s m below meth c hx hb hr hml hts hown hlocks hP hK ls hl
  have hl : lv_has ls 3 [(0, .ref (a 0))] := hl
  have hown : s.vm.findClass RX1 = some m.cls := hown
  have hSx : CallFix p m c cX1_movementsRunDown 3 s ([.ref (a 0)] : List Value).toArray wsX1_movementsRunDown RX1 := ⟨hx, hb, hml, hown, hts⟩
  have inRX1 : ∀ w ∈ u_ws RX1 TX1 6, w ∈ wsX1_movementsRunDown := by decide +kernel
  have qf9 := hts (.fieldLink RX1 9 "VaultMovements" "now" "[I") (by decide +kernel)
  obtain ⟨z, hz⟩ : ∃ z, z = (s_X1_movementsRunDown f) := ⟨_, rfl⟩
  rw [← hz]
  unfold s_X1_movementsRunDown at hz
  refine lv_iconst (v := jI 0) hx hb dX1_movementsRunDown_0 rfl ?_
  refine lv_istore_n (lv' := [(1, .int (jI 0)), (0, .ref (a 0))]) hx hb dX1_movementsRunDown_1 rfl hl (by decide) rfl (fun ls hl => ?_)
  refine lv_iconst (v := jI 0) hx hb dX1_movementsRunDown_2 rfl ?_
  refine lv_istore_n (lv' := [(2, .int (jI 0)), (1, .int (jI 0)), (0, .ref (a 0))]) hx hb dX1_movementsRunDown_3 rfl hl (by decide) rfl (fun ls hl => ?_)
  have LP4 : ∀ (k i : Nat) (v : Int) (ls : Array Slot), i ≤ 3 → i + k = 3 + 1 → z = (s_X1_movementsRunDown_lp4 f) k i v → lv_has ls 3 [(0, .ref (a 0)), (1, .int (jI v)), (2, .int (jI (i : Int)))] → W p l e rm_X1_movementsRunDown s m ([.ref (a 0)] : List Value).toArray below meth c s.heap [] 0 0 (MQ below (vp_Si (fun x => x = jI z)) ([.ref (a 0)] : List Value).toArray s 0 0 (fun _ => False)) (F0 m 4 ls []) := by
    intro k
    induction k with
    | zero => intro i v ls h1 h2; exact absurd h2 (by omega)
    | succ k ih =>
      intro i v  ls h1 h2 hz hl
      rw [s_X1_movementsRunDown_lp4] at hz
      refine lv_iload_n hx hb dX1_movementsRunDown_4 rfl (lv_at hl 2 rfl) ?_
      refine lv_iconst (v := jI 3) hx hb dX1_movementsRunDown_5 rfl ?_
      refine x_icmp_ge (tgt := 31) hx hb dX1_movementsRunDown_6 (by decide) ⟨(by omega), (by decide)⟩ (fun c6 => ?_) (fun c6 => ?_)
      · rw [if_pos c6] at hz
        refine lv_iload_n hx hb dX1_movementsRunDown_31 rfl (lv_at hl 1 rfl) ?_
        subst hz
        exact xr_i hx hb hr hlocks rfl dX1_movementsRunDown_32
      · rw [if_neg c6] at hz
        refine lv_aload_n hx hb dX1_movementsRunDown_9 rfl (lv_at hl 0 rfl) ?_
        refine va_get (D := D) (ci := 1) (v := .ref (a 1)) (C := RX1) (T := TX1) (N := 6) hx hb hts inRX1 hown hK hP 0 rfl rfl 0 (by decide) qf9 (fun _ h9 => h9) rfl dX1_movementsRunDown_10 ?_
        refine lv_iload_n hx hb dX1_movementsRunDown_13 rfl (lv_at hl 2 rfl) ?_
        refine lv_iconst (v := jI 0) hx hb dX1_movementsRunDown_14 rfl ?_
        refine xc_P (As := [.int (jI (i : Int)), .int (jI 0)]) (rest := [.ref (a 1)]) hSx (m_X1_place l (i : Int) 0 ) (va_cwS 2 hts gX1_movementsRunDown_X1_place rfl rfl rfl (by decide +kernel) ⟨Nat.le_of_ble_eq_true rfl, Nat.le_of_ble_eq_true rfl⟩) rfl hl.1 rfl (Nat.le_of_ble_eq_true rfl) dX1_movementsRunDown_15 ⟨Nat.zero_le _, Nat.zero_le _⟩ ?_
        refine x_iald hx hb hK hP 1 0 rfl rfl ((21 + (i * 4)) + 0) (by omega) (by omega) (by decide) dX1_movementsRunDown_18 ?_
        refine x_if_ne (tgt := 25) hx hb dX1_movementsRunDown_19 (by decide) (hrf _) (fun c19 => ?_) (fun c19 => ?_)
        · rw [if_neg c19] at hz
          refine lv_iinc (v := jI ((i + 1 : Nat) : Int)) (lv' := [(2, .int (jI ((i + 1 : Nat) : Int))), (0, .ref (a 0)), (1, .int (jI v))]) hx hb dX1_movementsRunDown_25 hl (k := 2) rfl (jI_inc _ 1) (by decide) rfl (fun ls hl => ?_)
          refine lv_goto (tgt := 4) hx hb dX1_movementsRunDown_28 (by decide) ?_
          exact ih (i + 1) v ls (by omega) (by omega) hz (lv_sub hl [1, 2, 0] rfl)
        · rw [if_pos c19] at hz
          refine lv_iinc (v := jI (v + 1)) (lv' := [(1, .int (jI (v + 1))), (0, .ref (a 0)), (2, .int (jI (i : Int)))]) hx hb dX1_movementsRunDown_22 hl (k := 1) rfl (jI_add _ 1) (by decide) rfl (fun ls hl => ?_)
          refine lv_iinc (v := jI ((i + 1 : Nat) : Int)) (lv' := [(2, .int (jI ((i + 1 : Nat) : Int))), (1, .int (jI (v + 1))), (0, .ref (a 0))]) hx hb dX1_movementsRunDown_25 hl (k := 2) rfl (jI_inc _ 1) (by decide) rfl (fun ls hl => ?_)
          refine lv_goto (tgt := 4) hx hb dX1_movementsRunDown_28 (by decide) ?_
          exact ih (i + 1) (v + 1) ls (by omega) (by omega) hz (lv_sub hl [2, 1, 0] rfl)
  exact LP4 (3 + 1 - 0) 0 0 ls (by omega) (by omega) hz (lv_sub hl [2, 1, 0] rfl)
abbrev rm_X1_hoursToWait : Room := { frames := 1, cells := 0, slots := 0, locals := 40 }
set_option maxHeartbeats 4000000 in
set_option maxRecDepth 100000 in
theorem m_X1_hoursToWait (l : Launch) (D : va_G) (cI : ClassId) (a : Nat → Nat) (f : Nat → Int) (g : Nat → Int) (n : Int) (b : Nat → Int) (len : Int) (kd : Nat → Int) (sg : Nat → Int) (nb : Nat → Int) (pt : Int) (hh : 0 ≤ f 0 ∧ f 0 ≤ 99999) (hw : 0 ≤ f 4 ∧ f 4 ≤ 100100) : MetR l yX1_hoursToWait wsX1_hoursToWait rm_X1_hoursToWait D cI [.ref (a 0)] (w1 cI a f g n b len kd sg nb pt) (if ((f 4) - (f 0)) < 0 then 0 else ((f 4) - (f 0))) := by
  refine xe_R (cc := cX1_hoursToWait) (maxL := 1) (ret := (some .int)) (by decide) rfl (Nat.le_of_ble_eq_true rfl) ?_
  intro p e s m below meth c hx hb hr hml hts hown hlocks hP hK ls hl
  have hl : lv_has ls 1 [(0, .ref (a 0))] := hl
  have hown : s.vm.findClass RX1 = some m.cls := hown
  have hSx : CallFix p m c cX1_hoursToWait 1 s ([.ref (a 0)] : List Value).toArray wsX1_hoursToWait RX1 := ⟨hx, hb, hml, hown, hts⟩
  have inRX1 : ∀ w ∈ u_ws RX1 TX1 6, w ∈ wsX1_hoursToWait := by decide +kernel
  have qf9 := hts (.fieldLink RX1 9 "VaultMovements" "now" "[I") (by decide +kernel)
  have qm179 := hts (.methodLink RX1 179 Lib.Math.max.name) (by decide +kernel)
  have qmC := hts (.code Lib.Math.max.name Lib.Math.max.code 2 (some .int)) (by decide +kernel)
  have qmI := hts (.initialized "java/lang/Math") (by decide +kernel)
  have qmS := hts (.static Lib.Math.max.name) (by decide +kernel)
  obtain ⟨z, hz⟩ : ∃ z, z = (if ((f 4) - (f 0)) < 0 then 0 else ((f 4) - (f 0))) := ⟨_, rfl⟩
  rw [← hz]
  refine lv_aload_n hx hb dX1_hoursToWait_0 rfl (lv_at hl 0 rfl) ?_
  refine va_get (D := D) (ci := 1) (v := .ref (a 1)) (C := RX1) (T := TX1) (N := 6) hx hb hts inRX1 hown hK hP 0 rfl rfl 0 (by decide) qf9 (fun _ h9 => h9) rfl dX1_hoursToWait_1 ?_
  refine lv_iconst (v := jI 4) hx hb dX1_hoursToWait_4 rfl ?_
  refine x_iald hx hb hK hP 1 0 rfl rfl 4 rfl (by decide) (by decide) dX1_hoursToWait_5 ?_
  refine lv_aload_n hx hb dX1_hoursToWait_6 rfl (lv_at hl 0 rfl) ?_
  refine va_get (D := D) (ci := 1) (v := .ref (a 1)) (C := RX1) (T := TX1) (N := 6) hx hb hts inRX1 hown hK hP 0 rfl rfl 0 (by decide) qf9 (fun _ h9 => h9) rfl dX1_hoursToWait_7 ?_
  refine lv_iconst (v := jI 0) hx hb dX1_hoursToWait_10 rfl ?_
  refine x_iald hx hb hK hP 1 0 rfl rfl 0 rfl (by decide) (by decide) dX1_hoursToWait_11 ?_
  refine x_isub hx hb dX1_hoursToWait_12 ?_
  refine lv_iconst (v := jI 0) hx hb dX1_hoursToWait_13 rfl ?_
  refine x_mmax hx hb (hml.trans hl.1.symm) hown qm179 qmS qmI qmC (Nat.le_of_ble_eq_true rfl) (Nat.le_of_ble_eq_true rfl) (Nat.zero_le _) (Nat.zero_le _) dX1_hoursToWait_14 ⟨(by omega), (by decide)⟩ ?_
  subst hz
  exact xr_i hx hb hr hlocks rfl dX1_hoursToWait_17
def s_X1_latenessAfter (f : Nat → Int) (x0 : Int) : Int := if (f 2) = (-1) then 0 else (((f 0) + x0) - (f 2))
abbrev rm_X1_latenessAfter : Room := { frames := 0, cells := 0, slots := 0, locals := 0 }
set_option maxHeartbeats 4000000 in
set_option maxRecDepth 100000 in
theorem m_X1_latenessAfter (l : Launch) (D : va_G) (cI : ClassId) (a : Nat → Nat) (f : Nat → Int) (g : Nat → Int) (n : Int) (b : Nat → Int) (len : Int) (kd : Nat → Int) (sg : Nat → Int) (nb : Nat → Int) (pt : Int) (x0 : Int) (hrf : rng f) : MetR l yX1_latenessAfter wsX1_latenessAfter rm_X1_latenessAfter D cI [.ref (a 0), .int (jI x0)] (w1 cI a f g n b len kd sg nb pt) (s_X1_latenessAfter f x0) := by
  refine xe_R (cc := cX1_latenessAfter) (maxL := 2) (ret := (some .int)) (by decide) rfl (Nat.le_of_ble_eq_true rfl) ?_
  intro p e s m below meth c hx hb hr hml hts hown hlocks hP hK ls hl
  have hl : lv_has ls 2 [(0, .ref (a 0)), (1, .int (jI x0))] := hl
  have hown : s.vm.findClass RX1 = some m.cls := hown
  have hSx : CallFix p m c cX1_latenessAfter 2 s ([.ref (a 0), .int (jI x0)] : List Value).toArray wsX1_latenessAfter RX1 := ⟨hx, hb, hml, hown, hts⟩
  have inRX1 : ∀ w ∈ u_ws RX1 TX1 6, w ∈ wsX1_latenessAfter := by decide +kernel
  have qf9 := hts (.fieldLink RX1 9 "VaultMovements" "now" "[I") (by decide +kernel)
  obtain ⟨z, hz⟩ : ∃ z, z = (s_X1_latenessAfter f x0) := ⟨_, rfl⟩
  rw [← hz]
  unfold s_X1_latenessAfter at hz
  refine lv_aload_n hx hb dX1_latenessAfter_0 rfl (lv_at hl 0 rfl) ?_
  refine va_get (D := D) (ci := 1) (v := .ref (a 1)) (C := RX1) (T := TX1) (N := 6) hx hb hts inRX1 hown hK hP 0 rfl rfl 0 (by decide) qf9 (fun _ h9 => h9) rfl dX1_latenessAfter_1 ?_
  refine lv_iconst (v := jI 2) hx hb dX1_latenessAfter_4 rfl ?_
  refine x_iald hx hb hK hP 1 0 rfl rfl 2 rfl (by decide) (by decide) dX1_latenessAfter_5 ?_
  refine lv_iconst (v := jI (-1)) hx hb dX1_latenessAfter_6 rfl ?_
  refine x_icmp_ne (tgt := 14) hx hb dX1_latenessAfter_7 (by decide) ⟨(hrf _), (by decide)⟩ (fun c7 => ?_) (fun c7 => ?_)
  · rw [if_neg c7] at hz
    refine lv_aload_n hx hb dX1_latenessAfter_14 rfl (lv_at hl 0 rfl) ?_
    refine va_get (D := D) (ci := 1) (v := .ref (a 1)) (C := RX1) (T := TX1) (N := 6) hx hb hts inRX1 hown hK hP 0 rfl rfl 0 (by decide) qf9 (fun _ h9 => h9) rfl dX1_latenessAfter_15 ?_
    refine lv_iconst (v := jI 0) hx hb dX1_latenessAfter_18 rfl ?_
    refine x_iald hx hb hK hP 1 0 rfl rfl 0 rfl (by decide) (by decide) dX1_latenessAfter_19 ?_
    refine lv_iload_n hx hb dX1_latenessAfter_20 rfl (lv_at hl 1 rfl) ?_
    refine x_iadd hx hb dX1_latenessAfter_21 ?_
    refine lv_aload_n hx hb dX1_latenessAfter_22 rfl (lv_at hl 0 rfl) ?_
    refine va_get (D := D) (ci := 1) (v := .ref (a 1)) (C := RX1) (T := TX1) (N := 6) hx hb hts inRX1 hown hK hP 0 rfl rfl 0 (by decide) qf9 (fun _ h9 => h9) rfl dX1_latenessAfter_23 ?_
    refine lv_iconst (v := jI 2) hx hb dX1_latenessAfter_26 rfl ?_
    refine x_iald hx hb hK hP 1 0 rfl rfl 2 rfl (by decide) (by decide) dX1_latenessAfter_27 ?_
    refine x_isub hx hb dX1_latenessAfter_28 ?_
    subst hz
    exact xr_i hx hb hr hlocks rfl dX1_latenessAfter_29
  · rw [if_pos c7] at hz
    refine lv_iconst (v := jI 0) hx hb dX1_latenessAfter_10 rfl ?_
    refine lv_goto (tgt := 29) hx hb dX1_latenessAfter_11 (by decide) ?_
    subst hz
    exact xr_i hx hb hr hlocks rfl dX1_latenessAfter_29
def s_X1_hoursToRunDown (f : Nat → Int) (j : Nat) (gg : Int) : Int := if (f ((21 + (j * 4)) + 0)) = 0 then 0 else (if gg = 0 then (-1) else (if (f ((21 + (j * 4)) + 2)) = 1 then (-1) else (if 0 < (f ((21 + (j * 4)) + 2)) then ((f ((21 + (j * 4)) + 0)) + (((((f ((21 + (j * 4)) + 3)) % (f ((21 + (j * 4)) + 2))) + (f ((21 + (j * 4)) + 0))) - 1) / ((f ((21 + (j * 4)) + 2)) - 1))) else (f ((21 + (j * 4)) + 0)))))
abbrev rm_X1_hoursToRunDown : Room := { frames := 1, cells := 0, slots := 0, locals := 21 }
set_option maxHeartbeats 4000000 in
set_option maxRecDepth 100000 in
theorem m_X1_hoursToRunDown (l : Launch) (D : va_G) (cI : ClassId) (a : Nat → Nat) (f : Nat → Int) (g : Nat → Int) (n : Int) (b : Nat → Int) (len : Int) (kd : Nat → Int) (sg : Nat → Int) (nb : Nat → Int) (pt : Int) (j : Nat) (gg : Int) (hj : j < 3) (hrf : rng f) (hm : mvs f) (hg : -2147483648 ≤ gg ∧ gg < 2147483648) : MetR l yX1_hoursToRunDown wsX1_hoursToRunDown rm_X1_hoursToRunDown D cI [.ref (a 0), .int (jI (j : Int)), .int (jI gg)] (w1 cI a f g n b len kd sg nb pt) (s_X1_hoursToRunDown f j gg) := by
  refine xe_R (cc := cX1_hoursToRunDown) (maxL := 6) (ret := (some .int)) (by decide) rfl (Nat.le_of_ble_eq_true rfl) ?_
  intro p e s m below meth c hx hb hr hml hts hown hlocks hP hK ls hl
  have hl : lv_has ls 6 [(0, .ref (a 0)), (1, .int (jI (j : Int))), (2, .int (jI gg))] := hl
  have hown : s.vm.findClass RX1 = some m.cls := hown
  have hSx : CallFix p m c cX1_hoursToRunDown 6 s ([.ref (a 0), .int (jI (j : Int)), .int (jI gg)] : List Value).toArray wsX1_hoursToRunDown RX1 := ⟨hx, hb, hml, hown, hts⟩
  have inRX1 : ∀ w ∈ u_ws RX1 TX1 6, w ∈ wsX1_hoursToRunDown := by decide +kernel
  have qf9 := hts (.fieldLink RX1 9 "VaultMovements" "now" "[I") (by decide +kernel)
  have hm1 := hm j hj
  obtain ⟨z, hz⟩ : ∃ z, z = (s_X1_hoursToRunDown f j gg) := ⟨_, rfl⟩
  rw [← hz]
  unfold s_X1_hoursToRunDown at hz
  refine lv_aload_n hx hb dX1_hoursToRunDown_0 rfl (lv_at hl 0 rfl) ?_
  refine va_get (D := D) (ci := 1) (v := .ref (a 1)) (C := RX1) (T := TX1) (N := 6) hx hb hts inRX1 hown hK hP 0 rfl rfl 0 (by decide) qf9 (fun _ h9 => h9) rfl dX1_hoursToRunDown_1 ?_
  refine lv_iload_n hx hb dX1_hoursToRunDown_4 rfl (lv_at hl 1 rfl) ?_
  refine lv_iconst (v := jI 0) hx hb dX1_hoursToRunDown_5 rfl ?_
  refine xc_P (As := [.int (jI (j : Int)), .int (jI 0)]) (rest := [.ref (a 1)]) hSx (m_X1_place l (j : Int) 0 ) (va_cwS 2 hts gX1_hoursToRunDown_X1_place rfl rfl rfl (by decide +kernel) ⟨Nat.le_of_ble_eq_true rfl, Nat.le_of_ble_eq_true rfl⟩) rfl hl.1 rfl (Nat.le_of_ble_eq_true rfl) dX1_hoursToRunDown_6 ⟨Nat.zero_le _, Nat.zero_le _⟩ ?_
  refine x_iald hx hb hK hP 1 0 rfl rfl ((21 + (j * 4)) + 0) (by omega) (by omega) (by decide) dX1_hoursToRunDown_9 ?_
  refine lv_istore_n (lv' := [(3, .int (jI (f ((21 + (j * 4)) + 0)))), (0, .ref (a 0)), (1, .int (jI (j : Int))), (2, .int (jI gg))]) hx hb dX1_hoursToRunDown_10 rfl hl (by decide) rfl (fun ls hl => ?_)
  refine lv_aload_n hx hb dX1_hoursToRunDown_11 rfl (lv_at hl 1 rfl) ?_
  refine va_get (D := D) (ci := 1) (v := .ref (a 1)) (C := RX1) (T := TX1) (N := 6) hx hb hts inRX1 hown hK hP 0 rfl rfl 0 (by decide) qf9 (fun _ h9 => h9) rfl dX1_hoursToRunDown_12 ?_
  refine lv_iload_n hx hb dX1_hoursToRunDown_15 rfl (lv_at hl 2 rfl) ?_
  refine lv_iconst (v := jI 2) hx hb dX1_hoursToRunDown_16 rfl ?_
  refine xc_P (As := [.int (jI (j : Int)), .int (jI 2)]) (rest := [.ref (a 1)]) hSx (m_X1_place l (j : Int) 2 ) (va_cwS 2 hts gX1_hoursToRunDown_X1_place rfl rfl rfl (by decide +kernel) ⟨Nat.le_of_ble_eq_true rfl, Nat.le_of_ble_eq_true rfl⟩) rfl hl.1 rfl (Nat.le_of_ble_eq_true rfl) dX1_hoursToRunDown_17 ⟨Nat.zero_le _, Nat.zero_le _⟩ ?_
  refine x_iald hx hb hK hP 1 0 rfl rfl ((21 + (j * 4)) + 2) (by omega) (by omega) (by decide) dX1_hoursToRunDown_20 ?_
  refine lv_istore (lv' := [(4, .int (jI (f ((21 + (j * 4)) + 2)))), (3, .int (jI (f ((21 + (j * 4)) + 0)))), (0, .ref (a 0)), (1, .int (jI (j : Int))), (2, .int (jI gg))]) hx hb dX1_hoursToRunDown_21 hl (by decide) rfl (fun ls hl => ?_)
  refine lv_iload_n hx hb dX1_hoursToRunDown_23 rfl (lv_at hl 1 rfl) ?_
  refine x_if_ne (tgt := 29) hx hb dX1_hoursToRunDown_24 (by decide) (hrf _) (fun c24 => ?_) (fun c24 => ?_)
  · rw [if_neg c24] at hz
    refine lv_iload_n hx hb dX1_hoursToRunDown_29 rfl (lv_at hl 4 rfl) ?_
    refine x_if_eq (tgt := 39) hx hb dX1_hoursToRunDown_30 (by decide) (by omega) (fun c30 => ?_) (fun c30 => ?_)
    · rw [if_pos c30] at hz
      refine lv_iconst (v := jI (-1)) hx hb dX1_hoursToRunDown_39 rfl ?_
      subst hz
      exact xr_i hx hb hr hlocks rfl dX1_hoursToRunDown_40
    · rw [if_neg c30] at hz
      refine lv_iload hx hb dX1_hoursToRunDown_33 (lv_at hl 0 rfl) ?_
      refine lv_iconst (v := jI 1) hx hb dX1_hoursToRunDown_35 rfl ?_
      refine x_icmp_ne (tgt := 41) hx hb dX1_hoursToRunDown_36 (by decide) ⟨(hrf _), (by decide)⟩ (fun c36 => ?_) (fun c36 => ?_)
      · rw [if_neg c36] at hz
        refine lv_iload hx hb dX1_hoursToRunDown_41 (lv_at hl 0 rfl) ?_
        refine x_if_gt (tgt := 48) hx hb dX1_hoursToRunDown_43 (by decide) (hrf _) (fun c43 => ?_) (fun c43 => ?_)
        · rw [if_pos c43] at hz
          refine lv_aload_n hx hb dX1_hoursToRunDown_48 rfl (lv_at hl 2 rfl) ?_
          refine va_get (D := D) (ci := 1) (v := .ref (a 1)) (C := RX1) (T := TX1) (N := 6) hx hb hts inRX1 hown hK hP 0 rfl rfl 0 (by decide) qf9 (fun _ h9 => h9) rfl dX1_hoursToRunDown_49 ?_
          refine lv_iload_n hx hb dX1_hoursToRunDown_52 rfl (lv_at hl 3 rfl) ?_
          refine lv_iconst (v := jI 3) hx hb dX1_hoursToRunDown_53 rfl ?_
          refine xc_P (As := [.int (jI (j : Int)), .int (jI 3)]) (rest := [.ref (a 1)]) hSx (m_X1_place l (j : Int) 3 ) (va_cwS 2 hts gX1_hoursToRunDown_X1_place rfl rfl rfl (by decide +kernel) ⟨Nat.le_of_ble_eq_true rfl, Nat.le_of_ble_eq_true rfl⟩) rfl hl.1 rfl (Nat.le_of_ble_eq_true rfl) dX1_hoursToRunDown_54 ⟨Nat.zero_le _, Nat.zero_le _⟩ ?_
          refine x_iald hx hb hK hP 1 0 rfl rfl ((21 + (j * 4)) + 3) (by omega) (by omega) (by decide) dX1_hoursToRunDown_57 ?_
          refine lv_iload hx hb dX1_hoursToRunDown_58 (lv_at hl 0 rfl) ?_
          refine x_irem hx hb dX1_hoursToRunDown_60 (by omega) ?_
          have he1 := Int.emod_nonneg ((f ((21 + (j * 4)) + 3))) (show (f ((21 + (j * 4)) + 2)) ≠ 0 by omega)
          have he2 := Int.emod_lt_of_pos ((f ((21 + (j * 4)) + 3))) (show 0 < (f ((21 + (j * 4)) + 2)) by omega)
          refine lv_istore (lv' := [(5, .int (jI ((f ((21 + (j * 4)) + 3)) % (f ((21 + (j * 4)) + 2))))), (4, .int (jI (f ((21 + (j * 4)) + 2)))), (3, .int (jI (f ((21 + (j * 4)) + 0)))), (0, .ref (a 0)), (1, .int (jI (j : Int))), (2, .int (jI gg))]) hx hb dX1_hoursToRunDown_61 hl (by decide) rfl (fun ls hl => ?_)
          refine lv_iload_n hx hb dX1_hoursToRunDown_63 rfl (lv_at hl 2 rfl) ?_
          refine lv_iload hx hb dX1_hoursToRunDown_64 (lv_at hl 0 rfl) ?_
          refine lv_iload_n hx hb dX1_hoursToRunDown_66 rfl (lv_at hl 2 rfl) ?_
          refine x_iadd hx hb dX1_hoursToRunDown_67 ?_
          refine lv_iconst (v := jI 1) hx hb dX1_hoursToRunDown_68 rfl ?_
          refine x_isub hx hb dX1_hoursToRunDown_69 ?_
          refine lv_iload hx hb dX1_hoursToRunDown_70 (lv_at hl 1 rfl) ?_
          refine lv_iconst (v := jI 1) hx hb dX1_hoursToRunDown_72 rfl ?_
          refine x_isub hx hb dX1_hoursToRunDown_73 ?_
          refine x_idiv hx hb dX1_hoursToRunDown_74 (by omega) ?_
          refine x_iadd hx hb dX1_hoursToRunDown_75 ?_
          subst hz
          exact xr_i hx hb hr hlocks rfl dX1_hoursToRunDown_76
        · rw [if_neg c43] at hz
          refine lv_iload_n hx hb dX1_hoursToRunDown_46 rfl (lv_at hl 1 rfl) ?_
          subst hz
          exact xr_i hx hb hr hlocks rfl dX1_hoursToRunDown_47
      · rw [if_pos c36] at hz
        refine lv_iconst (v := jI (-1)) hx hb dX1_hoursToRunDown_39 rfl ?_
        subst hz
        exact xr_i hx hb hr hlocks rfl dX1_hoursToRunDown_40
  · rw [if_pos c24] at hz
    refine lv_iconst (v := jI 0) hx hb dX1_hoursToRunDown_27 rfl ?_
    subst hz
    exact xr_i hx hb hr hlocks rfl dX1_hoursToRunDown_28
theorem r_X1_hoursToRunDown (f : Nat → Int) (j : Nat) (gg : Int) (hj : j < 3) (hm : mvs f) : -1 ≤ s_X1_hoursToRunDown f j gg ∧ s_X1_hoursToRunDown f j gg ≤ 500 := by
  have hm1 := hm j hj
  unfold s_X1_hoursToRunDown
  split
  · omega
  split
  · omega
  split
  · omega
  split
  · have he1 := Int.emod_nonneg (f (21 + j * 4 + 3)) (show f (21 + j * 4 + 2) ≠ 0 by omega)
    have he2 := Int.emod_lt_of_pos (f (21 + j * 4 + 3)) (show 0 < f (21 + j * 4 + 2) by omega)
    have hq := Int.ediv_le_self (f (21 + j * 4 + 2) - 1) (show 0 ≤ f (21 + j * 4 + 3) % f (21 + j * 4 + 2) + f (21 + j * 4 + 0) - 1 by omega)
    have hq2 := Int.ediv_nonneg (show 0 ≤ f (21 + j * 4 + 3) % f (21 + j * 4 + 2) + f (21 + j * 4 + 0) - 1 by omega) (show 0 ≤ f (21 + j * 4 + 2) - 1 by omega)
    omega
  · omega
end
