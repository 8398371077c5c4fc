-- ===== PART A: goes FIRST, ahead of the names: the tables' words, and 'selects' of the private methods out of them =====
/-- a private method of a class that the tables say can be made, by its rows of tables_1 -/
def lw_okq (q : MethodName × Nat) : Prop := (q.1.cls ≠ "java/lang/invoke/MethodHandle" ∧ q.1.cls ≠ "java/lang/invoke/VarHandle") ∧ Cond.instantiable q.1.cls q.2 ∈ tables_1 ∧ Cond.privateMethod q.1 ∈ tables_1 ∧ Cond.instanceMethod q.1 ∈ tables_1
theorem lw_p0 : lw_okq (⟨"ConkerBouts", "bad", "()I"⟩, 10) := ⟨⟨by decide +kernel, by decide +kernel⟩, List.mem_of_getElem? (i := 19) (by decide +kernel), List.mem_of_getElem? (i := 260) (by decide +kernel), List.mem_of_getElem? (i := 261) (by decide +kernel)⟩
theorem lw_p1 : lw_okq (⟨"ConkerBouts", "full", "()I"⟩, 10) := ⟨⟨by decide +kernel, by decide +kernel⟩, List.mem_of_getElem? (i := 19) (by decide +kernel), List.mem_of_getElem? (i := 283) (by decide +kernel), List.mem_of_getElem? (i := 284) (by decide +kernel)⟩
theorem lw_p2 : lw_okq (⟨"ConkerBouts$Text", "nextToken", "()V"⟩, 7) := ⟨⟨by decide +kernel, by decide +kernel⟩, List.mem_of_getElem? (i := 142) (by decide +kernel), List.mem_of_getElem? (i := 329) (by decide +kernel), List.mem_of_getElem? (i := 330) (by decide +kernel)⟩
theorem lw_p3 : lw_okq (⟨"ConkerBouts$Text", "byteAt", "(I)I"⟩, 7) := ⟨⟨by decide +kernel, by decide +kernel⟩, List.mem_of_getElem? (i := 142) (by decide +kernel), List.mem_of_getElem? (i := 333) (by decide +kernel), List.mem_of_getElem? (i := 334) (by decide +kernel)⟩
theorem lw_p4 : lw_okq (⟨"ConkerBouts$Text", "endWord", "()V"⟩, 7) := ⟨⟨by decide +kernel, by decide +kernel⟩, List.mem_of_getElem? (i := 142) (by decide +kernel), List.mem_of_getElem? (i := 340) (by decide +kernel), List.mem_of_getElem? (i := 341) (by decide +kernel)⟩
theorem lw_p5 : lw_okq (⟨"ConkerBouts$Text", "endNumber", "()V"⟩, 7) := ⟨⟨by decide +kernel, by decide +kernel⟩, List.mem_of_getElem? (i := 142) (by decide +kernel), List.mem_of_getElem? (i := 347) (by decide +kernel), List.mem_of_getElem? (i := 348) (by decide +kernel)⟩
theorem lw_p6 : lw_okq (⟨"ConkerBouts$Text", "readItem", "(LConkerBouts$Yard;Z)Z"⟩, 7) := ⟨⟨by decide +kernel, by decide +kernel⟩, List.mem_of_getElem? (i := 142) (by decide +kernel), List.mem_of_getElem? (i := 351) (by decide +kernel), List.mem_of_getElem? (i := 352) (by decide +kernel)⟩
theorem lw_p7 : lw_okq (⟨"ConkerBouts$Text", "spells", "(Ljava/lang/String;)Z"⟩, 7) := ⟨⟨by decide +kernel, by decide +kernel⟩, List.mem_of_getElem? (i := 142) (by decide +kernel), List.mem_of_getElem? (i := 356) (by decide +kernel), List.mem_of_getElem? (i := 357) (by decide +kernel)⟩
theorem lw_p8 : lw_okq (⟨"ConkerBouts$Text", "readNumber", "(LConkerBouts$Yard;)Z"⟩, 7) := ⟨⟨by decide +kernel, by decide +kernel⟩, List.mem_of_getElem? (i := 142) (by decide +kernel), List.mem_of_getElem? (i := 408) (by decide +kernel), List.mem_of_getElem? (i := 409) (by decide +kernel)⟩
theorem lw_p9 : lw_okq (⟨"ConkerBouts$Text", "take", "(II)Z"⟩, 7) := ⟨⟨by decide +kernel, by decide +kernel⟩, List.mem_of_getElem? (i := 142) (by decide +kernel), List.mem_of_getElem? (i := 412) (by decide +kernel), List.mem_of_getElem? (i := 413) (by decide +kernel)⟩
theorem lw_p10 : lw_okq (⟨"ConkerBouts$Text", "faultHere", "()Z"⟩, 7) := ⟨⟨by decide +kernel, by decide +kernel⟩, List.mem_of_getElem? (i := 142) (by decide +kernel), List.mem_of_getElem? (i := 417) (by decide +kernel), List.mem_of_getElem? (i := 418) (by decide +kernel)⟩
theorem lw_p11 : lw_okq (⟨"ConkerBouts$Text", "readPlayer", "(LConkerBouts$Yard;)Z"⟩, 7) := ⟨⟨by decide +kernel, by decide +kernel⟩, List.mem_of_getElem? (i := 142) (by decide +kernel), List.mem_of_getElem? (i := 422) (by decide +kernel), List.mem_of_getElem? (i := 423) (by decide +kernel)⟩
theorem lw_p12 : lw_okq (⟨"ConkerBouts$Text", "readNut", "(LConkerBouts$Yard;)Z"⟩, 7) := ⟨⟨by decide +kernel, by decide +kernel⟩, List.mem_of_getElem? (i := 142) (by decide +kernel), List.mem_of_getElem? (i := 428) (by decide +kernel), List.mem_of_getElem? (i := 429) (by decide +kernel)⟩
theorem lw_p13 : lw_okq (⟨"ConkerBouts$Text", "readStrike", "(LConkerBouts$Yard;)Z"⟩, 7) := ⟨⟨by decide +kernel, by decide +kernel⟩, List.mem_of_getElem? (i := 142) (by decide +kernel), List.mem_of_getElem? (i := 434) (by decide +kernel), List.mem_of_getElem? (i := 435) (by decide +kernel)⟩
theorem lw_p14 : lw_okq (⟨"ConkerBouts$Yard", "nextForce", "(I)I"⟩, 11) := ⟨⟨by decide +kernel, by decide +kernel⟩, List.mem_of_getElem? (i := 33) (by decide +kernel), List.mem_of_getElem? (i := 454) (by decide +kernel), List.mem_of_getElem? (i := 455) (by decide +kernel)⟩
theorem lw_p15 : lw_okq (⟨"ConkerBouts$Yard", "crackBy", "(II)V"⟩, 11) := ⟨⟨by decide +kernel, by decide +kernel⟩, List.mem_of_getElem? (i := 33) (by decide +kernel), List.mem_of_getElem? (i := 474) (by decide +kernel), List.mem_of_getElem? (i := 475) (by decide +kernel)⟩
def lw_privs_1 : List (MethodName × Nat) := [(⟨"ConkerBouts", "bad", "()I"⟩, 10), (⟨"ConkerBouts", "full", "()I"⟩, 10), (⟨"ConkerBouts$Text", "nextToken", "()V"⟩, 7), (⟨"ConkerBouts$Text", "byteAt", "(I)I"⟩, 7), (⟨"ConkerBouts$Text", "endWord", "()V"⟩, 7), (⟨"ConkerBouts$Text", "endNumber", "()V"⟩, 7), (⟨"ConkerBouts$Text", "readItem", "(LConkerBouts$Yard;Z)Z"⟩, 7), (⟨"ConkerBouts$Text", "spells", "(Ljava/lang/String;)Z"⟩, 7), (⟨"ConkerBouts$Text", "readNumber", "(LConkerBouts$Yard;)Z"⟩, 7), (⟨"ConkerBouts$Text", "take", "(II)Z"⟩, 7), (⟨"ConkerBouts$Text", "faultHere", "()Z"⟩, 7), (⟨"ConkerBouts$Text", "readPlayer", "(LConkerBouts$Yard;)Z"⟩, 7), (⟨"ConkerBouts$Text", "readNut", "(LConkerBouts$Yard;)Z"⟩, 7), (⟨"ConkerBouts$Text", "readStrike", "(LConkerBouts$Yard;)Z"⟩, 7), (⟨"ConkerBouts$Yard", "nextForce", "(I)I"⟩, 11), (⟨"ConkerBouts$Yard", "crackBy", "(II)V"⟩, 11)]
theorem lw_r1 : ∀ q ∈ lw_privs_1, lw_okq q := List.forall_mem_cons.mpr ⟨lw_p0, List.forall_mem_cons.mpr ⟨lw_p1, List.forall_mem_cons.mpr ⟨lw_p2, List.forall_mem_cons.mpr ⟨lw_p3, List.forall_mem_cons.mpr ⟨lw_p4, List.forall_mem_cons.mpr ⟨lw_p5, List.forall_mem_cons.mpr ⟨lw_p6, List.forall_mem_cons.mpr ⟨lw_p7, List.forall_mem_cons.mpr ⟨lw_p8, List.forall_mem_cons.mpr ⟨lw_p9, List.forall_mem_cons.mpr ⟨lw_p10, List.forall_mem_cons.mpr ⟨lw_p11, List.forall_mem_cons.mpr ⟨lw_p12, List.forall_mem_cons.mpr ⟨lw_p13, List.forall_mem_cons.mpr ⟨lw_p14, List.forall_mem_cons.mpr ⟨lw_p15, fun _ h => absurd h List.not_mem_nil⟩⟩⟩⟩⟩⟩⟩⟩⟩⟩⟩⟩⟩⟩⟩⟩
theorem lw_p16 : lw_okq (⟨"ConkerBouts$Text", "readWait", "(LConkerBouts$Yard;)Z"⟩, 7) := ⟨⟨by decide +kernel, by decide +kernel⟩, List.mem_of_getElem? (i := 142) (by decide +kernel), List.mem_of_getElem? (i := 488) (by decide +kernel), List.mem_of_getElem? (i := 489) (by decide +kernel)⟩
theorem lw_p17 : lw_okq (⟨"ConkerBouts", "areTwoNuts", "(II)Z"⟩, 10) := ⟨⟨by decide +kernel, by decide +kernel⟩, List.mem_of_getElem? (i := 19) (by decide +kernel), List.mem_of_getElem? (i := 509) (by decide +kernel), List.mem_of_getElem? (i := 510) (by decide +kernel)⟩
theorem lw_p18 : lw_okq (⟨"ConkerBouts", "no", "()I"⟩, 10) := ⟨⟨by decide +kernel, by decide +kernel⟩, List.mem_of_getElem? (i := 19) (by decide +kernel), List.mem_of_getElem? (i := 515) (by decide +kernel), List.mem_of_getElem? (i := 516) (by decide +kernel)⟩
theorem lw_p19 : lw_okq (⟨"ConkerBouts$Past", "dropOldest", "()V"⟩, 2) := ⟨⟨by decide +kernel, by decide +kernel⟩, List.mem_of_getElem? (i := 83) (by decide +kernel), List.mem_of_getElem? (i := 523) (by decide +kernel), List.mem_of_getElem? (i := 524) (by decide +kernel)⟩
theorem lw_p20 : lw_okq (⟨"ConkerBouts$Yard", "ranksAhead", "(II)Z"⟩, 11) := ⟨⟨by decide +kernel, by decide +kernel⟩, List.mem_of_getElem? (i := 33) (by decide +kernel), List.mem_of_getElem? (i := 609) (by decide +kernel), List.mem_of_getElem? (i := 610) (by decide +kernel)⟩
theorem lw_p21 : lw_okq (⟨"ConkerBouts", "badBelow", "()I"⟩, 10) := ⟨⟨by decide +kernel, by decide +kernel⟩, List.mem_of_getElem? (i := 19) (by decide +kernel), List.mem_of_getElem? (i := 617) (by decide +kernel), List.mem_of_getElem? (i := 618) (by decide +kernel)⟩
theorem lw_p22 : lw_okq (⟨"ConkerBouts$Trial", "meetRest", "(III)V"⟩, 9) := ⟨⟨by decide +kernel, by decide +kernel⟩, List.mem_of_getElem? (i := 172) (by decide +kernel), List.mem_of_getElem? (i := 626) (by decide +kernel), List.mem_of_getElem? (i := 627) (by decide +kernel)⟩
theorem lw_p23 : lw_okq (⟨"ConkerBouts$Trial", "keepIfBetter", "(II)V"⟩, 9) := ⟨⟨by decide +kernel, by decide +kernel⟩, List.mem_of_getElem? (i := 172) (by decide +kernel), List.mem_of_getElem? (i := 632) (by decide +kernel), List.mem_of_getElem? (i := 633) (by decide +kernel)⟩
theorem lw_p24 : lw_okq (⟨"ConkerBouts$Guess", "mostAlike", "(ILConkerBouts$Yard;III)I"⟩, 1) := ⟨⟨by decide +kernel, by decide +kernel⟩, List.mem_of_getElem? (i := 212) (by decide +kernel), List.mem_of_getElem? (i := 725) (by decide +kernel), List.mem_of_getElem? (i := 726) (by decide +kernel)⟩
theorem lw_p25 : lw_okq (⟨"ConkerBouts$Trial", "weigh", "(LConkerBouts$Yard;I)V"⟩, 9) := ⟨⟨by decide +kernel, by decide +kernel⟩, List.mem_of_getElem? (i := 172) (by decide +kernel), List.mem_of_getElem? (i := 776) (by decide +kernel), List.mem_of_getElem? (i := 777) (by decide +kernel)⟩
theorem lw_p26 : lw_okq (⟨"ConkerBouts$Trial", "getsBy", "(LConkerBouts$Yard;I)I"⟩, 9) := ⟨⟨by decide +kernel, by decide +kernel⟩, List.mem_of_getElem? (i := 172) (by decide +kernel), List.mem_of_getElem? (i := 780) (by decide +kernel), List.mem_of_getElem? (i := 781) (by decide +kernel)⟩
theorem lw_p27 : lw_okq (⟨"ConkerBouts$Trial", "rests", "(LConkerBouts$Yard;III)Z"⟩, 9) := ⟨⟨by decide +kernel, by decide +kernel⟩, List.mem_of_getElem? (i := 172) (by decide +kernel), List.mem_of_getElem? (i := 784) (by decide +kernel), List.mem_of_getElem? (i := 785) (by decide +kernel)⟩
theorem lw_p28 : lw_okq (⟨"ConkerBouts$Trial", "strikeWithMisses", "(IIIII)J"⟩, 9) := ⟨⟨by decide +kernel, by decide +kernel⟩, List.mem_of_getElem? (i := 172) (by decide +kernel), List.mem_of_getElem? (i := 800) (by decide +kernel), List.mem_of_getElem? (i := 801) (by decide +kernel)⟩
theorem lw_p29 : lw_okq (⟨"ConkerBouts", "howMany", "(I)I"⟩, 10) := ⟨⟨by decide +kernel, by decide +kernel⟩, List.mem_of_getElem? (i := 19) (by decide +kernel), List.mem_of_getElem? (i := 866) (by decide +kernel), List.mem_of_getElem? (i := 867) (by decide +kernel)⟩
theorem lw_p30 : lw_okq (⟨"ConkerBoutsModel", "bad", "(I)I"⟩, 24) := ⟨⟨by decide +kernel, by decide +kernel⟩, List.mem_of_getElem? (i := 894) (by decide +kernel), List.mem_of_getElem? (i := 981) (by decide +kernel), List.mem_of_getElem? (i := 982) (by decide +kernel)⟩
theorem lw_p31 : lw_okq (⟨"ConkerBoutsModel", "clearTold", "()V"⟩, 24) := ⟨⟨by decide +kernel, by decide +kernel⟩, List.mem_of_getElem? (i := 894) (by decide +kernel), List.mem_of_getElem? (i := 996) (by decide +kernel), List.mem_of_getElem? (i := 997) (by decide +kernel)⟩
def lw_privs_2 : List (MethodName × Nat) := [(⟨"ConkerBouts$Text", "readWait", "(LConkerBouts$Yard;)Z"⟩, 7), (⟨"ConkerBouts", "areTwoNuts", "(II)Z"⟩, 10), (⟨"ConkerBouts", "no", "()I"⟩, 10), (⟨"ConkerBouts$Past", "dropOldest", "()V"⟩, 2), (⟨"ConkerBouts$Yard", "ranksAhead", "(II)Z"⟩, 11), (⟨"ConkerBouts", "badBelow", "()I"⟩, 10), (⟨"ConkerBouts$Trial", "meetRest", "(III)V"⟩, 9), (⟨"ConkerBouts$Trial", "keepIfBetter", "(II)V"⟩, 9), (⟨"ConkerBouts$Guess", "mostAlike", "(ILConkerBouts$Yard;III)I"⟩, 1), (⟨"ConkerBouts$Trial", "weigh", "(LConkerBouts$Yard;I)V"⟩, 9), (⟨"ConkerBouts$Trial", "getsBy", "(LConkerBouts$Yard;I)I"⟩, 9), (⟨"ConkerBouts$Trial", "rests", "(LConkerBouts$Yard;III)Z"⟩, 9), (⟨"ConkerBouts$Trial", "strikeWithMisses", "(IIIII)J"⟩, 9), (⟨"ConkerBouts", "howMany", "(I)I"⟩, 10), (⟨"ConkerBoutsModel", "bad", "(I)I"⟩, 24), (⟨"ConkerBoutsModel", "clearTold", "()V"⟩, 24)]
theorem lw_r2 : ∀ q ∈ lw_privs_2, lw_okq q := List.forall_mem_cons.mpr ⟨lw_p16, List.forall_mem_cons.mpr ⟨lw_p17, List.forall_mem_cons.mpr ⟨lw_p18, List.forall_mem_cons.mpr ⟨lw_p19, List.forall_mem_cons.mpr ⟨lw_p20, List.forall_mem_cons.mpr ⟨lw_p21, List.forall_mem_cons.mpr ⟨lw_p22, List.forall_mem_cons.mpr ⟨lw_p23, List.forall_mem_cons.mpr ⟨lw_p24, List.forall_mem_cons.mpr ⟨lw_p25, List.forall_mem_cons.mpr ⟨lw_p26, List.forall_mem_cons.mpr ⟨lw_p27, List.forall_mem_cons.mpr ⟨lw_p28, List.forall_mem_cons.mpr ⟨lw_p29, List.forall_mem_cons.mpr ⟨lw_p30, List.forall_mem_cons.mpr ⟨lw_p31, fun _ h => absurd h List.not_mem_nil⟩⟩⟩⟩⟩⟩⟩⟩⟩⟩⟩⟩⟩⟩⟩⟩
theorem lw_p32 : lw_okq (⟨"ConkerBoutsModel", "full", "()I"⟩, 24) := ⟨⟨by decide +kernel, by decide +kernel⟩, List.mem_of_getElem? (i := 894) (by decide +kernel), List.mem_of_getElem? (i := 1004) (by decide +kernel), List.mem_of_getElem? (i := 1005) (by decide +kernel)⟩
theorem lw_p33 : lw_okq (⟨"ConkerBoutsModel", "readsItem", "(Z)Z"⟩, 24) := ⟨⟨by decide +kernel, by decide +kernel⟩, List.mem_of_getElem? (i := 894) (by decide +kernel), List.mem_of_getElem? (i := 1030) (by decide +kernel), List.mem_of_getElem? (i := 1031) (by decide +kernel)⟩
theorem lw_p34 : lw_okq (⟨"ConkerBoutsModel", "next", "()V"⟩, 24) := ⟨⟨by decide +kernel, by decide +kernel⟩, List.mem_of_getElem? (i := 894) (by decide +kernel), List.mem_of_getElem? (i := 1034) (by decide +kernel), List.mem_of_getElem? (i := 1035) (by decide +kernel)⟩
theorem lw_p35 : lw_okq (⟨"ConkerBoutsModel", "isHere", "(II)Z"⟩, 24) := ⟨⟨by decide +kernel, by decide +kernel⟩, List.mem_of_getElem? (i := 894) (by decide +kernel), List.mem_of_getElem? (i := 1038) (by decide +kernel), List.mem_of_getElem? (i := 1039) (by decide +kernel)⟩
theorem lw_p36 : lw_okq (⟨"ConkerBoutsModel", "readsYard", "()Z"⟩, 24) := ⟨⟨by decide +kernel, by decide +kernel⟩, List.mem_of_getElem? (i := 894) (by decide +kernel), List.mem_of_getElem? (i := 1043) (by decide +kernel), List.mem_of_getElem? (i := 1044) (by decide +kernel)⟩
theorem lw_p37 : lw_okq (⟨"ConkerBoutsModel", "number", "(II)I"⟩, 24) := ⟨⟨by decide +kernel, by decide +kernel⟩, List.mem_of_getElem? (i := 894) (by decide +kernel), List.mem_of_getElem? (i := 1047) (by decide +kernel), List.mem_of_getElem? (i := 1048) (by decide +kernel)⟩
theorem lw_p38 : lw_okq (⟨"ConkerBoutsModel", "fails", "()I"⟩, 24) := ⟨⟨by decide +kernel, by decide +kernel⟩, List.mem_of_getElem? (i := 894) (by decide +kernel), List.mem_of_getElem? (i := 1051) (by decide +kernel), List.mem_of_getElem? (i := 1052) (by decide +kernel)⟩
theorem lw_p39 : lw_okq (⟨"ConkerBoutsModel", "ends", "()Z"⟩, 24) := ⟨⟨by decide +kernel, by decide +kernel⟩, List.mem_of_getElem? (i := 894) (by decide +kernel), List.mem_of_getElem? (i := 1055) (by decide +kernel), List.mem_of_getElem? (i := 1056) (by decide +kernel)⟩
theorem lw_p40 : lw_okq (⟨"ConkerBoutsModel", "readsPlayer", "()Z"⟩, 24) := ⟨⟨by decide +kernel, by decide +kernel⟩, List.mem_of_getElem? (i := 894) (by decide +kernel), List.mem_of_getElem? (i := 1060) (by decide +kernel), List.mem_of_getElem? (i := 1061) (by decide +kernel)⟩
theorem lw_p41 : lw_okq (⟨"ConkerBoutsModel", "readsNut", "()Z"⟩, 24) := ⟨⟨by decide +kernel, by decide +kernel⟩, List.mem_of_getElem? (i := 894) (by decide +kernel), List.mem_of_getElem? (i := 1064) (by decide +kernel), List.mem_of_getElem? (i := 1065) (by decide +kernel)⟩
theorem lw_p42 : lw_okq (⟨"ConkerBoutsModel", "readsStrike", "()Z"⟩, 24) := ⟨⟨by decide +kernel, by decide +kernel⟩, List.mem_of_getElem? (i := 894) (by decide +kernel), List.mem_of_getElem? (i := 1069) (by decide +kernel), List.mem_of_getElem? (i := 1070) (by decide +kernel)⟩
theorem lw_p43 : lw_okq (⟨"ConkerBoutsModel", "readsWait", "()Z"⟩, 24) := ⟨⟨by decide +kernel, by decide +kernel⟩, List.mem_of_getElem? (i := 894) (by decide +kernel), List.mem_of_getElem? (i := 1104) (by decide +kernel), List.mem_of_getElem? (i := 1105) (by decide +kernel)⟩
theorem lw_p44 : lw_okq (⟨"ConkerBoutsModel", "isMore", "()Z"⟩, 24) := ⟨⟨by decide +kernel, by decide +kernel⟩, List.mem_of_getElem? (i := 894) (by decide +kernel), List.mem_of_getElem? (i := 1111) (by decide +kernel), List.mem_of_getElem? (i := 1112) (by decide +kernel)⟩
theorem lw_p45 : lw_okq (⟨"ConkerBoutsModel", "isPair", "(II)Z"⟩, 24) := ⟨⟨by decide +kernel, by decide +kernel⟩, List.mem_of_getElem? (i := 894) (by decide +kernel), List.mem_of_getElem? (i := 1122) (by decide +kernel), List.mem_of_getElem? (i := 1123) (by decide +kernel)⟩
theorem lw_p46 : lw_okq (⟨"ConkerBoutsModel", "no", "()I"⟩, 24) := ⟨⟨by decide +kernel, by decide +kernel⟩, List.mem_of_getElem? (i := 894) (by decide +kernel), List.mem_of_getElem? (i := 1126) (by decide +kernel), List.mem_of_getElem? (i := 1127) (by decide +kernel)⟩
theorem lw_p47 : lw_okq (⟨"ConkerBoutsModel", "remember", "()V"⟩, 24) := ⟨⟨by decide +kernel, by decide +kernel⟩, List.mem_of_getElem? (i := 894) (by decide +kernel), List.mem_of_getElem? (i := 1130) (by decide +kernel), List.mem_of_getElem? (i := 1131) (by decide +kernel)⟩
def lw_privs_3 : List (MethodName × Nat) := [(⟨"ConkerBoutsModel", "full", "()I"⟩, 24), (⟨"ConkerBoutsModel", "readsItem", "(Z)Z"⟩, 24), (⟨"ConkerBoutsModel", "next", "()V"⟩, 24), (⟨"ConkerBoutsModel", "isHere", "(II)Z"⟩, 24), (⟨"ConkerBoutsModel", "readsYard", "()Z"⟩, 24), (⟨"ConkerBoutsModel", "number", "(II)I"⟩, 24), (⟨"ConkerBoutsModel", "fails", "()I"⟩, 24), (⟨"ConkerBoutsModel", "ends", "()Z"⟩, 24), (⟨"ConkerBoutsModel", "readsPlayer", "()Z"⟩, 24), (⟨"ConkerBoutsModel", "readsNut", "()Z"⟩, 24), (⟨"ConkerBoutsModel", "readsStrike", "()Z"⟩, 24), (⟨"ConkerBoutsModel", "readsWait", "()Z"⟩, 24), (⟨"ConkerBoutsModel", "isMore", "()Z"⟩, 24), (⟨"ConkerBoutsModel", "isPair", "(II)Z"⟩, 24), (⟨"ConkerBoutsModel", "no", "()I"⟩, 24), (⟨"ConkerBoutsModel", "remember", "()V"⟩, 24)]
theorem lw_r3 : ∀ q ∈ lw_privs_3, lw_okq q := List.forall_mem_cons.mpr ⟨lw_p32, List.forall_mem_cons.mpr ⟨lw_p33, List.forall_mem_cons.mpr ⟨lw_p34, List.forall_mem_cons.mpr ⟨lw_p35, List.forall_mem_cons.mpr ⟨lw_p36, List.forall_mem_cons.mpr ⟨lw_p37, List.forall_mem_cons.mpr ⟨lw_p38, List.forall_mem_cons.mpr ⟨lw_p39, List.forall_mem_cons.mpr ⟨lw_p40, List.forall_mem_cons.mpr ⟨lw_p41, List.forall_mem_cons.mpr ⟨lw_p42, List.forall_mem_cons.mpr ⟨lw_p43, List.forall_mem_cons.mpr ⟨lw_p44, List.forall_mem_cons.mpr ⟨lw_p45, List.forall_mem_cons.mpr ⟨lw_p46, List.forall_mem_cons.mpr ⟨lw_p47, fun _ h => absurd h List.not_mem_nil⟩⟩⟩⟩⟩⟩⟩⟩⟩⟩⟩⟩⟩⟩⟩⟩
theorem lw_p48 : lw_okq (⟨"ConkerBoutsModel", "nutsOf", "(I)I"⟩, 24) := ⟨⟨by decide +kernel, by decide +kernel⟩, List.mem_of_getElem? (i := 894) (by decide +kernel), List.mem_of_getElem? (i := 1157) (by decide +kernel), List.mem_of_getElem? (i := 1158) (by decide +kernel)⟩
theorem lw_p49 : lw_okq (⟨"ConkerBoutsModel", "scoresOf", "(I)I"⟩, 24) := ⟨⟨by decide +kernel, by decide +kernel⟩, List.mem_of_getElem? (i := 894) (by decide +kernel), List.mem_of_getElem? (i := 1161) (by decide +kernel), List.mem_of_getElem? (i := 1162) (by decide +kernel)⟩
theorem lw_p50 : lw_okq (⟨"ConkerBoutsModel", "ended", "(IIIZ)I"⟩, 24) := ⟨⟨by decide +kernel, by decide +kernel⟩, List.mem_of_getElem? (i := 894) (by decide +kernel), List.mem_of_getElem? (i := 1176) (by decide +kernel), List.mem_of_getElem? (i := 1177) (by decide +kernel)⟩
theorem lw_p51 : lw_okq (⟨"ConkerBoutsModel", "hardsOf", "(I)I"⟩, 24) := ⟨⟨by decide +kernel, by decide +kernel⟩, List.mem_of_getElem? (i := 894) (by decide +kernel), List.mem_of_getElem? (i := 1223) (by decide +kernel), List.mem_of_getElem? (i := 1224) (by decide +kernel)⟩
theorem lw_p52 : lw_okq (⟨"ConkerBoutsModel", "looked", "(IIZ)I"⟩, 24) := ⟨⟨by decide +kernel, by decide +kernel⟩, List.mem_of_getElem? (i := 894) (by decide +kernel), List.mem_of_getElem? (i := 1231) (by decide +kernel), List.mem_of_getElem? (i := 1232) (by decide +kernel)⟩
theorem lw_p53 : lw_okq (⟨"ConkerBoutsModel", "alike", "(IIZII)I"⟩, 24) := ⟨⟨by decide +kernel, by decide +kernel⟩, List.mem_of_getElem? (i := 894) (by decide +kernel), List.mem_of_getElem? (i := 1235) (by decide +kernel), List.mem_of_getElem? (i := 1236) (by decide +kernel)⟩
theorem lw_p54 : lw_okq (⟨"ConkerBoutsModel", "kindsOf", "(I)I"⟩, 24) := ⟨⟨by decide +kernel, by decide +kernel⟩, List.mem_of_getElem? (i := 894) (by decide +kernel), List.mem_of_getElem? (i := 1247) (by decide +kernel), List.mem_of_getElem? (i := 1248) (by decide +kernel)⟩
theorem lw_p55 : lw_okq (⟨"ConkerBoutsModel", "playersOf", "(I)I"⟩, 24) := ⟨⟨by decide +kernel, by decide +kernel⟩, List.mem_of_getElem? (i := 894) (by decide +kernel), List.mem_of_getElem? (i := 1267) (by decide +kernel), List.mem_of_getElem? (i := 1268) (by decide +kernel)⟩
theorem lw_p56 : lw_okq (⟨"ConkerBoutsModel", "layGains", "(II)V"⟩, 24) := ⟨⟨by decide +kernel, by decide +kernel⟩, List.mem_of_getElem? (i := 894) (by decide +kernel), List.mem_of_getElem? (i := 1279) (by decide +kernel), List.mem_of_getElem? (i := 1280) (by decide +kernel)⟩
theorem lw_p57 : lw_okq (⟨"ConkerBoutsModel", "rests", "(III)Z"⟩, 24) := ⟨⟨by decide +kernel, by decide +kernel⟩, List.mem_of_getElem? (i := 894) (by decide +kernel), List.mem_of_getElem? (i := 1283) (by decide +kernel), List.mem_of_getElem? (i := 1284) (by decide +kernel)⟩
theorem lw_p58 : lw_okq (⟨"ConkerBoutsModel", "counted", "(I)I"⟩, 24) := ⟨⟨by decide +kernel, by decide +kernel⟩, List.mem_of_getElem? (i := 894) (by decide +kernel), List.mem_of_getElem? (i := 1318) (by decide +kernel), List.mem_of_getElem? (i := 1319) (by decide +kernel)⟩
theorem lw_p59 : lw_okq (⟨"ConkerBoutsModel", "sumOf", "(I)I"⟩, 24) := ⟨⟨by decide +kernel, by decide +kernel⟩, List.mem_of_getElem? (i := 894) (by decide +kernel), List.mem_of_getElem? (i := 1322) (by decide +kernel), List.mem_of_getElem? (i := 1323) (by decide +kernel)⟩
theorem lw_p60 : lw_okq (⟨"ConkerBoutsModel", "adds", "(J)V"⟩, 24) := ⟨⟨by decide +kernel, by decide +kernel⟩, List.mem_of_getElem? (i := 894) (by decide +kernel), List.mem_of_getElem? (i := 1331) (by decide +kernel), List.mem_of_getElem? (i := 1332) (by decide +kernel)⟩
def lw_privs_4 : List (MethodName × Nat) := [(⟨"ConkerBoutsModel", "nutsOf", "(I)I"⟩, 24), (⟨"ConkerBoutsModel", "scoresOf", "(I)I"⟩, 24), (⟨"ConkerBoutsModel", "ended", "(IIIZ)I"⟩, 24), (⟨"ConkerBoutsModel", "hardsOf", "(I)I"⟩, 24), (⟨"ConkerBoutsModel", "looked", "(IIZ)I"⟩, 24), (⟨"ConkerBoutsModel", "alike", "(IIZII)I"⟩, 24), (⟨"ConkerBoutsModel", "kindsOf", "(I)I"⟩, 24), (⟨"ConkerBoutsModel", "playersOf", "(I)I"⟩, 24), (⟨"ConkerBoutsModel", "layGains", "(II)V"⟩, 24), (⟨"ConkerBoutsModel", "rests", "(III)Z"⟩, 24), (⟨"ConkerBoutsModel", "counted", "(I)I"⟩, 24), (⟨"ConkerBoutsModel", "sumOf", "(I)I"⟩, 24), (⟨"ConkerBoutsModel", "adds", "(J)V"⟩, 24)]
theorem lw_r4 : ∀ q ∈ lw_privs_4, lw_okq q := List.forall_mem_cons.mpr ⟨lw_p48, List.forall_mem_cons.mpr ⟨lw_p49, List.forall_mem_cons.mpr ⟨lw_p50, List.forall_mem_cons.mpr ⟨lw_p51, List.forall_mem_cons.mpr ⟨lw_p52, List.forall_mem_cons.mpr ⟨lw_p53, List.forall_mem_cons.mpr ⟨lw_p54, List.forall_mem_cons.mpr ⟨lw_p55, List.forall_mem_cons.mpr ⟨lw_p56, List.forall_mem_cons.mpr ⟨lw_p57, List.forall_mem_cons.mpr ⟨lw_p58, List.forall_mem_cons.mpr ⟨lw_p59, List.forall_mem_cons.mpr ⟨lw_p60, fun _ h => absurd h List.not_mem_nil⟩⟩⟩⟩⟩⟩⟩⟩⟩⟩⟩⟩⟩
def lw_privs : List (MethodName × Nat) := lw_privs_1 ++ (lw_privs_2 ++ (lw_privs_3 ++ (lw_privs_4)))
def lw_tbl : List Cond := k2_sels lw_privs ++ tables_1
theorem lw_privs_ok : ∀ q ∈ lw_privs, lw_okq q := by
  show ∀ q ∈ lw_privs_1 ++ (lw_privs_2 ++ (lw_privs_3 ++ (lw_privs_4))), lw_okq q
  exact List.forall_mem_append.mpr ⟨lw_r1, List.forall_mem_append.mpr ⟨lw_r2, List.forall_mem_append.mpr ⟨lw_r3, lw_r4⟩⟩⟩
def RX0 : String := "ConkerBouts$Blow"
def TX0 : u_T := fun k => match k with
  | _ => ("", "", "", false)
def tyX0 : Nat → FieldType := fun k => match k with
  | _ => .int
abbrev wsX00 : List Cond := u_ws RX0 TX0 0
theorem nmX0 : ∀ a, a < 0 → ∀ b, b < 0 → a ≠ b → (TX0 a).2.1 ≠ (TX0 b).2.1 := by decide +kernel
theorem tyX0_ok : ∀ k, k < 0 → parseFieldDescriptor (TX0 k).2.2.1 = some (tyX0 k) := by decide +kernel
abbrev cX0_force : ByteArray := prog_2_method_2_code
def yX0_force : MethodName := ⟨RX0, "force", "(IIII)I"⟩
abbrev cX0_cracks : ByteArray := prog_2_method_3_code
def yX0_cracks : MethodName := ⟨RX0, "cracks", "(IIIII)I"⟩
def RX1 : String := "ConkerBouts$Game"
def TX1 : u_T := fun k => match k with
  | 0 => ("ConkerBouts$Game", "yard", "LConkerBouts$Yard;", true)
  | 1 => ("ConkerBouts$Game", "past", "LConkerBouts$Past;", true)
  | 2 => ("ConkerBouts$Game", "seen", "LConkerBouts$Rows;", true)
  | 3 => ("ConkerBouts$Game", "notes", "LConkerBouts$Rows;", true)
  | _ => ("ConkerBouts$Game", "marks", "LConkerBouts$Rows;", true)
def tyX1 : Nat → FieldType := fun k => match k with
  | 0 => .object "ConkerBouts$Yard"
  | 1 => .object "ConkerBouts$Past"
  | 2 => .object "ConkerBouts$Rows"
  | 3 => .object "ConkerBouts$Rows"
  | _ => .object "ConkerBouts$Rows"
abbrev wsX10 : List Cond := u_ws RX1 TX1 5
theorem nmX1 : ∀ a, a < 5 → ∀ b, b < 5 → a ≠ b → (TX1 a).2.1 ≠ (TX1 b).2.1 := by decide +kernel
theorem tyX1_ok : ∀ k, k < 5 → parseFieldDescriptor (TX1 k).2.2.1 = some (tyX1 k) := by decide +kernel
abbrev cX1_init : ByteArray := prog_3_method_1_code
def yX1_init : MethodName := ⟨RX1, "<init>", "()V"⟩
abbrev cX1_rowsOf : ByteArray := prog_3_method_2_code
def yX1_rowsOf : MethodName := ⟨RX1, "rowsOf", "(I)LConkerBouts$Rows;"⟩
abbrev cX1_restart : ByteArray := prog_3_method_3_code
def yX1_restart : MethodName := ⟨RX1, "restart", "(I)V"⟩
abbrev cX1_copyOf : ByteArray := prog_3_method_4_code
def yX1_copyOf : MethodName := ⟨RX1, "copyOf", "(LConkerBouts$Game;)V"⟩
def RX2 : String := "ConkerBouts$Guess"
def TX2 : u_T := fun k => match k with
  | _ => ("ConkerBouts$Guess", "answers", "[I", true)
def tyX2 : Nat → FieldType := fun k => match k with
  | _ => .array .int
abbrev wsX20 : List Cond := u_ws RX2 TX2 1
theorem nmX2 : ∀ a, a < 1 → ∀ b, b < 1 → a ≠ b → (TX2 a).2.1 ≠ (TX2 b).2.1 := by decide +kernel
theorem tyX2_ok : ∀ k, k < 1 → parseFieldDescriptor (TX2 k).2.2.1 = some (tyX2 k) := by decide +kernel
abbrev cX2_init : ByteArray := prog_4_method_1_code
def yX2_init : MethodName := ⟨RX2, "<init>", "()V"⟩
abbrev cX2_thatFit : ByteArray := prog_4_method_2_code
def yX2_thatFit : MethodName := ⟨RX2, "thatFit", "(ILConkerBouts$Game;I)I"⟩
abbrev cX2_allFit : ByteArray := prog_4_method_3_code
def yX2_allFit : MethodName := ⟨RX2, "allFit", "(ILConkerBouts$Game;II)Z"⟩
abbrev cX2_fits : ByteArray := prog_4_method_4_code
def yX2_fits : MethodName := ⟨RX2, "fits", "(ILConkerBouts$Yard;LConkerBouts$Rows;II)Z"⟩
abbrev cX2_best : ByteArray := prog_4_method_5_code
def yX2_best : MethodName := ⟨RX2, "best", "(ILConkerBouts$Game;I)I"⟩
abbrev cX2_mostAlike : ByteArray := prog_4_method_6_code
def yX2_mostAlike : MethodName := ⟨RX2, "mostAlike", "(ILConkerBouts$Yard;III)I"⟩
abbrev cX2_answerOf : ByteArray := prog_4_method_7_code
def yX2_answerOf : MethodName := ⟨RX2, "answerOf", "(ILConkerBouts$Yard;III)I"⟩
def RX3 : String := "ConkerBouts$Past"
def TX3 : u_T := fun k => match k with
  | 0 => ("ConkerBouts$Past", "size", "I", false)
  | _ => ("ConkerBouts$Past", "cells", "[I", true)
def tyX3 : Nat → FieldType := fun k => match k with
  | 0 => .int
  | _ => .array .int
abbrev wsX30 : List Cond := u_ws RX3 TX3 2
theorem nmX3 : ∀ a, a < 2 → ∀ b, b < 2 → a ≠ b → (TX3 a).2.1 ≠ (TX3 b).2.1 := by decide +kernel
theorem tyX3_ok : ∀ k, k < 2 → parseFieldDescriptor (TX3 k).2.2.1 = some (tyX3 k) := by decide +kernel
abbrev cX3_init : ByteArray := prog_5_method_1_code
def yX3_init : MethodName := ⟨RX3, "<init>", "()V"⟩
abbrev cX3_empty : ByteArray := prog_5_method_2_code
def yX3_empty : MethodName := ⟨RX3, "empty", "()V"⟩
abbrev cX3_copyOf : ByteArray := prog_5_method_3_code
def yX3_copyOf : MethodName := ⟨RX3, "copyOf", "(LConkerBouts$Past;)V"⟩
abbrev cX3_keep : ByteArray := prog_5_method_4_code
def yX3_keep : MethodName := ⟨RX3, "keep", "(LConkerBouts$Yard;)V"⟩
abbrev cX3_takeBack : ByteArray := prog_5_method_5_code
def yX3_takeBack : MethodName := ⟨RX3, "takeBack", "(LConkerBouts$Yard;)V"⟩
abbrev cX3_dropOldest : ByteArray := prog_5_method_6_code
def yX3_dropOldest : MethodName := ⟨RX3, "dropOldest", "()V"⟩
def RX4 : String := "ConkerBouts$Rows"
def TX4 : u_T := fun k => match k with
  | 0 => ("ConkerBouts$Rows", "size", "I", false)
  | 1 => ("ConkerBouts$Rows", "limit", "I", true)
  | _ => ("ConkerBouts$Rows", "cells", "[I", true)
def tyX4 : Nat → FieldType := fun k => match k with
  | 0 => .int
  | 1 => .int
  | _ => .array .int
abbrev wsX40 : List Cond := u_ws RX4 TX4 3
theorem nmX4 : ∀ a, a < 3 → ∀ b, b < 3 → a ≠ b → (TX4 a).2.1 ≠ (TX4 b).2.1 := by decide +kernel
theorem tyX4_ok : ∀ k, k < 3 → parseFieldDescriptor (TX4 k).2.2.1 = some (tyX4 k) := by decide +kernel
abbrev cX4_init : ByteArray := prog_6_method_1_code
def yX4_init : MethodName := ⟨RX4, "<init>", "(I)V"⟩
abbrev cX4_isFull : ByteArray := prog_6_method_2_code
def yX4_isFull : MethodName := ⟨RX4, "isFull", "()Z"⟩
abbrev cX4_copyOf : ByteArray := prog_6_method_3_code
def yX4_copyOf : MethodName := ⟨RX4, "copyOf", "(LConkerBouts$Rows;)V"⟩
abbrev cX4_add : ByteArray := prog_6_method_4_code
def yX4_add : MethodName := ⟨RX4, "add", "(IIIIII)I"⟩
abbrev cX4_at : ByteArray := prog_6_method_5_code
def yX4_at : MethodName := ⟨RX4, "at", "(II)I"⟩
abbrev cX4_foldInto : ByteArray := prog_6_method_6_code
def yX4_foldInto : MethodName := ⟨RX4, "foldInto", "(JI)J"⟩
def RX5 : String := "ConkerBouts$Text"
def TX5 : u_T := fun k => match k with
  | 0 => ("ConkerBouts$Text", "size", "I", false)
  | 1 => ("ConkerBouts$Text", "fault", "I", false)
  | 2 => ("ConkerBouts$Text", "bytes", "[I", true)
  | 3 => ("ConkerBouts$Text", "sort", "I", false)
  | 4 => ("ConkerBouts$Text", "start", "I", false)
  | 5 => ("ConkerBouts$Text", "behind", "I", false)
  | _ => ("ConkerBouts$Text", "value", "I", false)
def tyX5 : Nat → FieldType := fun k => match k with
  | 0 => .int
  | 1 => .int
  | 2 => .array .int
  | 3 => .int
  | 4 => .int
  | 5 => .int
  | _ => .int
abbrev wsX50 : List Cond := u_ws RX5 TX5 7
theorem nmX5 : ∀ a, a < 7 → ∀ b, b < 7 → a ≠ b → (TX5 a).2.1 ≠ (TX5 b).2.1 := by decide +kernel
theorem tyX5_ok : ∀ k, k < 7 → parseFieldDescriptor (TX5 k).2.2.1 = some (tyX5 k) := by decide +kernel
abbrev cX5_init : ByteArray := prog_7_method_1_code
def yX5_init : MethodName := ⟨RX5, "<init>", "()V"⟩
abbrev cX5_isFull : ByteArray := prog_7_method_2_code
def yX5_isFull : MethodName := ⟨RX5, "isFull", "()Z"⟩
abbrev cX5_add : ByteArray := prog_7_method_3_code
def yX5_add : MethodName := ⟨RX5, "add", "(I)V"⟩
abbrev cX5_readInto : ByteArray := prog_7_method_4_code
def yX5_readInto : MethodName := ⟨RX5, "readInto", "(LConkerBouts$Yard;)I"⟩
abbrev cX5_readItem : ByteArray := prog_7_method_5_code
def yX5_readItem : MethodName := ⟨RX5, "readItem", "(LConkerBouts$Yard;Z)Z"⟩
abbrev cX5_readNumber : ByteArray := prog_7_method_6_code
def yX5_readNumber : MethodName := ⟨RX5, "readNumber", "(LConkerBouts$Yard;)Z"⟩
abbrev cX5_readPlayer : ByteArray := prog_7_method_7_code
def yX5_readPlayer : MethodName := ⟨RX5, "readPlayer", "(LConkerBouts$Yard;)Z"⟩
abbrev cX5_readNut : ByteArray := prog_7_method_8_code
def yX5_readNut : MethodName := ⟨RX5, "readNut", "(LConkerBouts$Yard;)Z"⟩
abbrev cX5_readStrike : ByteArray := prog_7_method_9_code
def yX5_readStrike : MethodName := ⟨RX5, "readStrike", "(LConkerBouts$Yard;)Z"⟩
abbrev cX5_readWait : ByteArray := prog_7_method_10_code
def yX5_readWait : MethodName := ⟨RX5, "readWait", "(LConkerBouts$Yard;)Z"⟩
abbrev cX5_take : ByteArray := prog_7_method_11_code
def yX5_take : MethodName := ⟨RX5, "take", "(II)Z"⟩
abbrev cX5_faultHere : ByteArray := prog_7_method_12_code
def yX5_faultHere : MethodName := ⟨RX5, "faultHere", "()Z"⟩
abbrev cX5_nextToken : ByteArray := prog_7_method_13_code
def yX5_nextToken : MethodName := ⟨RX5, "nextToken", "()V"⟩
abbrev cX5_endWord : ByteArray := prog_7_method_14_code
def yX5_endWord : MethodName := ⟨RX5, "endWord", "()V"⟩
abbrev cX5_endNumber : ByteArray := prog_7_method_15_code
def yX5_endNumber : MethodName := ⟨RX5, "endNumber", "()V"⟩
abbrev cX5_spells : ByteArray := prog_7_method_16_code
def yX5_spells : MethodName := ⟨RX5, "spells", "(Ljava/lang/String;)Z"⟩
abbrev cX5_byteAt : ByteArray := prog_7_method_17_code
def yX5_byteAt : MethodName := ⟨RX5, "byteAt", "(I)I"⟩
abbrev cX5_isLetter : ByteArray := prog_7_method_18_code
def yX5_isLetter : MethodName := ⟨RX5, "isLetter", "(I)Z"⟩
abbrev cX5_isFigure : ByteArray := prog_7_method_19_code
def yX5_isFigure : MethodName := ⟨RX5, "isFigure", "(I)Z"⟩
def RX6 : String := "ConkerBouts$Trial"
def TX6 : u_T := fun k => match k with
  | 0 => ("ConkerBouts$Trial", "ground", "LConkerBouts$Yard;", true)
  | 1 => ("ConkerBouts$Trial", "bestScore", "I", false)
  | 2 => ("ConkerBouts$Trial", "bestCracks", "I", false)
  | 3 => ("ConkerBouts$Trial", "stages", "[LConkerBouts$Yard;", true)
  | 4 => ("ConkerBouts$Trial", "path", "[I", true)
  | 5 => ("ConkerBouts$Trial", "bestPath", "[I", true)
  | 6 => ("ConkerBouts$Trial", "firstGets", "[I", true)
  | 7 => ("ConkerBouts$Trial", "secondGets", "[I", true)
  | _ => ("ConkerBouts$Trial", "resting", "[I", true)
def tyX6 : Nat → FieldType := fun k => match k with
  | 0 => .object "ConkerBouts$Yard"
  | 1 => .int
  | 2 => .int
  | 3 => .array (.object "ConkerBouts$Yard")
  | 4 => .array .int
  | 5 => .array .int
  | 6 => .array .int
  | 7 => .array .int
  | _ => .array .int
abbrev wsX60 : List Cond := u_ws RX6 TX6 9
theorem nmX6 : ∀ a, a < 9 → ∀ b, b < 9 → a ≠ b → (TX6 a).2.1 ≠ (TX6 b).2.1 := by decide +kernel
theorem tyX6_ok : ∀ k, k < 9 → parseFieldDescriptor (TX6 k).2.2.1 = some (tyX6 k) := by decide +kernel
abbrev cX6_init : ByteArray := prog_8_method_1_code
def yX6_init : MethodName := ⟨RX6, "<init>", "()V"⟩
abbrev cX6_fightOn : ByteArray := prog_8_method_2_code
def yX6_fightOn : MethodName := ⟨RX6, "fightOn", "(LConkerBouts$Yard;IIZ)I"⟩
abbrev cX6_fight : ByteArray := prog_8_method_3_code
def yX6_fight : MethodName := ⟨RX6, "fight", "(LConkerBouts$Yard;IIZ)I"⟩
abbrev cX6_leastHard : ByteArray := prog_8_method_4_code
def yX6_leastHard : MethodName := ⟨RX6, "leastHard", "(LConkerBouts$Yard;II)I"⟩
abbrev cX6_bestMatch : ByteArray := prog_8_method_5_code
def yX6_bestMatch : MethodName := ⟨RX6, "bestMatch", "(LConkerBouts$Yard;I)I"⟩
abbrev cX6_findOrder : ByteArray := prog_8_method_6_code
def yX6_findOrder : MethodName := ⟨RX6, "findOrder", "(LConkerBouts$Yard;I)I"⟩
abbrev cX6_inOrder : ByteArray := prog_8_method_7_code
def yX6_inOrder : MethodName := ⟨RX6, "inOrder", "(I)I"⟩
abbrev cX6_meetRest : ByteArray := prog_8_method_8_code
def yX6_meetRest : MethodName := ⟨RX6, "meetRest", "(III)V"⟩
abbrev cX6_keepIfBetter : ByteArray := prog_8_method_9_code
def yX6_keepIfBetter : MethodName := ⟨RX6, "keepIfBetter", "(II)V"⟩
abbrev cX6_findResting : ByteArray := prog_8_method_10_code
def yX6_findResting : MethodName := ⟨RX6, "findResting", "(LConkerBouts$Yard;II)I"⟩
abbrev cX6_restingPair : ByteArray := prog_8_method_11_code
def yX6_restingPair : MethodName := ⟨RX6, "restingPair", "(I)I"⟩
abbrev cX6_isChoice : ByteArray := prog_8_method_12_code
def yX6_isChoice : MethodName := ⟨RX6, "isChoice", "(LConkerBouts$Yard;III)Z"⟩
abbrev cX6_weigh : ByteArray := prog_8_method_13_code
def yX6_weigh : MethodName := ⟨RX6, "weigh", "(LConkerBouts$Yard;I)V"⟩
abbrev cX6_getsBy : ByteArray := prog_8_method_14_code
def yX6_getsBy : MethodName := ⟨RX6, "getsBy", "(LConkerBouts$Yard;I)I"⟩
abbrev cX6_rests : ByteArray := prog_8_method_15_code
def yX6_rests : MethodName := ⟨RX6, "rests", "(LConkerBouts$Yard;III)Z"⟩
abbrev cX6_waysToBreak : ByteArray := prog_8_method_16_code
def yX6_waysToBreak : MethodName := ⟨RX6, "waysToBreak", "(LConkerBouts$Yard;IIII)J"⟩
abbrev cX6_strikeWithMisses : ByteArray := prog_8_method_17_code
def yX6_strikeWithMisses : MethodName := ⟨RX6, "strikeWithMisses", "(IIIII)J"⟩
abbrev cX6_brokenBehindDays : ByteArray := prog_8_method_18_code
def yX6_brokenBehindDays : MethodName := ⟨RX6, "brokenBehindDays", "(LConkerBouts$Yard;II)I"⟩
def RX7 : String := "ConkerBouts$Yard"
def TX7 : u_T := fun k => match k with
  | 0 => ("ConkerBouts$Yard", "players", "I", false)
  | 1 => ("ConkerBouts$Yard", "nuts", "I", false)
  | 2 => ("ConkerBouts$Yard", "number", "I", false)
  | 3 => ("ConkerBouts$Yard", "playerKind", "[I", true)
  | 4 => ("ConkerBouts$Yard", "arm", "[I", true)
  | 5 => ("ConkerBouts$Yard", "owner", "[I", true)
  | 6 => ("ConkerBouts$Yard", "kind", "[I", true)
  | 7 => ("ConkerBouts$Yard", "hard", "[I", true)
  | 8 => ("ConkerBouts$Yard", "weight", "[I", true)
  | 9 => ("ConkerBouts$Yard", "cracks", "[I", true)
  | _ => ("ConkerBouts$Yard", "score", "[I", true)
def tyX7 : Nat → FieldType := fun k => match k with
  | 0 => .int
  | 1 => .int
  | 2 => .int
  | 3 => .array .int
  | 4 => .array .int
  | 5 => .array .int
  | 6 => .array .int
  | 7 => .array .int
  | 8 => .array .int
  | 9 => .array .int
  | _ => .array .int
abbrev wsX70 : List Cond := u_ws RX7 TX7 11
theorem nmX7 : ∀ a, a < 11 → ∀ b, b < 11 → a ≠ b → (TX7 a).2.1 ≠ (TX7 b).2.1 := by decide +kernel
theorem tyX7_ok : ∀ k, k < 11 → parseFieldDescriptor (TX7 k).2.2.1 = some (tyX7 k) := by decide +kernel
abbrev cX7_init : ByteArray := prog_9_method_1_code
def yX7_init : MethodName := ⟨RX7, "<init>", "()V"⟩
abbrev cX7_restart : ByteArray := prog_9_method_2_code
def yX7_restart : MethodName := ⟨RX7, "restart", "(I)V"⟩
abbrev cX7_copyOf : ByteArray := prog_9_method_3_code
def yX7_copyOf : MethodName := ⟨RX7, "copyOf", "(LConkerBouts$Yard;)V"⟩
abbrev cX7_copyChangesOf : ByteArray := prog_9_method_4_code
def yX7_copyChangesOf : MethodName := ⟨RX7, "copyChangesOf", "(LConkerBouts$Yard;)V"⟩
abbrev cX7_addPlayer : ByteArray := prog_9_method_5_code
def yX7_addPlayer : MethodName := ⟨RX7, "addPlayer", "(II)I"⟩
abbrev cX7_addNut : ByteArray := prog_9_method_6_code
def yX7_addNut : MethodName := ⟨RX7, "addNut", "(IIII)I"⟩
abbrev cX7_isPlayer : ByteArray := prog_9_method_7_code
def yX7_isPlayer : MethodName := ⟨RX7, "isPlayer", "(I)Z"⟩
abbrev cX7_isNut : ByteArray := prog_9_method_8_code
def yX7_isNut : MethodName := ⟨RX7, "isNut", "(I)Z"⟩
abbrev cX7_isBroken : ByteArray := prog_9_method_9_code
def yX7_isBroken : MethodName := ⟨RX7, "isBroken", "(I)Z"⟩
abbrev cX7_isWhole : ByteArray := prog_9_method_10_code
def yX7_isWhole : MethodName := ⟨RX7, "isWhole", "(I)Z"⟩
abbrev cX7_isWholeOf : ByteArray := prog_9_method_11_code
def yX7_isWholeOf : MethodName := ⟨RX7, "isWholeOf", "(II)Z"⟩
abbrev cX7_canStrike : ByteArray := prog_9_method_12_code
def yX7_canStrike : MethodName := ⟨RX7, "canStrike", "(II)Z"⟩
abbrev cX7_nextNumber : ByteArray := prog_9_method_13_code
def yX7_nextNumber : MethodName := ⟨RX7, "nextNumber", "()I"⟩
abbrev cX7_pass : ByteArray := prog_9_method_14_code
def yX7_pass : MethodName := ⟨RX7, "pass", "(I)V"⟩
abbrev cX7_handOver : ByteArray := prog_9_method_15_code
def yX7_handOver : MethodName := ⟨RX7, "handOver", "(II)V"⟩
abbrev cX7_makeHard : ByteArray := prog_9_method_16_code
def yX7_makeHard : MethodName := ⟨RX7, "makeHard", "(II)V"⟩
abbrev cX7_strike : ByteArray := prog_9_method_17_code
def yX7_strike : MethodName := ⟨RX7, "strike", "(II)Z"⟩
abbrev cX7_crackBy : ByteArray := prog_9_method_18_code
def yX7_crackBy : MethodName := ⟨RX7, "crackBy", "(II)V"⟩
abbrev cX7_nextForce : ByteArray := prog_9_method_19_code
def yX7_nextForce : MethodName := ⟨RX7, "nextForce", "(I)I"⟩
abbrev cX7_leftOf : ByteArray := prog_9_method_20_code
def yX7_leftOf : MethodName := ⟨RX7, "leftOf", "(II)I"⟩
abbrev cX7_canStrikeBits : ByteArray := prog_9_method_21_code
def yX7_canStrikeBits : MethodName := ⟨RX7, "canStrikeBits", "(I)I"⟩
abbrev cX7_brokenBits : ByteArray := prog_9_method_22_code
def yX7_brokenBits : MethodName := ⟨RX7, "brokenBits", "()I"⟩
abbrev cX7_sumOf : ByteArray := prog_9_method_23_code
def yX7_sumOf : MethodName := ⟨RX7, "sumOf", "(I)I"⟩
abbrev cX7_fact : ByteArray := prog_9_method_24_code
def yX7_fact : MethodName := ⟨RX7, "fact", "(II)I"⟩
abbrev cX7_playerFact : ByteArray := prog_9_method_25_code
def yX7_playerFact : MethodName := ⟨RX7, "playerFact", "(II)I"⟩
abbrev cX7_ranked : ByteArray := prog_9_method_26_code
def yX7_ranked : MethodName := ⟨RX7, "ranked", "(I)I"⟩
abbrev cX7_ranksAhead : ByteArray := prog_9_method_27_code
def yX7_ranksAhead : MethodName := ⟨RX7, "ranksAhead", "(II)Z"⟩
abbrev cX7_foldInto : ByteArray := prog_9_method_28_code
def yX7_foldInto : MethodName := ⟨RX7, "foldInto", "(J)J"⟩
def RX8 : String := "ConkerBouts"
def TX8 : u_T := fun k => match k with
  | 0 => ("ConkerBouts", "now", "LConkerBouts$Game;", true)
  | 1 => ("ConkerBouts", "images", "[LConkerBouts$Game;", true)
  | 2 => ("ConkerBouts", "text", "LConkerBouts$Text;", true)
  | 3 => ("ConkerBouts", "trial", "LConkerBouts$Trial;", true)
  | 4 => ("ConkerBouts", "guess", "LConkerBouts$Guess;", true)
  | 5 => ("ConkerBouts", "above", "J", false)
  | 6 => ("ConkerBouts", "below", "J", false)
  | 7 => ("ConkerBouts", "timesBad", "I", false)
  | 8 => ("ConkerBouts", "timesNo", "I", false)
  | _ => ("ConkerBouts", "timesFull", "I", false)
def tyX8 : Nat → FieldType := fun k => match k with
  | 0 => .object "ConkerBouts$Game"
  | 1 => .array (.object "ConkerBouts$Game")
  | 2 => .object "ConkerBouts$Text"
  | 3 => .object "ConkerBouts$Trial"
  | 4 => .object "ConkerBouts$Guess"
  | 5 => .long
  | 6 => .long
  | 7 => .int
  | 8 => .int
  | _ => .int
abbrev wsX80 : List Cond := u_ws RX8 TX8 10
theorem nmX8 : ∀ a, a < 10 → ∀ b, b < 10 → a ≠ b → (TX8 a).2.1 ≠ (TX8 b).2.1 := by decide +kernel
theorem tyX8_ok : ∀ k, k < 10 → parseFieldDescriptor (TX8 k).2.2.1 = some (tyX8 k) := by decide +kernel
abbrev cX8_init : ByteArray := prog_1_method_1_code
def yX8_init : MethodName := ⟨RX8, "<init>", "()V"⟩
abbrev cX8_yard : ByteArray := prog_1_method_2_code
def yX8_yard : MethodName := ⟨RX8, "yard", "(I)I"⟩
abbrev cX8_player : ByteArray := prog_1_method_3_code
def yX8_player : MethodName := ⟨RX8, "player", "(II)I"⟩
abbrev cX8_nut : ByteArray := prog_1_method_4_code
def yX8_nut : MethodName := ⟨RX8, "nut", "(IIII)I"⟩
abbrev cX8_type : ByteArray := prog_1_method_5_code
def yX8_type : MethodName := ⟨RX8, "type", "(I)I"⟩
abbrev cX8_clear : ByteArray := prog_1_method_6_code
def yX8_clear : MethodName := ⟨RX8, "clear", "()I"⟩
abbrev cX8_read : ByteArray := prog_1_method_7_code
def yX8_read : MethodName := ⟨RX8, "read", "()I"⟩
abbrev cX8_strikes : ByteArray := prog_1_method_8_code
def yX8_strikes : MethodName := ⟨RX8, "strikes", "(II)I"⟩
abbrev cX8_waits : ByteArray := prog_1_method_9_code
def yX8_waits : MethodName := ⟨RX8, "waits", "(I)I"⟩
abbrev cX8_hands : ByteArray := prog_1_method_10_code
def yX8_hands : MethodName := ⟨RX8, "hands", "(II)I"⟩
abbrev cX8_undo : ByteArray := prog_1_method_11_code
def yX8_undo : MethodName := ⟨RX8, "undo", "()I"⟩
abbrev cX8_of : ByteArray := prog_1_method_12_code
def yX8_of : MethodName := ⟨RX8, "of", "(II)I"⟩
abbrev cX8_who : ByteArray := prog_1_method_13_code
def yX8_who : MethodName := ⟨RX8, "who", "(II)I"⟩
abbrev cX8_crack : ByteArray := prog_1_method_14_code
def yX8_crack : MethodName := ⟨RX8, "crack", "(III)I"⟩
abbrev cX8_lasts : ByteArray := prog_1_method_15_code
def yX8_lasts : MethodName := ⟨RX8, "lasts", "(III)I"⟩
abbrev cX8_bout : ByteArray := prog_1_method_16_code
def yX8_bout : MethodName := ⟨RX8, "bout", "(III)I"⟩
abbrev cX8_rank : ByteArray := prog_1_method_17_code
def yX8_rank : MethodName := ⟨RX8, "rank", "(I)I"⟩
abbrev cX8_order : ByteArray := prog_1_method_18_code
def yX8_order : MethodName := ⟨RX8, "order", "(II)I"⟩
abbrev cX8_firm : ByteArray := prog_1_method_19_code
def yX8_firm : MethodName := ⟨RX8, "firm", "(II)I"⟩
abbrev cX8_fit : ByteArray := prog_1_method_20_code
def yX8_fit : MethodName := ⟨RX8, "fit", "(II)I"⟩
abbrev cX8_seen : ByteArray := prog_1_method_21_code
def yX8_seen : MethodName := ⟨RX8, "seen", "(IIIII)I"⟩
abbrev cX8_hards : ByteArray := prog_1_method_22_code
def yX8_hards : MethodName := ⟨RX8, "hards", "(I)I"⟩
abbrev cX8_tell : ByteArray := prog_1_method_23_code
def yX8_tell : MethodName := ⟨RX8, "tell", "(I)I"⟩
abbrev cX8_note : ByteArray := prog_1_method_24_code
def yX8_note : MethodName := ⟨RX8, "note", "(IIIIII)I"⟩
abbrev cX8_mark : ByteArray := prog_1_method_25_code
def yX8_mark : MethodName := ⟨RX8, "mark", "(IIIII)I"⟩
abbrev cX8_forget : ByteArray := prog_1_method_26_code
def yX8_forget : MethodName := ⟨RX8, "forget", "(I)I"⟩
abbrev cX8_is : ByteArray := prog_1_method_27_code
def yX8_is : MethodName := ⟨RX8, "is", "(I)I"⟩
abbrev cX8_look : ByteArray := prog_1_method_28_code
def yX8_look : MethodName := ⟨RX8, "look", "(I)I"⟩
abbrev cX8_kinds : ByteArray := prog_1_method_29_code
def yX8_kinds : MethodName := ⟨RX8, "kinds", "(I)I"⟩
abbrev cX8_ask : ByteArray := prog_1_method_30_code
def yX8_ask : MethodName := ⟨RX8, "ask", "(I)I"⟩
abbrev cX8_pair : ByteArray := prog_1_method_31_code
def yX8_pair : MethodName := ⟨RX8, "pair", "(III)I"⟩
abbrev cX8_odds : ByteArray := prog_1_method_32_code
def yX8_odds : MethodName := ⟨RX8, "odds", "(IIII)I"⟩
abbrev cX8_days : ByteArray := prog_1_method_33_code
def yX8_days : MethodName := ⟨RX8, "days", "(II)I"⟩
abbrev cX8_part : ByteArray := prog_1_method_34_code
def yX8_part : MethodName := ⟨RX8, "part", "(I)J"⟩
abbrev cX8_image : ByteArray := prog_1_method_35_code
def yX8_image : MethodName := ⟨RX8, "image", "(I)I"⟩
abbrev cX8_from : ByteArray := prog_1_method_36_code
def yX8_from : MethodName := ⟨RX8, "from", "(I)I"⟩
abbrev cX8_status : ByteArray := prog_1_method_37_code
def yX8_status : MethodName := ⟨RX8, "status", "(I)I"⟩
abbrev cX8_count : ByteArray := prog_1_method_38_code
def yX8_count : MethodName := ⟨RX8, "count", "(I)I"⟩
abbrev cX8_digest : ByteArray := prog_1_method_39_code
def yX8_digest : MethodName := ⟨RX8, "digest", "()J"⟩
abbrev cX8_howMany : ByteArray := prog_1_method_40_code
def yX8_howMany : MethodName := ⟨RX8, "howMany", "(I)I"⟩
abbrev cX8_bad : ByteArray := prog_1_method_41_code
def yX8_bad : MethodName := ⟨RX8, "bad", "()I"⟩
abbrev cX8_badBelow : ByteArray := prog_1_method_42_code
def yX8_badBelow : MethodName := ⟨RX8, "badBelow", "()I"⟩
abbrev cX8_no : ByteArray := prog_1_method_43_code
def yX8_no : MethodName := ⟨RX8, "no", "()I"⟩
abbrev cX8_full : ByteArray := prog_1_method_44_code
def yX8_full : MethodName := ⟨RX8, "full", "()I"⟩
abbrev cX8_areTwoNuts : ByteArray := prog_1_method_45_code
def yX8_areTwoNuts : MethodName := ⟨RX8, "areTwoNuts", "(II)Z"⟩
abbrev cX8_isSight : ByteArray := prog_1_method_46_code
def yX8_isSight : MethodName := ⟨RX8, "isSight", "(IIII)Z"⟩
abbrev cX8_isKind : ByteArray := prog_1_method_47_code
def yX8_isKind : MethodName := ⟨RX8, "isKind", "(I)Z"⟩
abbrev cX8_within : ByteArray := prog_1_method_48_code
def yX8_within : MethodName := ⟨RX8, "within", "(III)Z"⟩
abbrev cX8_has : ByteArray := prog_1_method_49_code
def yX8_has : MethodName := ⟨RX8, "has", "(II)Z"⟩
abbrev cX8_powerOfTen : ByteArray := prog_1_method_50_code
def yX8_powerOfTen : MethodName := ⟨RX8, "powerOfTen", "(I)J"⟩
abbrev cX8_commonDivisor : ByteArray := prog_1_method_51_code
def yX8_commonDivisor : MethodName := ⟨RX8, "commonDivisor", "(JJ)J"⟩
def RX9 : String := "ConkerBoutsModel"
def TX9 : u_T := fun k => match k with
  | 0 => ("ConkerBoutsModel", "refused", "[I", true)
  | 1 => ("ConkerBoutsModel", "above", "J", false)
  | 2 => ("ConkerBoutsModel", "below", "J", false)
  | 3 => ("ConkerBoutsModel", "now", "[I", true)
  | 4 => ("ConkerBoutsModel", "tried", "[I", true)
  | 5 => ("ConkerBoutsModel", "other", "[I", true)
  | 6 => ("ConkerBoutsModel", "told", "[I", true)
  | 7 => ("ConkerBoutsModel", "letterMany", "I", false)
  | 8 => ("ConkerBoutsModel", "text", "[I", true)
  | 9 => ("ConkerBoutsModel", "readAt", "I", false)
  | 10 => ("ConkerBoutsModel", "tokenAt", "I", false)
  | 11 => ("ConkerBoutsModel", "tokenIs", "I", false)
  | 12 => ("ConkerBoutsModel", "faultAt", "I", false)
  | 13 => ("ConkerBoutsModel", "undoMany", "I", false)
  | 14 => ("ConkerBoutsModel", "undoAt", "I", false)
  | 15 => ("ConkerBoutsModel", "undos", "[I", true)
  | 16 => ("ConkerBoutsModel", "gains", "[I", true)
  | 17 => ("ConkerBoutsModel", "isKept", "[Z", true)
  | 18 => ("ConkerBoutsModel", "keptNow", "[I", true)
  | 19 => ("ConkerBoutsModel", "keptTold", "[I", true)
  | 20 => ("ConkerBoutsModel", "keptUndo", "[I", true)
  | 21 => ("ConkerBoutsModel", "keptMany", "[I", true)
  | 22 => ("ConkerBoutsModel", "keptAt", "[I", true)
  | _ => ("ConkerBoutsModel", "h", "J", false)
def tyX9 : Nat → FieldType := fun k => match k with
  | 0 => .array .int
  | 1 => .long
  | 2 => .long
  | 3 => .array .int
  | 4 => .array .int
  | 5 => .array .int
  | 6 => .array .int
  | 7 => .int
  | 8 => .array .int
  | 9 => .int
  | 10 => .int
  | 11 => .int
  | 12 => .int
  | 13 => .int
  | 14 => .int
  | 15 => .array .int
  | 16 => .array .int
  | 17 => .array .boolean
  | 18 => .array .int
  | 19 => .array .int
  | 20 => .array .int
  | 21 => .array .int
  | 22 => .array .int
  | _ => .long
abbrev wsX90 : List Cond := u_ws RX9 TX9 24
theorem nmX9 : ∀ a, a < 24 → ∀ b, b < 24 → a ≠ b → (TX9 a).2.1 ≠ (TX9 b).2.1 := by decide +kernel
theorem tyX9_ok : ∀ k, k < 24 → parseFieldDescriptor (TX9 k).2.2.1 = some (tyX9 k) := by decide +kernel
abbrev cX9_init : ByteArray := prog_11_method_1_code
def yX9_init : MethodName := ⟨RX9, "<init>", "()V"⟩
abbrev cX9_in : ByteArray := prog_11_method_2_code
def yX9_in : MethodName := ⟨RX9, "in", "(III)Z"⟩
abbrev cX9_has : ByteArray := prog_11_method_3_code
def yX9_has : MethodName := ⟨RX9, "has", "(II)Z"⟩
abbrev cX9_bits : ByteArray := prog_11_method_4_code
def yX9_bits : MethodName := ⟨RX9, "bits", "(I)I"⟩
abbrev cX9_bad : ByteArray := prog_11_method_5_code
def yX9_bad : MethodName := ⟨RX9, "bad", "(I)I"⟩
abbrev cX9_no : ByteArray := prog_11_method_6_code
def yX9_no : MethodName := ⟨RX9, "no", "()I"⟩
abbrev cX9_full : ByteArray := prog_11_method_7_code
def yX9_full : MethodName := ⟨RX9, "full", "()I"⟩
abbrev cX9_status : ByteArray := prog_11_method_8_code
def yX9_status : MethodName := ⟨RX9, "status", "(I)I"⟩
abbrev cX9_part : ByteArray := prog_11_method_9_code
def yX9_part : MethodName := ⟨RX9, "part", "(I)J"⟩
abbrev cX9_forceBy : ByteArray := prog_11_method_10_code
def yX9_forceBy : MethodName := ⟨RX9, "forceBy", "(IIII)I"⟩
abbrev cX9_cracksBy : ByteArray := prog_11_method_11_code
def yX9_cracksBy : MethodName := ⟨RX9, "cracksBy", "(IIIII)I"⟩
abbrev cX9_copies : ByteArray := prog_11_method_12_code
def yX9_copies : MethodName := ⟨RX9, "copies", "([I[I)V"⟩
abbrev cX9_isNut : ByteArray := prog_11_method_13_code
def yX9_isNut : MethodName := ⟨RX9, "isNut", "([II)Z"⟩
abbrev cX9_isBroken : ByteArray := prog_11_method_14_code
def yX9_isBroken : MethodName := ⟨RX9, "isBroken", "([II)Z"⟩
abbrev cX9_canStrike : ByteArray := prog_11_method_15_code
def yX9_canStrike : MethodName := ⟨RX9, "canStrike", "([III)Z"⟩
abbrev cX9_nextNumber : ByteArray := prog_11_method_16_code
def yX9_nextNumber : MethodName := ⟨RX9, "nextNumber", "([I)I"⟩
abbrev cX9_forceOf : ByteArray := prog_11_method_17_code
def yX9_forceOf : MethodName := ⟨RX9, "forceOf", "([III)I"⟩
abbrev cX9_cracked : ByteArray := prog_11_method_18_code
def yX9_cracked : MethodName := ⟨RX9, "cracked", "([IIII)I"⟩
abbrev cX9_scores : ByteArray := prog_11_method_19_code
def yX9_scores : MethodName := ⟨RX9, "scores", "([III)V"⟩
abbrev cX9_struck : ByteArray := prog_11_method_20_code
def yX9_struck : MethodName := ⟨RX9, "struck", "([III)V"⟩
abbrev cX9_canSet : ByteArray := prog_11_method_21_code
def yX9_canSet : MethodName := ⟨RX9, "canSet", "([II)I"⟩
abbrev cX9_clearTold : ByteArray := prog_11_method_22_code
def yX9_clearTold : MethodName := ⟨RX9, "clearTold", "()V"⟩
abbrev cX9_begins : ByteArray := prog_11_method_23_code
def yX9_begins : MethodName := ⟨RX9, "begins", "([II)V"⟩
abbrev cX9_yard : ByteArray := prog_11_method_24_code
def yX9_yard : MethodName := ⟨RX9, "yard", "(I)I"⟩
abbrev cX9_joins : ByteArray := prog_11_method_25_code
def yX9_joins : MethodName := ⟨RX9, "joins", "([III)I"⟩
abbrev cX9_player : ByteArray := prog_11_method_26_code
def yX9_player : MethodName := ⟨RX9, "player", "(II)I"⟩
abbrev cX9_comes : ByteArray := prog_11_method_27_code
def yX9_comes : MethodName := ⟨RX9, "comes", "([IIIII)I"⟩
abbrev cX9_nut : ByteArray := prog_11_method_28_code
def yX9_nut : MethodName := ⟨RX9, "nut", "(IIII)I"⟩
abbrev cX9_type : ByteArray := prog_11_method_29_code
def yX9_type : MethodName := ⟨RX9, "type", "(I)I"⟩
abbrev cX9_clear : ByteArray := prog_11_method_30_code
def yX9_clear : MethodName := ⟨RX9, "clear", "()I"⟩
abbrev cX9_isHere : ByteArray := prog_11_method_31_code
def yX9_isHere : MethodName := ⟨RX9, "isHere", "(II)Z"⟩
abbrev cX9_next : ByteArray := prog_11_method_32_code
def yX9_next : MethodName := ⟨RX9, "next", "()V"⟩
abbrev cX9_fails : ByteArray := prog_11_method_33_code
def yX9_fails : MethodName := ⟨RX9, "fails", "()I"⟩
abbrev cX9_number : ByteArray := prog_11_method_34_code
def yX9_number : MethodName := ⟨RX9, "number", "(II)I"⟩
abbrev cX9_ends : ByteArray := prog_11_method_35_code
def yX9_ends : MethodName := ⟨RX9, "ends", "()Z"⟩
abbrev cX9_readsYard : ByteArray := prog_11_method_36_code
def yX9_readsYard : MethodName := ⟨RX9, "readsYard", "()Z"⟩
abbrev cX9_readsPlayer : ByteArray := prog_11_method_37_code
def yX9_readsPlayer : MethodName := ⟨RX9, "readsPlayer", "()Z"⟩
abbrev cX9_readsNut : ByteArray := prog_11_method_38_code
def yX9_readsNut : MethodName := ⟨RX9, "readsNut", "()Z"⟩
abbrev cX9_readsStrike : ByteArray := prog_11_method_39_code
def yX9_readsStrike : MethodName := ⟨RX9, "readsStrike", "()Z"⟩
abbrev cX9_passes : ByteArray := prog_11_method_40_code
def yX9_passes : MethodName := ⟨RX9, "passes", "([II)V"⟩
abbrev cX9_readsWait : ByteArray := prog_11_method_41_code
def yX9_readsWait : MethodName := ⟨RX9, "readsWait", "()Z"⟩
abbrev cX9_readsItem : ByteArray := prog_11_method_42_code
def yX9_readsItem : MethodName := ⟨RX9, "readsItem", "(Z)Z"⟩
abbrev cX9_isMore : ByteArray := prog_11_method_43_code
def yX9_isMore : MethodName := ⟨RX9, "isMore", "()Z"⟩
abbrev cX9_read : ByteArray := prog_11_method_44_code
def yX9_read : MethodName := ⟨RX9, "read", "()I"⟩
abbrev cX9_remember : ByteArray := prog_11_method_45_code
def yX9_remember : MethodName := ⟨RX9, "remember", "()V"⟩
abbrev cX9_isPair : ByteArray := prog_11_method_46_code
def yX9_isPair : MethodName := ⟨RX9, "isPair", "(II)Z"⟩
abbrev cX9_strikes : ByteArray := prog_11_method_47_code
def yX9_strikes : MethodName := ⟨RX9, "strikes", "(II)I"⟩
abbrev cX9_waits : ByteArray := prog_11_method_48_code
def yX9_waits : MethodName := ⟨RX9, "waits", "(I)I"⟩
abbrev cX9_hands : ByteArray := prog_11_method_49_code
def yX9_hands : MethodName := ⟨RX9, "hands", "(II)I"⟩
abbrev cX9_undo : ByteArray := prog_11_method_50_code
def yX9_undo : MethodName := ⟨RX9, "undo", "()I"⟩
abbrev cX9_of : ByteArray := prog_11_method_51_code
def yX9_of : MethodName := ⟨RX9, "of", "(II)I"⟩
abbrev cX9_nutsOf : ByteArray := prog_11_method_52_code
def yX9_nutsOf : MethodName := ⟨RX9, "nutsOf", "(I)I"⟩
abbrev cX9_scoresOf : ByteArray := prog_11_method_53_code
def yX9_scoresOf : MethodName := ⟨RX9, "scoresOf", "(I)I"⟩
abbrev cX9_who : ByteArray := prog_11_method_54_code
def yX9_who : MethodName := ⟨RX9, "who", "(II)I"⟩
abbrev cX9_crack : ByteArray := prog_11_method_55_code
def yX9_crack : MethodName := ⟨RX9, "crack", "(III)I"⟩
abbrev cX9_bouts : ByteArray := prog_11_method_56_code
def yX9_bouts : MethodName := ⟨RX9, "bouts", "([IIIZ)I"⟩
abbrev cX9_leftOf : ByteArray := prog_11_method_57_code
def yX9_leftOf : MethodName := ⟨RX9, "leftOf", "([III)I"⟩
abbrev cX9_ended : ByteArray := prog_11_method_58_code
def yX9_ended : MethodName := ⟨RX9, "ended", "(IIIZ)I"⟩
abbrev cX9_lasts : ByteArray := prog_11_method_59_code
def yX9_lasts : MethodName := ⟨RX9, "lasts", "(III)I"⟩
abbrev cX9_bout : ByteArray := prog_11_method_60_code
def yX9_bout : MethodName := ⟨RX9, "bout", "(III)I"⟩
abbrev cX9_rank : ByteArray := prog_11_method_61_code
def yX9_rank : MethodName := ⟨RX9, "rank", "(I)I"⟩
abbrev cX9_isOrder : ByteArray := prog_11_method_62_code
def yX9_isOrder : MethodName := ⟨RX9, "isOrder", "(III)Z"⟩
abbrev cX9_placeIn : ByteArray := prog_11_method_63_code
def yX9_placeIn : MethodName := ⟨RX9, "placeIn", "(III)I"⟩
abbrev cX9_order : ByteArray := prog_11_method_64_code
def yX9_order : MethodName := ⟨RX9, "order", "(II)I"⟩
abbrev cX9_firm : ByteArray := prog_11_method_65_code
def yX9_firm : MethodName := ⟨RX9, "firm", "(II)I"⟩
abbrev cX9_fit : ByteArray := prog_11_method_66_code
def yX9_fit : MethodName := ⟨RX9, "fit", "(II)I"⟩
abbrev cX9_seen : ByteArray := prog_11_method_67_code
def yX9_seen : MethodName := ⟨RX9, "seen", "(IIIII)I"⟩
abbrev cX9_hardsOf : ByteArray := prog_11_method_68_code
def yX9_hardsOf : MethodName := ⟨RX9, "hardsOf", "(I)I"⟩
abbrev cX9_hards : ByteArray := prog_11_method_69_code
def yX9_hards : MethodName := ⟨RX9, "hards", "(I)I"⟩
abbrev cX9_alike : ByteArray := prog_11_method_70_code
def yX9_alike : MethodName := ⟨RX9, "alike", "(IIZII)I"⟩
abbrev cX9_looked : ByteArray := prog_11_method_71_code
def yX9_looked : MethodName := ⟨RX9, "looked", "(IIZ)I"⟩
abbrev cX9_tell : ByteArray := prog_11_method_72_code
def yX9_tell : MethodName := ⟨RX9, "tell", "(I)I"⟩
abbrev cX9_note : ByteArray := prog_11_method_73_code
def yX9_note : MethodName := ⟨RX9, "note", "(IIIIII)I"⟩
abbrev cX9_kindsOf : ByteArray := prog_11_method_74_code
def yX9_kindsOf : MethodName := ⟨RX9, "kindsOf", "(I)I"⟩
abbrev cX9_is : ByteArray := prog_11_method_75_code
def yX9_is : MethodName := ⟨RX9, "is", "(I)I"⟩
abbrev cX9_look : ByteArray := prog_11_method_76_code
def yX9_look : MethodName := ⟨RX9, "look", "(I)I"⟩
abbrev cX9_mark : ByteArray := prog_11_method_77_code
def yX9_mark : MethodName := ⟨RX9, "mark", "(IIIII)I"⟩
abbrev cX9_forget : ByteArray := prog_11_method_78_code
def yX9_forget : MethodName := ⟨RX9, "forget", "(I)I"⟩
abbrev cX9_playersOf : ByteArray := prog_11_method_79_code
def yX9_playersOf : MethodName := ⟨RX9, "playersOf", "(I)I"⟩
abbrev cX9_kinds : ByteArray := prog_11_method_80_code
def yX9_kinds : MethodName := ⟨RX9, "kinds", "(I)I"⟩
abbrev cX9_ask : ByteArray := prog_11_method_81_code
def yX9_ask : MethodName := ⟨RX9, "ask", "(I)I"⟩
abbrev cX9_layGains : ByteArray := prog_11_method_82_code
def yX9_layGains : MethodName := ⟨RX9, "layGains", "(II)V"⟩
abbrev cX9_rests : ByteArray := prog_11_method_83_code
def yX9_rests : MethodName := ⟨RX9, "rests", "(III)Z"⟩
abbrev cX9_pair : ByteArray := prog_11_method_84_code
def yX9_pair : MethodName := ⟨RX9, "pair", "(III)I"⟩
abbrev cX9_odds : ByteArray := prog_11_method_85_code
def yX9_odds : MethodName := ⟨RX9, "odds", "(IIII)I"⟩
abbrev cX9_brokenOf : ByteArray := prog_11_method_86_code
def yX9_brokenOf : MethodName := ⟨RX9, "brokenOf", "([I)I"⟩
abbrev cX9_days : ByteArray := prog_11_method_87_code
def yX9_days : MethodName := ⟨RX9, "days", "(II)I"⟩
abbrev cX9_image : ByteArray := prog_11_method_88_code
def yX9_image : MethodName := ⟨RX9, "image", "(I)I"⟩
abbrev cX9_from : ByteArray := prog_11_method_89_code
def yX9_from : MethodName := ⟨RX9, "from", "(I)I"⟩
abbrev cX9_sumOf : ByteArray := prog_11_method_90_code
def yX9_sumOf : MethodName := ⟨RX9, "sumOf", "(I)I"⟩
abbrev cX9_counted : ByteArray := prog_11_method_91_code
def yX9_counted : MethodName := ⟨RX9, "counted", "(I)I"⟩
abbrev cX9_count : ByteArray := prog_11_method_92_code
def yX9_count : MethodName := ⟨RX9, "count", "(I)I"⟩
abbrev cX9_adds : ByteArray := prog_11_method_93_code
def yX9_adds : MethodName := ⟨RX9, "adds", "(J)V"⟩
abbrev cX9_digest : ByteArray := prog_11_method_94_code
def yX9_digest : MethodName := ⟨RX9, "digest", "()J"⟩
def RJ6 : String := "java/lang/Integer"
def TJ6 : u_T := fun k => match k with
  | _ => ("", "", "", false)
abbrev cJ6_bitCount_0f7a4 : ByteArray := prog_12_method_49_code
def yJ6_bitCount_0f7a4 : MethodName := ⟨RJ6, "bitCount", "(I)I"⟩
def RJ9 : String := "java/lang/Math"
def TJ9 : u_T := fun k => match k with
  | _ => ("", "", "", false)
abbrev cJ9_max_7cf53 : ByteArray := prog_13_method_65_code
def yJ9_max_7cf53 : MethodName := ⟨RJ9, "max", "(II)I"⟩
abbrev cJ9_min_7cf53 : ByteArray := prog_13_method_69_code
def yJ9_min_7cf53 : MethodName := ⟨RJ9, "min", "(II)I"⟩
def RJ0 : String := "java/lang/String"
def TJ0 : u_T := fun k => match k with
  | _ => ("", "", "", false)
abbrev cJ0_length_8abf5 : ByteArray := prog_14_method_54_code
def yJ0_length_8abf5 : MethodName := ⟨RJ0, "length", "()I"⟩
abbrev cJ0_charAt_5068e : ByteArray := prog_14_method_56_code
def yJ0_charAt_5068e : MethodName := ⟨RJ0, "charAt", "(I)C"⟩
abbrev cJ0_coder_7d493 : ByteArray := prog_14_method_152_code
def yJ0_coder_7d493 : MethodName := ⟨RJ0, "coder", "()B"⟩
abbrev cJ0_isLatin1_aae02 : ByteArray := prog_14_method_154_code
def yJ0_isLatin1_aae02 : MethodName := ⟨RJ0, "isLatin1", "()Z"⟩
abbrev cJ0_checkIndex_df160 : ByteArray := prog_14_method_155_code
def yJ0_checkIndex_df160 : MethodName := ⟨RJ0, "checkIndex", "(II)V"⟩
def RJ1 : String := "java/lang/StringLatin1"
def TJ1 : u_T := fun k => match k with
  | _ => ("", "", "", false)
abbrev cJ1_charAt_3b067 : ByteArray := prog_15_method_2_code
def yJ1_charAt_3b067 : MethodName := ⟨RJ1, "charAt", "([BI)C"⟩
def RJ2 : String := "java/lang/StringUTF16"
def TJ2 : u_T := fun k => match k with
  | _ => ("", "", "", false)
abbrev cJ2_getChar_3b067 : ByteArray := prog_16_method_5_code
def yJ2_getChar_3b067 : MethodName := ⟨RJ2, "getChar", "([BI)C"⟩
abbrev cJ2_length_9d52b : ByteArray := prog_16_method_6_code
def yJ2_length_9d52b : MethodName := ⟨RJ2, "length", "([B)I"⟩
abbrev cJ2_charAt_3b067 : ByteArray := prog_16_method_83_code
def yJ2_charAt_3b067 : MethodName := ⟨RJ2, "charAt", "([BI)C"⟩
abbrev cJ2_checkIndex_2214a : ByteArray := prog_16_method_91_code
def yJ2_checkIndex_2214a : MethodName := ⟨RJ2, "checkIndex", "(I[B)V"⟩
def RJ10 : String := "java/lang/System"
def TJ10 : u_T := fun k => match k with
  | _ => ("", "", "", false)
def RJ3 : String := "jdk/internal/util/Preconditions"
def TJ3 : u_T := fun k => match k with
  | _ => ("", "", "", false)
abbrev cJ3_checkIndex_8e157 : ByteArray := prog_18_method_11_code
def yJ3_checkIndex_8e157 : MethodName := ⟨RJ3, "checkIndex", "(IILjava/util/function/BiFunction;)I"⟩
def RL : String := "ConkerBoutsLaw"
abbrev cL_law : ByteArray := code
def yL_law : MethodName := ⟨RL, "law", "([I)Z"⟩
abbrev vwCl : List vw_C := [(RX1, TX1, 5), (RX2, TX2, 1), (RX3, TX3, 2), (RX4, TX4, 3), (RX5, TX5, 7), (RX6, TX6, 9), (RX7, TX7, 11), (RX8, TX8, 10), (RX9, TX9, 24)]
