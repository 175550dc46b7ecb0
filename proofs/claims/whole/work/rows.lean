section
-- ===== PART A: goes FIRST, ahead of the names: the tables' words, and 'selects' of the private methods out of them =====
/-- a private method of a class that the tables say can be made, by its rows of tables_1 -/
def lw_okq (q : MethodName × Nat) : Prop := (q.1.cls ≠ "java/lang/invoke/MethodHandle" ∧ q.1.cls ≠ "java/lang/invoke/VarHandle") ∧ Cond.instantiable q.1.cls q.2 ∈ tables_1 ∧ Cond.privateMethod q.1 ∈ tables_1 ∧ Cond.instanceMethod q.1 ∈ tables_1
theorem lw_p0 : lw_okq (⟨"AsteroTone", "holds", "(LAsteroTone$Claim;)Z"⟩, 8) := ⟨⟨by decide +kernel, by decide +kernel⟩, List.mem_of_getElem? (i := 16) (by decide +kernel), List.mem_of_getElem? (i := 147) (by decide +kernel), List.mem_of_getElem? (i := 148) (by decide +kernel)⟩
theorem lw_p1 : lw_okq (⟨"AsteroTone$Light", "look", "(LAsteroTone$Star;[ZII)V"⟩, 5) := ⟨⟨by decide +kernel, by decide +kernel⟩, List.mem_of_getElem? (i := 93) (by decide +kernel), List.mem_of_getElem? (i := 154) (by decide +kernel), List.mem_of_getElem? (i := 155) (by decide +kernel)⟩
theorem lw_p2 : lw_okq (⟨"AsteroTone$Light", "gather", "(LAsteroTone$Star;[Z)V"⟩, 5) := ⟨⟨by decide +kernel, by decide +kernel⟩, List.mem_of_getElem? (i := 93) (by decide +kernel), List.mem_of_getElem? (i := 158) (by decide +kernel), List.mem_of_getElem? (i := 159) (by decide +kernel)⟩
theorem lw_p3 : lw_okq (⟨"AsteroTone$Light", "lessMean", "()V"⟩, 5) := ⟨⟨by decide +kernel, by decide +kernel⟩, List.mem_of_getElem? (i := 93) (by decide +kernel), List.mem_of_getElem? (i := 162) (by decide +kernel), List.mem_of_getElem? (i := 163) (by decide +kernel)⟩
theorem lw_p4 : lw_okq (⟨"AsteroTone$Light", "lessDrift", "()V"⟩, 5) := ⟨⟨by decide +kernel, by decide +kernel⟩, List.mem_of_getElem? (i := 93) (by decide +kernel), List.mem_of_getElem? (i := 169) (by decide +kernel), List.mem_of_getElem? (i := 170) (by decide +kernel)⟩
theorem lw_p5 : lw_okq (⟨"AsteroTone$Light", "lessLine", "(I)V"⟩, 5) := ⟨⟨by decide +kernel, by decide +kernel⟩, List.mem_of_getElem? (i := 93) (by decide +kernel), List.mem_of_getElem? (i := 173) (by decide +kernel), List.mem_of_getElem? (i := 174) (by decide +kernel)⟩
theorem lw_p6 : lw_okq (⟨"AsteroTone$Light", "sumUp", "(I)V"⟩, 5) := ⟨⟨by decide +kernel, by decide +kernel⟩, List.mem_of_getElem? (i := 93) (by decide +kernel), List.mem_of_getElem? (i := 177) (by decide +kernel), List.mem_of_getElem? (i := 178) (by decide +kernel)⟩
theorem lw_p7 : lw_okq (⟨"AsteroTone$Light", "strength", "(I)J"⟩, 5) := ⟨⟨by decide +kernel, by decide +kernel⟩, List.mem_of_getElem? (i := 93) (by decide +kernel), List.mem_of_getElem? (i := 192) (by decide +kernel), List.mem_of_getElem? (i := 193) (by decide +kernel)⟩
theorem lw_p8 : lw_okq (⟨"AsteroTone$Star", "ringsNear", "(I)Z"⟩, 14) := ⟨⟨by decide +kernel, by decide +kernel⟩, List.mem_of_getElem? (i := 25) (by decide +kernel), List.mem_of_getElem? (i := 197) (by decide +kernel), List.mem_of_getElem? (i := 198) (by decide +kernel)⟩
theorem lw_p9 : lw_okq (⟨"AsteroTone$Star", "ring", "(III)I"⟩, 14) := ⟨⟨by decide +kernel, by decide +kernel⟩, List.mem_of_getElem? (i := 25) (by decide +kernel), List.mem_of_getElem? (i := 201) (by decide +kernel), List.mem_of_getElem? (i := 202) (by decide +kernel)⟩
theorem lw_p10 : lw_okq (⟨"AsteroTone", "withdrawAll", "(J)I"⟩, 8) := ⟨⟨by decide +kernel, by decide +kernel⟩, List.mem_of_getElem? (i := 16) (by decide +kernel), List.mem_of_getElem? (i := 214) (by decide +kernel), List.mem_of_getElem? (i := 215) (by decide +kernel)⟩
theorem lw_p11 : lw_okq (⟨"java/lang/Throwable", "fillInStackTrace", "(I)Ljava/lang/Throwable;"⟩, 6) := ⟨⟨by decide +kernel, by decide +kernel⟩, List.mem_of_getElem? (i := 274) (by decide +kernel), List.mem_of_getElem? (i := 272) (by decide +kernel), List.mem_of_getElem? (i := 273) (by decide +kernel)⟩
theorem lw_p12 : lw_okq (⟨"AsteroTone$Star", "addShell", "(III)V"⟩, 14) := ⟨⟨by decide +kernel, by decide +kernel⟩, List.mem_of_getElem? (i := 25) (by decide +kernel), List.mem_of_getElem? (i := 320) (by decide +kernel), List.mem_of_getElem? (i := 321) (by decide +kernel)⟩
theorem lw_p13 : lw_okq (⟨"AsteroTone$Star", "settle", "(I)V"⟩, 14) := ⟨⟨by decide +kernel, by decide +kernel⟩, List.mem_of_getElem? (i := 25) (by decide +kernel), List.mem_of_getElem? (i := 333) (by decide +kernel), List.mem_of_getElem? (i := 334) (by decide +kernel)⟩
theorem lw_p14 : lw_okq (⟨"AsteroTone$Star", "crossed", "()I"⟩, 14) := ⟨⟨by decide +kernel, by decide +kernel⟩, List.mem_of_getElem? (i := 25) (by decide +kernel), List.mem_of_getElem? (i := 337) (by decide +kernel), List.mem_of_getElem? (i := 338) (by decide +kernel)⟩
theorem lw_p15 : lw_okq (⟨"AsteroTone$Star", "slowed", "()I"⟩, 14) := ⟨⟨by decide +kernel, by decide +kernel⟩, List.mem_of_getElem? (i := 25) (by decide +kernel), List.mem_of_getElem? (i := 342) (by decide +kernel), List.mem_of_getElem? (i := 343) (by decide +kernel)⟩
def lw_privs_1 : List (MethodName × Nat) := [(⟨"AsteroTone", "holds", "(LAsteroTone$Claim;)Z"⟩, 8), (⟨"AsteroTone$Light", "look", "(LAsteroTone$Star;[ZII)V"⟩, 5), (⟨"AsteroTone$Light", "gather", "(LAsteroTone$Star;[Z)V"⟩, 5), (⟨"AsteroTone$Light", "lessMean", "()V"⟩, 5), (⟨"AsteroTone$Light", "lessDrift", "()V"⟩, 5), (⟨"AsteroTone$Light", "lessLine", "(I)V"⟩, 5), (⟨"AsteroTone$Light", "sumUp", "(I)V"⟩, 5), (⟨"AsteroTone$Light", "strength", "(I)J"⟩, 5), (⟨"AsteroTone$Star", "ringsNear", "(I)Z"⟩, 14), (⟨"AsteroTone$Star", "ring", "(III)I"⟩, 14), (⟨"AsteroTone", "withdrawAll", "(J)I"⟩, 8), (⟨"java/lang/Throwable", "fillInStackTrace", "(I)Ljava/lang/Throwable;"⟩, 6), (⟨"AsteroTone$Star", "addShell", "(III)V"⟩, 14), (⟨"AsteroTone$Star", "settle", "(I)V"⟩, 14), (⟨"AsteroTone$Star", "crossed", "()I"⟩, 14), (⟨"AsteroTone$Star", "slowed", "()I"⟩, 14)]
theorem lw_r1 : ∀ q ∈ lw_privs_1, lw_okq q := List.forall_mem_cons.mpr ⟨lw_p0, List.forall_mem_cons.mpr ⟨lw_p1, List.forall_mem_cons.mpr ⟨lw_p2, List.forall_mem_cons.mpr ⟨lw_p3, List.forall_mem_cons.mpr ⟨lw_p4, List.forall_mem_cons.mpr ⟨lw_p5, List.forall_mem_cons.mpr ⟨lw_p6, List.forall_mem_cons.mpr ⟨lw_p7, List.forall_mem_cons.mpr ⟨lw_p8, List.forall_mem_cons.mpr ⟨lw_p9, List.forall_mem_cons.mpr ⟨lw_p10, List.forall_mem_cons.mpr ⟨lw_p11, List.forall_mem_cons.mpr ⟨lw_p12, List.forall_mem_cons.mpr ⟨lw_p13, List.forall_mem_cons.mpr ⟨lw_p14, List.forall_mem_cons.mpr ⟨lw_p15, fun _ h => absurd h List.not_mem_nil⟩⟩⟩⟩⟩⟩⟩⟩⟩⟩⟩⟩⟩⟩⟩⟩
theorem lw_p16 : lw_okq (⟨"AsteroTone$Star", "turned", "()I"⟩, 14) := ⟨⟨by decide +kernel, by decide +kernel⟩, List.mem_of_getElem? (i := 25) (by decide +kernel), List.mem_of_getElem? (i := 349) (by decide +kernel), List.mem_of_getElem? (i := 350) (by decide +kernel)⟩
theorem lw_p17 : lw_okq (⟨"AsteroTone", "starAt", "(I)LAsteroTone$Star;"⟩, 8) := ⟨⟨by decide +kernel, by decide +kernel⟩, List.mem_of_getElem? (i := 16) (by decide +kernel), List.mem_of_getElem? (i := 361) (by decide +kernel), List.mem_of_getElem? (i := 362) (by decide +kernel)⟩
theorem lw_p18 : lw_okq (⟨"AsteroTone", "lookForRoom", "()V"⟩, 8) := ⟨⟨by decide +kernel, by decide +kernel⟩, List.mem_of_getElem? (i := 16) (by decide +kernel), List.mem_of_getElem? (i := 441) (by decide +kernel), List.mem_of_getElem? (i := 442) (by decide +kernel)⟩
theorem lw_p19 : lw_okq (⟨"AsteroTone", "standsOut", "(LAsteroTone$Star;II)Z"⟩, 8) := ⟨⟨by decide +kernel, by decide +kernel⟩, List.mem_of_getElem? (i := 16) (by decide +kernel), List.mem_of_getElem? (i := 446) (by decide +kernel), List.mem_of_getElem? (i := 447) (by decide +kernel)⟩
theorem lw_p20 : lw_okq (⟨"AsteroTone", "enter", "(LAsteroTone$Claim;)I"⟩, 8) := ⟨⟨by decide +kernel, by decide +kernel⟩, List.mem_of_getElem? (i := 16) (by decide +kernel), List.mem_of_getElem? (i := 489) (by decide +kernel), List.mem_of_getElem? (i := 490) (by decide +kernel)⟩
theorem lw_p21 : lw_okq (⟨"AsteroTone", "claimAt", "(I)LAsteroTone$Claim;"⟩, 8) := ⟨⟨by decide +kernel, by decide +kernel⟩, List.mem_of_getElem? (i := 16) (by decide +kernel), List.mem_of_getElem? (i := 500) (by decide +kernel), List.mem_of_getElem? (i := 501) (by decide +kernel)⟩
theorem lw_p22 : lw_okq (⟨"AsteroTone", "ageOfNearest", "(I)I"⟩, 8) := ⟨⟨by decide +kernel, by decide +kernel⟩, List.mem_of_getElem? (i := 16) (by decide +kernel), List.mem_of_getElem? (i := 509) (by decide +kernel), List.mem_of_getElem? (i := 510) (by decide +kernel)⟩
theorem lw_p23 : lw_okq (⟨"AsteroTone$Star", "crossedByUnits", "()I"⟩, 14) := ⟨⟨by decide +kernel, by decide +kernel⟩, List.mem_of_getElem? (i := 25) (by decide +kernel), List.mem_of_getElem? (i := 554) (by decide +kernel), List.mem_of_getElem? (i := 555) (by decide +kernel)⟩
theorem lw_p24 : lw_okq (⟨"AsteroTone$Light", "valueAt", "(I)J"⟩, 5) := ⟨⟨by decide +kernel, by decide +kernel⟩, List.mem_of_getElem? (i := 93) (by decide +kernel), List.mem_of_getElem? (i := 582) (by decide +kernel), List.mem_of_getElem? (i := 583) (by decide +kernel)⟩
theorem lw_p25 : lw_okq (⟨"AsteroTone$Light", "flatten", "()V"⟩, 5) := ⟨⟨by decide +kernel, by decide +kernel⟩, List.mem_of_getElem? (i := 93) (by decide +kernel), List.mem_of_getElem? (i := 603) (by decide +kernel), List.mem_of_getElem? (i := 604) (by decide +kernel)⟩
theorem lw_p26 : lw_okq (⟨"AsteroToneModel", "laysRow", "(IIIII)V"⟩, 32) := ⟨⟨by decide +kernel, by decide +kernel⟩, List.mem_of_getElem? (i := 640) (by decide +kernel), List.mem_of_getElem? (i := 646) (by decide +kernel), List.mem_of_getElem? (i := 647) (by decide +kernel)⟩
theorem lw_p27 : lw_okq (⟨"AsteroToneModel", "can", "(I)Z"⟩, 32) := ⟨⟨by decide +kernel, by decide +kernel⟩, List.mem_of_getElem? (i := 640) (by decide +kernel), List.mem_of_getElem? (i := 758) (by decide +kernel), List.mem_of_getElem? (i := 759) (by decide +kernel)⟩
theorem lw_p28 : lw_okq (⟨"AsteroToneModel", "isStar", "(I)Z"⟩, 32) := ⟨⟨by decide +kernel, by decide +kernel⟩, List.mem_of_getElem? (i := 640) (by decide +kernel), List.mem_of_getElem? (i := 771) (by decide +kernel), List.mem_of_getElem? (i := 772) (by decide +kernel)⟩
theorem lw_p29 : lw_okq (⟨"AsteroToneModel", "toneOf", "(IIII)I"⟩, 32) := ⟨⟨by decide +kernel, by decide +kernel⟩, List.mem_of_getElem? (i := 640) (by decide +kernel), List.mem_of_getElem? (i := 783) (by decide +kernel), List.mem_of_getElem? (i := 784) (by decide +kernel)⟩
theorem lw_p30 : lw_okq (⟨"AsteroToneModel", "lays", "(IZ)V"⟩, 32) := ⟨⟨by decide +kernel, by decide +kernel⟩, List.mem_of_getElem? (i := 640) (by decide +kernel), List.mem_of_getElem? (i := 819) (by decide +kernel), List.mem_of_getElem? (i := 820) (by decide +kernel)⟩
theorem lw_p31 : lw_okq (⟨"AsteroToneModel", "laysAll", "(III)V"⟩, 32) := ⟨⟨by decide +kernel, by decide +kernel⟩, List.mem_of_getElem? (i := 640) (by decide +kernel), List.mem_of_getElem? (i := 830) (by decide +kernel), List.mem_of_getElem? (i := 831) (by decide +kernel)⟩
def lw_privs_2 : List (MethodName × Nat) := [(⟨"AsteroTone$Star", "turned", "()I"⟩, 14), (⟨"AsteroTone", "starAt", "(I)LAsteroTone$Star;"⟩, 8), (⟨"AsteroTone", "lookForRoom", "()V"⟩, 8), (⟨"AsteroTone", "standsOut", "(LAsteroTone$Star;II)Z"⟩, 8), (⟨"AsteroTone", "enter", "(LAsteroTone$Claim;)I"⟩, 8), (⟨"AsteroTone", "claimAt", "(I)LAsteroTone$Claim;"⟩, 8), (⟨"AsteroTone", "ageOfNearest", "(I)I"⟩, 8), (⟨"AsteroTone$Star", "crossedByUnits", "()I"⟩, 14), (⟨"AsteroTone$Light", "valueAt", "(I)J"⟩, 5), (⟨"AsteroTone$Light", "flatten", "()V"⟩, 5), (⟨"AsteroToneModel", "laysRow", "(IIIII)V"⟩, 32), (⟨"AsteroToneModel", "can", "(I)Z"⟩, 32), (⟨"AsteroToneModel", "isStar", "(I)Z"⟩, 32), (⟨"AsteroToneModel", "toneOf", "(IIII)I"⟩, 32), (⟨"AsteroToneModel", "lays", "(IZ)V"⟩, 32), (⟨"AsteroToneModel", "laysAll", "(III)V"⟩, 32)]
theorem lw_r2 : ∀ q ∈ lw_privs_2, lw_okq q := List.forall_mem_cons.mpr ⟨lw_p16, List.forall_mem_cons.mpr ⟨lw_p17, List.forall_mem_cons.mpr ⟨lw_p18, List.forall_mem_cons.mpr ⟨lw_p19, List.forall_mem_cons.mpr ⟨lw_p20, List.forall_mem_cons.mpr ⟨lw_p21, List.forall_mem_cons.mpr ⟨lw_p22, List.forall_mem_cons.mpr ⟨lw_p23, List.forall_mem_cons.mpr ⟨lw_p24, List.forall_mem_cons.mpr ⟨lw_p25, List.forall_mem_cons.mpr ⟨lw_p26, List.forall_mem_cons.mpr ⟨lw_p27, List.forall_mem_cons.mpr ⟨lw_p28, List.forall_mem_cons.mpr ⟨lw_p29, List.forall_mem_cons.mpr ⟨lw_p30, List.forall_mem_cons.mpr ⟨lw_p31, fun _ h => absurd h List.not_mem_nil⟩⟩⟩⟩⟩⟩⟩⟩⟩⟩⟩⟩⟩⟩⟩⟩
theorem lw_p32 : lw_okq (⟨"AsteroToneModel", "filters", "(I)V"⟩, 32) := ⟨⟨by decide +kernel, by decide +kernel⟩, List.mem_of_getElem? (i := 640) (by decide +kernel), List.mem_of_getElem? (i := 834) (by decide +kernel), List.mem_of_getElem? (i := 835) (by decide +kernel)⟩
theorem lw_p33 : lw_okq (⟨"AsteroToneModel", "takes", "(I)V"⟩, 32) := ⟨⟨by decide +kernel, by decide +kernel⟩, List.mem_of_getElem? (i := 640) (by decide +kernel), List.mem_of_getElem? (i := 841) (by decide +kernel), List.mem_of_getElem? (i := 842) (by decide +kernel)⟩
theorem lw_p34 : lw_okq (⟨"AsteroToneModel", "sum", "(IZ)J"⟩, 32) := ⟨⟨by decide +kernel, by decide +kernel⟩, List.mem_of_getElem? (i := 640) (by decide +kernel), List.mem_of_getElem? (i := 846) (by decide +kernel), List.mem_of_getElem? (i := 847) (by decide +kernel)⟩
theorem lw_p35 : lw_okq (⟨"AsteroToneModel", "sine", "(I)J"⟩, 32) := ⟨⟨by decide +kernel, by decide +kernel⟩, List.mem_of_getElem? (i := 640) (by decide +kernel), List.mem_of_getElem? (i := 850) (by decide +kernel), List.mem_of_getElem? (i := 851) (by decide +kernel)⟩
theorem lw_p36 : lw_okq (⟨"AsteroToneModel", "cosine", "(I)J"⟩, 32) := ⟨⟨by decide +kernel, by decide +kernel⟩, List.mem_of_getElem? (i := 640) (by decide +kernel), List.mem_of_getElem? (i := 854) (by decide +kernel), List.mem_of_getElem? (i := 855) (by decide +kernel)⟩
theorem lw_p37 : lw_okq (⟨"AsteroToneModel", "powerOf", "(I)J"⟩, 32) := ⟨⟨by decide +kernel, by decide +kernel⟩, List.mem_of_getElem? (i := 640) (by decide +kernel), List.mem_of_getElem? (i := 866) (by decide +kernel), List.mem_of_getElem? (i := 867) (by decide +kernel)⟩
theorem lw_p38 : lw_okq (⟨"AsteroToneModel", "windowOf", "(II)J"⟩, 32) := ⟨⟨by decide +kernel, by decide +kernel⟩, List.mem_of_getElem? (i := 640) (by decide +kernel), List.mem_of_getElem? (i := 874) (by decide +kernel), List.mem_of_getElem? (i := 875) (by decide +kernel)⟩
theorem lw_p39 : lw_okq (⟨"AsteroToneModel", "peaks", "(III)Z"⟩, 32) := ⟨⟨by decide +kernel, by decide +kernel⟩, List.mem_of_getElem? (i := 640) (by decide +kernel), List.mem_of_getElem? (i := 882) (by decide +kernel), List.mem_of_getElem? (i := 883) (by decide +kernel)⟩
theorem lw_p40 : lw_okq (⟨"AsteroToneModel", "seesThrough", "(IIII)Z"⟩, 32) := ⟨⟨by decide +kernel, by decide +kernel⟩, List.mem_of_getElem? (i := 640) (by decide +kernel), List.mem_of_getElem? (i := 890) (by decide +kernel), List.mem_of_getElem? (i := 891) (by decide +kernel)⟩
theorem lw_p41 : lw_okq (⟨"AsteroToneModel", "makes", "(III)I"⟩, 32) := ⟨⟨by decide +kernel, by decide +kernel⟩, List.mem_of_getElem? (i := 640) (by decide +kernel), List.mem_of_getElem? (i := 899) (by decide +kernel), List.mem_of_getElem? (i := 900) (by decide +kernel)⟩
theorem lw_p42 : lw_okq (⟨"AsteroToneModel", "isClaim", "(I)Z"⟩, 32) := ⟨⟨by decide +kernel, by decide +kernel⟩, List.mem_of_getElem? (i := 640) (by decide +kernel), List.mem_of_getElem? (i := 907) (by decide +kernel), List.mem_of_getElem? (i := 908) (by decide +kernel)⟩
theorem lw_p43 : lw_okq (⟨"AsteroToneModel", "ageBy", "(I)I"⟩, 32) := ⟨⟨by decide +kernel, by decide +kernel⟩, List.mem_of_getElem? (i := 640) (by decide +kernel), List.mem_of_getElem? (i := 911) (by decide +kernel), List.mem_of_getElem? (i := 912) (by decide +kernel)⟩
theorem lw_p44 : lw_okq (⟨"AsteroToneModel", "citesOf", "(I)I"⟩, 32) := ⟨⟨by decide +kernel, by decide +kernel⟩, List.mem_of_getElem? (i := 640) (by decide +kernel), List.mem_of_getElem? (i := 927) (by decide +kernel), List.mem_of_getElem? (i := 928) (by decide +kernel)⟩
theorem lw_p45 : lw_okq (⟨"AsteroToneModel", "follows", "()I"⟩, 32) := ⟨⟨by decide +kernel, by decide +kernel⟩, List.mem_of_getElem? (i := 640) (by decide +kernel), List.mem_of_getElem? (i := 935) (by decide +kernel), List.mem_of_getElem? (i := 936) (by decide +kernel)⟩
theorem lw_p46 : lw_okq (⟨"AsteroToneModel", "sound", "(I)Z"⟩, 32) := ⟨⟨by decide +kernel, by decide +kernel⟩, List.mem_of_getElem? (i := 640) (by decide +kernel), List.mem_of_getElem? (i := 943) (by decide +kernel), List.mem_of_getElem? (i := 944) (by decide +kernel)⟩
theorem lw_p47 : lw_okq (⟨"AsteroToneModel", "replays", "(I)Z"⟩, 32) := ⟨⟨by decide +kernel, by decide +kernel⟩, List.mem_of_getElem? (i := 640) (by decide +kernel), List.mem_of_getElem? (i := 947) (by decide +kernel), List.mem_of_getElem? (i := 948) (by decide +kernel)⟩
def lw_privs_3 : List (MethodName × Nat) := [(⟨"AsteroToneModel", "filters", "(I)V"⟩, 32), (⟨"AsteroToneModel", "takes", "(I)V"⟩, 32), (⟨"AsteroToneModel", "sum", "(IZ)J"⟩, 32), (⟨"AsteroToneModel", "sine", "(I)J"⟩, 32), (⟨"AsteroToneModel", "cosine", "(I)J"⟩, 32), (⟨"AsteroToneModel", "powerOf", "(I)J"⟩, 32), (⟨"AsteroToneModel", "windowOf", "(II)J"⟩, 32), (⟨"AsteroToneModel", "peaks", "(III)Z"⟩, 32), (⟨"AsteroToneModel", "seesThrough", "(IIII)Z"⟩, 32), (⟨"AsteroToneModel", "makes", "(III)I"⟩, 32), (⟨"AsteroToneModel", "isClaim", "(I)Z"⟩, 32), (⟨"AsteroToneModel", "ageBy", "(I)I"⟩, 32), (⟨"AsteroToneModel", "citesOf", "(I)I"⟩, 32), (⟨"AsteroToneModel", "follows", "()I"⟩, 32), (⟨"AsteroToneModel", "sound", "(I)Z"⟩, 32), (⟨"AsteroToneModel", "replays", "(I)Z"⟩, 32)]
theorem lw_r3 : ∀ q ∈ lw_privs_3, lw_okq q := List.forall_mem_cons.mpr ⟨lw_p32, List.forall_mem_cons.mpr ⟨lw_p33, List.forall_mem_cons.mpr ⟨lw_p34, List.forall_mem_cons.mpr ⟨lw_p35, List.forall_mem_cons.mpr ⟨lw_p36, List.forall_mem_cons.mpr ⟨lw_p37, List.forall_mem_cons.mpr ⟨lw_p38, List.forall_mem_cons.mpr ⟨lw_p39, List.forall_mem_cons.mpr ⟨lw_p40, List.forall_mem_cons.mpr ⟨lw_p41, List.forall_mem_cons.mpr ⟨lw_p42, List.forall_mem_cons.mpr ⟨lw_p43, List.forall_mem_cons.mpr ⟨lw_p44, List.forall_mem_cons.mpr ⟨lw_p45, List.forall_mem_cons.mpr ⟨lw_p46, List.forall_mem_cons.mpr ⟨lw_p47, fun _ h => absurd h List.not_mem_nil⟩⟩⟩⟩⟩⟩⟩⟩⟩⟩⟩⟩⟩⟩⟩⟩
theorem lw_p48 : lw_okq (⟨"AsteroToneModel", "isTone", "(II)Z"⟩, 32) := ⟨⟨by decide +kernel, by decide +kernel⟩, List.mem_of_getElem? (i := 640) (by decide +kernel), List.mem_of_getElem? (i := 951) (by decide +kernel), List.mem_of_getElem? (i := 952) (by decide +kernel)⟩
def lw_privs_4 : List (MethodName × Nat) := [(⟨"AsteroToneModel", "isTone", "(II)Z"⟩, 32)]
theorem lw_r4 : ∀ q ∈ lw_privs_4, lw_okq q := List.forall_mem_cons.mpr ⟨lw_p48, fun _ h => absurd h List.not_mem_nil⟩
def lw_privs : List (MethodName × Nat) := lw_privs_1 ++ (lw_privs_2 ++ (lw_privs_3 ++ (lw_privs_4)))
def lw_tbl : List Cond := k2_sels lw_privs ++ tables_1
theorem lw_privs_ok : ∀ q ∈ lw_privs, lw_okq q := by
  show ∀ q ∈ lw_privs_1 ++ (lw_privs_2 ++ (lw_privs_3 ++ (lw_privs_4))), lw_okq q
  exact List.forall_mem_append.mpr ⟨lw_r1, List.forall_mem_append.mpr ⟨lw_r2, List.forall_mem_append.mpr ⟨lw_r3, lw_r4⟩⟩⟩
-- ===== end of PART A; then your names; then what follows =====
/-! ===== BEGIN words of one list among another's, by their places ===== -/
theorem goodIn_r {big : List Cond} (ws : List Cond) (ps : List Nat) (hp : ws = ps.filterMap (fun i => big[i]?)) (h : ws.all goodWord = true) : GoodIn big ws := by
  intro w hw
  have h1 := List.all_eq_true.mp h w hw
  rw [hp] at hw
  obtain ⟨i, -, hi⟩ := List.mem_filterMap.mp hw
  have hm : w ∈ big := by first | exact List.mem_of_getElem? hi | exact List.getElem?_mem hi
  exact ⟨hm, good_of_word h1⟩
theorem goodIn_app {big a b : List Cond} (ha : GoodIn big a) (hb : GoodIn big b) : GoodIn big (a ++ b) := fun w h => (List.mem_append.mp h).elim (ha w) (hb w)
theorem goodIn_ca {big a b : List Cond} {c : Cond} (ha : GoodIn big (c :: a)) (hb : GoodIn big b) : GoodIn big (c :: (a ++ b)) := fun w h => (List.mem_cons.mp h).elim (fun e => ha w (List.mem_cons.mpr (Or.inl e))) (fun h => (List.mem_append.mp h).elim (fun h => ha w (List.mem_cons.mpr (Or.inr h))) (hb w))
theorem goodIn_sub {big ws : List Cond} (hm : ∀ w ∈ ws, w ∈ big) (h : ws.all goodWord = true) : GoodIn big ws := fun w hw => ⟨hm w hw, good_of_word (List.all_eq_true.mp h w hw)⟩
/-! ===== END ===== -/

/-! ===== BEGIN exceptions that leave a method, and their catching by the caller (launches without stack traces) ===== -/
section VXA
/-! The laws vx_back, vx_callV, vx_callS, vx_callSW, vx_throw0, vx_throwS follow proofs of the library, with one case more: JvmDerived/Free/Laws.lean (Back.of_free), Shelf42/LK1.lean (callV, callS), Shelf/KitTraced.lean (throwNew0V, throwNewS). -/
/-- where a method has thrown q: the class by its name, the cell, what was written, the world -/
def vx_T (XC : String → State → State → Prop) (st : State) (q : Addr) (t : State) (mc ms : Nat) (free : Addr → Prop) : Prop :=
  ∃ (E : String) (ce : Cell) (L : List Loc), XC E st t ∧ t.heap[q]? = some ce ∧ ce.vm = .none ∧ st.vm.findClass E = some ce.cls ∧ st.WarmedH t.vm ∧ st.sameButNew ({ t with vm := st.vm } : State) L mc ms ∧ ∀ z ∈ L, free z.base
def vx_Q (Qc : Array Value → State → Outcome → State → Prop) (XC : String → State → State → Prop) (mc ms : Nat) (free : Addr → Prop) : Array Value → State → Outcome → State → Prop := fun a st o t =>
  (Qc a st o t ∧ ∃ L, FrameEnd st o t L mc ms ∧ ∀ q ∈ L, free q.base) ∨ ∃ q, o = .threw q ∧ vx_T XC st q t mc ms free
/-- a callee that returns or throws -/
def vx_Met (l : Launch) (y : MethodName) (ws : List Cond) (rm : Room) (Pc : Array Value → State → Prop) (Qc : Array Value → State → Outcome → State → Prop) (XC : String → State → State → Prop) (mc ms : Nat) (free : Addr → Prop) : Prop :=
  MetFree l y (headSpec ws rm) Pc (fun _ _ _ _ _ => True) (vx_Q Qc XC mc ms free)
def vx_Post (XC : String → State → State → Prop) (mc ms : Nat) (free : Addr → Prop) : Pt → Array Value → Addr → Pt → Prop := fun A a q B =>
  ∃ (g : JFrame) (mk : MethodId) (t : State) (L : List Loc) (E : String) (ce : Cell), B.U.heap = t.heap ∧ B.U.vm = t.vm ∧ XC E (A.U.calling g mk a) t ∧ t.heap[q]? = some ce ∧ ce.vm = .none ∧ A.U.vm.findClass E = some ce.cls ∧ B.locs = A.locs ++ L ∧ (∀ z ∈ L, free z.base) ∧ B.cells = A.cells + mc ∧ B.slots = A.slots + ms
def vx_Back (l : Launch) (R : Room) (p : Program) (e : Env) (below : List Frame) (s : State) (sargs : Array Value) (y : MethodName) (len W9 : Nat)
    (Pre : Pt → Array Value → Prop) (Post : Pt → Array Value → Option Value → Pt → Prop) (PostX : Pt → Array Value → Addr → Pt → Prop) : Prop :=
  ∀ (m : MethodId) (meth : Method) (c : Code) (A : Pt) (g : JFrame) (ig : Instr) (mk : MethodId) (a : Array Value),
    Stand p l e R s m sargs below meth c A.U A.locs A.cells A.slots → g.method = m → g.locals.size = c.maxLocals → decode c.code g.pc = .ok (ig, len) →
    2 * g.monitorRoom + (g.stack.map fun v => v.category).sum ≤ W9 → A.U.methodNamed? y = some mk → Pre A a →
    (∃ (v : Option Value) (B : Pt), Stand p l e R s m sargs below meth c B.U B.locs B.cells B.slots ∧ Post A a v B ∧
      Steps p.tables e below (doInvoke e (A.U.setTop g) [] mk a).1 (B.U.setTop { g with pc := g.pc + len, stack := v.toList ++ g.stack })) ∨
    (∃ (q : Addr) (B : Pt), Stand p l e R s m sargs below meth c B.U B.locs B.cells B.slots ∧ PostX A a q B ∧
      Steps p.tables e below (doInvoke e (A.U.setTop g) [] mk a).1 ((B.U.setTop g).pushFrame (.throwing q)))
section Payer
variable {l : Launch} {R : Room} {p : Program} {e : Env} {below : List Frame} {s : State} {sargs : Array Value} {y : MethodName} {len W9 : Nat}
theorem vx_back {ws : List Cond} {rm : Room} {Pc : Array Value → State → Prop} {Qc : Array Value → State → Outcome → State → Prop} {XC : String → State → State → Prop} {mc ms : Nat} {free : Addr → Prop} {bytes : ByteArray} {maxL : Nat} {ret : Option FieldType}
    (hM : vx_Met l y ws rm Pc Qc XC mc ms free) (hblind : FrameBlind Pc) (hrc : rm.cells = mc) (hrs : rm.slots = ms)
    (hframes : rm.frames + 1 ≤ R.frames) (hlocals : W9 + (maxL + 11) + rm.locals ≤ R.locals)
    (hws : ∀ w ∈ ws, ∀ a' U, s.WarmedH U.vm → w.before a' U = true) (hcode : Cond.code y bytes maxL ret ∈ ws) (hinit : ∀ a' U, s.WarmedH U.vm → (Cond.initialized y.cls).before a' U = true) :
    vx_Back l R p e below s sargs y len W9 (PreOf R mc ms Pc) (PostOf Qc mc ms free) (vx_Post XC mc ms free) := by
  intro m meth c A g ig mk a X hg hsize hdg hW hn hp
  have h1 : (headSpec ws rm).pre.before a A.U = true := atoms_intro fun w hw => hws w hw _ _ X.warmed
  have h2 : (Cond.code y bytes maxL ret).before a A.U = true := hws _ hcode _ _ X.warmed
  have h3 : (Cond.initialized y.cls).before a A.U = true := hinit _ _ X.warmed
  have h4 : A.cells + (headSpec ws rm).room.cells ≤ R.cells := by rw [show (headSpec ws rm).room.cells = mc from hrc]; exact hp.1
  have h5 : A.slots + (headSpec ws rm).room.slots ≤ R.slots := by rw [show (headSpec ws rm).room.slots = ms from hrs]; exact hp.2.1
  have hPc : Pc a (A.U.calling g mk a) := hblind _ _ _ _ hp.2.2
  obtain ⟨U, Ls, c0, s0⟩ := A
  dsimp only [Pt.U, Pt.locs, Pt.cells, Pt.slots] at h1 h2 h3 h4 h5 X hn hPc ⊢
  obtain ⟨methY, cY, hmY, hcY, -, hlY, -, -, -, -⟩ := Cond.code_spec hn h2
  obtain ⟨kY, hkY, -⟩ := className_of_methodNamed hn
  have hinitY : kY.init = .initialized := Cond.initialized_spec (findClass_of_methodNamed hn) hkY h3
  have h : At U g.method c below := by rw [hg]; exact X.here
  have hlocals9 : W9 + (maxL + 11) + (headSpec ws rm).room.locals ≤ R.locals := hlocals
  have happ : (headSpec ws rm).appliesLoose y e.platform (U.calling g mk a) = true :=
    Spec.appliesLoose_calling (g := g) h hdg hn hkY hinitY
      (X.room_calling (g := g) (R' := (headSpec ws rm).room) hsize hmY hcY hframes (by rw [hlY]; omega) h4 h5) h1
  obtain ⟨mid, hmid⟩ := h.above
  have hfr : (U.setTop g).frames = (.java g :: mid) ++ below := by rw [State.frames_setTop' g h.top, hmid]; rfl
  obtain ⟨o, s₂, hsteps, -, hend, hq⟩ := Steps.callFree hM p X.admits X.cas X.clock (acts := []) hfr happ hPc trivial
  have hq' : vx_Q Qc XC mc ms free a (U.calling g mk a) o s₂ := hq
  rw [State.frames_setTop' g h.top] at hend
  obtain ⟨g₀, hg0⟩ := Option.isSome_iff_exists.mp h.top
  obtain ⟨r, hr⟩ := State.topJava?_eq_some.mp hg0
  have hr' : (({ U with heap := s₂.heap, slotsUsed := s₂.slotsUsed } : State).setVm s₂.vm).frames = .java g₀ :: r := hr
  rcases hq' with ⟨hqc, L, hfe, hL⟩ | ⟨q, rfl, E, ce, L, hx, hce, hcv, hcl, hW₂, hsm, hL⟩
  · obtain ⟨⟨v, rfl⟩, hW₂, e2, q2, q3, q4, q5, q6⟩ := id hfe
    have e3 : s₂ = ({ (U.calling g mk a).setFrames s₂.frames with heap := s₂.heap, slotsUsed := s₂.slotsUsed } : State).setVm s₂.vm := by
      have : s₂ = ({ s₂ with vm := (U.calling g mk a).vm } : State).setVm s₂.vm := rfl
      rw [e2] at this
      exact this
    obtain ⟨c₂, i₂, len₂, hc₂, hd₂, hf₂⟩ := hend
    have hW' : U.WarmedH s₂.vm := hW₂
    have hcc : c₂ = c := by
      have h1 : s₂.code? g.method = U.code? g.method := by
        rw [State.code?_eq, State.code?_eq, hW'.alike.method?]
      exact Option.some.inj (hc₂.symm.trans (h1.trans h.code))
    subst hcc
    have hlen : len₂ = len := by rw [hdg] at hd₂; cases hd₂; rfl
    subst hlen
    have hs₂ : s₂ = (({ U with heap := s₂.heap, slotsUsed := s₂.slotsUsed } : State).setVm s₂.vm).setTop { g with pc := g.pc + len₂, stack := v.toList ++ g.stack } := by
      refine e3.trans ?_
      rw [hf₂, State.calling_eq h.top, State.setFrames_setFrames, State.setTop_of_frames _ hr', hr]
      rfl
    have hsame : U.sameButNew ({ U with heap := s₂.heap, slotsUsed := s₂.slotsUsed } : State) L mc ms := by
      refine ⟨?_, q2, q3, q4, q5, q6⟩
      obtain ⟨t, ht, -⟩ := State.frames_cons hr
      show ({ U with heap := s₂.heap, slotsUsed := s₂.slotsUsed } : State) = { U.setFrames U.frames with heap := s₂.heap, slotsUsed := s₂.slotsUsed }
      rw [State.setFrames_self ht]
    subst hg
    refine Or.inl ⟨v, ⟨(({ U with heap := s₂.heap, slotsUsed := s₂.slotsUsed } : State).setVm s₂.vm), Ls ++ L, c0 + mc, s0 + ms⟩,
      ⟨X.admits, X.cas, X.clock, X.frames, X.room, X.hears, X.method, X.code, (X.here.setHeapUsed s₂.heap s₂.slotsUsed).setVm hW'.alike, X.tail, State.WarmedH.trans X.warmed hW', X.limits, X.bytes, X.same.trans (hsame.setVm s.vm)⟩,
      ⟨g, mk, s₂, L, rfl, rfl, hqc, rfl, hL, rfl, rfl⟩, ?_⟩
    show Steps p.tables e below _ ((({ U with heap := s₂.heap, slotsUsed := s₂.slotsUsed } : State).setVm s₂.vm).setTop { g with pc := g.pc + len₂, stack := v.toList ++ g.stack })
    rw [← hs₂]
    exact hsteps
  · obtain ⟨e2, q2, q3, q4, q5, q6⟩ := id hsm
    have e3 : s₂ = ({ (U.calling g mk a).setFrames s₂.frames with heap := s₂.heap, slotsUsed := s₂.slotsUsed } : State).setVm s₂.vm := by
      have : s₂ = ({ s₂ with vm := (U.calling g mk a).vm } : State).setVm s₂.vm := rfl
      rw [e2] at this
      exact this
    have hf₂ : s₂.frames = .throwing q :: .java g :: U.frames.tail := hend
    have hW' : U.WarmedH s₂.vm := hW₂
    have hs₂ : s₂ = ((({ U with heap := s₂.heap, slotsUsed := s₂.slotsUsed } : State).setVm s₂.vm).setTop g).pushFrame (.throwing q) := by
      refine e3.trans ?_
      rw [hf₂, State.calling_eq h.top, State.setFrames_setFrames, State.pushFrame, State.frames_setTop _ hr', State.setTop_of_frames _ hr', State.setFrames_setFrames, hr]
      rfl
    have hsame : U.sameButNew ({ U with heap := s₂.heap, slotsUsed := s₂.slotsUsed } : State) L mc ms := by
      refine ⟨?_, q2, q3, q4, q5, q6⟩
      obtain ⟨t, ht, -⟩ := State.frames_cons hr
      show ({ U with heap := s₂.heap, slotsUsed := s₂.slotsUsed } : State) = { U.setFrames U.frames with heap := s₂.heap, slotsUsed := s₂.slotsUsed }
      rw [State.setFrames_self ht]
    subst hg
    refine Or.inr ⟨q, ⟨(({ U with heap := s₂.heap, slotsUsed := s₂.slotsUsed } : State).setVm s₂.vm), Ls ++ L, c0 + mc, s0 + ms⟩,
      ⟨X.admits, X.cas, X.clock, X.frames, X.room, X.hears, X.method, X.code, (X.here.setHeapUsed s₂.heap s₂.slotsUsed).setVm hW'.alike, X.tail, State.WarmedH.trans X.warmed hW', X.limits, X.bytes, X.same.trans (hsame.setVm s.vm)⟩,
      ⟨g, mk, s₂, L, E, ce, rfl, rfl, hx, hce, hcv, hcl, rfl, hL, rfl, rfl⟩, ?_⟩
    show Steps p.tables e below _ (((({ U with heap := s₂.heap, slotsUsed := s₂.slotsUsed } : State).setVm s₂.vm).setTop g).pushFrame (.throwing q))
    rw [← hs₂]
    exact hsteps
end Payer
section Calls
variable {p : Program} {l : Launch} {e : Env} {R : Room} {s : State} {m : MethodId} {args : Array Value} {below : List Frame} {meth : Method} {c : Code} {T : State} {locs : List Loc} {cells slots : Nat}
theorem vx_callV (X : Stand p l e R s m args below meth c T locs cells slots) (hexec : p.tables.exec = Jvm.exec) {own C : String} {index : Nat} {y : MethodName} {bytes : ByteArray} {maxL : Nat} {ret : Option FieldType}
    (hown : s.vm.findClass own = some m.cls) (hlink : (Cond.methodLink own index y).before args s = true) (hinst : (Cond.instanceMethod y).before args s = true) (hsel : (Cond.selects C y y).before args s = true)
    (hcode : (Cond.code y bytes maxL ret).before args s = true) (hy : y.cls ≠ "java/lang/invoke/MethodHandle" ∧ y.cls ≠ "java/lang/invoke/VarHandle")
    {W9 : Nat} {Pre : Pt → Array Value → Prop} {Post : Pt → Array Value → Option Value → Pt → Prop} {PostX : Pt → Array Value → Addr → Pt → Prop} (hK : vx_Back l R p e below s args y 3 W9 Pre Post PostX)
    {b : Addr} {cellB : Cell} (hcell : T.heap[b]? = some cellB) (hobj : cellB.vm.isStatics = false) (hcls : s.vm.findClass C = some cellB.cls)
    {g : JFrame} (hg : g.method = m) (hsize : g.locals.size = c.maxLocals) {argsL rest : List Value} (hlen : ∀ sig, parseMethodDescriptor y.desc = some sig → argsL.length = sig.parameters.length)
    (hstack : g.stack = argsL.reverse ++ .ref b :: rest) (hW : 2 * g.monitorRoom + (rest.map fun v => v.category).sum ≤ W9) (hdg : decode c.code g.pc = .ok (.invokevirtual index, 3))
    (hpre : ∀ vm₁, s.WarmedH vm₁ → Pre ⟨T.setVm vm₁, locs, cells, slots⟩ (Value.ref b :: argsL).toArray) :
    (∃ (v : Option Value) (vm₁ : Vm) (B : Pt), s.WarmedH vm₁ ∧ Stand p l e R s m args below meth c B.U B.locs B.cells B.slots ∧ Post ⟨T.setVm vm₁, locs, cells, slots⟩ (Value.ref b :: argsL).toArray v B ∧
      ∀ target, Steps p.tables e below (B.U.setTop { g with pc := g.pc + 3, stack := v.toList ++ rest }) target → Steps p.tables e below (T.setTop g) target) ∨
    (∃ (q : Addr) (vm₁ : Vm) (B : Pt), s.WarmedH vm₁ ∧ Stand p l e R s m args below meth c B.U B.locs B.cells B.slots ∧ PostX ⟨T.setVm vm₁, locs, cells, slots⟩ (Value.ref b :: argsL).toArray q B ∧
      Steps p.tables e below (T.setTop g) ((B.U.setTop { g with stack := rest }).pushFrame (.throwing q))) := by
  obtain ⟨mk, methM, hnamed, hmethM, hstM, habM⟩ := Cond.instanceMethod_spec hinst
  obtain ⟨methM', cM, hmethM', -, -, -, -, -, -, hsigM⟩ := Cond.code_spec hnamed hcode
  cases hmethM.symm.trans hmethM'
  obtain ⟨c2, r2, m2, q1, q2, q3, q4, kP, hkP, hkPi⟩ := Cond.selects_spec hsel
  cases hcls.symm.trans q1
  cases (State.methodFound?_of_named hnamed hy).symm.trans q2
  cases hnamed.symm.trans q3
  have hselP : selectMethod e.platform s.vm cellB.cls mk = .method mk := by rw [Launch.admits_selectMethod X.admits]; exact q4
  obtain ⟨vm₁, X₁, hstep₁⟩ := X.invokevirtual hexec hown hlink hnamed hmethM hstM hkP hkPi hy (a := b) (cell := cellB) hcell
    (fun z h => by rw [h] at hobj; cases hobj) hselP hmethM habM hkP hkPi (g := g) hg (argsL := argsL) (rest := rest) (hlen _ hsigM) hstack hdg
  rcases hK m meth c ⟨T.setVm vm₁, locs, cells, slots⟩ { g with stack := rest } (.invokevirtual index) mk (Value.ref b :: argsL).toArray X₁ hg hsize hdg hW (X₁.named hnamed) (hpre vm₁ X₁.warmed) with ⟨v, B, X', hpost, hsteps⟩ | ⟨q, B, X', hpost, hsteps⟩
  · exact Or.inl ⟨v, vm₁, B, X₁.warmed, X', hpost, fun target h => hstep₁ _ fun acts => by rw [doInvoke_state]; exact hsteps.trans h⟩
  · exact Or.inr ⟨q, vm₁, B, X₁.warmed, X', hpost, hstep₁ _ fun acts => by rw [doInvoke_state]; exact hsteps⟩
theorem vx_callS (X : Stand p l e R s m args below meth c T locs cells slots) (hexec : p.tables.exec = Jvm.exec) {own : String} {index : Nat} {y : MethodName} {bytes : ByteArray} {maxL : Nat} {ret : Option FieldType}
    (hown : s.vm.findClass own = some m.cls) (hlink : (Cond.methodLink own index y).before args s = true) (hstat : (Cond.static y).before args s = true) (hinit : (Cond.initialized y.cls).before args s = true)
    (hcode : (Cond.code y bytes maxL ret).before args s = true) (hy : y.cls ≠ "java/lang/invoke/MethodHandle" ∧ y.cls ≠ "java/lang/invoke/VarHandle")
    {W9 : Nat} {Pre : Pt → Array Value → Prop} {Post : Pt → Array Value → Option Value → Pt → Prop} {PostX : Pt → Array Value → Addr → Pt → Prop} (hK : vx_Back l R p e below s args y 3 W9 Pre Post PostX)
    {g : JFrame} (hg : g.method = m) (hsize : g.locals.size = c.maxLocals) {argsL rest : List Value} (hlen : ∀ sig, parseMethodDescriptor y.desc = some sig → argsL.length = sig.parameters.length)
    (hstack : g.stack = argsL.reverse ++ rest) (hW : 2 * g.monitorRoom + (rest.map fun v => v.category).sum ≤ W9) (hdg : decode c.code g.pc = .ok (.invokestatic index, 3))
    (hpre : ∀ vm₁, s.WarmedH vm₁ → Pre ⟨T.setVm vm₁, locs, cells, slots⟩ argsL.toArray) :
    (∃ (v : Option Value) (vm₁ : Vm) (B : Pt), s.WarmedH vm₁ ∧ Stand p l e R s m args below meth c B.U B.locs B.cells B.slots ∧ Post ⟨T.setVm vm₁, locs, cells, slots⟩ argsL.toArray v B ∧
      ∀ target, Steps p.tables e below (B.U.setTop { g with pc := g.pc + 3, stack := v.toList ++ rest }) target → Steps p.tables e below (T.setTop g) target) ∨
    (∃ (q : Addr) (vm₁ : Vm) (B : Pt), s.WarmedH vm₁ ∧ Stand p l e R s m args below meth c B.U B.locs B.cells B.slots ∧ PostX ⟨T.setVm vm₁, locs, cells, slots⟩ argsL.toArray q B ∧
      Steps p.tables e below (T.setTop g) ((B.U.setTop { g with stack := rest }).pushFrame (.throwing q))) := by
  obtain ⟨mk, hnamed⟩ := Cond.code_named hcode
  obtain ⟨methM, cM, hmethM, -, -, -, -, -, -, hsigM⟩ := Cond.code_spec hnamed hcode
  have hstatic : methM.isStatic = true := Cond.static_spec hnamed hmethM hstat
  obtain ⟨kP, hkP, -⟩ := className_of_methodNamed hnamed
  have hinitP : kP.init = .initialized := Cond.initialized_spec (findClass_of_methodNamed hnamed) hkP hinit
  obtain ⟨vm₁, X₁, hstep₁⟩ := X.invokestatic hexec hown hlink hnamed hmethM hstatic hkP hinitP hy (g := g) hg (argsL := argsL) (rest := rest) (hlen _ hsigM) hstack hdg
  rcases hK m meth c ⟨T.setVm vm₁, locs, cells, slots⟩ { g with stack := rest } (.invokestatic index) mk argsL.toArray X₁ hg hsize hdg hW (X₁.named hnamed) (hpre vm₁ X₁.warmed) with ⟨v, B, X', hpost, hsteps⟩ | ⟨q, B, X', hpost, hsteps⟩
  · exact Or.inl ⟨v, vm₁, B, X₁.warmed, X', hpost, fun target h => hstep₁ _ fun acts => by rw [doInvoke_state]; exact hsteps.trans h⟩
  · exact Or.inr ⟨q, vm₁, B, X₁.warmed, X', hpost, hstep₁ _ fun acts => by rw [doInvoke_state]; exact hsteps⟩
end Calls
theorem vx_cls {s : State} {T : State} {vm₁ : Vm} {E : String} {k : ClassId} (hW : s.WarmedH vm₁) (h : (T.setVm vm₁).vm.findClass E = some k) : s.vm.findClass E = some k := by
  have h1 : vm₁.findClass E = some k := h
  rw [hW.alike.findClass] at h1
  exact h1
/-- the method's frame g, with q thrown over it -/
def vx_W (p : Program) (l : Launch) (e : Env) (R : Room) (s : State) (m : MethodId) (args : Array Value) (below : List Frame) (meth : Method) (c : Code) (H : Heap) (locs : List Loc) (cells slots : Nat) (Q : State → Prop) (g : JFrame) (q : Addr) : Prop :=
  ∀ T : State, T.heap = H → Stand p l e R s m args below meth c T locs cells slots → ∃ t, Steps p.tables e below ((T.setTop g).pushFrame (.throwing q)) t ∧ Q t
def vx_Run (p : Program) (l : Launch) (e : Env) (R : Room) (s : State) (m : MethodId) (args : Array Value) (below : List Frame) (meth : Method) (c : Code) (H : Heap) (locs : List Loc) (cells slots mc ms : Nat) (g : JFrame) (rest : List Value) (Qa : State → Outcome → State → Prop) (XC : String → State → State → Prop) (free : Addr → Prop) : Prop :=
  ∀ T : State, T.heap = H → Stand p l e R s m args below meth c T locs cells slots →
    (∃ (v : Option Value) (st₀ t T' : State) (L : List Loc), st₀.heap = H ∧ Stand p l e R s m args below meth c T' (locs ++ L) (cells + mc) (slots + ms) ∧ (∀ q ∈ L, free q.base) ∧ T'.heap = t.heap ∧ T'.vm = t.vm ∧ Qa st₀ (.returned v) t ∧
      Goes p e below T g T' { g with pc := g.pc + 3, stack := v.toList ++ rest }) ∨
    (∃ (q : Addr) (st₀ t T' : State) (L : List Loc) (E : String) (ce : Cell), st₀.heap = H ∧ Stand p l e R s m args below meth c T' (locs ++ L) (cells + mc) (slots + ms) ∧ (∀ z ∈ L, free z.base) ∧ T'.heap = t.heap ∧ T'.vm = t.vm ∧ XC E st₀ t ∧ t.heap[q]? = some ce ∧ ce.vm = .none ∧ s.vm.findClass E = some ce.cls ∧
      Steps p.tables e below (T.setTop g) ((T'.setTop { g with stack := rest }).pushFrame (.throwing q)))
def vx_X {S : Type} (px : S → Prop) (B : String → S → State → Prop) (A : Nat → Prop) : String → State → State → Prop := fun E st t => ∃ u : S, px u ∧ B E u t ∧ va_F A st t
section Runs
variable {p : Program} {l : Launch} {e : Env} {R : Room} {s : State} {m : MethodId} {args : Array Value} {below : List Frame} {meth : Method} {c : Code} {H : Heap} {locs : List Loc} {cells slots : Nat}
variable {y : MethodName} {bytes cc : ByteArray} {maxL nL mc ms n index : Nat} {ret : Option FieldType} {ws : List Cond} {rm : Room} {Pc : Array Value → State → Prop} {Qc : Array Value → State → Outcome → State → Prop} {XC : String → State → State → Prop} {free : Addr → Prop} {Ts : List Cond} {own C : String} {b : Addr} {As rest : List Value} {g : JFrame}
theorem vx_callBack (cb : CallB R s args own index y bytes maxL ret ws rm mc ms n) (hM : vx_Met l y ws rm Pc Qc XC mc ms free) (hbl : FrameBlind Pc) : vx_Back l R p e below s args y 3 8 (PreOf R mc ms Pc) (PostOf Qc mc ms free) (vx_Post XC mc ms free) := by
  obtain ⟨hrc, hrs, hfr, hlo, hws, hcw, -, hini, -⟩ := cb
  exact vx_back (bytes := bytes) (maxL := maxL) (ret := ret) hM hbl hrc hrs hfr hlo hws hcw (fun a' U hW => word_at hW (Or.inl (by first | rfl | simp [Cond.onTables, Cond.keeps, Cond.steady])) hini)
theorem vx_runV (S : CallFix p m c cc nL s args Ts own) (hM : vx_Met l y ws rm Pc Qc XC mc ms free) (cw : CallW R s args own C index y bytes maxL ret ws rm mc ms n) (hp : PreV s H C b Pc As)
    (hg : g.method = m) (hn : As.length = n) (hsize : g.locals.size = nL) (hstack : g.stack = As.reverse ++ .ref b :: rest) (hW : 2 * g.monitorRoom + (rest.map fun v => v.category).sum ≤ 8) (hdg : decode cc g.pc = .ok (.invokevirtual index, 3)) (hf : cells + mc ≤ R.cells ∧ slots + ms ≤ R.slots) :
    vx_Run p l e R s m args below meth c H locs cells slots mc ms g rest (Qc (Value.ref b :: As).toArray) XC free := by
  have hK : vx_Back l R p e below s args y 3 8 (PreOf R mc ms Pc) (PostOf Qc mc ms free) (vx_Post XC mc ms free) := vx_callBack cw.1 hM hp.1
  obtain ⟨⟨-, -, -, -, -, -, hcode, -, hy, hlen, hl⟩, hin, hse⟩ := cw
  obtain ⟨hx, hb, hml, ho, -⟩ := S
  obtain ⟨-, ⟨cellB, hcB, hoB, hclB⟩, hPc⟩ := hp
  intro T hT X
  rcases vx_callV X hx (C := C) (bytes := bytes) (maxL := maxL) (ret := ret) ho hl hin hse hcode hy hK (by rw [hT]; exact hcB) hoB hclB hg (hsize.trans hml.symm) (argsL := As) (rest := rest) (fun sig h => hn.trans (hlen sig h)) hstack hW (by rw [hb]; exact hdg)
    (fun vm₁ hW₁ => ⟨hf.1, hf.2, hPc (T.setVm vm₁) hT hW₁⟩) with ⟨v, vm₁, ⟨U', l2, c2, s2⟩, hW₁, X', ⟨g', mk, t, L, e1, e2, hq, h1, hL, h2, h3⟩, st⟩ | ⟨q, vm₁, ⟨U', l2, c2, s2⟩, hW₁, X', ⟨g', mk, t, L, E, ce, e1, e2, hq, hce, hcv, hcl, h1, hL, h2, h3⟩, st⟩
  · dsimp only [Pt.U, Pt.locs, Pt.cells, Pt.slots] at X' e1 e2 h1 h2 h3 st
    subst h1; subst h2; subst h3
    exact Or.inl ⟨v, (T.setVm vm₁).calling g' mk (Value.ref b :: As).toArray, t, U', L, hT, X', hL, e1, e2, hq, st⟩
  · dsimp only [Pt.U, Pt.locs, Pt.cells, Pt.slots] at X' e1 e2 h1 h2 h3 st hcl
    subst h1; subst h2; subst h3
    exact Or.inr ⟨q, (T.setVm vm₁).calling g' mk (Value.ref b :: As).toArray, t, U', L, E, ce, hT, X', hL, e1, e2, hq, hce, hcv, vx_cls hW₁ hcl, st⟩
theorem vx_runS (S : CallFix p m c cc nL s args Ts own) (hM : vx_Met l y ws rm Pc Qc XC mc ms free) (cw : CallB R s args own index y bytes maxL ret ws rm mc ms n ∧ (Cond.static y).before args s = true) (hp : PreS s H Pc As)
    (hg : g.method = m) (hn : As.length = n) (hsize : g.locals.size = nL) (hstack : g.stack = As.reverse ++ rest) (hW : 2 * g.monitorRoom + (rest.map fun v => v.category).sum ≤ 8) (hdg : decode cc g.pc = .ok (.invokestatic index, 3)) (hf : cells + mc ≤ R.cells ∧ slots + ms ≤ R.slots) :
    vx_Run p l e R s m args below meth c H locs cells slots mc ms g rest (Qc As.toArray) XC free := by
  have hK : vx_Back l R p e below s args y 3 8 (PreOf R mc ms Pc) (PostOf Qc mc ms free) (vx_Post XC mc ms free) := vx_callBack cw.1 hM hp.1
  obtain ⟨⟨-, -, -, -, -, -, hcode, hini, hy, hlen, hl⟩, hstt⟩ := cw
  obtain ⟨hx, hb, hml, ho, -⟩ := S
  intro T hT X
  rcases vx_callS X hx (bytes := bytes) (maxL := maxL) (ret := ret) ho hl hstt hini hcode hy hK hg (hsize.trans hml.symm) (argsL := As) (rest := rest) (fun sig h => hn.trans (hlen sig h)) hstack hW (by rw [hb]; exact hdg)
    (fun vm₁ hW₁ => ⟨hf.1, hf.2, hp.2 (T.setVm vm₁) hT hW₁⟩) with ⟨v, vm₁, ⟨U', l2, c2, s2⟩, hW₁, X', ⟨g', mk, t, L, e1, e2, hq, h1, hL, h2, h3⟩, st⟩ | ⟨q, vm₁, ⟨U', l2, c2, s2⟩, hW₁, X', ⟨g', mk, t, L, E, ce, e1, e2, hq, hce, hcv, hcl, h1, hL, h2, h3⟩, st⟩
  · dsimp only [Pt.U, Pt.locs, Pt.cells, Pt.slots] at X' e1 e2 h1 h2 h3 st
    subst h1; subst h2; subst h3
    exact Or.inl ⟨v, (T.setVm vm₁).calling g' mk As.toArray, t, U', L, hT, X', hL, e1, e2, hq, st⟩
  · dsimp only [Pt.U, Pt.locs, Pt.cells, Pt.slots] at X' e1 e2 h1 h2 h3 st hcl
    subst h1; subst h2; subst h3
    exact Or.inr ⟨q, (T.setVm vm₁).calling g' mk As.toArray, t, U', L, E, ce, hT, X', hL, e1, e2, hq, hce, hcv, vx_cls hW₁ hcl, st⟩
end Runs
section Rows
variable {p : Program} {l : Launch} {e : Env} {R : Room} {s : State} {m : MethodId} {args : Array Value} {below : List Frame} {meth : Method} {c : Code} {H : Heap} {locs : List Loc} {cells slots : Nat} {Q : State → Prop}
variable {mc ms : Nat} {free : Addr → Prop} {A0 A1 : Nat → Prop} {H0 : Heap} {a : Array Value} {pc : Nat} {ls : Array Slot} {st0 rest : List Value}
theorem vx_keep {st₀ t T' : State} {L : List Loc} (h0 : st₀.heap = H) (e1 : T'.heap = t.heap) (hS : va_S A0 H0 H locs) (hA : ∀ q, q < H.size → A1 q → A0 q) (hf : ∀ q, free q → A0 q) (hL : ∀ q ∈ L, free q.base) (hF : va_F A1 st₀ t) :
    H.size ≤ T'.heap.size ∧ (∀ q : Nat, q < H.size → ¬ A1 q → T'.heap[q]? = H[q]?) ∧ va_S A0 H0 T'.heap (locs ++ L) := by
  obtain ⟨hz, hk⟩ := hF
  rw [h0] at hz hk
  exact ⟨by rw [e1]; exact hz, fun q h1 h2 => by rw [e1]; exact hk q h1 h2,
    ⟨Nat.le_trans hS.1 (by rw [e1]; exact hz), fun q h1 h2 => by rw [e1, hk q (Nat.lt_of_lt_of_le h1 hS.1) (fun z => h2 (hA q (Nat.lt_of_lt_of_le h1 hS.1) z))]; exact hS.2.1 q h1 h2, fun q hq => by
      rcases List.mem_append.mp hq with h | h
      · exact hS.2.2 q h
      · exact hf _ (hL q h)⟩⟩
theorem vx_calli {S SX : Type} {post : Int32 → S → Prop} {px : SX → Prop} {B : S → State → Prop} {BX : String → SX → State → Prop} {AX : Nat → Prop} (hr : vx_Run p l e R s m args below meth c H locs cells slots mc ms (F0 m pc ls st0) rest (va_Qi post B A1 a) (vx_X px BX AX) free) (hS : va_S A0 H0 H locs) (hA : ∀ q, q < H.size → A1 q → A0 q) (hf : ∀ q, free q → A0 q) (hAX : ∀ q, q < H.size → AX q → A0 q)
    (kx : ∀ (E : String) (ce : Cell) (q9 : Addr) (u : SX) (t : State) (H1 : Heap) (locs1 : List Loc), t.heap = H1 → s.vm.Alike t.vm → px u → BX E u t → H.size ≤ H1.size → (∀ q : Nat, q < H.size → ¬ AX q → H1[q]? = H[q]?) → va_S A0 H0 H1 locs1 → H1[q9]? = some ce → ce.vm = .none → s.vm.findClass E = some ce.cls → vx_W p l e R s m args below meth c H1 locs1 (cells + mc) (slots + ms) Q (F0 m pc ls rest) q9)
    (kk : ∀ (r : Int32) (u : S) (t : State) (H1 : Heap) (locs1 : List Loc), t.heap = H1 → s.vm.Alike t.vm → post r u → B u t → H.size ≤ H1.size → (∀ q : Nat, q < H.size → ¬ A1 q → H1[q]? = H[q]?) → va_S A0 H0 H1 locs1 → W p l e R s m args below meth c H1 locs1 (cells + mc) (slots + ms) Q (F0 m (pc + 3) ls (.int r :: rest))) : W p l e R s m args below meth c H locs cells slots Q (F0 m pc ls st0) := by
  intro T hT X
  rcases hr T hT X with ⟨v, st₀, t, T', L, h0, X', hL, e1, e2, ⟨⟨r, u, hv, hp, hb⟩, hF⟩, st⟩ | ⟨q, st₀, t, T', L, E, ce, h0, X', hL, e1, e2, ⟨u, hp, hb, hF⟩, hce, hcv, hcl, st⟩
  · cases hv
    obtain ⟨k1, k2, k3⟩ := vx_keep h0 e1 hS hA hf hL hF
    obtain ⟨t2, a1, b1⟩ := kk r u t T'.heap (locs ++ L) e1.symm (by rw [← e2]; exact X'.warmed.alike) hp hb k1 k2 k3 T' rfl X'
    exact ⟨t2, st t2 a1, b1⟩
  · obtain ⟨k1, k2, k3⟩ := vx_keep h0 e1 hS hAX hf hL hF
    obtain ⟨t2, a1, b1⟩ := kx E ce q u t T'.heap (locs ++ L) e1.symm (by rw [← e2]; exact X'.warmed.alike) hp hb k1 k2 k3 (by rw [e1]; exact hce) hcv hcl T' rfl X'
    exact ⟨t2, st.trans a1, b1⟩
theorem vx_calll {S SX : Type} {post : Int64 → S → Prop} {px : SX → Prop} {B : S → State → Prop} {BX : String → SX → State → Prop} {AX : Nat → Prop} (hr : vx_Run p l e R s m args below meth c H locs cells slots mc ms (F0 m pc ls st0) rest (va_Ql post B A1 a) (vx_X px BX AX) free) (hS : va_S A0 H0 H locs) (hA : ∀ q, q < H.size → A1 q → A0 q) (hf : ∀ q, free q → A0 q) (hAX : ∀ q, q < H.size → AX q → A0 q)
    (kx : ∀ (E : String) (ce : Cell) (q9 : Addr) (u : SX) (t : State) (H1 : Heap) (locs1 : List Loc), t.heap = H1 → s.vm.Alike t.vm → px u → BX E u t → H.size ≤ H1.size → (∀ q : Nat, q < H.size → ¬ AX q → H1[q]? = H[q]?) → va_S A0 H0 H1 locs1 → H1[q9]? = some ce → ce.vm = .none → s.vm.findClass E = some ce.cls → vx_W p l e R s m args below meth c H1 locs1 (cells + mc) (slots + ms) Q (F0 m pc ls rest) q9)
    (kk : ∀ (r : Int64) (u : S) (t : State) (H1 : Heap) (locs1 : List Loc), t.heap = H1 → s.vm.Alike t.vm → post r u → B u t → H.size ≤ H1.size → (∀ q : Nat, q < H.size → ¬ A1 q → H1[q]? = H[q]?) → va_S A0 H0 H1 locs1 → W p l e R s m args below meth c H1 locs1 (cells + mc) (slots + ms) Q (F0 m (pc + 3) ls (.long r :: rest))) : W p l e R s m args below meth c H locs cells slots Q (F0 m pc ls st0) := by
  intro T hT X
  rcases hr T hT X with ⟨v, st₀, t, T', L, h0, X', hL, e1, e2, ⟨⟨r, u, hv, hp, hb⟩, hF⟩, st⟩ | ⟨q, st₀, t, T', L, E, ce, h0, X', hL, e1, e2, ⟨u, hp, hb, hF⟩, hce, hcv, hcl, st⟩
  · cases hv
    obtain ⟨k1, k2, k3⟩ := vx_keep h0 e1 hS hA hf hL hF
    obtain ⟨t2, a1, b1⟩ := kk r u t T'.heap (locs ++ L) e1.symm (by rw [← e2]; exact X'.warmed.alike) hp hb k1 k2 k3 T' rfl X'
    exact ⟨t2, st t2 a1, b1⟩
  · obtain ⟨k1, k2, k3⟩ := vx_keep h0 e1 hS hAX hf hL hF
    obtain ⟨t2, a1, b1⟩ := kx E ce q u t T'.heap (locs ++ L) e1.symm (by rw [← e2]; exact X'.warmed.alike) hp hb k1 k2 k3 (by rw [e1]; exact hce) hcv hcl T' rfl X'
    exact ⟨t2, st.trans a1, b1⟩
theorem vx_callf {S SX : Type} {post : UInt32 → S → Prop} {px : SX → Prop} {B : S → State → Prop} {BX : String → SX → State → Prop} {AX : Nat → Prop} (hr : vx_Run p l e R s m args below meth c H locs cells slots mc ms (F0 m pc ls st0) rest (va_Qf post B A1 a) (vx_X px BX AX) free) (hS : va_S A0 H0 H locs) (hA : ∀ q, q < H.size → A1 q → A0 q) (hf : ∀ q, free q → A0 q) (hAX : ∀ q, q < H.size → AX q → A0 q)
    (kx : ∀ (E : String) (ce : Cell) (q9 : Addr) (u : SX) (t : State) (H1 : Heap) (locs1 : List Loc), t.heap = H1 → s.vm.Alike t.vm → px u → BX E u t → H.size ≤ H1.size → (∀ q : Nat, q < H.size → ¬ AX q → H1[q]? = H[q]?) → va_S A0 H0 H1 locs1 → H1[q9]? = some ce → ce.vm = .none → s.vm.findClass E = some ce.cls → vx_W p l e R s m args below meth c H1 locs1 (cells + mc) (slots + ms) Q (F0 m pc ls rest) q9)
    (kk : ∀ (r : UInt32) (u : S) (t : State) (H1 : Heap) (locs1 : List Loc), t.heap = H1 → s.vm.Alike t.vm → post r u → B u t → H.size ≤ H1.size → (∀ q : Nat, q < H.size → ¬ A1 q → H1[q]? = H[q]?) → va_S A0 H0 H1 locs1 → W p l e R s m args below meth c H1 locs1 (cells + mc) (slots + ms) Q (F0 m (pc + 3) ls (.float r :: rest))) : W p l e R s m args below meth c H locs cells slots Q (F0 m pc ls st0) := by
  intro T hT X
  rcases hr T hT X with ⟨v, st₀, t, T', L, h0, X', hL, e1, e2, ⟨⟨r, u, hv, hp, hb⟩, hF⟩, st⟩ | ⟨q, st₀, t, T', L, E, ce, h0, X', hL, e1, e2, ⟨u, hp, hb, hF⟩, hce, hcv, hcl, st⟩
  · cases hv
    obtain ⟨k1, k2, k3⟩ := vx_keep h0 e1 hS hA hf hL hF
    obtain ⟨t2, a1, b1⟩ := kk r u t T'.heap (locs ++ L) e1.symm (by rw [← e2]; exact X'.warmed.alike) hp hb k1 k2 k3 T' rfl X'
    exact ⟨t2, st t2 a1, b1⟩
  · obtain ⟨k1, k2, k3⟩ := vx_keep h0 e1 hS hAX hf hL hF
    obtain ⟨t2, a1, b1⟩ := kx E ce q u t T'.heap (locs ++ L) e1.symm (by rw [← e2]; exact X'.warmed.alike) hp hb k1 k2 k3 (by rw [e1]; exact hce) hcv hcl T' rfl X'
    exact ⟨t2, st.trans a1, b1⟩
theorem vx_calld {S SX : Type} {post : UInt64 → S → Prop} {px : SX → Prop} {B : S → State → Prop} {BX : String → SX → State → Prop} {AX : Nat → Prop} (hr : vx_Run p l e R s m args below meth c H locs cells slots mc ms (F0 m pc ls st0) rest (va_Qd post B A1 a) (vx_X px BX AX) free) (hS : va_S A0 H0 H locs) (hA : ∀ q, q < H.size → A1 q → A0 q) (hf : ∀ q, free q → A0 q) (hAX : ∀ q, q < H.size → AX q → A0 q)
    (kx : ∀ (E : String) (ce : Cell) (q9 : Addr) (u : SX) (t : State) (H1 : Heap) (locs1 : List Loc), t.heap = H1 → s.vm.Alike t.vm → px u → BX E u t → H.size ≤ H1.size → (∀ q : Nat, q < H.size → ¬ AX q → H1[q]? = H[q]?) → va_S A0 H0 H1 locs1 → H1[q9]? = some ce → ce.vm = .none → s.vm.findClass E = some ce.cls → vx_W p l e R s m args below meth c H1 locs1 (cells + mc) (slots + ms) Q (F0 m pc ls rest) q9)
    (kk : ∀ (r : UInt64) (u : S) (t : State) (H1 : Heap) (locs1 : List Loc), t.heap = H1 → s.vm.Alike t.vm → post r u → B u t → H.size ≤ H1.size → (∀ q : Nat, q < H.size → ¬ A1 q → H1[q]? = H[q]?) → va_S A0 H0 H1 locs1 → W p l e R s m args below meth c H1 locs1 (cells + mc) (slots + ms) Q (F0 m (pc + 3) ls (.double r :: rest))) : W p l e R s m args below meth c H locs cells slots Q (F0 m pc ls st0) := by
  intro T hT X
  rcases hr T hT X with ⟨v, st₀, t, T', L, h0, X', hL, e1, e2, ⟨⟨r, u, hv, hp, hb⟩, hF⟩, st⟩ | ⟨q, st₀, t, T', L, E, ce, h0, X', hL, e1, e2, ⟨u, hp, hb, hF⟩, hce, hcv, hcl, st⟩
  · cases hv
    obtain ⟨k1, k2, k3⟩ := vx_keep h0 e1 hS hA hf hL hF
    obtain ⟨t2, a1, b1⟩ := kk r u t T'.heap (locs ++ L) e1.symm (by rw [← e2]; exact X'.warmed.alike) hp hb k1 k2 k3 T' rfl X'
    exact ⟨t2, st t2 a1, b1⟩
  · obtain ⟨k1, k2, k3⟩ := vx_keep h0 e1 hS hAX hf hL hF
    obtain ⟨t2, a1, b1⟩ := kx E ce q u t T'.heap (locs ++ L) e1.symm (by rw [← e2]; exact X'.warmed.alike) hp hb k1 k2 k3 (by rw [e1]; exact hce) hcv hcl T' rfl X'
    exact ⟨t2, st.trans a1, b1⟩
theorem vx_callv {S SX : Type} {post : S → Prop} {px : SX → Prop} {B : S → State → Prop} {BX : String → SX → State → Prop} {AX : Nat → Prop} (hr : vx_Run p l e R s m args below meth c H locs cells slots mc ms (F0 m pc ls st0) rest (va_Qv post B A1 a) (vx_X px BX AX) free) (hS : va_S A0 H0 H locs) (hA : ∀ q, q < H.size → A1 q → A0 q) (hf : ∀ q, free q → A0 q) (hAX : ∀ q, q < H.size → AX q → A0 q)
    (kx : ∀ (E : String) (ce : Cell) (q9 : Addr) (u : SX) (t : State) (H1 : Heap) (locs1 : List Loc), t.heap = H1 → s.vm.Alike t.vm → px u → BX E u t → H.size ≤ H1.size → (∀ q : Nat, q < H.size → ¬ AX q → H1[q]? = H[q]?) → va_S A0 H0 H1 locs1 → H1[q9]? = some ce → ce.vm = .none → s.vm.findClass E = some ce.cls → vx_W p l e R s m args below meth c H1 locs1 (cells + mc) (slots + ms) Q (F0 m pc ls rest) q9)
    (kk : ∀ (u : S) (t : State) (H1 : Heap) (locs1 : List Loc), t.heap = H1 → s.vm.Alike t.vm → post u → B u t → H.size ≤ H1.size → (∀ q : Nat, q < H.size → ¬ A1 q → H1[q]? = H[q]?) → va_S A0 H0 H1 locs1 → W p l e R s m args below meth c H1 locs1 (cells + mc) (slots + ms) Q (F0 m (pc + 3) ls (rest))) : W p l e R s m args below meth c H locs cells slots Q (F0 m pc ls st0) := by
  intro T hT X
  rcases hr T hT X with ⟨v, st₀, t, T', L, h0, X', hL, e1, e2, ⟨⟨u, hv, hp, hb⟩, hF⟩, st⟩ | ⟨q, st₀, t, T', L, E, ce, h0, X', hL, e1, e2, ⟨u, hp, hb, hF⟩, hce, hcv, hcl, st⟩
  · cases hv
    obtain ⟨k1, k2, k3⟩ := vx_keep h0 e1 hS hA hf hL hF
    obtain ⟨t2, a1, b1⟩ := kk u t T'.heap (locs ++ L) e1.symm (by rw [← e2]; exact X'.warmed.alike) hp hb k1 k2 k3 T' rfl X'
    exact ⟨t2, st t2 a1, b1⟩
  · obtain ⟨k1, k2, k3⟩ := vx_keep h0 e1 hS hAX hf hL hF
    obtain ⟨t2, a1, b1⟩ := kx E ce q u t T'.heap (locs ++ L) e1.symm (by rw [← e2]; exact X'.warmed.alike) hp hb k1 k2 k3 (by rw [e1]; exact hce) hcv hcl T' rfl X'
    exact ⟨t2, st.trans a1, b1⟩
/-- caught by the row x of this method's table; the rows ahead don't take it -/
theorem vx_catch {own name : String} {E : String} {ce : Cell} {q : Addr} (hown : s.vm.findClass own = some m.cls) (pre : List ExceptionTableEntry) (x : ExceptionTableEntry) (suf : List ExceptionTableEntry) (hsplit : c.exceptionTable.toList = pre ++ x :: suf)
    (hpass : ∀ z ∈ pre, covers z pc = false ∨ (z.catchType ≠ 0 ∧ ∃ nm : String, (Cond.classLink own z.catchType nm).before args s = true ∧ va_Nc E nm s)) (hx : covers x pc = true) (h0 : x.catchType ≠ 0)
    (hlink : (Cond.classLink own x.catchType name).before args s = true) (hcast : (Cond.castable E name).before args s = true) (hcell : H[q]? = some ce) (hv : ce.vm = .none) (hcl : s.vm.findClass E = some ce.cls)
    (kk : W p l e R s m args below meth c H locs cells slots Q (F0 m x.handlerPc ls [.ref q])) : vx_W p l e R s m args below meth c H locs cells slots Q (F0 m pc ls rest) q := by
  intro T hT X
  have hpl : e.platform.magicAccessors = ({} : Platform).magicAccessors := by rw [X.admits.platform]
  obtain ⟨c3, c4, hc3, hc4, hasg⟩ := Cond.castable_spec hcast
  cases Option.some.inj (hc3.symm.trans hcl)
  obtain ⟨c5, hc5, hcl5⟩ := Cond.classLink_spec hown hlink e.platform hpl
  cases Option.some.inj (hc4.symm.trans hc5)
  obtain ⟨vm', X', st⟩ := X.thenCaughtThrough q (g := F0 m pc ls rest) rfl (Steps.refl _) (by rw [hT]; exact hcell) (by rw [hv]; rfl) (by obtain ⟨k9, h9, -⟩ := Vm.findClass_spec hcl; exact ⟨k9, h9⟩) pre x suf hsplit
    (fun z hz => by
      rcases hpass z hz with h | ⟨hz0, nm, hl1, hn1⟩
      · exact Or.inl h
      · obtain ⟨c6, hc6, hcl6⟩ := Cond.classLink_spec hown hl1 e.platform hpl
        obtain ⟨a8, b8, h1, h2, h3⟩ := hn1
        cases Option.some.inj (h1.symm.trans hcl)
        cases Option.some.inj (h2.symm.trans hc6)
        exact Or.inr ⟨hz0, _, hcl6, h3⟩) hx (Or.inr ⟨h0, c4, hcl5, hasg⟩)
  obtain ⟨t, a1, b1⟩ := kk (T.setVm vm') hT X'
  exact ⟨t, st.trans a1, b1⟩
end Rows
section Ends
variable {p : Program} {l : Launch} {e : Env} {R : Room} {s : State} {m : MethodId} {args : Array Value} {below : List Frame} {meth : Method} {c : Code} {H : Heap} {locs : List Loc} {cells slots : Nat} {Q : State → Prop}
variable {mc ms : Nat} {free : Addr → Prop} {A0 A1 : Nat → Prop} {H0 : Heap} {a : Array Value} {ls : Array Slot} {st0 rest : List Value}
variable {Qc : Array Value → State → Outcome → State → Prop} {XC : String → State → State → Prop}
/-- what a body that may throw owes at its end -/
def vx_MQ (below : List Frame) (Qc : Array Value → State → Outcome → State → Prop) (XC : String → State → State → Prop) (a : Array Value) (s : State) (mc ms : Nat) (free : Addr → Prop) : State → Prop := fun t =>
  ∃ o, t.status = .running ∧ Ended t below o ∧ vx_Q Qc XC mc ms free a s o t
theorem vx_ret {g : JFrame} {mc ms : Nat} (k : W p l e R s m args below meth c H locs cells slots (MQ below Qc args s mc ms free) g) : W p l e R s m args below meth c H locs cells slots (vx_MQ below Qc XC args s mc ms free) g := by
  intro T hT X
  obtain ⟨t, a1, o, b1, b2, b3, b4⟩ := k T hT X
  exact ⟨t, a1, o, b1, b2, Or.inl ⟨b3, b4⟩⟩
/-- not caught here: it goes on to the caller -/
theorem vx_widen {g : JFrame} {q : Addr} {k n : Nat} (h1 : cells ≤ k) (h2 : slots ≤ n) (kk : vx_W p l e R s m args below meth c H locs k n Q g q) : vx_W p l e R s m args below meth c H locs cells slots Q g q := fun T hT X => kk T hT (stand_widen X h1 h2)
theorem vx_out {pc : Nat} {E : String} {ce : Cell} {q : Addr} {mc ms : Nat} (hout : ∀ x ∈ c.exceptionTable.toList, covers x pc = false) (hlocks : meth.locks = false) (hcell : H[q]? = some ce) (hv : ce.vm = .none) (hcl : s.vm.findClass E = some ce.cls)
    (hx : ∀ t : State, t.heap = H → s.vm.Alike t.vm → XC E s t) (hf : ∀ z ∈ locs, free z.base) (hc : cells ≤ mc) (hs : slots ≤ ms) :
    vx_W p l e R s m args below meth c H locs cells slots (vx_MQ below Qc XC args s mc ms free) (F0 m pc ls rest) q := by
  intro T hT X
  obtain ⟨st1, hrun, hend, hW, hsm⟩ := X.leaveThrown q (g := F0 m pc ls rest) rfl rfl rfl hout hlocks
  have hcell9 : (T.setFrames (.throwing q :: below)).heap[q]? = some ce := by
    show T.heap[q]? = some ce
    rw [hT]; exact hcell
  exact ⟨_, st1, .threw q, hrun, hend, Or.inr ⟨q, rfl, E, ce, locs, hx _ hT hW.alike, hcell9, hv, hcl, hW, hsm.mono hc hs, hf⟩⟩
theorem vx_frame {U : State} {k n : Nat} (h : s.sameButNew ({ U with vm := s.vm } : State) locs k n) : s.heap.size ≤ U.heap.size ∧ ∀ q : Nat, q < s.heap.size → (∀ z ∈ locs, z.base ≠ q) → U.heap[q]? = s.heap[q]? := by
  obtain ⟨-, h2, -, -, -, h6⟩ := h
  refine ⟨h2, fun q hq hz => ?_⟩
  obtain ⟨c9, e1, e2, e3, e4⟩ := h6 q _ (Array.getElem?_eq_getElem hq)
  have hs : c9.slots = (s.heap[q]).slots := Array.ext_getElem? fun i => e4 i fun hm => hz _ hm rfl
  have h9 : c9 = s.heap[q] := by
    rw [hs] at e2
    exact e2
  have e5 : U.heap[q]? = some c9 := e1
  rw [e5, h9, Array.getElem?_eq_getElem hq]
/-- the words of a throw but the four that speak of the heap -/
def vx_no (w : Cond) : Bool := decide (w ≠ .isRef (.static Bundle.tN "UNASSIGNED_STACK" Bundle.steD)) && decide (w ≠ .isRef (.static Bundle.tN "SUPPRESSED_SENTINEL" Bundle.listD)) && decide (w ≠ .laysStatic Bundle.tN "UNASSIGNED_STACK" Bundle.steD) && decide (w ≠ .laysStatic Bundle.tN "SUPPRESSED_SENTINEL" Bundle.listD)
def vx_at0 (own : String) (ic : Nat) (X : String) (names : List String) : List Cond := (Bundle.ownAtoms0 own ic X names).filter vx_no
def vx_atS (own : String) (ic : Nat) (X : String) (names : List String) : List Cond := (Bundle.ownAtoms own ic X names).filter vx_no
/-- a word that the tables alone decide, or a good one -/
def vx_ot (w : Cond) : Bool := w.onTables || goodWord w
theorem vx_ot_at {args a' : Array Value} {s U : State} {w : Cond} (hW : s.WarmedH U.vm) (hvm : s.vm = U.vm) (hg : vx_ot w = true) (h : w.before args s = true) : w.before a' U = true := by
  simp only [vx_ot, Bool.or_eq_true] at hg
  rcases hg with hg | hg
  · exact va_tabs hg hvm h
  · exact word_at hW (good_of_word hg) h
/-- a list's words: the good ones out of the method's own list, the others by premises of their own -/
theorem vx_hat {args : Array Value} {s : State} {L B : List Cond} (h1 : ∀ w ∈ L.filter goodWord, w.before args s = true) (h2 : ∀ w ∈ L.filter (fun w => !goodWord w), w ∈ B) (h3 : ∀ w ∈ B, w.before args s = true) : ∀ w ∈ L, w.before args s = true := by
  intro w hw
  by_cases g : goodWord w = true
  · exact h1 w (List.mem_filter.mpr ⟨hw, g⟩)
  · refine h3 w (h2 w (List.mem_filter.mpr ⟨hw, ?_⟩))
    show (!goodWord w) = true
    cases hgw : goodWord w
    · rfl
    · exact absurd hgw g
theorem vx_c {args : Array Value} {s : State} {w : Cond} {B : List Cond} (h : w.before args s = true) (t : ∀ w ∈ B, w.before args s = true) : ∀ w' ∈ w :: B, w'.before args s = true := fun w' h' => (List.mem_cons.mp h').elim (fun e => by rw [e]; exact h) (t w')
theorem vx_n {args : Array Value} {s : State} : ∀ w ∈ ([] : List Cond), w.before args s = true := fun _ h => nomatch h
theorem vx_own {args : Array Value} {s : State} {L : List Cond} (h1 : ∀ w ∈ L.filter vx_no, w.before args s = true)
    (hU : (Cond.isRef (.static Bundle.tN "UNASSIGNED_STACK" Bundle.steD)).before args s = true) (hN : (Cond.isRef (.static Bundle.tN "SUPPRESSED_SENTINEL" Bundle.listD)).before args s = true)
    (lU : (Cond.laysStatic Bundle.tN "UNASSIGNED_STACK" Bundle.steD).before args s = true) (lN : (Cond.laysStatic Bundle.tN "SUPPRESSED_SENTINEL" Bundle.listD).before args s = true) : ∀ w ∈ L, w.before args s = true := by
  intro w hw
  by_cases e1 : w = .isRef (.static Bundle.tN "UNASSIGNED_STACK" Bundle.steD)
  · rw [e1]; exact hU
  · by_cases e2 : w = .isRef (.static Bundle.tN "SUPPRESSED_SENTINEL" Bundle.listD)
    · rw [e2]; exact hN
    · by_cases e3 : w = .laysStatic Bundle.tN "UNASSIGNED_STACK" Bundle.steD
      · rw [e3]; exact lU
      · by_cases e4 : w = .laysStatic Bundle.tN "SUPPRESSED_SENTINEL" Bundle.listD
        · rw [e4]; exact lN
        · exact h1 w (List.mem_filter.mpr ⟨hw, by unfold vx_no; rw [decide_eq_true e1, decide_eq_true e2, decide_eq_true e3, decide_eq_true e4]; rfl⟩)
/-- where a static field lies, its class's statics cell in H -/
def vx_L (C n d : String) (A : Nat → Prop) (U : State) (H : Heap) : Prop := ∃ (c : ClassId) (k : Class) (i : Nat) (f : Field) (a : Nat) (cell : Cell), U.vm.findClass C = some c ∧ U.fieldFound? C n d = some (c, k, i, f) ∧ f.isStatic = true ∧ k.statics = some a ∧ H[a]? = some cell ∧ cell.vm.isStatics = true ∧ cell.cls = c ∧ f.slot < cell.slots.size ∧ k.staticTypes[f.slot]? = some f.type ∧ ¬ A a
theorem vx_L.moved {C n d : String} {A : Nat → Prop} {u U : State} {H : Heap} (hvm : u.vm.Alike U.vm) (h : vx_L C n d A u H) : vx_L C n d A U H := by
  obtain ⟨c, k, i, f, a, cell, h1, h2, h3, h4, h5, h6, h7, h8, h9, h10⟩ := h
  obtain ⟨k', hi', he⟩ := State.fieldFound?_setVm hvm h2
  exact ⟨c, k', i, f, a, cell, by rw [hvm.findClass]; exact h1, hi', h3, by rw [he]; exact h4, h5, h6, h7, h8, by rw [he]; exact h9, h10⟩
theorem vx_L.kept {C n d : String} {A : Nat → Prop} {U : State} {H H1 : Heap} (h : vx_L C n d A U H) (hq : ∀ a : Nat, a < H.size → ¬ A a → H1[a]? = H[a]?) : vx_L C n d A U H1 := by
  obtain ⟨c, k, i, f, a, cell, h1, h2, h3, h4, h5, h6, h7, h8, h9, h10⟩ := h
  exact ⟨c, k, i, f, a, cell, h1, h2, h3, h4, by rw [hq a (Array.getElem?_eq_some_iff.mp h5).1 h10]; exact h5, h6, h7, h8, h9, h10⟩
theorem vx_L.narrow {C n d : String} {A B : Nat → Prop} {U : State} {H : Heap} (h : vx_L C n d A U H) (hAB : ∀ q, B q → A q) : vx_L C n d B U H := by
  obtain ⟨c, k, i, f, a, cell, h1, h2, h3, h4, h5, h6, h7, h8, h9, h10⟩ := h
  exact ⟨c, k, i, f, a, cell, h1, h2, h3, h4, h5, h6, h7, h8, h9, fun z => h10 (hAB _ z)⟩
theorem vx_L.word {C n d : String} {A : Nat → Prop} {s : State} {args : Array Value} (h : vx_L C n d A s s.heap) : (Cond.laysStatic C n d).before args s = true := by
  obtain ⟨c, k, i, f, a, cell, h1, h2, h3, h4, h5, h6, h7, h8, h9, -⟩ := h
  show (Cond.laysStatic C n d).holds args s none s [] = true
  exact Cond.laysStatic_of h1 h2 h3 h4 h5 h6 h7 h8 h9
/-- .. and what it holds: null or some reference -/
def vx_Zq (C n d : String) (A : Nat → Prop) (U : State) (H : Heap) : Prop := va_Zq C n d A U H ∧ vx_L C n d A U H
theorem vx_Zq.moved {C n d : String} {A : Nat → Prop} {u U : State} {H : Heap} (hvm : u.vm.Alike U.vm) (h : vx_Zq C n d A u H) : vx_Zq C n d A U H := ⟨va_Zq.moved hvm h.1, vx_L.moved hvm h.2⟩
theorem vx_Zq.kept {C n d : String} {A : Nat → Prop} {U : State} {H H1 : Heap} (h : vx_Zq C n d A U H) (hq : ∀ a : Nat, a < H.size → ¬ A a → H1[a]? = H[a]?) : vx_Zq C n d A U H1 := ⟨va_Zq.kept h.1 hq, vx_L.kept h.2 hq⟩
theorem vx_Zq.narrow {C n d : String} {A B : Nat → Prop} {U : State} {H : Heap} (h : vx_Zq C n d A U H) (hAB : ∀ q, B q → A q) : vx_Zq C n d B U H := ⟨va_Zq.narrow h.1 hAB, vx_L.narrow h.2 hAB⟩
theorem vx_Zqof {args : Array Value} {s : State} {C n d : String} {A : Nat → Prop} (hl : (Cond.laysStatic C n d).before args s = true) (hini : (Cond.initialized C).before args s = true) (h : (Cond.isRef (.static C n d)).before args s = true) (hA : ∀ a : Nat, a < s.heap.size → ¬ A a) : vx_Zq C n d A s s.heap := by
  refine ⟨va_Zqof hl hini h hA, ?_⟩
  obtain ⟨c, k, i, f, a, cell, h1, h2, h3, h4, h5, h6, h7, h8, h9⟩ := Cond.laysStatic_spec hl
  exact ⟨c, k, i, f, a, cell, h1, h2, h3, h4, h5, h6, h7, h8, h9, hA a (Array.getElem?_eq_some_iff.mp h5).1⟩
theorem vx_isRef {C n d : String} {v : Value} {A : Nat → Prop} {s : State} {args : Array Value} (h : va_Z C n d v A s s.heap) (hv : v.isRef = true) : (Cond.isRef (.static C n d)).before args s = true := by
  obtain ⟨cf, kf, fi, f, a, cell, h1, h2, h3, h4, h5, h6, h7, -⟩ := h
  have he : (Term.static C n d).eval args s none [] s = some v := by
    simp [Term.eval, State.fieldNamed?, h1, h2, h4, h5, h6, h7]
  simp only [Cond.before, Cond.holds, Cond.value, he]
  cases v <;> simp_all [Value.isRef]
theorem vx_isRefq {C n d : String} {A : Nat → Prop} {s : State} {args : Array Value} (h : va_Zq C n d A s s.heap) : (Cond.isRef (.static C n d)).before args s = true := by
  rcases h with h | ⟨t, h⟩
  · exact vx_isRef h rfl
  · exact vx_isRef h rfl
/-- the same frame, seen from here: as if the method were called anew in this heap -/
theorem vx_rebase {T : State} (X : Stand p l e R s m args below meth c T locs cells slots) {R' : Room} (hf : R'.frames ≤ R.frames) (hl : R'.locals ≤ R.locals) (hc : cells + R'.cells ≤ R.cells) (hs : slots + R'.slots ≤ R.slots) :
    Stand p l e R' ((T.setVm s.vm).setFrames (.invoking m args :: below)) m args below meth c T [] 0 0 := by
  have htop : (T.setVm s.vm).topJava?.isSome := X.here.top
  have hF : ((T.setVm s.vm).setFrames (.invoking m args :: below)).frames = .invoking m args :: below := State.frames_setFrames _ (State.cur_lt_of_top htop)
  obtain ⟨g₀, hg0⟩ := Option.isSome_iff_exists.mp htop
  obtain ⟨r, hr⟩ := State.topJava?_eq_some.mp hg0
  have hl9 : e.platform.stackLimits (T.setVm s.vm).me = e.platform.stackLimits s.me := X.limits
  have hb9 : (T.setVm s.vm).me.stackBytes = s.me.stackBytes := X.bytes
  refine ⟨X.admits, X.cas, X.clock, hF, ?_, X.hears, X.method, X.code, X.here, X.tail, X.warmed, ?_, ?_, ?_⟩
  · have h := X.room
    have hU : ((T.setVm s.vm).setFrames (.invoking m args :: below)).localsInUse = s.localsInUse := by
      rw [State.localsInUse_invoking hF (meth := meth) (c := c) X.method X.code, State.localsInUse_invoking X.frames X.method X.code]
    simp only [State.hasRoom, Bool.and_eq_true, decide_eq_true_eq] at h ⊢
    obtain ⟨⟨⟨⟨h1, h2, h3, h4, h5, h6⟩, h7⟩, h8⟩, h9⟩ := h
    rw [X.frames, List.length_cons] at h2 h3
    have q1 := X.heapSize
    have q2 := X.used
    simp only [hF, hU, List.length_cons, State.stackLimits_setFrames, State.stackBytes_setFrames, hl9, hb9]
    refine ⟨⟨⟨⟨by omega, by omega, by omega, by omega, by omega, h6⟩, ?_⟩, ?_⟩, X.book⟩
    · show T.heap.size + R'.cells ≤ e.platform.maxCells
      omega
    · show T.slotsUsed + R'.slots ≤ e.platform.maxSlots
      omega
  · rw [State.stackLimits_setFrames]; rfl
  · rw [State.stackBytes_setFrames]; rfl
  · refine ⟨?_, Nat.le_refl _, Nat.le_refl _, ?_, ?_, fun a c9 h9 => ⟨c9, h9, rfl, rfl, fun _ _ => rfl⟩⟩
    · obtain ⟨t, ht, -⟩ := State.frames_cons hr
      show T.setVm s.vm = { ((T.setVm s.vm).setFrames (.invoking m args :: below)).setFrames (T.setVm s.vm).frames with heap := T.heap, slotsUsed := T.slotsUsed }
      rw [State.setFrames_setFrames, State.setFrames_self ht]
      rfl
    · show T.slotsUsed = T.slotsUsed + ((T.heap.toList.drop T.heap.size).map (·.slots.size)).sum
      rw [List.drop_eq_nil_of_le (Nat.le_of_eq Array.length_toList)]
      rfl
    · show ((T.heap.toList.drop T.heap.size).map (·.slots.size)).sum ≤ 0
      rw [List.drop_eq_nil_of_le (Nat.le_of_eq Array.length_toList)]
      exact Nat.le_refl _
/-- 'throw new E()': new; dup; invokespecial; athrow -/
theorem vx_throw0 {cc : ByteArray} {pc : Nat} (hexec : p.tables.exec = Jvm.exec) (hb : c.code = cc) (hl : l.stackTraces = false) {own cls : String} {names : List String} {ik ic mc ms : Nat} {A : Nat → Prop}
    (hown : s.vm.findClass own = some m.cls) (hcls : Bundle.fit cls = true) (hnames : ∀ n ∈ names, Bundle.fit n = true)
    (hk : (Cond.classLink own ik cls).before args s = true) (hini : (Cond.initialized cls).before args s = true) (hat : ∀ w ∈ vx_at0 own ic cls names, w.before args s = true)
    (hgood : ∀ w ∈ Cond.classLink own ik cls :: Cond.initialized cls :: vx_at0 own ic cls names, vx_ot w = true)
    (hU : vx_Zq Bundle.tN "UNASSIGNED_STACK" Bundle.steD A s s.heap) (hN : vx_Zq Bundle.tN "SUPPRESSED_SENTINEL" Bundle.listD A s s.heap) (hS : va_S A s.heap H locs) (hsize : ls.size = c.maxLocals)
    (d0 : decode cc pc = .ok (.new ik, 3)) (d3 : decode cc (pc + 3) = .ok (.dup, 1)) (d4 : decode cc (pc + 4) = .ok (.invokespecial ic, 3)) (d7 : decode cc (pc + 7) = .ok (.athrow, 1))
    (hout : ∀ x ∈ c.exceptionTable.toList, covers x (pc + 7) = false)
    (hRframes : names.length + 3 < R.frames) (hRlocals : (rest.map fun v => v.category).sum + (13 * (names.length + 1) + 42) ≤ R.locals) (hRcells : cells + 1 ≤ R.cells) (hRslots : slots + 6 ≤ R.slots) (hlocks : meth.locks = false)
    (hx : ∀ t : State, s.vm.Alike t.vm → H.size ≤ t.heap.size → (∀ q : Nat, q < H.size → t.heap[q]? = H[q]?) → XC cls s t)
    (hf : ∀ z ∈ locs, free z.base) (hc : cells + 1 ≤ mc) (hs : slots + 6 ≤ ms) :
    W p l e R s m args below meth c H locs cells slots (vx_MQ below Qc XC args s mc ms free) (F0 m pc ls rest) := by
  intro T hT X
  have htr : e.platform.stackTraces = false := (show e.platform.stackTraces = l.stackTraces by rw [X.admits.platform]).trans hl
  have Y := vx_rebase X (R' := { frames := R.frames, locals := R.locals, cells := 1, slots := 6 }) (Nat.le_refl _) (Nat.le_refl _) hRcells hRslots
  obtain ⟨s', hA⟩ : ∃ z, z = (T.setVm s.vm).setFrames (.invoking m args :: below) := ⟨_, rfl⟩
  rw [← hA] at Y
  have hvm : s'.vm = s.vm := by rw [hA]; rfl
  have hhp : s'.heap = H := by rw [hA]; exact hT
  have hW0 : s.WarmedH s'.vm := by rw [hvm]; exact State.WarmedH.refl s
  have hat' : ∀ w ∈ vx_at0 own ic cls names, w.before args s' = true := fun w hw => vx_ot_at hW0 hvm.symm (hgood w (List.mem_cons_of_mem _ (List.mem_cons_of_mem _ hw))) (hat w hw)
  have hk' : (Cond.classLink own ik cls).before args s' = true := vx_ot_at hW0 hvm.symm (hgood _ List.mem_cons_self) hk
  have hini' : (Cond.initialized cls).before args s' = true := vx_ot_at hW0 hvm.symm (hgood _ (List.mem_cons_of_mem _ List.mem_cons_self)) hini
  have hU' : vx_Zq Bundle.tN "UNASSIGNED_STACK" Bundle.steD A s' s'.heap := by rw [hhp]; exact vx_Zq.moved hW0.alike (hU.kept hS.2.1)
  have hN' : vx_Zq Bundle.tN "SUPPRESSED_SENTINEL" Bundle.listD A s' s'.heap := by rw [hhp]; exact vx_Zq.moved hW0.alike (hN.kept hS.2.1)
  have h : ∀ w ∈ Bundle.ownAtoms0 own ic cls names, w.before args s' = true := vx_own hat' (vx_isRefq hU'.1) (vx_isRefq hN'.1) hU'.2.word hN'.2.word
  have hown' : s'.vm.findClass own = some m.cls := by rw [hvm]; exact hown
  have hins : (Cond.instantiable cls 6).before args s' = true := h _ (by simp [Bundle.ownAtoms0])
  obtain ⟨vm₁, cX, kX, hfX, hkX, -, -, X₁, st1⟩ := Y.newCold hexec (own := own) (C := cls) (index := ik) (n := 6) hown' hk' hins hini'
    (g := F0 m pc ls rest) rfl (by rw [hb]; exact d0) (Nat.le_refl _) (Nat.le_refl _)
  generalize hT1 : (T.setVm vm₁).pushCell { cls := cX, slots := kX.instanceTypes.map defaultValue, vm := .none } = T1 at X₁ st1
  have hcat : (Value.ref T.heap.size).category = 1 := rfl
  have hcellA : T1.heap[T.heap.size]? = some (freshCell cX kX) := by rw [← hT1]; exact State.heap_pushCell_size _ _
  have d3' : decode c.code (pc + 3) = .ok (.dup, 1) := by rw [hb]; exact d3
  obtain ⟨U, hsteps, hrun, hend, hW, hsame, ce, hce, hO⟩ := X₁.ctorThrow0 hexec htr (own := own) (cls := cls) (names := names) (ic := ic) hown' hcls hnames h (fun x hx => nomatch hx) hfX hkX hcellA (by rw [hhp, hT]; exact Nat.le_refl _)
    (g := { method := m, pc := pc + 4, locals := ls, stack := .ref T.heap.size :: .ref T.heap.size :: rest, locked := none }) rfl hsize rfl rfl (rest := rest) rfl
    (by rw [hb]; exact d4) (by rw [hb]; exact d7) hout hRframes (by simp only [List.map_cons, List.sum_cons, hcat]; omega) hlocks
  obtain ⟨f1, f2⟩ := vx_frame hsame
  rw [hhp] at f1 f2
  have hWs : s.WarmedH U.vm := State.WarmedH.trans hW0 hW
  have hcl : s.vm.findClass cls = some ce.cls := by
    have h9 := hO.cls
    rw [hvm] at h9
    exact h9
  have hall : s.sameButNew ({ U with vm := s.vm } : State) locs mc ms := by
    subst hA
    obtain ⟨e1, e2⟩ := hsame
    rw [State.setFrames_setFrames] at e1
    have h2 : (T.setVm s.vm).sameButNew ({ U with vm := s.vm } : State) [] (0 + 1) (0 + 6) := ⟨e1, e2⟩
    have h3 := X.same.trans h2
    rw [List.append_nil] at h3
    exact h3.mono hc hs
  refine ⟨U, ?_, .threw T.heap.size, hrun, hend, Or.inr ⟨T.heap.size, rfl, cls, ce, locs, hx U hWs.alike f1 (fun q hq => f2 q hq (fun z hz => nomatch hz)), hce, hO.vm, hcl, hWs, hall, hf⟩⟩
  refine st1 _ ?_
  show Steps p.tables e below (T1.setTop { method := m, pc := pc + 3, locals := ls, stack := .ref T.heap.size :: rest, locked := none }) _
  jvm_step X₁.here [X₁.here.top, hexec, d3', Value.category]
  exact hsteps
/-- 'throw new E("text")': new; dup; ldc; invokespecial; athrow -/
theorem vx_throwS {cc : ByteArray} {pc : Nat} (hexec : p.tables.exec = Jvm.exec) (hb : c.code = cc) (hl : l.stackTraces = false) {own cls text : String} {names : List String} {ik is ic mc ms sa : Nat} {A : Nat → Prop}
    (hown : s.vm.findClass own = some m.cls) (hcls : Bundle.fit cls = true) (hnames : ∀ n ∈ names, Bundle.fit n = true)
    (hk : (Cond.classLink own ik cls).before args s = true) (hini : (Cond.initialized cls).before args s = true) (hstr : vk_R own is text sa s) (hat : ∀ w ∈ vx_atS own ic cls names, w.before args s = true)
    (hgood : ∀ w ∈ Cond.classLink own ik cls :: Cond.initialized cls :: vx_atS own ic cls names, vx_ot w = true)
    (hU : vx_Zq Bundle.tN "UNASSIGNED_STACK" Bundle.steD A s s.heap) (hN : vx_Zq Bundle.tN "SUPPRESSED_SENTINEL" Bundle.listD A s s.heap) (hS : va_S A s.heap H locs) (hsize : ls.size = c.maxLocals)
    (d0 : decode cc pc = .ok (.new ik, 3)) (d3 : decode cc (pc + 3) = .ok (.dup, 1)) (d4 : decode cc (pc + 4) = .ok (.ldc is, 2)) (d6 : decode cc (pc + 6) = .ok (.invokespecial ic, 3)) (d9 : decode cc (pc + 9) = .ok (.athrow, 1))
    (hout : ∀ x ∈ c.exceptionTable.toList, covers x (pc + 9) = false)
    (hRframes : names.length + 3 < R.frames) (hRlocals : (rest.map fun v => v.category).sum + (13 * (names.length + 1) + 43) ≤ R.locals) (hRcells : cells + 1 ≤ R.cells) (hRslots : slots + 6 ≤ R.slots) (hlocks : meth.locks = false)
    (hx : ∀ t : State, s.vm.Alike t.vm → H.size ≤ t.heap.size → (∀ q : Nat, q < H.size → t.heap[q]? = H[q]?) → XC cls s t)
    (hf : ∀ z ∈ locs, free z.base) (hc : cells + 1 ≤ mc) (hs : slots + 6 ≤ ms) :
    W p l e R s m args below meth c H locs cells slots (vx_MQ below Qc XC args s mc ms free) (F0 m pc ls rest) := by
  intro T hT X
  have htr : e.platform.stackTraces = false := (show e.platform.stackTraces = l.stackTraces by rw [X.admits.platform]).trans hl
  have Y := vx_rebase X (R' := { frames := R.frames, locals := R.locals, cells := 1, slots := 6 }) (Nat.le_refl _) (Nat.le_refl _) hRcells hRslots
  obtain ⟨s', hA⟩ : ∃ z, z = (T.setVm s.vm).setFrames (.invoking m args :: below) := ⟨_, rfl⟩
  rw [← hA] at Y
  have hvm : s'.vm = s.vm := by rw [hA]; rfl
  have hhp : s'.heap = H := by rw [hA]; exact hT
  have hW0 : s.WarmedH s'.vm := by rw [hvm]; exact State.WarmedH.refl s
  have hat' : ∀ w ∈ vx_atS own ic cls names, w.before args s' = true := fun w hw => vx_ot_at hW0 hvm.symm (hgood w (List.mem_cons_of_mem _ (List.mem_cons_of_mem _ hw))) (hat w hw)
  have hk' : (Cond.classLink own ik cls).before args s' = true := vx_ot_at hW0 hvm.symm (hgood _ List.mem_cons_self) hk
  have hini' : (Cond.initialized cls).before args s' = true := vx_ot_at hW0 hvm.symm (hgood _ (List.mem_cons_of_mem _ List.mem_cons_self)) hini
  have hU' : vx_Zq Bundle.tN "UNASSIGNED_STACK" Bundle.steD A s' s'.heap := by rw [hhp]; exact vx_Zq.moved hW0.alike (hU.kept hS.2.1)
  have hN' : vx_Zq Bundle.tN "SUPPRESSED_SENTINEL" Bundle.listD A s' s'.heap := by rw [hhp]; exact vx_Zq.moved hW0.alike (hN.kept hS.2.1)
  have h : ∀ w ∈ Bundle.ownAtoms own ic cls names, w.before args s' = true := vx_own hat' (vx_isRefq hU'.1) (vx_isRefq hN'.1) hU'.2.word hN'.2.word
  have hown' : s'.vm.findClass own = some m.cls := by rw [hvm]; exact hown
  have hins : (Cond.instantiable cls 6).before args s' = true := h _ (by simp [Bundle.ownAtoms])
  obtain ⟨vm₁, cX, kX, hfX, hkX, -, -, X₁, st1⟩ := Y.newCold hexec (own := own) (C := cls) (index := ik) (n := 6) hown' hk' hins hini'
    (g := F0 m pc ls rest) rfl (by rw [hb]; exact d0) (Nat.le_refl _) (Nat.le_refl _)
  generalize hT1 : (T.setVm vm₁).pushCell { cls := cX, slots := kX.instanceTypes.map defaultValue, vm := .none } = T1 at X₁ st1
  have hcat : (Value.ref T.heap.size).category = 1 := rfl
  have hcellA : T1.heap[T.heap.size]? = some (freshCell cX kX) := by rw [← hT1]; exact State.heap_pushCell_size _ _
  have d3' : decode c.code (pc + 3) = .ok (.dup, 1) := by rw [hb]; exact d3
  have d4' : decode c.code (pc + 4) = .ok (.ldc is, 2) := by rw [hb]; exact d4
  have hstr' : vk_R own is text sa s' := vk_R.warm hW0 hstr
  obtain ⟨U, hsteps, hrun, hend, hW, hsame, ce, hce, hO⟩ := X₁.ctorThrowS hexec htr (own := own) (cls := cls) (names := names) (ic := ic) hown' hcls hnames h (fun x hx => nomatch hx) hfX hkX hcellA (by rw [hhp, hT]; exact Nat.le_refl _) (msg := .ref sa) rfl
    (g := { method := m, pc := pc + 6, locals := ls, stack := .ref sa :: .ref T.heap.size :: .ref T.heap.size :: rest, locked := none }) rfl hsize rfl rfl (rest := rest) rfl
    (by rw [hb]; exact d6) (by rw [hb]; exact d9) hout hRframes (by simp only [List.map_cons, List.sum_cons, hcat]; omega) hlocks
  obtain ⟨f1, f2⟩ := vx_frame hsame
  rw [hhp] at f1 f2
  have hWs : s.WarmedH U.vm := State.WarmedH.trans hW0 hW
  have hcl : s.vm.findClass cls = some ce.cls := by
    have h9 := hO.cls
    rw [hvm] at h9
    exact h9
  have hall : s.sameButNew ({ U with vm := s.vm } : State) locs mc ms := by
    subst hA
    obtain ⟨e1, e2⟩ := hsame
    rw [State.setFrames_setFrames] at e1
    have h2 : (T.setVm s.vm).sameButNew ({ U with vm := s.vm } : State) [] (0 + 1) (0 + 6) := ⟨e1, e2⟩
    have h3 := X.same.trans h2
    rw [List.append_nil] at h3
    exact h3.mono hc hs
  refine ⟨U, ?_, .threw T.heap.size, hrun, hend, Or.inr ⟨T.heap.size, rfl, cls, ce, locs, hx U hWs.alike f1 (fun q hq => f2 q hq (fun z hz => nomatch hz)), hce, hO.vm, hcl, hWs, hall, hf⟩⟩
  refine st1 _ ?_
  show Steps p.tables e below (T1.setTop { method := m, pc := pc + 3, locals := ls, stack := .ref T.heap.size :: rest, locked := none }) _
  jvm_step X₁.here [X₁.here.top, hexec, d3', Value.category]
  exact X₁.ldcString hexec (own := own) (text := text) (index := is) (a := sa) hown' hstr'.1 hstr'.2
    (g := { method := m, pc := pc + 4, locals := ls, stack := .ref T.heap.size :: .ref T.heap.size :: rest, locked := none }) rfl d4' _ hsteps
/-- 'throw new E("text")', the text by a wide index -/
theorem vx_throwSW {cc : ByteArray} {pc : Nat} (hexec : p.tables.exec = Jvm.exec) (hb : c.code = cc) (hl : l.stackTraces = false) {own cls text : String} {names : List String} {ik is ic mc ms sa : Nat} {A : Nat → Prop}
    (hown : s.vm.findClass own = some m.cls) (hcls : Bundle.fit cls = true) (hnames : ∀ n ∈ names, Bundle.fit n = true)
    (hk : (Cond.classLink own ik cls).before args s = true) (hini : (Cond.initialized cls).before args s = true) (hstr : vk_R own is text sa s) (hat : ∀ w ∈ vx_atS own ic cls names, w.before args s = true)
    (hgood : ∀ w ∈ Cond.classLink own ik cls :: Cond.initialized cls :: vx_atS own ic cls names, vx_ot w = true)
    (hU : vx_Zq Bundle.tN "UNASSIGNED_STACK" Bundle.steD A s s.heap) (hN : vx_Zq Bundle.tN "SUPPRESSED_SENTINEL" Bundle.listD A s s.heap) (hS : va_S A s.heap H locs) (hsize : ls.size = c.maxLocals)
    (d0 : decode cc pc = .ok (.new ik, 3)) (d3 : decode cc (pc + 3) = .ok (.dup, 1)) (d4 : decode cc (pc + 4) = .ok (.ldc_w is, 3)) (d7 : decode cc (pc + 7) = .ok (.invokespecial ic, 3)) (d10 : decode cc (pc + 10) = .ok (.athrow, 1))
    (hout : ∀ x ∈ c.exceptionTable.toList, covers x (pc + 10) = false)
    (hRframes : names.length + 3 < R.frames) (hRlocals : (rest.map fun v => v.category).sum + (13 * (names.length + 1) + 43) ≤ R.locals) (hRcells : cells + 1 ≤ R.cells) (hRslots : slots + 6 ≤ R.slots) (hlocks : meth.locks = false)
    (hx : ∀ t : State, s.vm.Alike t.vm → H.size ≤ t.heap.size → (∀ q : Nat, q < H.size → t.heap[q]? = H[q]?) → XC cls s t)
    (hf : ∀ z ∈ locs, free z.base) (hc : cells + 1 ≤ mc) (hs : slots + 6 ≤ ms) :
    W p l e R s m args below meth c H locs cells slots (vx_MQ below Qc XC args s mc ms free) (F0 m pc ls rest) := by
  intro T hT X
  have htr : e.platform.stackTraces = false := (show e.platform.stackTraces = l.stackTraces by rw [X.admits.platform]).trans hl
  have Y := vx_rebase X (R' := { frames := R.frames, locals := R.locals, cells := 1, slots := 6 }) (Nat.le_refl _) (Nat.le_refl _) hRcells hRslots
  obtain ⟨s', hA⟩ : ∃ z, z = (T.setVm s.vm).setFrames (.invoking m args :: below) := ⟨_, rfl⟩
  rw [← hA] at Y
  have hvm : s'.vm = s.vm := by rw [hA]; rfl
  have hhp : s'.heap = H := by rw [hA]; exact hT
  have hW0 : s.WarmedH s'.vm := by rw [hvm]; exact State.WarmedH.refl s
  have hat' : ∀ w ∈ vx_atS own ic cls names, w.before args s' = true := fun w hw => vx_ot_at hW0 hvm.symm (hgood w (List.mem_cons_of_mem _ (List.mem_cons_of_mem _ hw))) (hat w hw)
  have hk' : (Cond.classLink own ik cls).before args s' = true := vx_ot_at hW0 hvm.symm (hgood _ List.mem_cons_self) hk
  have hini' : (Cond.initialized cls).before args s' = true := vx_ot_at hW0 hvm.symm (hgood _ (List.mem_cons_of_mem _ List.mem_cons_self)) hini
  have hU' : vx_Zq Bundle.tN "UNASSIGNED_STACK" Bundle.steD A s' s'.heap := by rw [hhp]; exact vx_Zq.moved hW0.alike (hU.kept hS.2.1)
  have hN' : vx_Zq Bundle.tN "SUPPRESSED_SENTINEL" Bundle.listD A s' s'.heap := by rw [hhp]; exact vx_Zq.moved hW0.alike (hN.kept hS.2.1)
  have h : ∀ w ∈ Bundle.ownAtoms own ic cls names, w.before args s' = true := vx_own hat' (vx_isRefq hU'.1) (vx_isRefq hN'.1) hU'.2.word hN'.2.word
  have hown' : s'.vm.findClass own = some m.cls := by rw [hvm]; exact hown
  have hins : (Cond.instantiable cls 6).before args s' = true := h _ (by simp [Bundle.ownAtoms])
  obtain ⟨vm₁, cX, kX, hfX, hkX, -, -, X₁, st1⟩ := Y.newCold hexec (own := own) (C := cls) (index := ik) (n := 6) hown' hk' hins hini'
    (g := F0 m pc ls rest) rfl (by rw [hb]; exact d0) (Nat.le_refl _) (Nat.le_refl _)
  generalize hT1 : (T.setVm vm₁).pushCell { cls := cX, slots := kX.instanceTypes.map defaultValue, vm := .none } = T1 at X₁ st1
  have hcat : (Value.ref T.heap.size).category = 1 := rfl
  have hcellA : T1.heap[T.heap.size]? = some (freshCell cX kX) := by rw [← hT1]; exact State.heap_pushCell_size _ _
  have d3' : decode c.code (pc + 3) = .ok (.dup, 1) := by rw [hb]; exact d3
  have d4' : decode c.code (pc + 4) = .ok (.ldc_w is, 3) := by rw [hb]; exact d4
  have hstr' : vk_R own is text sa s' := vk_R.warm hW0 hstr
  obtain ⟨U, hsteps, hrun, hend, hW, hsame, ce, hce, hO⟩ := X₁.ctorThrowS hexec htr (own := own) (cls := cls) (names := names) (ic := ic) hown' hcls hnames h (fun x hx => nomatch hx) hfX hkX hcellA (by rw [hhp, hT]; exact Nat.le_refl _) (msg := .ref sa) rfl
    (g := { method := m, pc := pc + 7, locals := ls, stack := .ref sa :: .ref T.heap.size :: .ref T.heap.size :: rest, locked := none }) rfl hsize rfl rfl (rest := rest) rfl
    (by rw [hb]; exact d7) (by rw [hb]; exact d10) hout hRframes (by simp only [List.map_cons, List.sum_cons, hcat]; omega) hlocks
  obtain ⟨f1, f2⟩ := vx_frame hsame
  rw [hhp] at f1 f2
  have hWs : s.WarmedH U.vm := State.WarmedH.trans hW0 hW
  have hcl : s.vm.findClass cls = some ce.cls := by
    have h9 := hO.cls
    rw [hvm] at h9
    exact h9
  have hall : s.sameButNew ({ U with vm := s.vm } : State) locs mc ms := by
    subst hA
    obtain ⟨e1, e2⟩ := hsame
    rw [State.setFrames_setFrames] at e1
    have h2 : (T.setVm s.vm).sameButNew ({ U with vm := s.vm } : State) [] (0 + 1) (0 + 6) := ⟨e1, e2⟩
    have h3 := X.same.trans h2
    rw [List.append_nil] at h3
    exact h3.mono hc hs
  refine ⟨U, ?_, .threw T.heap.size, hrun, hend, Or.inr ⟨T.heap.size, rfl, cls, ce, locs, hx U hWs.alike f1 (fun q hq => f2 q hq (fun z hz => nomatch hz)), hce, hO.vm, hcl, hWs, hall, hf⟩⟩
  refine st1 _ ?_
  show Steps p.tables e below (T1.setTop { method := m, pc := pc + 3, locals := ls, stack := .ref T.heap.size :: rest, locked := none }) _
  jvm_step X₁.here [X₁.here.top, hexec, d3', Value.category]
  exact X₁.ldcStringW hexec (own := own) (text := text) (index := is) (a := sa) hown' hstr'.1 hstr'.2
    (g := { method := m, pc := pc + 4, locals := ls, stack := .ref T.heap.size :: .ref T.heap.size :: rest, locked := none }) rfl d4' _ hsteps
end Ends
section Bodies
variable {l : Launch}
theorem vx_ofW {y : MethodName} {ws ws' : List Cond} {rm : Room} {Pc : Array Value → State → Prop} {Qc : Array Value → State → Outcome → State → Prop} {XC : String → State → State → Prop} {mc ms : Nat} {free : Addr → Prop} {cc : ByteArray} {maxL : Nat} {ret : Option FieldType}
    (hy : plainName y.cls = true) (hw : ws = Cond.code y cc maxL ret :: ws')
    (body : ∀ p e s m args below meth c s₁, BodyLoose p l y (headSpec ws rm) cc maxL ret e s m args below meth c s₁ → c.maxLocals = maxL → (∀ x ∈ c.exceptionTable.toList, False) → Pc args s →
      W p l e (headSpec ws rm).room s m args below meth c s.heap [] 0 0 (vx_MQ below Qc XC args s mc ms free) (entryFrame m args maxL)) : vx_Met l y ws rm Pc Qc XC mc ms free := by
  refine MetFree.of_bodyS (code := cc) (maxLocals := maxL) (ret := ret) hy ?_ ?_
  · intro args s m h hn
    obtain ⟨meth, c, h1, h2, h3, h4, h5, h6, -, -⟩ := Cond.code_spec hn (atoms_spec (ws := ws) h _ (by rw [hw]; exact List.mem_cons_self))
    exact ⟨meth, c, h1, h2, h3, h4, h5, h6⟩
  · intro p e s m args below meth c s₁ B hml hP _
    have hh0 : s₁.heap = s.heap := by rw [B.state]; rfl
    have ht : ∀ x ∈ c.exceptionTable.toList, False := by
      obtain ⟨meth9, c9, h1, h2, -, -, -, -, h7, -⟩ := Cond.code_spec B.named (atoms_spec (ws := ws) B.pre _ (by rw [hw]; exact List.mem_cons_self))
      cases Option.some.inj (h1.symm.trans B.method)
      cases Option.some.inj (h2.symm.trans (Stand.of_body B).code)
      intro x hx
      rw [Array.isEmpty_iff.mp h7] at hx
      cases hx
    obtain ⟨t, a1, o, b1, b2, b3⟩ := body p e s m args below meth c s₁ B hml ht hP s₁ hh0 (Stand.of_body B)
    exact ⟨t, o, a1, b1, b2, b3⟩
/-- the table of a body with handlers -/
theorem vx_table {p : Program} {x y : MethodName} {S : Spec} {cc bytes : ByteArray} {maxL maxL' : Nat} {ret ret' : Option FieldType} {e : Env} {s s₁ : State} {m : MethodId} {args : Array Value} {below : List Frame} {meth : Method} {c : Code} {hh : List (Nat × Nat × Nat × Nat)}
    (B : BodyLoose p l y S cc maxL ret e s m args below meth c s₁) (h : (Cond.codeWith y bytes maxL' ret' hh).before args s = true) : c.exceptionTable.toList = tableOf hh := by
  obtain ⟨m9, meth9, c9, hn9, h1, h2, -, -, h6, -⟩ := Cond.codeWith_spec h
  cases Option.some.inj (hn9.symm.trans B.named)
  cases Option.some.inj (h1.symm.trans B.method)
  cases Option.some.inj (h2.symm.trans (Stand.of_body B).code)
  rw [← h6, table_eq]
end Bodies
end VXA
/-! ===== END ===== -/
/-! ===== BEGIN a static call of a method with an exception table ===== -/
section VXS
variable {p : Program} {l : Launch} {e : Env} {R : Room} {s : State} {m : MethodId} {args : Array Value} {below : List Frame} {meth : Method} {c : Code} {T : State} {H : Heap} {locs : List Loc} {cells slots : Nat}
abbrev vx_CSW (R : Room) (s : State) (args : Array Value) (own : String) (index : Nat) (y : MethodName) (bytes : ByteArray) (maxL : Nat) (ret : Option FieldType) (hh : List (Nat × Nat × Nat × Nat)) (ws : List Cond) (rm : Room) (mc ms n : Nat) : Prop :=
  (rm.cells = mc ∧ rm.slots = ms ∧ rm.frames + 1 ≤ R.frames ∧ 8 + (maxL + 11) + rm.locals ≤ R.locals ∧ (∀ w ∈ ws, ∀ (a' : Array Value) (U : State), s.WarmedH U.vm → w.before a' U = true) ∧ Cond.codeWith y bytes maxL ret hh ∈ ws) ∧
  (Cond.codeWith y bytes maxL ret hh).before args s = true ∧ (Cond.initialized y.cls).before args s = true ∧ (y.cls ≠ "java/lang/invoke/MethodHandle" ∧ y.cls ≠ "java/lang/invoke/VarHandle") ∧
  (∀ sig, parseMethodDescriptor y.desc = some sig → n = sig.parameters.length) ∧ (Cond.methodLink own index y).before args s = true ∧ (Cond.static y).before args s = true
theorem vx_cwSW {own : String} {index maxL mc ms : Nat} {y : MethodName} {bytes : ByteArray} {ret : Option FieldType} {hh : List (Nat × Nat × Nat × Nat)} {Ts ws ws' : List Cond} {rm : Room} (n : Nat) (ht : ∀ w ∈ Ts, w.before args s = true) (hT : GoodIn Ts (va_wsS own index y ws)) (hw : ws = Cond.codeWith y bytes maxL ret hh :: ws') (hrc : rm.cells = mc) (hrs : rm.slots = ms)
    (hd : y.cls ≠ "java/lang/invoke/MethodHandle" ∧ y.cls ≠ "java/lang/invoke/VarHandle" ∧ (parseMethodDescriptor y.desc).map (fun d => d.parameters.length) = some n) (hR : rm.frames + 1 ≤ R.frames ∧ 8 + (maxL + 11) + rm.locals ≤ R.locals) :
    vx_CSW R s args own index y bytes maxL ret hh ws rm mc ms n := by
  have ok : ∀ w ∈ va_wsS own index y ws, w.before args s = true := fun w h => ht w (hT w h).1
  have hG : GoodIn Ts ws := fun w h => hT w (by unfold va_wsS; exact List.mem_append_right _ h)
  have hc : Cond.codeWith y bytes maxL ret hh ∈ ws := by rw [hw]; exact List.mem_cons_self
  refine ⟨⟨hrc, hrs, hR.1, hR.2, pay_in ht hG, hc⟩, ht _ (hG _ hc).1, ok _ (by simp [va_wsS]), ⟨hd.1, hd.2.1⟩, fun sig h => ?_, ok _ (by simp [va_wsS]), ok _ (by simp [va_wsS])⟩
  have h2 := hd.2.2
  rw [h] at h2
  exact (Option.some.inj h2).symm
theorem vx_callSW (X : Stand p l e R s m args below meth c T locs cells slots) (hexec : p.tables.exec = Jvm.exec) {own : String} {index : Nat} {y : MethodName} {bytes : ByteArray} {maxL : Nat} {ret : Option FieldType} {hh : List (Nat × Nat × Nat × Nat)}
    (hown : s.vm.findClass own = some m.cls) (hlink : (Cond.methodLink own index y).before args s = true) (hstat : (Cond.static y).before args s = true) (hinit : (Cond.initialized y.cls).before args s = true)
    (hcode : (Cond.codeWith y bytes maxL ret hh).before args s = true) (hy : y.cls ≠ "java/lang/invoke/MethodHandle" ∧ y.cls ≠ "java/lang/invoke/VarHandle")
    {W9 : Nat} {Pre : Pt → Array Value → Prop} {Post : Pt → Array Value → Option Value → Pt → Prop} (hK : Back l R p e below s args y 3 W9 Pre Post)
    {g : JFrame} (hg : g.method = m) (hsize : g.locals.size = c.maxLocals) {argsL rest : List Value} (hlen : ∀ sig, parseMethodDescriptor y.desc = some sig → argsL.length = sig.parameters.length)
    (hstack : g.stack = argsL.reverse ++ rest) (hW : 2 * g.monitorRoom + (rest.map fun v => v.category).sum ≤ W9) (hdg : decode c.code g.pc = .ok (.invokestatic index, 3))
    (hpre : ∀ vm₁, s.WarmedH vm₁ → Pre ⟨T.setVm vm₁, locs, cells, slots⟩ argsL.toArray) :
    ∃ (v : Option Value) (vm₁ : Vm) (B : Pt), s.WarmedH vm₁ ∧ Stand p l e R s m args below meth c B.U B.locs B.cells B.slots ∧ Post ⟨T.setVm vm₁, locs, cells, slots⟩ argsL.toArray v B ∧
      ∀ target, Steps p.tables e below (B.U.setTop { g with pc := g.pc + 3, stack := v.toList ++ rest }) target → Steps p.tables e below (T.setTop g) target := by
  obtain ⟨mk, methM, cM, hnamed, hmethM, -, -, -, -, -, -, hsigM⟩ := Cond.codeWith_spec hcode
  have hstatic : methM.isStatic = true := Cond.static_spec hnamed hmethM hstat
  obtain ⟨kP, hkP, -⟩ := className_of_methodNamed hnamed
  have hinitP : kP.init = .initialized := Cond.initialized_spec (findClass_of_methodNamed hnamed) hkP hinit
  obtain ⟨vm₁, X₁, hstep₁⟩ := X.invokestatic hexec hown hlink hnamed hmethM hstatic hkP hinitP hy (g := g) hg (argsL := argsL) (rest := rest) (hlen _ hsigM) hstack hdg
  obtain ⟨v, B, X', hpost, hsteps⟩ := hK m meth c ⟨T.setVm vm₁, locs, cells, slots⟩ { g with stack := rest } (.invokestatic index) mk argsL.toArray X₁ hg hsize hdg hW (X₁.named hnamed) (hpre vm₁ X₁.warmed)
  exact ⟨v, vm₁, B, X₁.warmed, X', hpost, fun target h => hstep₁ _ fun acts => by rw [doInvoke_state]; exact hsteps.trans h⟩
theorem vx_runSW {y : MethodName} {bytes cc : ByteArray} {maxL nL mc ms n index : Nat} {ret : Option FieldType} {hh : List (Nat × Nat × Nat × Nat)} {ws : List Cond} {rm : Room} {Pc : Array Value → State → Prop} {Qc : Array Value → State → Outcome → State → Prop} {free : Addr → Prop} {Ts : List Cond} {own : String} {As rest : List Value} {g : JFrame}
    (S : CallFix p m c cc nL s args Ts own) (hM : Met l y ws rm Pc Qc mc ms free) (cw : vx_CSW R s args own index y bytes maxL ret hh ws rm mc ms n) (hp : PreS s H Pc As)
    (hg : g.method = m) (hn : As.length = n) (hsize : g.locals.size = nL) (hstack : g.stack = As.reverse ++ rest) (hW : 2 * g.monitorRoom + (rest.map fun v => v.category).sum ≤ 8) (hdg : decode cc g.pc = .ok (.invokestatic index, 3)) (hf : cells + mc ≤ R.cells ∧ slots + ms ≤ R.slots) :
    va_Run p l e R s m args below meth c H locs cells slots mc ms g rest (Qc As.toArray) (free) := by
  obtain ⟨⟨hrc, hrs, hfr, hlo, hws, hcw⟩, hcode, hini, hy, hlen, hl, hstt⟩ := cw
  have hK : Back l R p e below s args y 3 8 (PreOf R mc ms Pc) (PostOf Qc mc ms free) := va_backW (hh := hh) (bytes := bytes) (maxL := maxL) (ret := ret) hM hp.1 hrc hrs hfr hlo hws hcw (fun a' U hW => word_at hW (Or.inl (by first | rfl | simp [Cond.onTables, Cond.keeps, Cond.steady])) hini)
  obtain ⟨hx, hb, hml, ho, -⟩ := S
  intro T hT X
  obtain ⟨v, vm₁, ⟨U', l2, c2, s2⟩, hW₁, X', ⟨g', mk, t, L, e1, e2, hq, h1, hL, h2, h3⟩, st⟩ := vx_callSW X hx (hh := hh) (bytes := bytes) (maxL := maxL) (ret := ret) ho hl hstt hini hcode hy hK hg (hsize.trans hml.symm) (argsL := As) (rest := rest) (fun sig h => hn.trans (hlen sig h)) hstack hW (by rw [hb]; exact hdg)
    (fun vm₁ hW₁ => ⟨hf.1, hf.2, hp.2 (T.setVm vm₁) hT hW₁⟩)
  dsimp only [Pt.U, Pt.locs, Pt.cells, Pt.slots] at X' e1 e2 h1 h2 h3 st
  subst h1; subst h2; subst h3
  exact ⟨v, (T.setVm vm₁).calling g' mk As.toArray, t, U', L, hT, X', hL, e1, e2, hq, st⟩
/-- not caught here, past rows that name other classes: it goes on to the caller -/
theorem vx_outP {p : Program} {l : Launch} {e : Env} {R : Room} {s : State} {m : MethodId} {args : Array Value} {below : List Frame} {meth : Method} {c : Code} {H : Heap} {locs : List Loc} {cells slots : Nat} {free : Addr → Prop} {ls : Array Slot} {rest : List Value} {Qc : Array Value → State → Outcome → State → Prop} {XC : String → State → State → Prop}
    {pc : Nat} {own E : String} {ce : Cell} {q : Addr} {mc ms : Nat} (hown : s.vm.findClass own = some m.cls) (hlocks : meth.locks = false)
    (hpass : ∀ z ∈ c.exceptionTable.toList, covers z pc = false ∨ (z.catchType ≠ 0 ∧ ∃ nm : String, (Cond.classLink own z.catchType nm).before args s = true ∧ va_Nc E nm s)) (hcell : H[q]? = some ce) (hv : ce.vm = .none) (hcl : s.vm.findClass E = some ce.cls)
    (hx : ∀ t : State, t.heap = H → s.vm.Alike t.vm → XC E s t) (hf : ∀ z ∈ locs, free z.base) (hc : cells ≤ mc) (hs : slots ≤ ms) :
    vx_W p l e R s m args below meth c H locs cells slots (vx_MQ below Qc XC args s mc ms free) (F0 m pc ls rest) q := by
  intro T hT X
  have hpl : e.platform.magicAccessors = ({} : Platform).magicAccessors := by rw [X.admits.platform]
  obtain ⟨vm', hW', X', st⟩ := X.outThrough hlocks q (g := F0 m pc ls rest) rfl rfl rfl (cell := ce) (by rw [hT]; exact hcell) (by rw [hv]; rfl)
    (by obtain ⟨k9, h9, -⟩ := Vm.findClass_spec hcl; exact ⟨k9, h9⟩) (fun z hz => by
      rcases hpass z hz with h | ⟨hz0, nm, hl1, hn1⟩
      · exact Or.inl h
      · obtain ⟨c6, hc6, hcl6⟩ := Cond.classLink_spec hown hl1 e.platform hpl
        obtain ⟨a8, b8, h1, h2, h3⟩ := hn1
        cases Option.some.inj (h1.symm.trans hcl)
        cases Option.some.inj (h2.symm.trans hc6)
        exact Or.inr ⟨hz0, _, hcl6, h3⟩)
  obtain ⟨g₀, hfr⟩ := X'.frames_eq
  have hcell9 : ((T.setVm vm').setFrames (.throwing q :: below)).heap[q]? = some ce := by
    show T.heap[q]? = some ce
    rw [hT]; exact hcell
  have hend : Ended ((T.setVm vm').setFrames (.throwing q :: below)) below (.threw q) := State.frames_setFrames _ (State.cur_lt_of_frames hfr)
  refine ⟨(T.setVm vm').setFrames (.throwing q :: below), ?_, .threw q, X'.here.running, hend, Or.inr ⟨q, rfl, E, ce, locs, hx _ hT (X'.ends _).1.alike, hcell9, hv, hcl, (X'.ends _).1, (X'.ends _).2.mono hc hs, hf⟩⟩
  rw [X.pushThrowing_eq]
  exact st
/-- a thing of a world lies in the heap -/
theorem vx_lt {D : va_G} {cl : List vw_C} {ws : va_W} {H1 : Heap} (h : va_P D cl ws H1) {k : Nat} {q : Nat × va_E} (hk : ws[k]? = some q) : q.1 < H1.size := (h k q hk).lt
end VXS
/-! ===== END ===== -/
/-! ===== BEGIN methods with a table of their own: called by a name, returning or throwing ===== -/
section VXH
/-! vx_backW, vx_callVX, vx_callSX, vx_callVW, vx_runVW, vx_runVX, vx_runSX, vx_ofWH follow the same proofs as their sisters above (Free/Laws.lean, Shelf42/LK1.lean); vx_outP calls Shelf42/NT130.lean (outThrough). -/
section
variable {l : Launch} {R : Room} {p : Program} {e : Env} {below : List Frame} {s : State} {sargs : Array Value} {y : MethodName} {len W9 : Nat}
theorem vx_backW {ws : List Cond} {rm : Room} {Pc : Array Value → State → Prop} {Qc : Array Value → State → Outcome → State → Prop} {XC : String → State → State → Prop} {mc ms : Nat} {free : Addr → Prop} {bytes : ByteArray} {maxL : Nat} {ret : Option FieldType} {hh : List (Nat × Nat × Nat × Nat)}
    (hM : vx_Met l y ws rm Pc Qc XC mc ms free) (hblind : FrameBlind Pc) (hrc : rm.cells = mc) (hrs : rm.slots = ms)
    (hframes : rm.frames + 1 ≤ R.frames) (hlocals : W9 + (maxL + 11) + rm.locals ≤ R.locals)
    (hws : ∀ w ∈ ws, ∀ a' U, s.WarmedH U.vm → w.before a' U = true) (hcode : Cond.codeWith y bytes maxL ret hh ∈ ws) (hinit : ∀ a' U, s.WarmedH U.vm → (Cond.initialized y.cls).before a' U = true) :
    vx_Back l R p e below s sargs y len W9 (PreOf R mc ms Pc) (PostOf Qc mc ms free) (vx_Post XC mc ms free) := by
  intro m meth c A g ig mk a X hg hsize hdg hW hn hp
  have h1 : (headSpec ws rm).pre.before a A.U = true := atoms_intro fun w hw => hws w hw _ _ X.warmed
  have h2 : (Cond.codeWith y bytes maxL ret hh).before a A.U = true := hws _ hcode _ _ X.warmed
  have h3 : (Cond.initialized y.cls).before a A.U = true := hinit _ _ X.warmed
  have h4 : A.cells + (headSpec ws rm).room.cells ≤ R.cells := by rw [show (headSpec ws rm).room.cells = mc from hrc]; exact hp.1
  have h5 : A.slots + (headSpec ws rm).room.slots ≤ R.slots := by rw [show (headSpec ws rm).room.slots = ms from hrs]; exact hp.2.1
  have hPc : Pc a (A.U.calling g mk a) := hblind _ _ _ _ hp.2.2
  obtain ⟨U, Ls, c0, s0⟩ := A
  dsimp only [Pt.U, Pt.locs, Pt.cells, Pt.slots] at h1 h2 h3 h4 h5 X hn hPc ⊢
  obtain ⟨m9, methY, cY, hn9, hmY, hcY, -, hlY, -⟩ := Cond.codeWith_spec h2
  cases Option.some.inj (hn9.symm.trans hn)
  obtain ⟨kY, hkY, -⟩ := className_of_methodNamed hn
  have hinitY : kY.init = .initialized := Cond.initialized_spec (findClass_of_methodNamed hn) hkY h3
  have h : At U g.method c below := by rw [hg]; exact X.here
  have hlocals9 : W9 + (maxL + 11) + (headSpec ws rm).room.locals ≤ R.locals := hlocals
  have happ : (headSpec ws rm).appliesLoose y e.platform (U.calling g mk a) = true :=
    Spec.appliesLoose_calling (g := g) h hdg hn hkY hinitY
      (X.room_calling (g := g) (R' := (headSpec ws rm).room) hsize hmY hcY hframes (by rw [hlY]; omega) h4 h5) h1
  obtain ⟨mid, hmid⟩ := h.above
  have hfr : (U.setTop g).frames = (.java g :: mid) ++ below := by rw [State.frames_setTop' g h.top, hmid]; rfl
  obtain ⟨o, s₂, hsteps, -, hend, hq⟩ := Steps.callFree hM p X.admits X.cas X.clock (acts := []) hfr happ hPc trivial
  have hq' : vx_Q Qc XC mc ms free a (U.calling g mk a) o s₂ := hq
  rw [State.frames_setTop' g h.top] at hend
  obtain ⟨g₀, hg0⟩ := Option.isSome_iff_exists.mp h.top
  obtain ⟨r, hr⟩ := State.topJava?_eq_some.mp hg0
  have hr' : (({ U with heap := s₂.heap, slotsUsed := s₂.slotsUsed } : State).setVm s₂.vm).frames = .java g₀ :: r := hr
  rcases hq' with ⟨hqc, L, hfe, hL⟩ | ⟨q, rfl, E, ce, L, hx, hce, hcv, hcl, hW₂, hsm, hL⟩
  · obtain ⟨⟨v, rfl⟩, hW₂, e2, q2, q3, q4, q5, q6⟩ := id hfe
    have e3 : s₂ = ({ (U.calling g mk a).setFrames s₂.frames with heap := s₂.heap, slotsUsed := s₂.slotsUsed } : State).setVm s₂.vm := by
      have : s₂ = ({ s₂ with vm := (U.calling g mk a).vm } : State).setVm s₂.vm := rfl
      rw [e2] at this
      exact this
    obtain ⟨c₂, i₂, len₂, hc₂, hd₂, hf₂⟩ := hend
    have hW' : U.WarmedH s₂.vm := hW₂
    have hcc : c₂ = c := by
      have h1 : s₂.code? g.method = U.code? g.method := by
        rw [State.code?_eq, State.code?_eq, hW'.alike.method?]
      exact Option.some.inj (hc₂.symm.trans (h1.trans h.code))
    subst hcc
    have hlen : len₂ = len := by rw [hdg] at hd₂; cases hd₂; rfl
    subst hlen
    have hs₂ : s₂ = (({ U with heap := s₂.heap, slotsUsed := s₂.slotsUsed } : State).setVm s₂.vm).setTop { g with pc := g.pc + len₂, stack := v.toList ++ g.stack } := by
      refine e3.trans ?_
      rw [hf₂, State.calling_eq h.top, State.setFrames_setFrames, State.setTop_of_frames _ hr', hr]
      rfl
    have hsame : U.sameButNew ({ U with heap := s₂.heap, slotsUsed := s₂.slotsUsed } : State) L mc ms := by
      refine ⟨?_, q2, q3, q4, q5, q6⟩
      obtain ⟨t, ht, -⟩ := State.frames_cons hr
      show ({ U with heap := s₂.heap, slotsUsed := s₂.slotsUsed } : State) = { U.setFrames U.frames with heap := s₂.heap, slotsUsed := s₂.slotsUsed }
      rw [State.setFrames_self ht]
    subst hg
    refine Or.inl ⟨v, ⟨(({ U with heap := s₂.heap, slotsUsed := s₂.slotsUsed } : State).setVm s₂.vm), Ls ++ L, c0 + mc, s0 + ms⟩,
      ⟨X.admits, X.cas, X.clock, X.frames, X.room, X.hears, X.method, X.code, (X.here.setHeapUsed s₂.heap s₂.slotsUsed).setVm hW'.alike, X.tail, State.WarmedH.trans X.warmed hW', X.limits, X.bytes, X.same.trans (hsame.setVm s.vm)⟩,
      ⟨g, mk, s₂, L, rfl, rfl, hqc, rfl, hL, rfl, rfl⟩, ?_⟩
    show Steps p.tables e below _ ((({ U with heap := s₂.heap, slotsUsed := s₂.slotsUsed } : State).setVm s₂.vm).setTop { g with pc := g.pc + len₂, stack := v.toList ++ g.stack })
    rw [← hs₂]
    exact hsteps
  · obtain ⟨e2, q2, q3, q4, q5, q6⟩ := id hsm
    have e3 : s₂ = ({ (U.calling g mk a).setFrames s₂.frames with heap := s₂.heap, slotsUsed := s₂.slotsUsed } : State).setVm s₂.vm := by
      have : s₂ = ({ s₂ with vm := (U.calling g mk a).vm } : State).setVm s₂.vm := rfl
      rw [e2] at this
      exact this
    have hf₂ : s₂.frames = .throwing q :: .java g :: U.frames.tail := hend
    have hW' : U.WarmedH s₂.vm := hW₂
    have hs₂ : s₂ = ((({ U with heap := s₂.heap, slotsUsed := s₂.slotsUsed } : State).setVm s₂.vm).setTop g).pushFrame (.throwing q) := by
      refine e3.trans ?_
      rw [hf₂, State.calling_eq h.top, State.setFrames_setFrames, State.pushFrame, State.frames_setTop _ hr', State.setTop_of_frames _ hr', State.setFrames_setFrames, hr]
      rfl
    have hsame : U.sameButNew ({ U with heap := s₂.heap, slotsUsed := s₂.slotsUsed } : State) L mc ms := by
      refine ⟨?_, q2, q3, q4, q5, q6⟩
      obtain ⟨t, ht, -⟩ := State.frames_cons hr
      show ({ U with heap := s₂.heap, slotsUsed := s₂.slotsUsed } : State) = { U.setFrames U.frames with heap := s₂.heap, slotsUsed := s₂.slotsUsed }
      rw [State.setFrames_self ht]
    subst hg
    refine Or.inr ⟨q, ⟨(({ U with heap := s₂.heap, slotsUsed := s₂.slotsUsed } : State).setVm s₂.vm), Ls ++ L, c0 + mc, s0 + ms⟩,
      ⟨X.admits, X.cas, X.clock, X.frames, X.room, X.hears, X.method, X.code, (X.here.setHeapUsed s₂.heap s₂.slotsUsed).setVm hW'.alike, X.tail, State.WarmedH.trans X.warmed hW', X.limits, X.bytes, X.same.trans (hsame.setVm s.vm)⟩,
      ⟨g, mk, s₂, L, E, ce, rfl, rfl, hx, hce, hcv, hcl, rfl, hL, rfl, rfl⟩, ?_⟩
    show Steps p.tables e below _ (((({ U with heap := s₂.heap, slotsUsed := s₂.slotsUsed } : State).setVm s₂.vm).setTop g).pushFrame (.throwing q))
    rw [← hs₂]
    exact hsteps
end
variable {p : Program} {l : Launch} {e : Env} {R : Room} {s : State} {m : MethodId} {args : Array Value} {below : List Frame} {meth : Method} {c : Code} {T : State} {H : Heap} {locs : List Loc} {cells slots : Nat}
theorem vx_callVX (X : Stand p l e R s m args below meth c T locs cells slots) (hexec : p.tables.exec = Jvm.exec) {own C : String} {index : Nat} {y : MethodName} {bytes : ByteArray} {maxL : Nat} {ret : Option FieldType} {hh : List (Nat × Nat × Nat × Nat)}
    (hown : s.vm.findClass own = some m.cls) (hlink : (Cond.methodLink own index y).before args s = true) (hinst : (Cond.instanceMethod y).before args s = true) (hsel : (Cond.selects C y y).before args s = true)
    (hcode : (Cond.codeWith y bytes maxL ret hh).before args s = true) (hy : y.cls ≠ "java/lang/invoke/MethodHandle" ∧ y.cls ≠ "java/lang/invoke/VarHandle")
    {W9 : Nat} {Pre : Pt → Array Value → Prop} {Post : Pt → Array Value → Option Value → Pt → Prop} {PostX : Pt → Array Value → Addr → Pt → Prop} (hK : vx_Back l R p e below s args y 3 W9 Pre Post PostX)
    {b : Addr} {cellB : Cell} (hcell : T.heap[b]? = some cellB) (hobj : cellB.vm.isStatics = false) (hcls : s.vm.findClass C = some cellB.cls)
    {g : JFrame} (hg : g.method = m) (hsize : g.locals.size = c.maxLocals) {argsL rest : List Value} (hlen : ∀ sig, parseMethodDescriptor y.desc = some sig → argsL.length = sig.parameters.length)
    (hstack : g.stack = argsL.reverse ++ .ref b :: rest) (hW : 2 * g.monitorRoom + (rest.map fun v => v.category).sum ≤ W9) (hdg : decode c.code g.pc = .ok (.invokevirtual index, 3))
    (hpre : ∀ vm₁, s.WarmedH vm₁ → Pre ⟨T.setVm vm₁, locs, cells, slots⟩ (Value.ref b :: argsL).toArray) :
    (∃ (v : Option Value) (vm₁ : Vm) (B : Pt), s.WarmedH vm₁ ∧ Stand p l e R s m args below meth c B.U B.locs B.cells B.slots ∧ Post ⟨T.setVm vm₁, locs, cells, slots⟩ (Value.ref b :: argsL).toArray v B ∧
      ∀ target, Steps p.tables e below (B.U.setTop { g with pc := g.pc + 3, stack := v.toList ++ rest }) target → Steps p.tables e below (T.setTop g) target) ∨
    (∃ (q : Addr) (vm₁ : Vm) (B : Pt), s.WarmedH vm₁ ∧ Stand p l e R s m args below meth c B.U B.locs B.cells B.slots ∧ PostX ⟨T.setVm vm₁, locs, cells, slots⟩ (Value.ref b :: argsL).toArray q B ∧
      Steps p.tables e below (T.setTop g) ((B.U.setTop { g with stack := rest }).pushFrame (.throwing q))) := by
  obtain ⟨mk, methM, hnamed, hmethM, hstM, habM⟩ := Cond.instanceMethod_spec hinst
  obtain ⟨m8, methM', cM, hn8, hmethM', -, -, -, -, -, -, hsigM⟩ := Cond.codeWith_spec hcode
  cases Option.some.inj (hn8.symm.trans hnamed)
  cases hmethM.symm.trans hmethM'
  obtain ⟨c2, r2, m2, q1, q2, q3, q4, kP, hkP, hkPi⟩ := Cond.selects_spec hsel
  cases hcls.symm.trans q1
  cases (State.methodFound?_of_named hnamed hy).symm.trans q2
  cases hnamed.symm.trans q3
  have hselP : selectMethod e.platform s.vm cellB.cls mk = .method mk := by rw [Launch.admits_selectMethod X.admits]; exact q4
  obtain ⟨vm₁, X₁, hstep₁⟩ := X.invokevirtual hexec hown hlink hnamed hmethM hstM hkP hkPi hy (a := b) (cell := cellB) hcell
    (fun z h => by rw [h] at hobj; cases hobj) hselP hmethM habM hkP hkPi (g := g) hg (argsL := argsL) (rest := rest) (hlen _ hsigM) hstack hdg
  rcases hK m meth c ⟨T.setVm vm₁, locs, cells, slots⟩ { g with stack := rest } (.invokevirtual index) mk (Value.ref b :: argsL).toArray X₁ hg hsize hdg hW (X₁.named hnamed) (hpre vm₁ X₁.warmed) with ⟨v, B, X', hpost, hsteps⟩ | ⟨q, B, X', hpost, hsteps⟩
  · exact Or.inl ⟨v, vm₁, B, X₁.warmed, X', hpost, fun target h => hstep₁ _ fun acts => by rw [doInvoke_state]; exact hsteps.trans h⟩
  · exact Or.inr ⟨q, vm₁, B, X₁.warmed, X', hpost, hstep₁ _ fun acts => by rw [doInvoke_state]; exact hsteps⟩
theorem vx_callSX (X : Stand p l e R s m args below meth c T locs cells slots) (hexec : p.tables.exec = Jvm.exec) {own : String} {index : Nat} {y : MethodName} {bytes : ByteArray} {maxL : Nat} {ret : Option FieldType} {hh : List (Nat × Nat × Nat × Nat)}
    (hown : s.vm.findClass own = some m.cls) (hlink : (Cond.methodLink own index y).before args s = true) (hstat : (Cond.static y).before args s = true) (hinit : (Cond.initialized y.cls).before args s = true)
    (hcode : (Cond.codeWith y bytes maxL ret hh).before args s = true) (hy : y.cls ≠ "java/lang/invoke/MethodHandle" ∧ y.cls ≠ "java/lang/invoke/VarHandle")
    {W9 : Nat} {Pre : Pt → Array Value → Prop} {Post : Pt → Array Value → Option Value → Pt → Prop} {PostX : Pt → Array Value → Addr → Pt → Prop} (hK : vx_Back l R p e below s args y 3 W9 Pre Post PostX)
    {g : JFrame} (hg : g.method = m) (hsize : g.locals.size = c.maxLocals) {argsL rest : List Value} (hlen : ∀ sig, parseMethodDescriptor y.desc = some sig → argsL.length = sig.parameters.length)
    (hstack : g.stack = argsL.reverse ++ rest) (hW : 2 * g.monitorRoom + (rest.map fun v => v.category).sum ≤ W9) (hdg : decode c.code g.pc = .ok (.invokestatic index, 3))
    (hpre : ∀ vm₁, s.WarmedH vm₁ → Pre ⟨T.setVm vm₁, locs, cells, slots⟩ argsL.toArray) :
    (∃ (v : Option Value) (vm₁ : Vm) (B : Pt), s.WarmedH vm₁ ∧ Stand p l e R s m args below meth c B.U B.locs B.cells B.slots ∧ Post ⟨T.setVm vm₁, locs, cells, slots⟩ argsL.toArray v B ∧
      ∀ target, Steps p.tables e below (B.U.setTop { g with pc := g.pc + 3, stack := v.toList ++ rest }) target → Steps p.tables e below (T.setTop g) target) ∨
    (∃ (q : Addr) (vm₁ : Vm) (B : Pt), s.WarmedH vm₁ ∧ Stand p l e R s m args below meth c B.U B.locs B.cells B.slots ∧ PostX ⟨T.setVm vm₁, locs, cells, slots⟩ argsL.toArray q B ∧
      Steps p.tables e below (T.setTop g) ((B.U.setTop { g with stack := rest }).pushFrame (.throwing q))) := by
  obtain ⟨mk, methM, cM, hnamed, hmethM, -, -, -, -, -, -, hsigM⟩ := Cond.codeWith_spec hcode
  have hstatic : methM.isStatic = true := Cond.static_spec hnamed hmethM hstat
  obtain ⟨kP, hkP, -⟩ := className_of_methodNamed hnamed
  have hinitP : kP.init = .initialized := Cond.initialized_spec (findClass_of_methodNamed hnamed) hkP hinit
  obtain ⟨vm₁, X₁, hstep₁⟩ := X.invokestatic hexec hown hlink hnamed hmethM hstatic hkP hinitP hy (g := g) hg (argsL := argsL) (rest := rest) (hlen _ hsigM) hstack hdg
  rcases hK m meth c ⟨T.setVm vm₁, locs, cells, slots⟩ { g with stack := rest } (.invokestatic index) mk argsL.toArray X₁ hg hsize hdg hW (X₁.named hnamed) (hpre vm₁ X₁.warmed) with ⟨v, B, X', hpost, hsteps⟩ | ⟨q, B, X', hpost, hsteps⟩
  · exact Or.inl ⟨v, vm₁, B, X₁.warmed, X', hpost, fun target h => hstep₁ _ fun acts => by rw [doInvoke_state]; exact hsteps.trans h⟩
  · exact Or.inr ⟨q, vm₁, B, X₁.warmed, X', hpost, hstep₁ _ fun acts => by rw [doInvoke_state]; exact hsteps⟩
theorem vx_callVW (X : Stand p l e R s m args below meth c T locs cells slots) (hexec : p.tables.exec = Jvm.exec) {own C : String} {index : Nat} {y : MethodName} {bytes : ByteArray} {maxL : Nat} {ret : Option FieldType} {hh : List (Nat × Nat × Nat × Nat)}
    (hown : s.vm.findClass own = some m.cls) (hlink : (Cond.methodLink own index y).before args s = true) (hinst : (Cond.instanceMethod y).before args s = true) (hsel : (Cond.selects C y y).before args s = true)
    (hcode : (Cond.codeWith y bytes maxL ret hh).before args s = true) (hy : y.cls ≠ "java/lang/invoke/MethodHandle" ∧ y.cls ≠ "java/lang/invoke/VarHandle")
    {W9 : Nat} {Pre : Pt → Array Value → Prop} {Post : Pt → Array Value → Option Value → Pt → Prop} (hK : Back l R p e below s args y 3 W9 Pre Post)
    {b : Addr} {cellB : Cell} (hcell : T.heap[b]? = some cellB) (hobj : cellB.vm.isStatics = false) (hcls : s.vm.findClass C = some cellB.cls)
    {g : JFrame} (hg : g.method = m) (hsize : g.locals.size = c.maxLocals) {argsL rest : List Value} (hlen : ∀ sig, parseMethodDescriptor y.desc = some sig → argsL.length = sig.parameters.length)
    (hstack : g.stack = argsL.reverse ++ .ref b :: rest) (hW : 2 * g.monitorRoom + (rest.map fun v => v.category).sum ≤ W9) (hdg : decode c.code g.pc = .ok (.invokevirtual index, 3))
    (hpre : ∀ vm₁, s.WarmedH vm₁ → Pre ⟨T.setVm vm₁, locs, cells, slots⟩ (Value.ref b :: argsL).toArray) :
    ∃ (v : Option Value) (vm₁ : Vm) (B : Pt), s.WarmedH vm₁ ∧ Stand p l e R s m args below meth c B.U B.locs B.cells B.slots ∧ Post ⟨T.setVm vm₁, locs, cells, slots⟩ (Value.ref b :: argsL).toArray v B ∧
      ∀ target, Steps p.tables e below (B.U.setTop { g with pc := g.pc + 3, stack := v.toList ++ rest }) target → Steps p.tables e below (T.setTop g) target := by
  obtain ⟨mk, methM, hnamed, hmethM, hstM, habM⟩ := Cond.instanceMethod_spec hinst
  obtain ⟨m8, methM', cM, hn8, hmethM', -, -, -, -, -, -, hsigM⟩ := Cond.codeWith_spec hcode
  cases Option.some.inj (hn8.symm.trans hnamed)
  cases hmethM.symm.trans hmethM'
  obtain ⟨c2, r2, m2, q1, q2, q3, q4, kP, hkP, hkPi⟩ := Cond.selects_spec hsel
  cases hcls.symm.trans q1
  cases (State.methodFound?_of_named hnamed hy).symm.trans q2
  cases hnamed.symm.trans q3
  have hselP : selectMethod e.platform s.vm cellB.cls mk = .method mk := by rw [Launch.admits_selectMethod X.admits]; exact q4
  obtain ⟨vm₁, X₁, hstep₁⟩ := X.invokevirtual hexec hown hlink hnamed hmethM hstM hkP hkPi hy (a := b) (cell := cellB) hcell
    (fun z h => by rw [h] at hobj; cases hobj) hselP hmethM habM hkP hkPi (g := g) hg (argsL := argsL) (rest := rest) (hlen _ hsigM) hstack hdg
  obtain ⟨v, B, X', hpost, hsteps⟩ := hK m meth c ⟨T.setVm vm₁, locs, cells, slots⟩ { g with stack := rest } (.invokevirtual index) mk (Value.ref b :: argsL).toArray X₁ hg hsize hdg hW (X₁.named hnamed) (hpre vm₁ X₁.warmed)
  exact ⟨v, vm₁, B, X₁.warmed, X', hpost, fun target h => hstep₁ _ fun acts => by rw [doInvoke_state]; exact hsteps.trans h⟩
abbrev vx_CVW (R : Room) (s : State) (args : Array Value) (own C : String) (index : Nat) (y : MethodName) (bytes : ByteArray) (maxL : Nat) (ret : Option FieldType) (hh : List (Nat × Nat × Nat × Nat)) (ws : List Cond) (rm : Room) (mc ms n : Nat) : Prop :=
  (rm.cells = mc ∧ rm.slots = ms ∧ rm.frames + 1 ≤ R.frames ∧ 8 + (maxL + 11) + rm.locals ≤ R.locals ∧ (∀ w ∈ ws, ∀ (a' : Array Value) (U : State), s.WarmedH U.vm → w.before a' U = true) ∧ Cond.codeWith y bytes maxL ret hh ∈ ws) ∧
  (Cond.codeWith y bytes maxL ret hh).before args s = true ∧ (Cond.initialized y.cls).before args s = true ∧ (y.cls ≠ "java/lang/invoke/MethodHandle" ∧ y.cls ≠ "java/lang/invoke/VarHandle") ∧
  (∀ sig, parseMethodDescriptor y.desc = some sig → n = sig.parameters.length) ∧ (Cond.methodLink own index y).before args s = true ∧ (Cond.instanceMethod y).before args s = true ∧ (Cond.selects C y y).before args s = true
theorem vx_cwVW {own C : String} {index maxL mc ms : Nat} {y : MethodName} {bytes : ByteArray} {ret : Option FieldType} {hh : List (Nat × Nat × Nat × Nat)} {Ts ws ws' : List Cond} {rm : Room} (n : Nat) (ht : ∀ w ∈ Ts, w.before args s = true) (hT : GoodIn Ts (wsV own index C y ws)) (hw : ws = Cond.codeWith y bytes maxL ret hh :: ws') (hrc : rm.cells = mc) (hrs : rm.slots = ms)
    (hd : y.cls = C ∧ y.cls ≠ "java/lang/invoke/MethodHandle" ∧ y.cls ≠ "java/lang/invoke/VarHandle" ∧ (parseMethodDescriptor y.desc).map (fun d => d.parameters.length) = some n) (hR : rm.frames + 1 ≤ R.frames ∧ 8 + (maxL + 11) + rm.locals ≤ R.locals) :
    vx_CVW R s args own C index y bytes maxL ret hh ws rm mc ms n := by
  obtain ⟨hC, hd⟩ := hd
  subst hC
  have ok : ∀ w ∈ wsV own index y.cls y ws, w.before args s = true := fun w h => ht w (hT w h).1
  have hG : GoodIn Ts ws := fun w h => hT w (by unfold wsV; exact List.mem_append_right _ h)
  have hc : Cond.codeWith y bytes maxL ret hh ∈ ws := by rw [hw]; exact List.mem_cons_self
  refine ⟨⟨hrc, hrs, hR.1, hR.2, pay_in ht hG, hc⟩, ht _ (hG _ hc).1, ok _ (by simp [wsV]), ⟨hd.1, hd.2.1⟩, fun sig h => ?_, ok _ (by simp [wsV]), ok _ (by simp [wsV]), ok _ (by simp [wsV])⟩
  have h2 := hd.2.2
  rw [h] at h2
  exact (Option.some.inj h2).symm
theorem vx_runVW {y : MethodName} {bytes cc : ByteArray} {maxL nL mc ms n index : Nat} {ret : Option FieldType} {hh : List (Nat × Nat × Nat × Nat)} {ws : List Cond} {rm : Room} {Pc : Array Value → State → Prop} {Qc : Array Value → State → Outcome → State → Prop} {free : Addr → Prop} {Ts : List Cond} {own C : String} {b : Addr} {As rest : List Value} {g : JFrame}
    (S : CallFix p m c cc nL s args Ts own) (hM : Met l y ws rm Pc Qc mc ms free) (cw : vx_CVW R s args own C index y bytes maxL ret hh ws rm mc ms n) (hp : PreV s H C b Pc As)
    (hg : g.method = m) (hn : As.length = n) (hsize : g.locals.size = nL) (hstack : g.stack = As.reverse ++ .ref b :: rest) (hW : 2 * g.monitorRoom + (rest.map fun v => v.category).sum ≤ 8) (hdg : decode cc g.pc = .ok (.invokevirtual index, 3)) (hf : cells + mc ≤ R.cells ∧ slots + ms ≤ R.slots) :
    va_Run p l e R s m args below meth c H locs cells slots mc ms g rest (Qc (Value.ref b :: As).toArray) free := by
  obtain ⟨⟨hrc, hrs, hfr, hlo, hws, hcw⟩, hcode, hini, hy, hlen, hl, hin, hse⟩ := cw
  have hK : Back l R p e below s args y 3 8 (PreOf R mc ms Pc) (PostOf Qc mc ms free) := va_backW (hh := hh) (bytes := bytes) (maxL := maxL) (ret := ret) hM hp.1 hrc hrs hfr hlo hws hcw (fun a' U hW => word_at hW (Or.inl (by first | rfl | simp [Cond.onTables, Cond.keeps, Cond.steady])) hini)
  obtain ⟨hx, hb, hml, ho, -⟩ := S
  obtain ⟨-, ⟨cellB, hcB, hoB, hclB⟩, hPc⟩ := hp
  intro T hT X
  obtain ⟨v, vm₁, ⟨U', l2, c2, s2⟩, hW₁, X', ⟨g', mk, t, L, e1, e2, hq, h1, hL, h2, h3⟩, st⟩ := vx_callVW X hx (C := C) (hh := hh) (bytes := bytes) (maxL := maxL) (ret := ret) ho hl hin hse hcode hy hK (by rw [hT]; exact hcB) hoB hclB hg (hsize.trans hml.symm) (argsL := As) (rest := rest) (fun sig h => hn.trans (hlen sig h)) hstack hW (by rw [hb]; exact hdg)
    (fun vm₁ hW₁ => ⟨hf.1, hf.2, hPc (T.setVm vm₁) hT hW₁⟩)
  dsimp only [Pt.U, Pt.locs, Pt.cells, Pt.slots] at X' e1 e2 h1 h2 h3 st
  subst h1; subst h2; subst h3
  exact ⟨v, (T.setVm vm₁).calling g' mk (Value.ref b :: As).toArray, t, U', L, hT, X', hL, e1, e2, hq, st⟩
section
variable {y : MethodName} {bytes cc : ByteArray} {maxL nL mc ms n index : Nat} {ret : Option FieldType} {ws : List Cond} {rm : Room} {Pc : Array Value → State → Prop} {Qc : Array Value → State → Outcome → State → Prop} {XC : String → State → State → Prop} {free : Addr → Prop} {Ts : List Cond} {own C : String} {b : Addr} {As rest : List Value} {g : JFrame}
theorem vx_runVX {hh : List (Nat × Nat × Nat × Nat)} (S : CallFix p m c cc nL s args Ts own) (hM : vx_Met l y ws rm Pc Qc XC mc ms free) (cw : vx_CVW R s args own C index y bytes maxL ret hh ws rm mc ms n) (hp : PreV s H C b Pc As)
    (hg : g.method = m) (hn : As.length = n) (hsize : g.locals.size = nL) (hstack : g.stack = As.reverse ++ .ref b :: rest) (hW : 2 * g.monitorRoom + (rest.map fun v => v.category).sum ≤ 8) (hdg : decode cc g.pc = .ok (.invokevirtual index, 3)) (hf : cells + mc ≤ R.cells ∧ slots + ms ≤ R.slots) :
    vx_Run p l e R s m args below meth c H locs cells slots mc ms g rest (Qc (Value.ref b :: As).toArray) XC free := by
  obtain ⟨⟨hrc, hrs, hfr, hlo, hws, hcw⟩, hcode, hini, hy, hlen, hl, hin, hse⟩ := cw
  have hK : vx_Back l R p e below s args y 3 8 (PreOf R mc ms Pc) (PostOf Qc mc ms free) (vx_Post XC mc ms free) := vx_backW (hh := hh) (bytes := bytes) (maxL := maxL) (ret := ret) hM hp.1 hrc hrs hfr hlo hws hcw (fun a' U hW => word_at hW (Or.inl (by first | rfl | simp [Cond.onTables, Cond.keeps, Cond.steady])) hini)
  obtain ⟨hx, hb, hml, ho, -⟩ := S
  obtain ⟨-, ⟨cellB, hcB, hoB, hclB⟩, hPc⟩ := hp
  intro T hT X
  rcases vx_callVX X hx (C := C) (hh := hh) (bytes := bytes) (maxL := maxL) (ret := ret) ho hl hin hse hcode hy hK (by rw [hT]; exact hcB) hoB hclB hg (hsize.trans hml.symm) (argsL := As) (rest := rest) (fun sig h => hn.trans (hlen sig h)) hstack hW (by rw [hb]; exact hdg)
    (fun vm₁ hW₁ => ⟨hf.1, hf.2, hPc (T.setVm vm₁) hT hW₁⟩) with ⟨v, vm₁, ⟨U', l2, c2, s2⟩, hW₁, X', ⟨g', mk, t, L, e1, e2, hq, h1, hL, h2, h3⟩, st⟩ | ⟨q, vm₁, ⟨U', l2, c2, s2⟩, hW₁, X', ⟨g', mk, t, L, E, ce, e1, e2, hq, hce, hcv, hcl, h1, hL, h2, h3⟩, st⟩
  · dsimp only [Pt.U, Pt.locs, Pt.cells, Pt.slots] at X' e1 e2 h1 h2 h3 st
    subst h1; subst h2; subst h3
    exact Or.inl ⟨v, (T.setVm vm₁).calling g' mk (Value.ref b :: As).toArray, t, U', L, hT, X', hL, e1, e2, hq, st⟩
  · dsimp only [Pt.U, Pt.locs, Pt.cells, Pt.slots] at X' e1 e2 h1 h2 h3 st hcl
    subst h1; subst h2; subst h3
    exact Or.inr ⟨q, (T.setVm vm₁).calling g' mk (Value.ref b :: As).toArray, t, U', L, E, ce, hT, X', hL, e1, e2, hq, hce, hcv, vx_cls hW₁ hcl, st⟩
theorem vx_runSX {hh : List (Nat × Nat × Nat × Nat)} (S : CallFix p m c cc nL s args Ts own) (hM : vx_Met l y ws rm Pc Qc XC mc ms free) (cw : vx_CSW R s args own index y bytes maxL ret hh ws rm mc ms n) (hp : PreS s H Pc As)
    (hg : g.method = m) (hn : As.length = n) (hsize : g.locals.size = nL) (hstack : g.stack = As.reverse ++ rest) (hW : 2 * g.monitorRoom + (rest.map fun v => v.category).sum ≤ 8) (hdg : decode cc g.pc = .ok (.invokestatic index, 3)) (hf : cells + mc ≤ R.cells ∧ slots + ms ≤ R.slots) :
    vx_Run p l e R s m args below meth c H locs cells slots mc ms g rest (Qc As.toArray) XC free := by
  obtain ⟨⟨hrc, hrs, hfr, hlo, hws, hcw⟩, hcode, hini, hy, hlen, hl, hstt⟩ := cw
  have hK : vx_Back l R p e below s args y 3 8 (PreOf R mc ms Pc) (PostOf Qc mc ms free) (vx_Post XC mc ms free) := vx_backW (hh := hh) (bytes := bytes) (maxL := maxL) (ret := ret) hM hp.1 hrc hrs hfr hlo hws hcw (fun a' U hW => word_at hW (Or.inl (by first | rfl | simp [Cond.onTables, Cond.keeps, Cond.steady])) hini)
  obtain ⟨hx, hb, hml, ho, -⟩ := S
  intro T hT X
  rcases vx_callSX X hx (hh := hh) (bytes := bytes) (maxL := maxL) (ret := ret) ho hl hstt hini hcode hy hK hg (hsize.trans hml.symm) (argsL := As) (rest := rest) (fun sig h => hn.trans (hlen sig h)) hstack hW (by rw [hb]; exact hdg)
    (fun vm₁ hW₁ => ⟨hf.1, hf.2, hp.2 (T.setVm vm₁) hT hW₁⟩) with ⟨v, vm₁, ⟨U', l2, c2, s2⟩, hW₁, X', ⟨g', mk, t, L, e1, e2, hq, h1, hL, h2, h3⟩, st⟩ | ⟨q, vm₁, ⟨U', l2, c2, s2⟩, hW₁, X', ⟨g', mk, t, L, E, ce, e1, e2, hq, hce, hcv, hcl, h1, hL, h2, h3⟩, st⟩
  · dsimp only [Pt.U, Pt.locs, Pt.cells, Pt.slots] at X' e1 e2 h1 h2 h3 st
    subst h1; subst h2; subst h3
    exact Or.inl ⟨v, (T.setVm vm₁).calling g' mk As.toArray, t, U', L, hT, X', hL, e1, e2, hq, st⟩
  · dsimp only [Pt.U, Pt.locs, Pt.cells, Pt.slots] at X' e1 e2 h1 h2 h3 st hcl
    subst h1; subst h2; subst h3
    exact Or.inr ⟨q, (T.setVm vm₁).calling g' mk As.toArray, t, U', L, E, ce, hT, X', hL, e1, e2, hq, hce, hcv, vx_cls hW₁ hcl, st⟩
end
end VXH
theorem vx_ofWH {l : Launch} {y : MethodName} {ws ws' : List Cond} {rm : Room} {Pc : Array Value → State → Prop} {Qc : Array Value → State → Outcome → State → Prop} {XC : String → State → State → Prop} {mc ms : Nat} {free : Addr → Prop} {cc : ByteArray} {maxL : Nat} {ret : Option FieldType} {hh : List (Nat × Nat × Nat × Nat)}
    (hy : plainName y.cls = true) (hw : ws = Cond.codeWith y cc maxL ret hh :: ws')
    (body : ∀ p e s m args below meth c s₁, BodyLoose p l y (headSpec ws rm) cc maxL ret e s m args below meth c s₁ → c.maxLocals = maxL → Pc args s →
      W p l e (headSpec ws rm).room s m args below meth c s.heap [] 0 0 (vx_MQ below Qc XC args s mc ms free) (entryFrame m args maxL)) : vx_Met l y ws rm Pc Qc XC mc ms free := by
  refine MetFree.of_bodyS (code := cc) (maxLocals := maxL) (ret := ret) hy ?_ ?_
  · intro args s m h hn
    obtain ⟨m9, meth, c, hn9, h1, h2, h3, h4, -, h5, h6, -⟩ := Cond.codeWith_spec (atoms_spec (ws := ws) h _ (by rw [hw]; exact List.mem_cons_self))
    cases hn.symm.trans hn9
    exact ⟨meth, c, h1, h2, h3, h4, h5, h6⟩
  · intro p e s m args below meth c s₁ B hml hP _
    have hh0 : s₁.heap = s.heap := by rw [B.state]; rfl
    obtain ⟨t, a1, o, b1, b2, b3⟩ := body p e s m args below meth c s₁ B hml hP s₁ hh0 (Stand.of_body B)
    exact ⟨t, o, a1, b1, b2, b3⟩
/-! ===== END ===== -/

def RX0 : String := "AsteroTone$Claim"
def TX0 : u_T := fun k => match k with
  | 0 => ("AsteroTone$Claim", "kind", "I", true)
  | 1 => ("AsteroTone$Claim", "star", "I", true)
  | 2 => ("AsteroTone$Claim", "line", "I", true)
  | 3 => ("AsteroTone$Claim", "filter", "I", false)
  | 4 => ("AsteroTone$Claim", "outs", "I", false)
  | 5 => ("AsteroTone$Claim", "power", "J", false)
  | 6 => ("AsteroTone$Claim", "age", "I", false)
  | 7 => ("AsteroTone$Claim", "cited", "J", false)
  | _ => ("AsteroTone$Claim", "stands", "Z", false)
def tyX0 : Nat → FieldType := fun k => match k with
  | 0 => .int
  | 1 => .int
  | 2 => .int
  | 3 => .int
  | 4 => .int
  | 5 => .long
  | 6 => .int
  | 7 => .long
  | _ => .boolean
abbrev wsX00 : List Cond := u_ws RX0 TX0 9
theorem nmX0 : ∀ a, a < 9 → ∀ b, b < 9 → a ≠ b → (TX0 a).2.1 ≠ (TX0 b).2.1 := by decide +kernel
theorem tyX0_ok : ∀ k, k < 9 → parseFieldDescriptor (TX0 k).2.2.1 = some (tyX0 k) := by decide +kernel
abbrev cX0_init : ByteArray := prog_2_method_1_code
def yX0_init : MethodName := ⟨RX0, "<init>", "(III)V"⟩
def RX1 : String := "AsteroTone$Light"
def TX1 : u_T := fun k => match k with
  | 0 => ("AsteroTone$Light", "times", "[I", true)
  | 1 => ("AsteroTone$Light", "values", "[J", true)
  | 2 => ("AsteroTone$Light", "many", "I", false)
  | 3 => ("AsteroTone$Light", "cosines", "J", false)
  | _ => ("AsteroTone$Light", "sines", "J", false)
def tyX1 : Nat → FieldType := fun k => match k with
  | 0 => .array .int
  | 1 => .array .long
  | 2 => .int
  | 3 => .long
  | _ => .long
abbrev wsX10 : List Cond := u_ws RX1 TX1 5
theorem nmX1 : ∀ a, a < 5 → ∀ b, b < 5 → a ≠ b → (TX1 a).2.1 ≠ (TX1 b).2.1 := by decide +kernel
theorem tyX1_ok : ∀ k, k < 5 → parseFieldDescriptor (TX1 k).2.2.1 = some (tyX1 k) := by decide +kernel
abbrev cX1_init : ByteArray := prog_3_method_1_code
def yX1_init : MethodName := ⟨RX1, "<init>", "()V"⟩
abbrev cX1_look : ByteArray := prog_3_method_2_code
def yX1_look : MethodName := ⟨RX1, "look", "(LAsteroTone$Star;[ZII)V"⟩
abbrev cX1_gather : ByteArray := prog_3_method_3_code
def yX1_gather : MethodName := ⟨RX1, "gather", "(LAsteroTone$Star;[Z)V"⟩
abbrev cX1_flatten : ByteArray := prog_3_method_4_code
def yX1_flatten : MethodName := ⟨RX1, "flatten", "()V"⟩
abbrev cX1_lessMean : ByteArray := prog_3_method_5_code
def yX1_lessMean : MethodName := ⟨RX1, "lessMean", "()V"⟩
abbrev cX1_lessDrift : ByteArray := prog_3_method_6_code
def yX1_lessDrift : MethodName := ⟨RX1, "lessDrift", "()V"⟩
abbrev cX1_lessLine : ByteArray := prog_3_method_7_code
def yX1_lessLine : MethodName := ⟨RX1, "lessLine", "(I)V"⟩
abbrev cX1_sumUp : ByteArray := prog_3_method_8_code
def yX1_sumUp : MethodName := ⟨RX1, "sumUp", "(I)V"⟩
abbrev cX1_strength : ByteArray := prog_3_method_9_code
def yX1_strength : MethodName := ⟨RX1, "strength", "(I)J"⟩
abbrev cX1_valueAt : ByteArray := prog_3_method_10_code
def yX1_valueAt : MethodName := ⟨RX1, "valueAt", "(I)J"⟩
def RX2 : String := "AsteroTone$Star"
def TX2 : u_T := fun k => match k with
  | 0 => ("AsteroTone$Star", "thicks", "[I", true)
  | 1 => ("AsteroTone$Star", "speeds", "[I", true)
  | 2 => ("AsteroTone$Star", "spins", "[I", true)
  | 3 => ("AsteroTone$Star", "shells", "I", false)
  | 4 => ("AsteroTone$Star", "age", "I", false)
  | 5 => ("AsteroTone$Star", "crossing", "I", false)
  | 6 => ("AsteroTone$Star", "large", "I", false)
  | 7 => ("AsteroTone$Star", "small", "I", false)
  | 8 => ("AsteroTone$Star", "turn", "I", false)
  | 9 => ("AsteroTone$Star", "core", "I", false)
  | 10 => ("AsteroTone$Star", "counts", "[I", true)
  | 11 => ("AsteroTone$Star", "sites", "[I", true)
  | 12 => ("AsteroTone$Star", "outLines", "[I", true)
  | _ => ("AsteroTone$Star", "outs", "I", false)
def tyX2 : Nat → FieldType := fun k => match k with
  | 0 => .array .int
  | 1 => .array .int
  | 2 => .array .int
  | 3 => .int
  | 4 => .int
  | 5 => .int
  | 6 => .int
  | 7 => .int
  | 8 => .int
  | 9 => .int
  | 10 => .array .int
  | 11 => .array .int
  | 12 => .array .int
  | _ => .int
abbrev wsX20 : List Cond := u_ws RX2 TX2 14
theorem nmX2 : ∀ a, a < 14 → ∀ b, b < 14 → a ≠ b → (TX2 a).2.1 ≠ (TX2 b).2.1 := by decide +kernel
theorem tyX2_ok : ∀ k, k < 14 → parseFieldDescriptor (TX2 k).2.2.1 = some (tyX2 k) := by decide +kernel
abbrev cX2_init : ByteArray := prog_4_method_1_code
def yX2_init : MethodName := ⟨RX2, "<init>", "()V"⟩
abbrev cX2_addShell : ByteArray := prog_4_method_2_code
def yX2_addShell : MethodName := ⟨RX2, "addShell", "(III)V"⟩
abbrev cX2_settle : ByteArray := prog_4_method_3_code
def yX2_settle : MethodName := ⟨RX2, "settle", "(I)V"⟩
abbrev cX2_crossed : ByteArray := prog_4_method_4_code
def yX2_crossed : MethodName := ⟨RX2, "crossed", "()I"⟩
abbrev cX2_crossedByUnits : ByteArray := prog_4_method_5_code
def yX2_crossedByUnits : MethodName := ⟨RX2, "crossedByUnits", "()I"⟩
abbrev cX2_slowed : ByteArray := prog_4_method_6_code
def yX2_slowed : MethodName := ⟨RX2, "slowed", "()I"⟩
abbrev cX2_turned : ByteArray := prog_4_method_7_code
def yX2_turned : MethodName := ⟨RX2, "turned", "()I"⟩
abbrev cX2_ring : ByteArray := prog_4_method_8_code
def yX2_ring : MethodName := ⟨RX2, "ring", "(III)I"⟩
abbrev cX2_ringsNear : ByteArray := prog_4_method_9_code
def yX2_ringsNear : MethodName := ⟨RX2, "ringsNear", "(I)Z"⟩
def RX3 : String := "AsteroTone"
def TX3 : u_T := fun k => match k with
  | 0 => ("AsteroTone", "stars", "[LAsteroTone$Star;", true)
  | 1 => ("AsteroTone", "starCount", "I", false)
  | 2 => ("AsteroTone", "built", "LAsteroTone$Star;", false)
  | 3 => ("AsteroTone", "masked", "[Z", true)
  | 4 => ("AsteroTone", "least", "I", false)
  | 5 => ("AsteroTone", "claims", "[LAsteroTone$Claim;", true)
  | 6 => ("AsteroTone", "claimCount", "I", false)
  | _ => ("AsteroTone", "light", "LAsteroTone$Light;", true)
def tyX3 : Nat → FieldType := fun k => match k with
  | 0 => .array (.object "AsteroTone$Star")
  | 1 => .int
  | 2 => .object "AsteroTone$Star"
  | 3 => .array .boolean
  | 4 => .int
  | 5 => .array (.object "AsteroTone$Claim")
  | 6 => .int
  | _ => .object "AsteroTone$Light"
abbrev wsX30 : List Cond := u_ws RX3 TX3 8
theorem nmX3 : ∀ a, a < 8 → ∀ b, b < 8 → a ≠ b → (TX3 a).2.1 ≠ (TX3 b).2.1 := by decide +kernel
theorem tyX3_ok : ∀ k, k < 8 → parseFieldDescriptor (TX3 k).2.2.1 = some (tyX3 k) := by decide +kernel
abbrev cX3_init : ByteArray := prog_1_method_1_code
def yX3_init : MethodName := ⟨RX3, "<init>", "()V"⟩
abbrev cX3_shell : ByteArray := prog_1_method_2_code
def yX3_shell : MethodName := ⟨RX3, "shell", "(III)I"⟩
abbrev cX3_star : ByteArray := prog_1_method_3_code
def yX3_star : MethodName := ⟨RX3, "star", "(I)I"⟩
abbrev cX3_frame : ByteArray := prog_1_method_4_code
def yX3_frame : MethodName := ⟨RX3, "frame", "(IIII)I"⟩
abbrev cX3_drop : ByteArray := prog_1_method_5_code
def yX3_drop : MethodName := ⟨RX3, "drop", "(II)I"⟩
abbrev cX3_mask : ByteArray := prog_1_method_6_code
def yX3_mask : MethodName := ⟨RX3, "mask", "(IZ)Z"⟩
abbrev cX3_threshold : ByteArray := prog_1_method_7_code
def yX3_threshold : MethodName := ⟨RX3, "threshold", "(I)I"⟩
abbrev cX3_takeOut : ByteArray := prog_1_method_8_code
def yX3_takeOut : MethodName := ⟨RX3, "takeOut", "(II)I"⟩
abbrev cX3_putBack : ByteArray := prog_1_method_9_code
def yX3_putBack : MethodName := ⟨RX3, "putBack", "(I)I"⟩
abbrev cX3_claimTone : ByteArray := prog_1_method_10_code
def yX3_claimTone : MethodName := ⟨RX3, "claimTone", "(III)I"⟩
abbrev cX3_claimAge : ByteArray := prog_1_method_11_code
def yX3_claimAge : MethodName := ⟨RX3, "claimAge", "(II)I"⟩
abbrev cX3_claimPlanet : ByteArray := prog_1_method_12_code
def yX3_claimPlanet : MethodName := ⟨RX3, "claimPlanet", "(I)I"⟩
abbrev cX3_cite : ByteArray := prog_1_method_13_code
def yX3_cite : MethodName := ⟨RX3, "cite", "(II)I"⟩
abbrev cX3_withdraw : ByteArray := prog_1_method_14_code
def yX3_withdraw : MethodName := ⟨RX3, "withdraw", "(I)I"⟩
abbrev cX3_audit : ByteArray := prog_1_method_15_code
def yX3_audit : MethodName := ⟨RX3, "audit", "()I"⟩
abbrev cX3_ofStar : ByteArray := prog_1_method_16_code
def yX3_ofStar : MethodName := ⟨RX3, "ofStar", "(II)I"⟩
abbrev cX3_crossingAnew : ByteArray := prog_1_method_17_code
def yX3_crossingAnew : MethodName := ⟨RX3, "crossingAnew", "(I)I"⟩
abbrev cX3_tone : ByteArray := prog_1_method_18_code
def yX3_tone : MethodName := ⟨RX3, "tone", "(IIII)I"⟩
abbrev cX3_frames : ByteArray := prog_1_method_19_code
def yX3_frames : MethodName := ⟨RX3, "frames", "(I)I"⟩
abbrev cX3_value : ByteArray := prog_1_method_20_code
def yX3_value : MethodName := ⟨RX3, "value", "(III)I"⟩
abbrev cX3_power : ByteArray := prog_1_method_21_code
def yX3_power : MethodName := ⟨RX3, "power", "(III)J"⟩
abbrev cX3_window : ByteArray := prog_1_method_22_code
def yX3_window : MethodName := ⟨RX3, "window", "(II)J"⟩
abbrev cX3_isPeak : ByteArray := prog_1_method_23_code
def yX3_isPeak : MethodName := ⟨RX3, "isPeak", "(III)Z"⟩
abbrev cX3_isSeenThrough : ByteArray := prog_1_method_24_code
def yX3_isSeenThrough : MethodName := ⟨RX3, "isSeenThrough", "(IIII)Z"⟩
abbrev cX3_ofClaim : ByteArray := prog_1_method_25_code
def yX3_ofClaim : MethodName := ⟨RX3, "ofClaim", "(II)I"⟩
abbrev cX3_isSound : ByteArray := prog_1_method_26_code
def yX3_isSound : MethodName := ⟨RX3, "isSound", "(I)Z"⟩
abbrev cX3_isOutside : ByteArray := prog_1_method_27_code
def yX3_isOutside : MethodName := ⟨RX3, "isOutside", "(III)Z"⟩
abbrev cX3_starAt : ByteArray := prog_1_method_28_code
def yX3_starAt : MethodName := ⟨RX3, "starAt", "(I)LAsteroTone$Star;"⟩
abbrev cX3_claimAt : ByteArray := prog_1_method_29_code
def yX3_claimAt : MethodName := ⟨RX3, "claimAt", "(I)LAsteroTone$Claim;"⟩
abbrev cX3_lookForSite : ByteArray := prog_1_method_30_code
def yX3_lookForSite : MethodName := ⟨RX3, "lookForSite", "(I)V"⟩
abbrev cX3_lookForFilter : ByteArray := prog_1_method_31_code
def yX3_lookForFilter : MethodName := ⟨RX3, "lookForFilter", "(I)V"⟩
abbrev cX3_lookAtTime : ByteArray := prog_1_method_32_code
def yX3_lookAtTime : MethodName := ⟨RX3, "lookAtTime", "(I)V"⟩
abbrev cX3_lookAtLine : ByteArray := prog_1_method_33_code
def yX3_lookAtLine : MethodName := ⟨RX3, "lookAtLine", "(I)V"⟩
abbrev cX3_lookForRoom : ByteArray := prog_1_method_34_code
def yX3_lookForRoom : MethodName := ⟨RX3, "lookForRoom", "()V"⟩
abbrev cX3_cosine : ByteArray := prog_1_method_35_code
def yX3_cosine : MethodName := ⟨RX3, "cosine", "(I)I"⟩
abbrev cX3_sine : ByteArray := prog_1_method_36_code
def yX3_sine : MethodName := ⟨RX3, "sine", "(I)I"⟩
abbrev cX3_bit : ByteArray := prog_1_method_37_code
def yX3_bit : MethodName := ⟨RX3, "bit", "(I)J"⟩
abbrev cX3_standsOut : ByteArray := prog_1_method_38_code
def yX3_standsOut : MethodName := ⟨RX3, "standsOut", "(LAsteroTone$Star;II)Z"⟩
abbrev cX3_enter : ByteArray := prog_1_method_39_code
def yX3_enter : MethodName := ⟨RX3, "enter", "(LAsteroTone$Claim;)I"⟩
abbrev cX3_ageOfNearest : ByteArray := prog_1_method_40_code
def yX3_ageOfNearest : MethodName := ⟨RX3, "ageOfNearest", "(I)I"⟩
abbrev cX3_withdrawAll : ByteArray := prog_1_method_41_code
def yX3_withdrawAll : MethodName := ⟨RX3, "withdrawAll", "(J)I"⟩
abbrev cX3_holds : ByteArray := prog_1_method_42_code
def yX3_holds : MethodName := ⟨RX3, "holds", "(LAsteroTone$Claim;)Z"⟩
def RX4 : String := "AsteroToneModel"
def TX4 : u_T := fun k => match k with
  | 0 => ("AsteroToneModel", "shells", "I", false)
  | 1 => ("AsteroToneModel", "thick", "[I", true)
  | 2 => ("AsteroToneModel", "speed", "[I", true)
  | 3 => ("AsteroToneModel", "spin", "[I", true)
  | 4 => ("AsteroToneModel", "stars", "I", false)
  | 5 => ("AsteroToneModel", "age", "[I", true)
  | 6 => ("AsteroToneModel", "crossing", "[I", true)
  | 7 => ("AsteroToneModel", "large", "[I", true)
  | 8 => ("AsteroToneModel", "small", "[I", true)
  | 9 => ("AsteroToneModel", "turns", "[I", true)
  | 10 => ("AsteroToneModel", "core", "[I", true)
  | 11 => ("AsteroToneModel", "count", "[I", true)
  | 12 => ("AsteroToneModel", "site", "[I", true)
  | 13 => ("AsteroToneModel", "isMasked", "[Z", true)
  | 14 => ("AsteroToneModel", "least", "I", false)
  | 15 => ("AsteroToneModel", "outs", "[I", true)
  | 16 => ("AsteroToneModel", "out", "[I", true)
  | 17 => ("AsteroToneModel", "table", "[I", true)
  | 18 => ("AsteroToneModel", "laid", "I", false)
  | 19 => ("AsteroToneModel", "value", "[J", true)
  | 20 => ("AsteroToneModel", "isThere", "[Z", true)
  | 21 => ("AsteroToneModel", "claims", "I", false)
  | 22 => ("AsteroToneModel", "kind", "[I", true)
  | 23 => ("AsteroToneModel", "of", "[I", true)
  | 24 => ("AsteroToneModel", "line", "[I", true)
  | 25 => ("AsteroToneModel", "filter", "[I", true)
  | 26 => ("AsteroToneModel", "deep", "[I", true)
  | 27 => ("AsteroToneModel", "power", "[J", true)
  | 28 => ("AsteroToneModel", "aged", "[I", true)
  | 29 => ("AsteroToneModel", "cites", "[J", true)
  | 30 => ("AsteroToneModel", "stands", "[Z", true)
  | _ => ("AsteroToneModel", "thrown", "I", false)
def tyX4 : Nat → FieldType := fun k => match k with
  | 0 => .int
  | 1 => .array .int
  | 2 => .array .int
  | 3 => .array .int
  | 4 => .int
  | 5 => .array .int
  | 6 => .array .int
  | 7 => .array .int
  | 8 => .array .int
  | 9 => .array .int
  | 10 => .array .int
  | 11 => .array .int
  | 12 => .array .int
  | 13 => .array .boolean
  | 14 => .int
  | 15 => .array .int
  | 16 => .array .int
  | 17 => .array .int
  | 18 => .int
  | 19 => .array .long
  | 20 => .array .boolean
  | 21 => .int
  | 22 => .array .int
  | 23 => .array .int
  | 24 => .array .int
  | 25 => .array .int
  | 26 => .array .int
  | 27 => .array .long
  | 28 => .array .int
  | 29 => .array .long
  | 30 => .array .boolean
  | _ => .int
abbrev wsX40 : List Cond := u_ws RX4 TX4 32
theorem nmX4 : ∀ a, a < 32 → ∀ b, b < 32 → a ≠ b → (TX4 a).2.1 ≠ (TX4 b).2.1 := by decide +kernel
theorem tyX4_ok : ∀ k, k < 32 → parseFieldDescriptor (TX4 k).2.2.1 = some (tyX4 k) := by decide +kernel
abbrev cX4_init : ByteArray := prog_6_method_1_code
def yX4_init : MethodName := ⟨RX4, "<init>", "()V"⟩
abbrev cX4_laysRow : ByteArray := prog_6_method_2_code
def yX4_laysRow : MethodName := ⟨RX4, "laysRow", "(IIIII)V"⟩
abbrev cX4_thrown : ByteArray := prog_6_method_3_code
def yX4_thrown : MethodName := ⟨RX4, "thrown", "()I"⟩
abbrev cX4_can : ByteArray := prog_6_method_4_code
def yX4_can : MethodName := ⟨RX4, "can", "(I)Z"⟩
abbrev cX4_isIn : ByteArray := prog_6_method_5_code
def yX4_isIn : MethodName := ⟨RX4, "isIn", "(III)Z"⟩
abbrev cX4_isStar : ByteArray := prog_6_method_6_code
def yX4_isStar : MethodName := ⟨RX4, "isStar", "(I)Z"⟩
abbrev cX4_isFilter : ByteArray := prog_6_method_7_code
def yX4_isFilter : MethodName := ⟨RX4, "isFilter", "(I)Z"⟩
abbrev cX4_isTime : ByteArray := prog_6_method_8_code
def yX4_isTime : MethodName := ⟨RX4, "isTime", "(I)Z"⟩
abbrev cX4_isClaim : ByteArray := prog_6_method_9_code
def yX4_isClaim : MethodName := ⟨RX4, "isClaim", "(I)Z"⟩
abbrev cX4_size : ByteArray := prog_6_method_10_code
def yX4_size : MethodName := ⟨RX4, "size", "(J)J"⟩
abbrev cX4_down : ByteArray := prog_6_method_11_code
def yX4_down : MethodName := ⟨RX4, "down", "(JJ)J"⟩
abbrev cX4_shell : ByteArray := prog_6_method_12_code
def yX4_shell : MethodName := ⟨RX4, "shell", "(III)I"⟩
abbrev cX4_star : ByteArray := prog_6_method_13_code
def yX4_star : MethodName := ⟨RX4, "star", "(I)I"⟩
abbrev cX4_toneOf : ByteArray := prog_6_method_14_code
def yX4_toneOf : MethodName := ⟨RX4, "toneOf", "(IIII)I"⟩
abbrev cX4_ofStar : ByteArray := prog_6_method_15_code
def yX4_ofStar : MethodName := ⟨RX4, "ofStar", "(II)I"⟩
abbrev cX4_crossingAnew : ByteArray := prog_6_method_16_code
def yX4_crossingAnew : MethodName := ⟨RX4, "crossingAnew", "(I)I"⟩
abbrev cX4_tone : ByteArray := prog_6_method_17_code
def yX4_tone : MethodName := ⟨RX4, "tone", "(IIII)I"⟩
abbrev cX4_frame : ByteArray := prog_6_method_18_code
def yX4_frame : MethodName := ⟨RX4, "frame", "(IIII)I"⟩
abbrev cX4_drop : ByteArray := prog_6_method_19_code
def yX4_drop : MethodName := ⟨RX4, "drop", "(II)I"⟩
abbrev cX4_mask : ByteArray := prog_6_method_20_code
def yX4_mask : MethodName := ⟨RX4, "mask", "(IZ)Z"⟩
abbrev cX4_threshold : ByteArray := prog_6_method_21_code
def yX4_threshold : MethodName := ⟨RX4, "threshold", "(I)I"⟩
abbrev cX4_takeOut : ByteArray := prog_6_method_22_code
def yX4_takeOut : MethodName := ⟨RX4, "takeOut", "(II)I"⟩
abbrev cX4_putBack : ByteArray := prog_6_method_23_code
def yX4_putBack : MethodName := ⟨RX4, "putBack", "(I)I"⟩
abbrev cX4_cosine : ByteArray := prog_6_method_24_code
def yX4_cosine : MethodName := ⟨RX4, "cosine", "(I)J"⟩
abbrev cX4_sine : ByteArray := prog_6_method_25_code
def yX4_sine : MethodName := ⟨RX4, "sine", "(I)J"⟩
abbrev cX4_sum : ByteArray := prog_6_method_26_code
def yX4_sum : MethodName := ⟨RX4, "sum", "(IZ)J"⟩
abbrev cX4_powerOf : ByteArray := prog_6_method_27_code
def yX4_powerOf : MethodName := ⟨RX4, "powerOf", "(I)J"⟩
abbrev cX4_lays : ByteArray := prog_6_method_28_code
def yX4_lays : MethodName := ⟨RX4, "lays", "(IZ)V"⟩
abbrev cX4_filters : ByteArray := prog_6_method_29_code
def yX4_filters : MethodName := ⟨RX4, "filters", "(I)V"⟩
abbrev cX4_takes : ByteArray := prog_6_method_30_code
def yX4_takes : MethodName := ⟨RX4, "takes", "(I)V"⟩
abbrev cX4_laysAll : ByteArray := prog_6_method_31_code
def yX4_laysAll : MethodName := ⟨RX4, "laysAll", "(III)V"⟩
abbrev cX4_frames : ByteArray := prog_6_method_32_code
def yX4_frames : MethodName := ⟨RX4, "frames", "(I)I"⟩
abbrev cX4_value : ByteArray := prog_6_method_33_code
def yX4_value : MethodName := ⟨RX4, "value", "(III)I"⟩
abbrev cX4_isLine : ByteArray := prog_6_method_34_code
def yX4_isLine : MethodName := ⟨RX4, "isLine", "(I)Z"⟩
abbrev cX4_power : ByteArray := prog_6_method_35_code
def yX4_power : MethodName := ⟨RX4, "power", "(III)J"⟩
abbrev cX4_windowOf : ByteArray := prog_6_method_36_code
def yX4_windowOf : MethodName := ⟨RX4, "windowOf", "(II)J"⟩
abbrev cX4_window : ByteArray := prog_6_method_37_code
def yX4_window : MethodName := ⟨RX4, "window", "(II)J"⟩
abbrev cX4_peaks : ByteArray := prog_6_method_38_code
def yX4_peaks : MethodName := ⟨RX4, "peaks", "(III)Z"⟩
abbrev cX4_isPeak : ByteArray := prog_6_method_39_code
def yX4_isPeak : MethodName := ⟨RX4, "isPeak", "(III)Z"⟩
abbrev cX4_seesThrough : ByteArray := prog_6_method_40_code
def yX4_seesThrough : MethodName := ⟨RX4, "seesThrough", "(IIII)Z"⟩
abbrev cX4_isSeenThrough : ByteArray := prog_6_method_41_code
def yX4_isSeenThrough : MethodName := ⟨RX4, "isSeenThrough", "(IIII)Z"⟩
abbrev cX4_makes : ByteArray := prog_6_method_42_code
def yX4_makes : MethodName := ⟨RX4, "makes", "(III)I"⟩
abbrev cX4_claimTone : ByteArray := prog_6_method_43_code
def yX4_claimTone : MethodName := ⟨RX4, "claimTone", "(III)I"⟩
abbrev cX4_ageBy : ByteArray := prog_6_method_44_code
def yX4_ageBy : MethodName := ⟨RX4, "ageBy", "(I)I"⟩
abbrev cX4_claimAge : ByteArray := prog_6_method_45_code
def yX4_claimAge : MethodName := ⟨RX4, "claimAge", "(II)I"⟩
abbrev cX4_claimPlanet : ByteArray := prog_6_method_46_code
def yX4_claimPlanet : MethodName := ⟨RX4, "claimPlanet", "(I)I"⟩
abbrev cX4_citesOf : ByteArray := prog_6_method_47_code
def yX4_citesOf : MethodName := ⟨RX4, "citesOf", "(I)I"⟩
abbrev cX4_cite : ByteArray := prog_6_method_48_code
def yX4_cite : MethodName := ⟨RX4, "cite", "(II)I"⟩
abbrev cX4_follows : ByteArray := prog_6_method_49_code
def yX4_follows : MethodName := ⟨RX4, "follows", "()I"⟩
abbrev cX4_withdraw : ByteArray := prog_6_method_50_code
def yX4_withdraw : MethodName := ⟨RX4, "withdraw", "(I)I"⟩
abbrev cX4_replays : ByteArray := prog_6_method_51_code
def yX4_replays : MethodName := ⟨RX4, "replays", "(I)Z"⟩
abbrev cX4_isTone : ByteArray := prog_6_method_52_code
def yX4_isTone : MethodName := ⟨RX4, "isTone", "(II)Z"⟩
abbrev cX4_sound : ByteArray := prog_6_method_53_code
def yX4_sound : MethodName := ⟨RX4, "sound", "(I)Z"⟩
abbrev cX4_audit : ByteArray := prog_6_method_54_code
def yX4_audit : MethodName := ⟨RX4, "audit", "()I"⟩
abbrev cX4_ofClaim : ByteArray := prog_6_method_55_code
def yX4_ofClaim : MethodName := ⟨RX4, "ofClaim", "(II)I"⟩
abbrev cX4_isSound : ByteArray := prog_6_method_56_code
def yX4_isSound : MethodName := ⟨RX4, "isSound", "(I)Z"⟩
def RJx145de : String := "java/io/Serializable"
def TJx145de : u_T := fun k => match k with
  | _ => ("", "", "", false)
def tyJx145de : Nat → FieldType := fun k => match k with
  | _ => .int
abbrev wsJx145de0 : List Cond := u_ws RJx145de TJx145de 0
theorem nmJx145de : ∀ a, a < 0 → ∀ b, b < 0 → a ≠ b → (TJx145de a).2.1 ≠ (TJx145de b).2.1 := by decide +kernel
theorem tyJx145de_ok : ∀ k, k < 0 → parseFieldDescriptor (TJx145de k).2.2.1 = some (tyJx145de k) := by decide +kernel
def RJ13 : String := "java/lang/Long"
def TJ13 : u_T := fun k => match k with
  | _ => ("", "", "", false)
def tyJ13 : Nat → FieldType := fun k => match k with
  | _ => .int
abbrev wsJ130 : List Cond := u_ws RJ13 TJ13 0
theorem nmJ13 : ∀ a, a < 0 → ∀ b, b < 0 → a ≠ b → (TJ13 a).2.1 ≠ (TJ13 b).2.1 := by decide +kernel
theorem tyJ13_ok : ∀ k, k < 0 → parseFieldDescriptor (TJ13 k).2.2.1 = some (tyJ13 k) := by decide +kernel
abbrev cJ13_bitCount_95d88 : ByteArray := prog_11_method_50_code
def yJ13_bitCount_95d88 : MethodName := ⟨RJ13, "bitCount", "(J)I"⟩
def RJ9 : String := "java/lang/Math"
def TJ9 : u_T := fun k => match k with
  | _ => ("", "", "", false)
def tyJ9 : Nat → FieldType := fun k => match k with
  | _ => .int
abbrev wsJ90 : List Cond := u_ws RJ9 TJ9 0
theorem nmJ9 : ∀ a, a < 0 → ∀ b, b < 0 → a ≠ b → (TJ9 a).2.1 ≠ (TJ9 b).2.1 := by decide +kernel
theorem tyJ9_ok : ∀ k, k < 0 → parseFieldDescriptor (TJ9 k).2.2.1 = some (tyJ9 k) := by decide +kernel
abbrev cJ9_floorDiv_7cf53 : ByteArray := prog_12_method_47_code
def yJ9_floorDiv_7cf53 : MethodName := ⟨RJ9, "floorDiv", "(II)I"⟩
abbrev cJ9_floorDiv_f86c9 : ByteArray := prog_12_method_49_code
def yJ9_floorDiv_f86c9 : MethodName := ⟨RJ9, "floorDiv", "(JJ)J"⟩
abbrev cJ9_abs_0f7a4 : ByteArray := prog_12_method_59_code
def yJ9_abs_0f7a4 : MethodName := ⟨RJ9, "abs", "(I)I"⟩
abbrev cJ9_max_7cf53 : ByteArray := prog_12_method_65_code
def yJ9_max_7cf53 : MethodName := ⟨RJ9, "max", "(II)I"⟩
abbrev cJ9_min_7cf53 : ByteArray := prog_12_method_69_code
def yJ9_min_7cf53 : MethodName := ⟨RJ9, "min", "(II)I"⟩
def RJ0 : String := "java/lang/String"
def TJ0 : u_T := fun k => match k with
  | _ => ("", "", "", false)
def tyJ0 : Nat → FieldType := fun k => match k with
  | _ => .int
abbrev wsJ00 : List Cond := u_ws RJ0 TJ0 0
theorem nmJ0 : ∀ a, a < 0 → ∀ b, b < 0 → a ≠ b → (TJ0 a).2.1 ≠ (TJ0 b).2.1 := by decide +kernel
theorem tyJ0_ok : ∀ k, k < 0 → parseFieldDescriptor (TJ0 k).2.2.1 = some (tyJ0 k) := by decide +kernel
def RJ7 : String := "java/util/Arrays"
def TJ7 : u_T := fun k => match k with
  | _ => ("", "", "", false)
def tyJ7 : Nat → FieldType := fun k => match k with
  | _ => .int
abbrev wsJ70 : List Cond := u_ws RJ7 TJ7 0
theorem nmJ7 : ∀ a, a < 0 → ∀ b, b < 0 → a ≠ b → (TJ7 a).2.1 ≠ (TJ7 b).2.1 := by decide +kernel
theorem tyJ7_ok : ∀ k, k < 0 → parseFieldDescriptor (TJ7 k).2.2.1 = some (tyJ7 k) := by decide +kernel
abbrev cJ7_fill_d0a16 : ByteArray := prog_16_method_101_code
def yJ7_fill_d0a16 : MethodName := ⟨RJ7, "fill", "([JJ)V"⟩
abbrev cJ7_fill_53178 : ByteArray := prog_16_method_103_code
def yJ7_fill_53178 : MethodName := ⟨RJ7, "fill", "([II)V"⟩
def RL : String := "AsteroToneLaw"
abbrev cL_shell : ByteArray := method_3_code
def yL_shell : MethodName := ⟨RL, "shell", "(LAsteroTone;III[J)I"⟩
abbrev cL_star : ByteArray := method_4_code
def yL_star : MethodName := ⟨RL, "star", "(LAsteroTone;I[J)I"⟩
abbrev cL_frame : ByteArray := method_5_code
def yL_frame : MethodName := ⟨RL, "frame", "(LAsteroTone;IIII[J)I"⟩
abbrev cL_drop : ByteArray := method_6_code
def yL_drop : MethodName := ⟨RL, "drop", "(LAsteroTone;II[J)I"⟩
abbrev cL_mask : ByteArray := method_7_code
def yL_mask : MethodName := ⟨RL, "mask", "(LAsteroTone;IZ[J)I"⟩
abbrev cL_threshold : ByteArray := method_8_code
def yL_threshold : MethodName := ⟨RL, "threshold", "(LAsteroTone;I[J)I"⟩
abbrev cL_takeOut : ByteArray := method_9_code
def yL_takeOut : MethodName := ⟨RL, "takeOut", "(LAsteroTone;II[J)I"⟩
abbrev cL_putBack : ByteArray := method_10_code
def yL_putBack : MethodName := ⟨RL, "putBack", "(LAsteroTone;I[J)I"⟩
abbrev cL_claimTone : ByteArray := method_11_code
def yL_claimTone : MethodName := ⟨RL, "claimTone", "(LAsteroTone;III[J)I"⟩
abbrev cL_claimAge : ByteArray := method_12_code
def yL_claimAge : MethodName := ⟨RL, "claimAge", "(LAsteroTone;II[J)I"⟩
abbrev cL_claimPlanet : ByteArray := method_13_code
def yL_claimPlanet : MethodName := ⟨RL, "claimPlanet", "(LAsteroTone;I[J)I"⟩
abbrev cL_cite : ByteArray := method_14_code
def yL_cite : MethodName := ⟨RL, "cite", "(LAsteroTone;II[J)I"⟩
abbrev cL_withdraw : ByteArray := method_15_code
def yL_withdraw : MethodName := ⟨RL, "withdraw", "(LAsteroTone;I[J)I"⟩
abbrev cL_ofStar : ByteArray := method_16_code
def yL_ofStar : MethodName := ⟨RL, "ofStar", "(LAsteroTone;II[J)I"⟩
abbrev cL_crossingAnew : ByteArray := method_17_code
def yL_crossingAnew : MethodName := ⟨RL, "crossingAnew", "(LAsteroTone;I[J)I"⟩
abbrev cL_tone : ByteArray := method_18_code
def yL_tone : MethodName := ⟨RL, "tone", "(LAsteroTone;IIII[J)I"⟩
abbrev cL_frames : ByteArray := method_19_code
def yL_frames : MethodName := ⟨RL, "frames", "(LAsteroTone;I[J)I"⟩
abbrev cL_value : ByteArray := method_20_code
def yL_value : MethodName := ⟨RL, "value", "(LAsteroTone;III[J)I"⟩
abbrev cL_power : ByteArray := method_21_code
def yL_power : MethodName := ⟨RL, "power", "(LAsteroTone;III[J)I"⟩
abbrev cL_window : ByteArray := method_22_code
def yL_window : MethodName := ⟨RL, "window", "(LAsteroTone;II[J)I"⟩
abbrev cL_isPeak : ByteArray := method_23_code
def yL_isPeak : MethodName := ⟨RL, "isPeak", "(LAsteroTone;III[J)I"⟩
abbrev cL_isSeenThrough : ByteArray := method_24_code
def yL_isSeenThrough : MethodName := ⟨RL, "isSeenThrough", "(LAsteroTone;IIII[J)I"⟩
abbrev cL_ofClaim : ByteArray := method_25_code
def yL_ofClaim : MethodName := ⟨RL, "ofClaim", "(LAsteroTone;II[J)I"⟩
abbrev cL_isSound : ByteArray := method_26_code
def yL_isSound : MethodName := ⟨RL, "isSound", "(LAsteroTone;I[J)I"⟩
abbrev cL_law : ByteArray := code
def yL_law : MethodName := ⟨RL, "law", "([I)Z"⟩
end
section
theorem dX0_init_0 : decode cX0_init 0 = .ok (.aload_n 0, 1) := by decide +kernel
theorem dX0_init_1 : decode cX0_init 1 = .ok (.invokespecial 3, 3) := by decide +kernel
theorem dX0_init_4 : decode cX0_init 4 = .ok (.aload_n 0, 1) := by decide +kernel
theorem dX0_init_5 : decode cX0_init 5 = .ok (.iconst (-1), 1) := by decide +kernel
theorem dX0_init_6 : decode cX0_init 6 = .ok (.putfield 9, 3) := by decide +kernel
theorem dX0_init_9 : decode cX0_init 9 = .ok (.aload_n 0, 1) := by decide +kernel
theorem dX0_init_10 : decode cX0_init 10 = .ok (.iconst 1, 1) := by decide +kernel
theorem dX0_init_11 : decode cX0_init 11 = .ok (.putfield 15, 3) := by decide +kernel
theorem dX0_init_14 : decode cX0_init 14 = .ok (.aload_n 0, 1) := by decide +kernel
theorem dX0_init_15 : decode cX0_init 15 = .ok (.iload_n 1, 1) := by decide +kernel
theorem dX0_init_16 : decode cX0_init 16 = .ok (.putfield 19, 3) := by decide +kernel
theorem dX0_init_19 : decode cX0_init 19 = .ok (.aload_n 0, 1) := by decide +kernel
theorem dX0_init_20 : decode cX0_init 20 = .ok (.iload_n 2, 1) := by decide +kernel
theorem dX0_init_21 : decode cX0_init 21 = .ok (.putfield 22, 3) := by decide +kernel
theorem dX0_init_24 : decode cX0_init 24 = .ok (.aload_n 0, 1) := by decide +kernel
theorem dX0_init_25 : decode cX0_init 25 = .ok (.iload_n 3, 1) := by decide +kernel
theorem dX0_init_26 : decode cX0_init 26 = .ok (.putfield 25, 3) := by decide +kernel
theorem dX0_init_29 : decode cX0_init 29 = .ok (.return_, 1) := by decide +kernel
theorem dX1_init_0 : decode cX1_init 0 = .ok (.aload_n 0, 1) := by decide +kernel
theorem dX1_init_1 : decode cX1_init 1 = .ok (.invokespecial 3, 3) := by decide +kernel
theorem dX1_init_4 : decode cX1_init 4 = .ok (.aload_n 0, 1) := by decide +kernel
theorem dX1_init_5 : decode cX1_init 5 = .ok (.sipush 256, 3) := by decide +kernel
theorem dX1_init_8 : decode cX1_init 8 = .ok (.newarray .int, 2) := by decide +kernel
theorem dX1_init_10 : decode cX1_init 10 = .ok (.putfield 9, 3) := by decide +kernel
theorem dX1_init_13 : decode cX1_init 13 = .ok (.aload_n 0, 1) := by decide +kernel
theorem dX1_init_14 : decode cX1_init 14 = .ok (.sipush 256, 3) := by decide +kernel
theorem dX1_init_17 : decode cX1_init 17 = .ok (.newarray .long, 2) := by decide +kernel
theorem dX1_init_19 : decode cX1_init 19 = .ok (.putfield 15, 3) := by decide +kernel
theorem dX1_init_22 : decode cX1_init 22 = .ok (.return_, 1) := by decide +kernel
theorem dX1_look_0 : decode cX1_look 0 = .ok (.aload_n 0, 1) := by decide +kernel
theorem dX1_look_1 : decode cX1_look 1 = .ok (.aload_n 1, 1) := by decide +kernel
theorem dX1_look_2 : decode cX1_look 2 = .ok (.aload_n 2, 1) := by decide +kernel
theorem dX1_look_3 : decode cX1_look 3 = .ok (.invokevirtual 19, 3) := by decide +kernel
theorem dX1_look_6 : decode cX1_look 6 = .ok (.iload_n 3, 1) := by decide +kernel
theorem dX1_look_7 : decode cX1_look 7 = .ok (.iconst 1, 1) := by decide +kernel
theorem dX1_look_8 : decode cX1_look 8 = .ok (.if_icmp .ne 10, 3) := by decide +kernel
theorem dX1_look_11 : decode cX1_look 11 = .ok (.aload_n 0, 1) := by decide +kernel
theorem dX1_look_12 : decode cX1_look 12 = .ok (.invokevirtual 23, 3) := by decide +kernel
theorem dX1_look_15 : decode cX1_look 15 = .ok (.goto 12, 3) := by decide +kernel
theorem dX1_look_18 : decode cX1_look 18 = .ok (.iload_n 3, 1) := by decide +kernel
theorem dX1_look_19 : decode cX1_look 19 = .ok (.iconst 2, 1) := by decide +kernel
theorem dX1_look_20 : decode cX1_look 20 = .ok (.if_icmp .ne 7, 3) := by decide +kernel
theorem dX1_look_23 : decode cX1_look 23 = .ok (.aload_n 0, 1) := by decide +kernel
theorem dX1_look_24 : decode cX1_look 24 = .ok (.invokevirtual 26, 3) := by decide +kernel
theorem dX1_look_27 : decode cX1_look 27 = .ok (.iconst 0, 1) := by decide +kernel
theorem dX1_look_28 : decode cX1_look 28 = .ok (.istore 5, 2) := by decide +kernel
theorem dX1_look_30 : decode cX1_look 30 = .ok (.iload 5, 2) := by decide +kernel
theorem dX1_look_32 : decode cX1_look 32 = .ok (.iload 4, 2) := by decide +kernel
theorem dX1_look_34 : decode cX1_look 34 = .ok (.if_icmp .ge 30, 3) := by decide +kernel
theorem dX1_look_37 : decode cX1_look 37 = .ok (.iload 5, 2) := by decide +kernel
theorem dX1_look_39 : decode cX1_look 39 = .ok (.aload_n 1, 1) := by decide +kernel
theorem dX1_look_40 : decode cX1_look 40 = .ok (.getfield 29, 3) := by decide +kernel
theorem dX1_look_43 : decode cX1_look 43 = .ok (.arraylength, 1) := by decide +kernel
theorem dX1_look_44 : decode cX1_look 44 = .ok (.if_icmp .ge 20, 3) := by decide +kernel
theorem dX1_look_47 : decode cX1_look 47 = .ok (.aload_n 0, 1) := by decide +kernel
theorem dX1_look_48 : decode cX1_look 48 = .ok (.aload_n 1, 1) := by decide +kernel
theorem dX1_look_49 : decode cX1_look 49 = .ok (.getfield 29, 3) := by decide +kernel
theorem dX1_look_52 : decode cX1_look 52 = .ok (.iload 5, 2) := by decide +kernel
theorem dX1_look_54 : decode cX1_look 54 = .ok (.iaload, 1) := by decide +kernel
theorem dX1_look_55 : decode cX1_look 55 = .ok (.invokevirtual 34, 3) := by decide +kernel
theorem dX1_look_58 : decode cX1_look 58 = .ok (.iinc 5 1, 3) := by decide +kernel
theorem dX1_look_61 : decode cX1_look 61 = .ok (.goto (-31), 3) := by decide +kernel
theorem dX1_look_64 : decode cX1_look 64 = .ok (.return_, 1) := by decide +kernel
theorem dX1_gather_0 : decode cX1_gather 0 = .ok (.aload_n 0, 1) := by decide +kernel
theorem dX1_gather_1 : decode cX1_gather 1 = .ok (.iconst 0, 1) := by decide +kernel
theorem dX1_gather_2 : decode cX1_gather 2 = .ok (.putfield 38, 3) := by decide +kernel
theorem dX1_gather_5 : decode cX1_gather 5 = .ok (.iconst 0, 1) := by decide +kernel
theorem dX1_gather_6 : decode cX1_gather 6 = .ok (.istore_n 3, 1) := by decide +kernel
theorem dX1_gather_7 : decode cX1_gather 7 = .ok (.iload_n 3, 1) := by decide +kernel
theorem dX1_gather_8 : decode cX1_gather 8 = .ok (.sipush 256, 3) := by decide +kernel
theorem dX1_gather_11 : decode cX1_gather 11 = .ok (.if_icmp .ge 82, 3) := by decide +kernel
theorem dX1_gather_14 : decode cX1_gather 14 = .ok (.aload_n 1, 1) := by decide +kernel
theorem dX1_gather_15 : decode cX1_gather 15 = .ok (.getfield 42, 3) := by decide +kernel
theorem dX1_gather_18 : decode cX1_gather 18 = .ok (.iload_n 3, 1) := by decide +kernel
theorem dX1_gather_19 : decode cX1_gather 19 = .ok (.iaload, 1) := by decide +kernel
theorem dX1_gather_20 : decode cX1_gather 20 = .ok (.istore 4, 2) := by decide +kernel
theorem dX1_gather_22 : decode cX1_gather 22 = .ok (.aload_n 1, 1) := by decide +kernel
theorem dX1_gather_23 : decode cX1_gather 23 = .ok (.getfield 45, 3) := by decide +kernel
theorem dX1_gather_26 : decode cX1_gather 26 = .ok (.iload_n 3, 1) := by decide +kernel
theorem dX1_gather_27 : decode cX1_gather 27 = .ok (.iaload, 1) := by decide +kernel
theorem dX1_gather_28 : decode cX1_gather 28 = .ok (.iconst (-1), 1) := by decide +kernel
theorem dX1_gather_29 : decode cX1_gather 29 = .ok (.if_icmp .eq 58, 3) := by decide +kernel
theorem dX1_gather_32 : decode cX1_gather 32 = .ok (.iload 4, 2) := by decide +kernel
theorem dX1_gather_34 : decode cX1_gather 34 = .ok (.ifCond .lt 53, 3) := by decide +kernel
theorem dX1_gather_37 : decode cX1_gather 37 = .ok (.iload 4, 2) := by decide +kernel
theorem dX1_gather_39 : decode cX1_gather 39 = .ok (.aload_n 2, 1) := by decide +kernel
theorem dX1_gather_40 : decode cX1_gather 40 = .ok (.arraylength, 1) := by decide +kernel
theorem dX1_gather_41 : decode cX1_gather 41 = .ok (.if_icmp .ge 46, 3) := by decide +kernel
theorem dX1_gather_44 : decode cX1_gather 44 = .ok (.aload_n 2, 1) := by decide +kernel
theorem dX1_gather_45 : decode cX1_gather 45 = .ok (.iload 4, 2) := by decide +kernel
theorem dX1_gather_47 : decode cX1_gather 47 = .ok (.baload, 1) := by decide +kernel
theorem dX1_gather_48 : decode cX1_gather 48 = .ok (.ifCond .ne 39, 3) := by decide +kernel
theorem dX1_gather_51 : decode cX1_gather 51 = .ok (.aload_n 0, 1) := by decide +kernel
theorem dX1_gather_52 : decode cX1_gather 52 = .ok (.getfield 9, 3) := by decide +kernel
theorem dX1_gather_55 : decode cX1_gather 55 = .ok (.aload_n 0, 1) := by decide +kernel
theorem dX1_gather_56 : decode cX1_gather 56 = .ok (.getfield 38, 3) := by decide +kernel
theorem dX1_gather_59 : decode cX1_gather 59 = .ok (.iload_n 3, 1) := by decide +kernel
theorem dX1_gather_60 : decode cX1_gather 60 = .ok (.iastore, 1) := by decide +kernel
theorem dX1_gather_61 : decode cX1_gather 61 = .ok (.aload_n 0, 1) := by decide +kernel
theorem dX1_gather_62 : decode cX1_gather 62 = .ok (.getfield 15, 3) := by decide +kernel
theorem dX1_gather_65 : decode cX1_gather 65 = .ok (.aload_n 0, 1) := by decide +kernel
theorem dX1_gather_66 : decode cX1_gather 66 = .ok (.getfield 38, 3) := by decide +kernel
theorem dX1_gather_69 : decode cX1_gather 69 = .ok (.aload_n 1, 1) := by decide +kernel
theorem dX1_gather_70 : decode cX1_gather 70 = .ok (.getfield 45, 3) := by decide +kernel
theorem dX1_gather_73 : decode cX1_gather 73 = .ok (.iload_n 3, 1) := by decide +kernel
theorem dX1_gather_74 : decode cX1_gather 74 = .ok (.iaload, 1) := by decide +kernel
theorem dX1_gather_75 : decode cX1_gather 75 = .ok (.i2l, 1) := by decide +kernel
theorem dX1_gather_76 : decode cX1_gather 76 = .ok (.lastore, 1) := by decide +kernel
theorem dX1_gather_77 : decode cX1_gather 77 = .ok (.aload_n 0, 1) := by decide +kernel
theorem dX1_gather_78 : decode cX1_gather 78 = .ok (.dup, 1) := by decide +kernel
theorem dX1_gather_79 : decode cX1_gather 79 = .ok (.getfield 38, 3) := by decide +kernel
theorem dX1_gather_82 : decode cX1_gather 82 = .ok (.iconst 1, 1) := by decide +kernel
theorem dX1_gather_83 : decode cX1_gather 83 = .ok (.iadd, 1) := by decide +kernel
theorem dX1_gather_84 : decode cX1_gather 84 = .ok (.putfield 38, 3) := by decide +kernel
theorem dX1_gather_87 : decode cX1_gather 87 = .ok (.iinc 3 1, 3) := by decide +kernel
theorem dX1_gather_90 : decode cX1_gather 90 = .ok (.goto (-83), 3) := by decide +kernel
theorem dX1_gather_93 : decode cX1_gather 93 = .ok (.return_, 1) := by decide +kernel
theorem dX1_flatten_0 : decode cX1_flatten 0 = .ok (.aload_n 0, 1) := by decide +kernel
theorem dX1_flatten_1 : decode cX1_flatten 1 = .ok (.getfield 15, 3) := by decide +kernel
theorem dX1_flatten_4 : decode cX1_flatten 4 = .ok (.lconst 1, 1) := by decide +kernel
theorem dX1_flatten_5 : decode cX1_flatten 5 = .ok (.invokestatic 48, 3) := by decide +kernel
theorem dX1_flatten_8 : decode cX1_flatten 8 = .ok (.return_, 1) := by decide +kernel
theorem dX1_lessMean_0 : decode cX1_lessMean 0 = .ok (.lconst 0, 1) := by decide +kernel
theorem dX1_lessMean_1 : decode cX1_lessMean 1 = .ok (.lstore_n 1, 1) := by decide +kernel
theorem dX1_lessMean_2 : decode cX1_lessMean 2 = .ok (.iconst 0, 1) := by decide +kernel
theorem dX1_lessMean_3 : decode cX1_lessMean 3 = .ok (.istore_n 3, 1) := by decide +kernel
theorem dX1_lessMean_4 : decode cX1_lessMean 4 = .ok (.iload_n 3, 1) := by decide +kernel
theorem dX1_lessMean_5 : decode cX1_lessMean 5 = .ok (.aload_n 0, 1) := by decide +kernel
theorem dX1_lessMean_6 : decode cX1_lessMean 6 = .ok (.getfield 38, 3) := by decide +kernel
theorem dX1_lessMean_9 : decode cX1_lessMean 9 = .ok (.if_icmp .ge 18, 3) := by decide +kernel
theorem dX1_lessMean_12 : decode cX1_lessMean 12 = .ok (.lload_n 1, 1) := by decide +kernel
theorem dX1_lessMean_13 : decode cX1_lessMean 13 = .ok (.aload_n 0, 1) := by decide +kernel
theorem dX1_lessMean_14 : decode cX1_lessMean 14 = .ok (.getfield 15, 3) := by decide +kernel
theorem dX1_lessMean_17 : decode cX1_lessMean 17 = .ok (.iload_n 3, 1) := by decide +kernel
theorem dX1_lessMean_18 : decode cX1_lessMean 18 = .ok (.laload, 1) := by decide +kernel
theorem dX1_lessMean_19 : decode cX1_lessMean 19 = .ok (.ladd, 1) := by decide +kernel
theorem dX1_lessMean_20 : decode cX1_lessMean 20 = .ok (.lstore_n 1, 1) := by decide +kernel
theorem dX1_lessMean_21 : decode cX1_lessMean 21 = .ok (.iinc 3 1, 3) := by decide +kernel
theorem dX1_lessMean_24 : decode cX1_lessMean 24 = .ok (.goto (-20), 3) := by decide +kernel
theorem dX1_lessMean_27 : decode cX1_lessMean 27 = .ok (.aload_n 0, 1) := by decide +kernel
theorem dX1_lessMean_28 : decode cX1_lessMean 28 = .ok (.getfield 38, 3) := by decide +kernel
theorem dX1_lessMean_31 : decode cX1_lessMean 31 = .ok (.ifCond .le 15, 3) := by decide +kernel
theorem dX1_lessMean_34 : decode cX1_lessMean 34 = .ok (.lload_n 1, 1) := by decide +kernel
theorem dX1_lessMean_35 : decode cX1_lessMean 35 = .ok (.aload_n 0, 1) := by decide +kernel
theorem dX1_lessMean_36 : decode cX1_lessMean 36 = .ok (.getfield 38, 3) := by decide +kernel
theorem dX1_lessMean_39 : decode cX1_lessMean 39 = .ok (.i2l, 1) := by decide +kernel
theorem dX1_lessMean_40 : decode cX1_lessMean 40 = .ok (.invokestatic 54, 3) := by decide +kernel
theorem dX1_lessMean_43 : decode cX1_lessMean 43 = .ok (.goto 4, 3) := by decide +kernel
theorem dX1_lessMean_46 : decode cX1_lessMean 46 = .ok (.lconst 0, 1) := by decide +kernel
theorem dX1_lessMean_47 : decode cX1_lessMean 47 = .ok (.lstore_n 3, 1) := by decide +kernel
theorem dX1_lessMean_48 : decode cX1_lessMean 48 = .ok (.iconst 0, 1) := by decide +kernel
theorem dX1_lessMean_49 : decode cX1_lessMean 49 = .ok (.istore 5, 2) := by decide +kernel
theorem dX1_lessMean_51 : decode cX1_lessMean 51 = .ok (.iload 5, 2) := by decide +kernel
theorem dX1_lessMean_53 : decode cX1_lessMean 53 = .ok (.aload_n 0, 1) := by decide +kernel
theorem dX1_lessMean_54 : decode cX1_lessMean 54 = .ok (.getfield 38, 3) := by decide +kernel
theorem dX1_lessMean_57 : decode cX1_lessMean 57 = .ok (.if_icmp .ge 20, 3) := by decide +kernel
theorem dX1_lessMean_60 : decode cX1_lessMean 60 = .ok (.aload_n 0, 1) := by decide +kernel
theorem dX1_lessMean_61 : decode cX1_lessMean 61 = .ok (.getfield 15, 3) := by decide +kernel
theorem dX1_lessMean_64 : decode cX1_lessMean 64 = .ok (.iload 5, 2) := by decide +kernel
theorem dX1_lessMean_66 : decode cX1_lessMean 66 = .ok (.dup2, 1) := by decide +kernel
theorem dX1_lessMean_67 : decode cX1_lessMean 67 = .ok (.laload, 1) := by decide +kernel
theorem dX1_lessMean_68 : decode cX1_lessMean 68 = .ok (.lload_n 3, 1) := by decide +kernel
theorem dX1_lessMean_69 : decode cX1_lessMean 69 = .ok (.lsub, 1) := by decide +kernel
theorem dX1_lessMean_70 : decode cX1_lessMean 70 = .ok (.lastore, 1) := by decide +kernel
theorem dX1_lessMean_71 : decode cX1_lessMean 71 = .ok (.iinc 5 1, 3) := by decide +kernel
theorem dX1_lessMean_74 : decode cX1_lessMean 74 = .ok (.goto (-23), 3) := by decide +kernel
theorem dX1_lessMean_77 : decode cX1_lessMean 77 = .ok (.return_, 1) := by decide +kernel
theorem dX1_lessDrift_0 : decode cX1_lessDrift 0 = .ok (.aload_n 0, 1) := by decide +kernel
theorem dX1_lessDrift_1 : decode cX1_lessDrift 1 = .ok (.getfield 38, 3) := by decide +kernel
theorem dX1_lessDrift_4 : decode cX1_lessDrift 4 = .ok (.ifCond .ne 4, 3) := by decide +kernel
theorem dX1_lessDrift_7 : decode cX1_lessDrift 7 = .ok (.return_, 1) := by decide +kernel
theorem dX1_lessDrift_8 : decode cX1_lessDrift 8 = .ok (.aload_n 0, 1) := by decide +kernel
theorem dX1_lessDrift_9 : decode cX1_lessDrift 9 = .ok (.getfield 15, 3) := by decide +kernel
theorem dX1_lessDrift_12 : decode cX1_lessDrift 12 = .ok (.iconst 0, 1) := by decide +kernel
theorem dX1_lessDrift_13 : decode cX1_lessDrift 13 = .ok (.laload, 1) := by decide +kernel
theorem dX1_lessDrift_14 : decode cX1_lessDrift 14 = .ok (.lstore_n 1, 1) := by decide +kernel
theorem dX1_lessDrift_15 : decode cX1_lessDrift 15 = .ok (.aload_n 0, 1) := by decide +kernel
theorem dX1_lessDrift_16 : decode cX1_lessDrift 16 = .ok (.getfield 15, 3) := by decide +kernel
theorem dX1_lessDrift_19 : decode cX1_lessDrift 19 = .ok (.aload_n 0, 1) := by decide +kernel
theorem dX1_lessDrift_20 : decode cX1_lessDrift 20 = .ok (.getfield 38, 3) := by decide +kernel
theorem dX1_lessDrift_23 : decode cX1_lessDrift 23 = .ok (.iconst 1, 1) := by decide +kernel
theorem dX1_lessDrift_24 : decode cX1_lessDrift 24 = .ok (.isub, 1) := by decide +kernel
theorem dX1_lessDrift_25 : decode cX1_lessDrift 25 = .ok (.laload, 1) := by decide +kernel
theorem dX1_lessDrift_26 : decode cX1_lessDrift 26 = .ok (.lload_n 1, 1) := by decide +kernel
theorem dX1_lessDrift_27 : decode cX1_lessDrift 27 = .ok (.lsub, 1) := by decide +kernel
theorem dX1_lessDrift_28 : decode cX1_lessDrift 28 = .ok (.lstore_n 3, 1) := by decide +kernel
theorem dX1_lessDrift_29 : decode cX1_lessDrift 29 = .ok (.aload_n 0, 1) := by decide +kernel
theorem dX1_lessDrift_30 : decode cX1_lessDrift 30 = .ok (.getfield 9, 3) := by decide +kernel
theorem dX1_lessDrift_33 : decode cX1_lessDrift 33 = .ok (.aload_n 0, 1) := by decide +kernel
theorem dX1_lessDrift_34 : decode cX1_lessDrift 34 = .ok (.getfield 38, 3) := by decide +kernel
theorem dX1_lessDrift_37 : decode cX1_lessDrift 37 = .ok (.iconst 1, 1) := by decide +kernel
theorem dX1_lessDrift_38 : decode cX1_lessDrift 38 = .ok (.isub, 1) := by decide +kernel
theorem dX1_lessDrift_39 : decode cX1_lessDrift 39 = .ok (.iaload, 1) := by decide +kernel
theorem dX1_lessDrift_40 : decode cX1_lessDrift 40 = .ok (.aload_n 0, 1) := by decide +kernel
theorem dX1_lessDrift_41 : decode cX1_lessDrift 41 = .ok (.getfield 9, 3) := by decide +kernel
theorem dX1_lessDrift_44 : decode cX1_lessDrift 44 = .ok (.iconst 0, 1) := by decide +kernel
theorem dX1_lessDrift_45 : decode cX1_lessDrift 45 = .ok (.iaload, 1) := by decide +kernel
theorem dX1_lessDrift_46 : decode cX1_lessDrift 46 = .ok (.isub, 1) := by decide +kernel
theorem dX1_lessDrift_47 : decode cX1_lessDrift 47 = .ok (.i2l, 1) := by decide +kernel
theorem dX1_lessDrift_48 : decode cX1_lessDrift 48 = .ok (.lstore 5, 2) := by decide +kernel
theorem dX1_lessDrift_50 : decode cX1_lessDrift 50 = .ok (.iconst 0, 1) := by decide +kernel
theorem dX1_lessDrift_51 : decode cX1_lessDrift 51 = .ok (.istore 7, 2) := by decide +kernel
theorem dX1_lessDrift_53 : decode cX1_lessDrift 53 = .ok (.iload 7, 2) := by decide +kernel
theorem dX1_lessDrift_55 : decode cX1_lessDrift 55 = .ok (.aload_n 0, 1) := by decide +kernel
theorem dX1_lessDrift_56 : decode cX1_lessDrift 56 = .ok (.getfield 38, 3) := by decide +kernel
theorem dX1_lessDrift_59 : decode cX1_lessDrift 59 = .ok (.if_icmp .ge 58, 3) := by decide +kernel
theorem dX1_lessDrift_62 : decode cX1_lessDrift 62 = .ok (.aload_n 0, 1) := by decide +kernel
theorem dX1_lessDrift_63 : decode cX1_lessDrift 63 = .ok (.getfield 9, 3) := by decide +kernel
theorem dX1_lessDrift_66 : decode cX1_lessDrift 66 = .ok (.iload 7, 2) := by decide +kernel
theorem dX1_lessDrift_68 : decode cX1_lessDrift 68 = .ok (.iaload, 1) := by decide +kernel
theorem dX1_lessDrift_69 : decode cX1_lessDrift 69 = .ok (.aload_n 0, 1) := by decide +kernel
theorem dX1_lessDrift_70 : decode cX1_lessDrift 70 = .ok (.getfield 9, 3) := by decide +kernel
theorem dX1_lessDrift_73 : decode cX1_lessDrift 73 = .ok (.iconst 0, 1) := by decide +kernel
theorem dX1_lessDrift_74 : decode cX1_lessDrift 74 = .ok (.iaload, 1) := by decide +kernel
theorem dX1_lessDrift_75 : decode cX1_lessDrift 75 = .ok (.isub, 1) := by decide +kernel
theorem dX1_lessDrift_76 : decode cX1_lessDrift 76 = .ok (.i2l, 1) := by decide +kernel
theorem dX1_lessDrift_77 : decode cX1_lessDrift 77 = .ok (.lstore 8, 2) := by decide +kernel
theorem dX1_lessDrift_79 : decode cX1_lessDrift 79 = .ok (.aload_n 0, 1) := by decide +kernel
theorem dX1_lessDrift_80 : decode cX1_lessDrift 80 = .ok (.getfield 15, 3) := by decide +kernel
theorem dX1_lessDrift_83 : decode cX1_lessDrift 83 = .ok (.iload 7, 2) := by decide +kernel
theorem dX1_lessDrift_85 : decode cX1_lessDrift 85 = .ok (.dup2, 1) := by decide +kernel
theorem dX1_lessDrift_86 : decode cX1_lessDrift 86 = .ok (.laload, 1) := by decide +kernel
theorem dX1_lessDrift_87 : decode cX1_lessDrift 87 = .ok (.lload_n 1, 1) := by decide +kernel
theorem dX1_lessDrift_88 : decode cX1_lessDrift 88 = .ok (.lload 5, 2) := by decide +kernel
theorem dX1_lessDrift_90 : decode cX1_lessDrift 90 = .ok (.lconst 0, 1) := by decide +kernel
theorem dX1_lessDrift_91 : decode cX1_lessDrift 91 = .ok (.lcmp, 1) := by decide +kernel
theorem dX1_lessDrift_92 : decode cX1_lessDrift 92 = .ok (.ifCond .le 15, 3) := by decide +kernel
theorem dX1_lessDrift_95 : decode cX1_lessDrift 95 = .ok (.lload_n 3, 1) := by decide +kernel
theorem dX1_lessDrift_96 : decode cX1_lessDrift 96 = .ok (.lload 8, 2) := by decide +kernel
theorem dX1_lessDrift_98 : decode cX1_lessDrift 98 = .ok (.lmul, 1) := by decide +kernel
theorem dX1_lessDrift_99 : decode cX1_lessDrift 99 = .ok (.lload 5, 2) := by decide +kernel
theorem dX1_lessDrift_101 : decode cX1_lessDrift 101 = .ok (.invokestatic 54, 3) := by decide +kernel
theorem dX1_lessDrift_104 : decode cX1_lessDrift 104 = .ok (.goto 4, 3) := by decide +kernel
theorem dX1_lessDrift_107 : decode cX1_lessDrift 107 = .ok (.lconst 0, 1) := by decide +kernel
theorem dX1_lessDrift_108 : decode cX1_lessDrift 108 = .ok (.ladd, 1) := by decide +kernel
theorem dX1_lessDrift_109 : decode cX1_lessDrift 109 = .ok (.lsub, 1) := by decide +kernel
theorem dX1_lessDrift_110 : decode cX1_lessDrift 110 = .ok (.lastore, 1) := by decide +kernel
theorem dX1_lessDrift_111 : decode cX1_lessDrift 111 = .ok (.iinc 7 1, 3) := by decide +kernel
theorem dX1_lessDrift_114 : decode cX1_lessDrift 114 = .ok (.goto (-61), 3) := by decide +kernel
theorem dX1_lessDrift_117 : decode cX1_lessDrift 117 = .ok (.return_, 1) := by decide +kernel
theorem dX1_lessLine_0 : decode cX1_lessLine 0 = .ok (.aload_n 0, 1) := by decide +kernel
theorem dX1_lessLine_1 : decode cX1_lessLine 1 = .ok (.getfield 38, 3) := by decide +kernel
theorem dX1_lessLine_4 : decode cX1_lessLine 4 = .ok (.ifCond .ne 4, 3) := by decide +kernel
theorem dX1_lessLine_7 : decode cX1_lessLine 7 = .ok (.return_, 1) := by decide +kernel
theorem dX1_lessLine_8 : decode cX1_lessLine 8 = .ok (.aload_n 0, 1) := by decide +kernel
theorem dX1_lessLine_9 : decode cX1_lessLine 9 = .ok (.iload_n 1, 1) := by decide +kernel
theorem dX1_lessLine_10 : decode cX1_lessLine 10 = .ok (.invokevirtual 60, 3) := by decide +kernel
theorem dX1_lessLine_13 : decode cX1_lessLine 13 = .ok (.ldc2_w 63, 3) := by decide +kernel
theorem dX1_lessLine_16 : decode cX1_lessLine 16 = .ok (.aload_n 0, 1) := by decide +kernel
theorem dX1_lessLine_17 : decode cX1_lessLine 17 = .ok (.getfield 38, 3) := by decide +kernel
theorem dX1_lessLine_20 : decode cX1_lessLine 20 = .ok (.i2l, 1) := by decide +kernel
theorem dX1_lessLine_21 : decode cX1_lessLine 21 = .ok (.lmul, 1) := by decide +kernel
theorem dX1_lessLine_22 : decode cX1_lessLine 22 = .ok (.lstore_n 2, 1) := by decide +kernel
theorem dX1_lessLine_23 : decode cX1_lessLine 23 = .ok (.ldc2_w 65, 3) := by decide +kernel
theorem dX1_lessLine_26 : decode cX1_lessLine 26 = .ok (.aload_n 0, 1) := by decide +kernel
theorem dX1_lessLine_27 : decode cX1_lessLine 27 = .ok (.getfield 67, 3) := by decide +kernel
theorem dX1_lessLine_30 : decode cX1_lessLine 30 = .ok (.lmul, 1) := by decide +kernel
theorem dX1_lessLine_31 : decode cX1_lessLine 31 = .ok (.lload_n 2, 1) := by decide +kernel
theorem dX1_lessLine_32 : decode cX1_lessLine 32 = .ok (.ldiv, 1) := by decide +kernel
theorem dX1_lessLine_33 : decode cX1_lessLine 33 = .ok (.lstore 4, 2) := by decide +kernel
theorem dX1_lessLine_35 : decode cX1_lessLine 35 = .ok (.ldc2_w 65, 3) := by decide +kernel
theorem dX1_lessLine_38 : decode cX1_lessLine 38 = .ok (.aload_n 0, 1) := by decide +kernel
theorem dX1_lessLine_39 : decode cX1_lessLine 39 = .ok (.getfield 71, 3) := by decide +kernel
theorem dX1_lessLine_42 : decode cX1_lessLine 42 = .ok (.lmul, 1) := by decide +kernel
theorem dX1_lessLine_43 : decode cX1_lessLine 43 = .ok (.lload_n 2, 1) := by decide +kernel
theorem dX1_lessLine_44 : decode cX1_lessLine 44 = .ok (.ldiv, 1) := by decide +kernel
theorem dX1_lessLine_45 : decode cX1_lessLine 45 = .ok (.lstore 6, 2) := by decide +kernel
theorem dX1_lessLine_47 : decode cX1_lessLine 47 = .ok (.iconst 0, 1) := by decide +kernel
theorem dX1_lessLine_48 : decode cX1_lessLine 48 = .ok (.istore 8, 2) := by decide +kernel
theorem dX1_lessLine_50 : decode cX1_lessLine 50 = .ok (.iload 8, 2) := by decide +kernel
theorem dX1_lessLine_52 : decode cX1_lessLine 52 = .ok (.aload_n 0, 1) := by decide +kernel
theorem dX1_lessLine_53 : decode cX1_lessLine 53 = .ok (.getfield 38, 3) := by decide +kernel
theorem dX1_lessLine_56 : decode cX1_lessLine 56 = .ok (.if_icmp .ge 53, 3) := by decide +kernel
theorem dX1_lessLine_59 : decode cX1_lessLine 59 = .ok (.iload_n 1, 1) := by decide +kernel
theorem dX1_lessLine_60 : decode cX1_lessLine 60 = .ok (.aload_n 0, 1) := by decide +kernel
theorem dX1_lessLine_61 : decode cX1_lessLine 61 = .ok (.getfield 9, 3) := by decide +kernel
theorem dX1_lessLine_64 : decode cX1_lessLine 64 = .ok (.iload 8, 2) := by decide +kernel
theorem dX1_lessLine_66 : decode cX1_lessLine 66 = .ok (.iaload, 1) := by decide +kernel
theorem dX1_lessLine_67 : decode cX1_lessLine 67 = .ok (.imul, 1) := by decide +kernel
theorem dX1_lessLine_68 : decode cX1_lessLine 68 = .ok (.istore 9, 2) := by decide +kernel
theorem dX1_lessLine_70 : decode cX1_lessLine 70 = .ok (.aload_n 0, 1) := by decide +kernel
theorem dX1_lessLine_71 : decode cX1_lessLine 71 = .ok (.getfield 15, 3) := by decide +kernel
theorem dX1_lessLine_74 : decode cX1_lessLine 74 = .ok (.iload 8, 2) := by decide +kernel
theorem dX1_lessLine_76 : decode cX1_lessLine 76 = .ok (.dup2, 1) := by decide +kernel
theorem dX1_lessLine_77 : decode cX1_lessLine 77 = .ok (.laload, 1) := by decide +kernel
theorem dX1_lessLine_78 : decode cX1_lessLine 78 = .ok (.lload 4, 2) := by decide +kernel
theorem dX1_lessLine_80 : decode cX1_lessLine 80 = .ok (.iload 9, 2) := by decide +kernel
theorem dX1_lessLine_82 : decode cX1_lessLine 82 = .ok (.invokestatic 74, 3) := by decide +kernel
theorem dX1_lessLine_85 : decode cX1_lessLine 85 = .ok (.i2l, 1) := by decide +kernel
theorem dX1_lessLine_86 : decode cX1_lessLine 86 = .ok (.lmul, 1) := by decide +kernel
theorem dX1_lessLine_87 : decode cX1_lessLine 87 = .ok (.lload 6, 2) := by decide +kernel
theorem dX1_lessLine_89 : decode cX1_lessLine 89 = .ok (.iload 9, 2) := by decide +kernel
theorem dX1_lessLine_91 : decode cX1_lessLine 91 = .ok (.invokestatic 78, 3) := by decide +kernel
theorem dX1_lessLine_94 : decode cX1_lessLine 94 = .ok (.i2l, 1) := by decide +kernel
theorem dX1_lessLine_95 : decode cX1_lessLine 95 = .ok (.lmul, 1) := by decide +kernel
theorem dX1_lessLine_96 : decode cX1_lessLine 96 = .ok (.ladd, 1) := by decide +kernel
theorem dX1_lessLine_97 : decode cX1_lessLine 97 = .ok (.ldc2_w 63, 3) := by decide +kernel
theorem dX1_lessLine_100 : decode cX1_lessLine 100 = .ok (.ldiv, 1) := by decide +kernel
theorem dX1_lessLine_101 : decode cX1_lessLine 101 = .ok (.lsub, 1) := by decide +kernel
theorem dX1_lessLine_102 : decode cX1_lessLine 102 = .ok (.lastore, 1) := by decide +kernel
theorem dX1_lessLine_103 : decode cX1_lessLine 103 = .ok (.iinc 8 1, 3) := by decide +kernel
theorem dX1_lessLine_106 : decode cX1_lessLine 106 = .ok (.goto (-56), 3) := by decide +kernel
theorem dX1_lessLine_109 : decode cX1_lessLine 109 = .ok (.return_, 1) := by decide +kernel
theorem dX1_sumUp_0 : decode cX1_sumUp 0 = .ok (.aload_n 0, 1) := by decide +kernel
theorem dX1_sumUp_1 : decode cX1_sumUp 1 = .ok (.lconst 0, 1) := by decide +kernel
theorem dX1_sumUp_2 : decode cX1_sumUp 2 = .ok (.putfield 67, 3) := by decide +kernel
theorem dX1_sumUp_5 : decode cX1_sumUp 5 = .ok (.aload_n 0, 1) := by decide +kernel
theorem dX1_sumUp_6 : decode cX1_sumUp 6 = .ok (.lconst 0, 1) := by decide +kernel
theorem dX1_sumUp_7 : decode cX1_sumUp 7 = .ok (.putfield 71, 3) := by decide +kernel
theorem dX1_sumUp_10 : decode cX1_sumUp 10 = .ok (.iconst 0, 1) := by decide +kernel
theorem dX1_sumUp_11 : decode cX1_sumUp 11 = .ok (.istore_n 2, 1) := by decide +kernel
theorem dX1_sumUp_12 : decode cX1_sumUp 12 = .ok (.iload_n 2, 1) := by decide +kernel
theorem dX1_sumUp_13 : decode cX1_sumUp 13 = .ok (.aload_n 0, 1) := by decide +kernel
theorem dX1_sumUp_14 : decode cX1_sumUp 14 = .ok (.getfield 38, 3) := by decide +kernel
theorem dX1_sumUp_17 : decode cX1_sumUp 17 = .ok (.if_icmp .ge 60, 3) := by decide +kernel
theorem dX1_sumUp_20 : decode cX1_sumUp 20 = .ok (.iload_n 1, 1) := by decide +kernel
theorem dX1_sumUp_21 : decode cX1_sumUp 21 = .ok (.aload_n 0, 1) := by decide +kernel
theorem dX1_sumUp_22 : decode cX1_sumUp 22 = .ok (.getfield 9, 3) := by decide +kernel
theorem dX1_sumUp_25 : decode cX1_sumUp 25 = .ok (.iload_n 2, 1) := by decide +kernel
theorem dX1_sumUp_26 : decode cX1_sumUp 26 = .ok (.iaload, 1) := by decide +kernel
theorem dX1_sumUp_27 : decode cX1_sumUp 27 = .ok (.imul, 1) := by decide +kernel
theorem dX1_sumUp_28 : decode cX1_sumUp 28 = .ok (.istore_n 3, 1) := by decide +kernel
theorem dX1_sumUp_29 : decode cX1_sumUp 29 = .ok (.aload_n 0, 1) := by decide +kernel
theorem dX1_sumUp_30 : decode cX1_sumUp 30 = .ok (.dup, 1) := by decide +kernel
theorem dX1_sumUp_31 : decode cX1_sumUp 31 = .ok (.getfield 67, 3) := by decide +kernel
theorem dX1_sumUp_34 : decode cX1_sumUp 34 = .ok (.aload_n 0, 1) := by decide +kernel
theorem dX1_sumUp_35 : decode cX1_sumUp 35 = .ok (.getfield 15, 3) := by decide +kernel
theorem dX1_sumUp_38 : decode cX1_sumUp 38 = .ok (.iload_n 2, 1) := by decide +kernel
theorem dX1_sumUp_39 : decode cX1_sumUp 39 = .ok (.laload, 1) := by decide +kernel
theorem dX1_sumUp_40 : decode cX1_sumUp 40 = .ok (.iload_n 3, 1) := by decide +kernel
theorem dX1_sumUp_41 : decode cX1_sumUp 41 = .ok (.invokestatic 74, 3) := by decide +kernel
theorem dX1_sumUp_44 : decode cX1_sumUp 44 = .ok (.i2l, 1) := by decide +kernel
theorem dX1_sumUp_45 : decode cX1_sumUp 45 = .ok (.lmul, 1) := by decide +kernel
theorem dX1_sumUp_46 : decode cX1_sumUp 46 = .ok (.ladd, 1) := by decide +kernel
theorem dX1_sumUp_47 : decode cX1_sumUp 47 = .ok (.putfield 67, 3) := by decide +kernel
theorem dX1_sumUp_50 : decode cX1_sumUp 50 = .ok (.aload_n 0, 1) := by decide +kernel
theorem dX1_sumUp_51 : decode cX1_sumUp 51 = .ok (.dup, 1) := by decide +kernel
theorem dX1_sumUp_52 : decode cX1_sumUp 52 = .ok (.getfield 71, 3) := by decide +kernel
theorem dX1_sumUp_55 : decode cX1_sumUp 55 = .ok (.aload_n 0, 1) := by decide +kernel
theorem dX1_sumUp_56 : decode cX1_sumUp 56 = .ok (.getfield 15, 3) := by decide +kernel
theorem dX1_sumUp_59 : decode cX1_sumUp 59 = .ok (.iload_n 2, 1) := by decide +kernel
theorem dX1_sumUp_60 : decode cX1_sumUp 60 = .ok (.laload, 1) := by decide +kernel
theorem dX1_sumUp_61 : decode cX1_sumUp 61 = .ok (.iload_n 3, 1) := by decide +kernel
theorem dX1_sumUp_62 : decode cX1_sumUp 62 = .ok (.invokestatic 78, 3) := by decide +kernel
theorem dX1_sumUp_65 : decode cX1_sumUp 65 = .ok (.i2l, 1) := by decide +kernel
theorem dX1_sumUp_66 : decode cX1_sumUp 66 = .ok (.lmul, 1) := by decide +kernel
theorem dX1_sumUp_67 : decode cX1_sumUp 67 = .ok (.ladd, 1) := by decide +kernel
theorem dX1_sumUp_68 : decode cX1_sumUp 68 = .ok (.putfield 71, 3) := by decide +kernel
theorem dX1_sumUp_71 : decode cX1_sumUp 71 = .ok (.iinc 2 1, 3) := by decide +kernel
theorem dX1_sumUp_74 : decode cX1_sumUp 74 = .ok (.goto (-62), 3) := by decide +kernel
theorem dX1_sumUp_77 : decode cX1_sumUp 77 = .ok (.return_, 1) := by decide +kernel
theorem dX1_strength_0 : decode cX1_strength 0 = .ok (.aload_n 0, 1) := by decide +kernel
theorem dX1_strength_1 : decode cX1_strength 1 = .ok (.iload_n 1, 1) := by decide +kernel
theorem dX1_strength_2 : decode cX1_strength 2 = .ok (.invokevirtual 60, 3) := by decide +kernel
theorem dX1_strength_5 : decode cX1_strength 5 = .ok (.aload_n 0, 1) := by decide +kernel
theorem dX1_strength_6 : decode cX1_strength 6 = .ok (.getfield 67, 3) := by decide +kernel
theorem dX1_strength_9 : decode cX1_strength 9 = .ok (.ldc2_w 63, 3) := by decide +kernel
theorem dX1_strength_12 : decode cX1_strength 12 = .ok (.ldiv, 1) := by decide +kernel
theorem dX1_strength_13 : decode cX1_strength 13 = .ok (.lstore_n 2, 1) := by decide +kernel
theorem dX1_strength_14 : decode cX1_strength 14 = .ok (.aload_n 0, 1) := by decide +kernel
theorem dX1_strength_15 : decode cX1_strength 15 = .ok (.getfield 71, 3) := by decide +kernel
theorem dX1_strength_18 : decode cX1_strength 18 = .ok (.ldc2_w 63, 3) := by decide +kernel
theorem dX1_strength_21 : decode cX1_strength 21 = .ok (.ldiv, 1) := by decide +kernel
theorem dX1_strength_22 : decode cX1_strength 22 = .ok (.lstore 4, 2) := by decide +kernel
theorem dX1_strength_24 : decode cX1_strength 24 = .ok (.lload_n 2, 1) := by decide +kernel
theorem dX1_strength_25 : decode cX1_strength 25 = .ok (.lload_n 2, 1) := by decide +kernel
theorem dX1_strength_26 : decode cX1_strength 26 = .ok (.lmul, 1) := by decide +kernel
theorem dX1_strength_27 : decode cX1_strength 27 = .ok (.lload 4, 2) := by decide +kernel
theorem dX1_strength_29 : decode cX1_strength 29 = .ok (.lload 4, 2) := by decide +kernel
theorem dX1_strength_31 : decode cX1_strength 31 = .ok (.lmul, 1) := by decide +kernel
theorem dX1_strength_32 : decode cX1_strength 32 = .ok (.ladd, 1) := by decide +kernel
theorem dX1_strength_33 : decode cX1_strength 33 = .ok (.lreturn, 1) := by decide +kernel
theorem dX1_valueAt_0 : decode cX1_valueAt 0 = .ok (.iconst 0, 1) := by decide +kernel
theorem dX1_valueAt_1 : decode cX1_valueAt 1 = .ok (.istore_n 2, 1) := by decide +kernel
theorem dX1_valueAt_2 : decode cX1_valueAt 2 = .ok (.iload_n 2, 1) := by decide +kernel
theorem dX1_valueAt_3 : decode cX1_valueAt 3 = .ok (.aload_n 0, 1) := by decide +kernel
theorem dX1_valueAt_4 : decode cX1_valueAt 4 = .ok (.getfield 38, 3) := by decide +kernel
theorem dX1_valueAt_7 : decode cX1_valueAt 7 = .ok (.if_icmp .ge 26, 3) := by decide +kernel
theorem dX1_valueAt_10 : decode cX1_valueAt 10 = .ok (.aload_n 0, 1) := by decide +kernel
theorem dX1_valueAt_11 : decode cX1_valueAt 11 = .ok (.getfield 9, 3) := by decide +kernel
theorem dX1_valueAt_14 : decode cX1_valueAt 14 = .ok (.iload_n 2, 1) := by decide +kernel
theorem dX1_valueAt_15 : decode cX1_valueAt 15 = .ok (.iaload, 1) := by decide +kernel
theorem dX1_valueAt_16 : decode cX1_valueAt 16 = .ok (.iload_n 1, 1) := by decide +kernel
theorem dX1_valueAt_17 : decode cX1_valueAt 17 = .ok (.if_icmp .ne 10, 3) := by decide +kernel
theorem dX1_valueAt_20 : decode cX1_valueAt 20 = .ok (.aload_n 0, 1) := by decide +kernel
theorem dX1_valueAt_21 : decode cX1_valueAt 21 = .ok (.getfield 15, 3) := by decide +kernel
theorem dX1_valueAt_24 : decode cX1_valueAt 24 = .ok (.iload_n 2, 1) := by decide +kernel
theorem dX1_valueAt_25 : decode cX1_valueAt 25 = .ok (.laload, 1) := by decide +kernel
theorem dX1_valueAt_26 : decode cX1_valueAt 26 = .ok (.lreturn, 1) := by decide +kernel
theorem dX1_valueAt_27 : decode cX1_valueAt 27 = .ok (.iinc 2 1, 3) := by decide +kernel
theorem dX1_valueAt_30 : decode cX1_valueAt 30 = .ok (.goto (-28), 3) := by decide +kernel
theorem dX1_valueAt_33 : decode cX1_valueAt 33 = .ok (.lconst 0, 1) := by decide +kernel
theorem dX1_valueAt_34 : decode cX1_valueAt 34 = .ok (.lreturn, 1) := by decide +kernel
theorem dX2_init_0 : decode cX2_init 0 = .ok (.aload_n 0, 1) := by decide +kernel
theorem dX2_init_1 : decode cX2_init 1 = .ok (.invokespecial 3, 3) := by decide +kernel
theorem dX2_init_4 : decode cX2_init 4 = .ok (.aload_n 0, 1) := by decide +kernel
theorem dX2_init_5 : decode cX2_init 5 = .ok (.bipush 8, 2) := by decide +kernel
theorem dX2_init_7 : decode cX2_init 7 = .ok (.newarray .int, 2) := by decide +kernel
theorem dX2_init_9 : decode cX2_init 9 = .ok (.putfield 9, 3) := by decide +kernel
theorem dX2_init_12 : decode cX2_init 12 = .ok (.aload_n 0, 1) := by decide +kernel
theorem dX2_init_13 : decode cX2_init 13 = .ok (.bipush 8, 2) := by decide +kernel
theorem dX2_init_15 : decode cX2_init 15 = .ok (.newarray .int, 2) := by decide +kernel
theorem dX2_init_17 : decode cX2_init 17 = .ok (.putfield 15, 3) := by decide +kernel
theorem dX2_init_20 : decode cX2_init 20 = .ok (.aload_n 0, 1) := by decide +kernel
theorem dX2_init_21 : decode cX2_init 21 = .ok (.bipush 8, 2) := by decide +kernel
theorem dX2_init_23 : decode cX2_init 23 = .ok (.newarray .int, 2) := by decide +kernel
theorem dX2_init_25 : decode cX2_init 25 = .ok (.putfield 18, 3) := by decide +kernel
theorem dX2_init_28 : decode cX2_init 28 = .ok (.aload_n 0, 1) := by decide +kernel
theorem dX2_init_29 : decode cX2_init 29 = .ok (.sipush 256, 3) := by decide +kernel
theorem dX2_init_32 : decode cX2_init 32 = .ok (.newarray .int, 2) := by decide +kernel
theorem dX2_init_34 : decode cX2_init 34 = .ok (.putfield 21, 3) := by decide +kernel
theorem dX2_init_37 : decode cX2_init 37 = .ok (.aload_n 0, 1) := by decide +kernel
theorem dX2_init_38 : decode cX2_init 38 = .ok (.sipush 256, 3) := by decide +kernel
theorem dX2_init_41 : decode cX2_init 41 = .ok (.newarray .int, 2) := by decide +kernel
theorem dX2_init_43 : decode cX2_init 43 = .ok (.putfield 24, 3) := by decide +kernel
theorem dX2_init_46 : decode cX2_init 46 = .ok (.aload_n 0, 1) := by decide +kernel
theorem dX2_init_47 : decode cX2_init 47 = .ok (.bipush 6, 2) := by decide +kernel
theorem dX2_init_49 : decode cX2_init 49 = .ok (.newarray .int, 2) := by decide +kernel
theorem dX2_init_51 : decode cX2_init 51 = .ok (.putfield 27, 3) := by decide +kernel
theorem dX2_init_54 : decode cX2_init 54 = .ok (.aload_n 0, 1) := by decide +kernel
theorem dX2_init_55 : decode cX2_init 55 = .ok (.getfield 21, 3) := by decide +kernel
theorem dX2_init_58 : decode cX2_init 58 = .ok (.iconst (-1), 1) := by decide +kernel
theorem dX2_init_59 : decode cX2_init 59 = .ok (.invokestatic 30, 3) := by decide +kernel
theorem dX2_init_62 : decode cX2_init 62 = .ok (.return_, 1) := by decide +kernel
theorem dX2_addShell_0 : decode cX2_addShell 0 = .ok (.aload_n 0, 1) := by decide +kernel
theorem dX2_addShell_1 : decode cX2_addShell 1 = .ok (.getfield 36, 3) := by decide +kernel
theorem dX2_addShell_4 : decode cX2_addShell 4 = .ok (.bipush 8, 2) := by decide +kernel
theorem dX2_addShell_6 : decode cX2_addShell 6 = .ok (.if_icmp .ge 43, 3) := by decide +kernel
theorem dX2_addShell_9 : decode cX2_addShell 9 = .ok (.aload_n 0, 1) := by decide +kernel
theorem dX2_addShell_10 : decode cX2_addShell 10 = .ok (.getfield 9, 3) := by decide +kernel
theorem dX2_addShell_13 : decode cX2_addShell 13 = .ok (.aload_n 0, 1) := by decide +kernel
theorem dX2_addShell_14 : decode cX2_addShell 14 = .ok (.getfield 36, 3) := by decide +kernel
theorem dX2_addShell_17 : decode cX2_addShell 17 = .ok (.iload_n 1, 1) := by decide +kernel
theorem dX2_addShell_18 : decode cX2_addShell 18 = .ok (.iastore, 1) := by decide +kernel
theorem dX2_addShell_19 : decode cX2_addShell 19 = .ok (.aload_n 0, 1) := by decide +kernel
theorem dX2_addShell_20 : decode cX2_addShell 20 = .ok (.getfield 15, 3) := by decide +kernel
theorem dX2_addShell_23 : decode cX2_addShell 23 = .ok (.aload_n 0, 1) := by decide +kernel
theorem dX2_addShell_24 : decode cX2_addShell 24 = .ok (.getfield 36, 3) := by decide +kernel
theorem dX2_addShell_27 : decode cX2_addShell 27 = .ok (.iload_n 2, 1) := by decide +kernel
theorem dX2_addShell_28 : decode cX2_addShell 28 = .ok (.iastore, 1) := by decide +kernel
theorem dX2_addShell_29 : decode cX2_addShell 29 = .ok (.aload_n 0, 1) := by decide +kernel
theorem dX2_addShell_30 : decode cX2_addShell 30 = .ok (.getfield 18, 3) := by decide +kernel
theorem dX2_addShell_33 : decode cX2_addShell 33 = .ok (.aload_n 0, 1) := by decide +kernel
theorem dX2_addShell_34 : decode cX2_addShell 34 = .ok (.getfield 36, 3) := by decide +kernel
theorem dX2_addShell_37 : decode cX2_addShell 37 = .ok (.iload_n 3, 1) := by decide +kernel
theorem dX2_addShell_38 : decode cX2_addShell 38 = .ok (.iastore, 1) := by decide +kernel
theorem dX2_addShell_39 : decode cX2_addShell 39 = .ok (.aload_n 0, 1) := by decide +kernel
theorem dX2_addShell_40 : decode cX2_addShell 40 = .ok (.dup, 1) := by decide +kernel
theorem dX2_addShell_41 : decode cX2_addShell 41 = .ok (.getfield 36, 3) := by decide +kernel
theorem dX2_addShell_44 : decode cX2_addShell 44 = .ok (.iconst 1, 1) := by decide +kernel
theorem dX2_addShell_45 : decode cX2_addShell 45 = .ok (.iadd, 1) := by decide +kernel
theorem dX2_addShell_46 : decode cX2_addShell 46 = .ok (.putfield 36, 3) := by decide +kernel
theorem dX2_addShell_49 : decode cX2_addShell 49 = .ok (.return_, 1) := by decide +kernel
theorem dX2_settle_0 : decode cX2_settle 0 = .ok (.aload_n 0, 1) := by decide +kernel
theorem dX2_settle_1 : decode cX2_settle 1 = .ok (.iload_n 1, 1) := by decide +kernel
theorem dX2_settle_2 : decode cX2_settle 2 = .ok (.putfield 40, 3) := by decide +kernel
theorem dX2_settle_5 : decode cX2_settle 5 = .ok (.aload_n 0, 1) := by decide +kernel
theorem dX2_settle_6 : decode cX2_settle 6 = .ok (.aload_n 0, 1) := by decide +kernel
theorem dX2_settle_7 : decode cX2_settle 7 = .ok (.invokevirtual 43, 3) := by decide +kernel
theorem dX2_settle_10 : decode cX2_settle 10 = .ok (.putfield 47, 3) := by decide +kernel
theorem dX2_settle_13 : decode cX2_settle 13 = .ok (.aload_n 0, 1) := by decide +kernel
theorem dX2_settle_14 : decode cX2_settle 14 = .ok (.aload_n 0, 1) := by decide +kernel
theorem dX2_settle_15 : decode cX2_settle 15 = .ok (.getfield 47, 3) := by decide +kernel
theorem dX2_settle_18 : decode cX2_settle 18 = .ok (.ifCond .le 13, 3) := by decide +kernel
theorem dX2_settle_21 : decode cX2_settle 21 = .ok (.ldc 50, 2) := by decide +kernel
theorem dX2_settle_23 : decode cX2_settle 23 = .ok (.aload_n 0, 1) := by decide +kernel
theorem dX2_settle_24 : decode cX2_settle 24 = .ok (.getfield 47, 3) := by decide +kernel
theorem dX2_settle_27 : decode cX2_settle 27 = .ok (.idiv, 1) := by decide +kernel
theorem dX2_settle_28 : decode cX2_settle 28 = .ok (.goto 4, 3) := by decide +kernel
theorem dX2_settle_31 : decode cX2_settle 31 = .ok (.iconst 0, 1) := by decide +kernel
theorem dX2_settle_32 : decode cX2_settle 32 = .ok (.putfield 51, 3) := by decide +kernel
theorem dX2_settle_35 : decode cX2_settle 35 = .ok (.aload_n 0, 1) := by decide +kernel
theorem dX2_settle_36 : decode cX2_settle 36 = .ok (.aload_n 0, 1) := by decide +kernel
theorem dX2_settle_37 : decode cX2_settle 37 = .ok (.invokevirtual 54, 3) := by decide +kernel
theorem dX2_settle_40 : decode cX2_settle 40 = .ok (.putfield 57, 3) := by decide +kernel
theorem dX2_settle_43 : decode cX2_settle 43 = .ok (.aload_n 0, 1) := by decide +kernel
theorem dX2_settle_44 : decode cX2_settle 44 = .ok (.aload_n 0, 1) := by decide +kernel
theorem dX2_settle_45 : decode cX2_settle 45 = .ok (.invokevirtual 60, 3) := by decide +kernel
theorem dX2_settle_48 : decode cX2_settle 48 = .ok (.putfield 63, 3) := by decide +kernel
theorem dX2_settle_51 : decode cX2_settle 51 = .ok (.aload_n 0, 1) := by decide +kernel
theorem dX2_settle_52 : decode cX2_settle 52 = .ok (.iconst 3, 1) := by decide +kernel
theorem dX2_settle_53 : decode cX2_settle 53 = .ok (.aload_n 0, 1) := by decide +kernel
theorem dX2_settle_54 : decode cX2_settle 54 = .ok (.getfield 51, 3) := by decide +kernel
theorem dX2_settle_57 : decode cX2_settle 57 = .ok (.imul, 1) := by decide +kernel
theorem dX2_settle_58 : decode cX2_settle 58 = .ok (.bipush 100, 2) := by decide +kernel
theorem dX2_settle_60 : decode cX2_settle 60 = .ok (.aload_n 0, 1) := by decide +kernel
theorem dX2_settle_61 : decode cX2_settle 61 = .ok (.getfield 15, 3) := by decide +kernel
theorem dX2_settle_64 : decode cX2_settle 64 = .ok (.iconst 0, 1) := by decide +kernel
theorem dX2_settle_65 : decode cX2_settle 65 = .ok (.iaload, 1) := by decide +kernel
theorem dX2_settle_66 : decode cX2_settle 66 = .ok (.imul, 1) := by decide +kernel
theorem dX2_settle_67 : decode cX2_settle 67 = .ok (.iadd, 1) := by decide +kernel
theorem dX2_settle_68 : decode cX2_settle 68 = .ok (.putfield 66, 3) := by decide +kernel
theorem dX2_settle_71 : decode cX2_settle 71 = .ok (.return_, 1) := by decide +kernel
theorem dX2_crossed_0 : decode cX2_crossed 0 = .ok (.iconst 0, 1) := by decide +kernel
theorem dX2_crossed_1 : decode cX2_crossed 1 = .ok (.istore_n 1, 1) := by decide +kernel
theorem dX2_crossed_2 : decode cX2_crossed 2 = .ok (.iconst 0, 1) := by decide +kernel
theorem dX2_crossed_3 : decode cX2_crossed 3 = .ok (.istore_n 2, 1) := by decide +kernel
theorem dX2_crossed_4 : decode cX2_crossed 4 = .ok (.iload_n 2, 1) := by decide +kernel
theorem dX2_crossed_5 : decode cX2_crossed 5 = .ok (.aload_n 0, 1) := by decide +kernel
theorem dX2_crossed_6 : decode cX2_crossed 6 = .ok (.getfield 36, 3) := by decide +kernel
theorem dX2_crossed_9 : decode cX2_crossed 9 = .ok (.if_icmp .ge 48, 3) := by decide +kernel
theorem dX2_crossed_12 : decode cX2_crossed 12 = .ok (.iload_n 2, 1) := by decide +kernel
theorem dX2_crossed_13 : decode cX2_crossed 13 = .ok (.bipush 8, 2) := by decide +kernel
theorem dX2_crossed_15 : decode cX2_crossed 15 = .ok (.if_icmp .ge 42, 3) := by decide +kernel
theorem dX2_crossed_18 : decode cX2_crossed 18 = .ok (.iload_n 1, 1) := by decide +kernel
theorem dX2_crossed_19 : decode cX2_crossed 19 = .ok (.aload_n 0, 1) := by decide +kernel
theorem dX2_crossed_20 : decode cX2_crossed 20 = .ok (.getfield 15, 3) := by decide +kernel
theorem dX2_crossed_23 : decode cX2_crossed 23 = .ok (.iload_n 2, 1) := by decide +kernel
theorem dX2_crossed_24 : decode cX2_crossed 24 = .ok (.iaload, 1) := by decide +kernel
theorem dX2_crossed_25 : decode cX2_crossed 25 = .ok (.ifCond .le 23, 3) := by decide +kernel
theorem dX2_crossed_28 : decode cX2_crossed 28 = .ok (.sipush 1000, 3) := by decide +kernel
theorem dX2_crossed_31 : decode cX2_crossed 31 = .ok (.aload_n 0, 1) := by decide +kernel
theorem dX2_crossed_32 : decode cX2_crossed 32 = .ok (.getfield 9, 3) := by decide +kernel
theorem dX2_crossed_35 : decode cX2_crossed 35 = .ok (.iload_n 2, 1) := by decide +kernel
theorem dX2_crossed_36 : decode cX2_crossed 36 = .ok (.iaload, 1) := by decide +kernel
theorem dX2_crossed_37 : decode cX2_crossed 37 = .ok (.imul, 1) := by decide +kernel
theorem dX2_crossed_38 : decode cX2_crossed 38 = .ok (.aload_n 0, 1) := by decide +kernel
theorem dX2_crossed_39 : decode cX2_crossed 39 = .ok (.getfield 15, 3) := by decide +kernel
theorem dX2_crossed_42 : decode cX2_crossed 42 = .ok (.iload_n 2, 1) := by decide +kernel
theorem dX2_crossed_43 : decode cX2_crossed 43 = .ok (.iaload, 1) := by decide +kernel
theorem dX2_crossed_44 : decode cX2_crossed 44 = .ok (.idiv, 1) := by decide +kernel
theorem dX2_crossed_45 : decode cX2_crossed 45 = .ok (.goto 4, 3) := by decide +kernel
theorem dX2_crossed_48 : decode cX2_crossed 48 = .ok (.iconst 0, 1) := by decide +kernel
theorem dX2_crossed_49 : decode cX2_crossed 49 = .ok (.iadd, 1) := by decide +kernel
theorem dX2_crossed_50 : decode cX2_crossed 50 = .ok (.istore_n 1, 1) := by decide +kernel
theorem dX2_crossed_51 : decode cX2_crossed 51 = .ok (.iinc 2 1, 3) := by decide +kernel
theorem dX2_crossed_54 : decode cX2_crossed 54 = .ok (.goto (-50), 3) := by decide +kernel
theorem dX2_crossed_57 : decode cX2_crossed 57 = .ok (.iload_n 1, 1) := by decide +kernel
theorem dX2_crossed_58 : decode cX2_crossed 58 = .ok (.ireturn, 1) := by decide +kernel
theorem dX2_crossedByUnits_0 : decode cX2_crossedByUnits 0 = .ok (.iconst 0, 1) := by decide +kernel
theorem dX2_crossedByUnits_1 : decode cX2_crossedByUnits 1 = .ok (.istore_n 1, 1) := by decide +kernel
theorem dX2_crossedByUnits_2 : decode cX2_crossedByUnits 2 = .ok (.iconst 0, 1) := by decide +kernel
theorem dX2_crossedByUnits_3 : decode cX2_crossedByUnits 3 = .ok (.istore_n 2, 1) := by decide +kernel
theorem dX2_crossedByUnits_4 : decode cX2_crossedByUnits 4 = .ok (.iload_n 2, 1) := by decide +kernel
theorem dX2_crossedByUnits_5 : decode cX2_crossedByUnits 5 = .ok (.aload_n 0, 1) := by decide +kernel
theorem dX2_crossedByUnits_6 : decode cX2_crossedByUnits 6 = .ok (.getfield 36, 3) := by decide +kernel
theorem dX2_crossedByUnits_9 : decode cX2_crossedByUnits 9 = .ok (.if_icmp .ge 72, 3) := by decide +kernel
theorem dX2_crossedByUnits_12 : decode cX2_crossedByUnits 12 = .ok (.iload_n 2, 1) := by decide +kernel
theorem dX2_crossedByUnits_13 : decode cX2_crossedByUnits 13 = .ok (.bipush 8, 2) := by decide +kernel
theorem dX2_crossedByUnits_15 : decode cX2_crossedByUnits 15 = .ok (.if_icmp .ge 66, 3) := by decide +kernel
theorem dX2_crossedByUnits_18 : decode cX2_crossedByUnits 18 = .ok (.iconst 0, 1) := by decide +kernel
theorem dX2_crossedByUnits_19 : decode cX2_crossedByUnits 19 = .ok (.istore_n 3, 1) := by decide +kernel
theorem dX2_crossedByUnits_20 : decode cX2_crossedByUnits 20 = .ok (.iconst 0, 1) := by decide +kernel
theorem dX2_crossedByUnits_21 : decode cX2_crossedByUnits 21 = .ok (.istore 4, 2) := by decide +kernel
theorem dX2_crossedByUnits_23 : decode cX2_crossedByUnits 23 = .ok (.iload 4, 2) := by decide +kernel
theorem dX2_crossedByUnits_25 : decode cX2_crossedByUnits 25 = .ok (.aload_n 0, 1) := by decide +kernel
theorem dX2_crossedByUnits_26 : decode cX2_crossedByUnits 26 = .ok (.getfield 9, 3) := by decide +kernel
theorem dX2_crossedByUnits_29 : decode cX2_crossedByUnits 29 = .ok (.iload_n 2, 1) := by decide +kernel
theorem dX2_crossedByUnits_30 : decode cX2_crossedByUnits 30 = .ok (.iaload, 1) := by decide +kernel
theorem dX2_crossedByUnits_31 : decode cX2_crossedByUnits 31 = .ok (.if_icmp .ge 44, 3) := by decide +kernel
theorem dX2_crossedByUnits_34 : decode cX2_crossedByUnits 34 = .ok (.aload_n 0, 1) := by decide +kernel
theorem dX2_crossedByUnits_35 : decode cX2_crossedByUnits 35 = .ok (.getfield 15, 3) := by decide +kernel
theorem dX2_crossedByUnits_38 : decode cX2_crossedByUnits 38 = .ok (.iload_n 2, 1) := by decide +kernel
theorem dX2_crossedByUnits_39 : decode cX2_crossedByUnits 39 = .ok (.iaload, 1) := by decide +kernel
theorem dX2_crossedByUnits_40 : decode cX2_crossedByUnits 40 = .ok (.ifCond .le 35, 3) := by decide +kernel
theorem dX2_crossedByUnits_43 : decode cX2_crossedByUnits 43 = .ok (.iinc 3 1000, 6) := by decide +kernel
theorem dX2_crossedByUnits_49 : decode cX2_crossedByUnits 49 = .ok (.iload_n 1, 1) := by decide +kernel
theorem dX2_crossedByUnits_50 : decode cX2_crossedByUnits 50 = .ok (.iload_n 3, 1) := by decide +kernel
theorem dX2_crossedByUnits_51 : decode cX2_crossedByUnits 51 = .ok (.aload_n 0, 1) := by decide +kernel
theorem dX2_crossedByUnits_52 : decode cX2_crossedByUnits 52 = .ok (.getfield 15, 3) := by decide +kernel
theorem dX2_crossedByUnits_55 : decode cX2_crossedByUnits 55 = .ok (.iload_n 2, 1) := by decide +kernel
theorem dX2_crossedByUnits_56 : decode cX2_crossedByUnits 56 = .ok (.iaload, 1) := by decide +kernel
theorem dX2_crossedByUnits_57 : decode cX2_crossedByUnits 57 = .ok (.idiv, 1) := by decide +kernel
theorem dX2_crossedByUnits_58 : decode cX2_crossedByUnits 58 = .ok (.iadd, 1) := by decide +kernel
theorem dX2_crossedByUnits_59 : decode cX2_crossedByUnits 59 = .ok (.istore_n 1, 1) := by decide +kernel
theorem dX2_crossedByUnits_60 : decode cX2_crossedByUnits 60 = .ok (.iload_n 3, 1) := by decide +kernel
theorem dX2_crossedByUnits_61 : decode cX2_crossedByUnits 61 = .ok (.aload_n 0, 1) := by decide +kernel
theorem dX2_crossedByUnits_62 : decode cX2_crossedByUnits 62 = .ok (.getfield 15, 3) := by decide +kernel
theorem dX2_crossedByUnits_65 : decode cX2_crossedByUnits 65 = .ok (.iload_n 2, 1) := by decide +kernel
theorem dX2_crossedByUnits_66 : decode cX2_crossedByUnits 66 = .ok (.iaload, 1) := by decide +kernel
theorem dX2_crossedByUnits_67 : decode cX2_crossedByUnits 67 = .ok (.irem, 1) := by decide +kernel
theorem dX2_crossedByUnits_68 : decode cX2_crossedByUnits 68 = .ok (.istore_n 3, 1) := by decide +kernel
theorem dX2_crossedByUnits_69 : decode cX2_crossedByUnits 69 = .ok (.iinc 4 1, 3) := by decide +kernel
theorem dX2_crossedByUnits_72 : decode cX2_crossedByUnits 72 = .ok (.goto (-49), 3) := by decide +kernel
theorem dX2_crossedByUnits_75 : decode cX2_crossedByUnits 75 = .ok (.iinc 2 1, 3) := by decide +kernel
theorem dX2_crossedByUnits_78 : decode cX2_crossedByUnits 78 = .ok (.goto (-74), 3) := by decide +kernel
theorem dX2_crossedByUnits_81 : decode cX2_crossedByUnits 81 = .ok (.iload_n 1, 1) := by decide +kernel
theorem dX2_crossedByUnits_82 : decode cX2_crossedByUnits 82 = .ok (.ireturn, 1) := by decide +kernel
theorem dX2_slowed_0 : decode cX2_slowed 0 = .ok (.iconst 0, 1) := by decide +kernel
theorem dX2_slowed_1 : decode cX2_slowed 1 = .ok (.istore_n 1, 1) := by decide +kernel
theorem dX2_slowed_2 : decode cX2_slowed 2 = .ok (.iconst 1, 1) := by decide +kernel
theorem dX2_slowed_3 : decode cX2_slowed 3 = .ok (.istore_n 2, 1) := by decide +kernel
theorem dX2_slowed_4 : decode cX2_slowed 4 = .ok (.iload_n 2, 1) := by decide +kernel
theorem dX2_slowed_5 : decode cX2_slowed 5 = .ok (.aload_n 0, 1) := by decide +kernel
theorem dX2_slowed_6 : decode cX2_slowed 6 = .ok (.getfield 36, 3) := by decide +kernel
theorem dX2_slowed_9 : decode cX2_slowed 9 = .ok (.if_icmp .ge 37, 3) := by decide +kernel
theorem dX2_slowed_12 : decode cX2_slowed 12 = .ok (.iload_n 2, 1) := by decide +kernel
theorem dX2_slowed_13 : decode cX2_slowed 13 = .ok (.bipush 8, 2) := by decide +kernel
theorem dX2_slowed_15 : decode cX2_slowed 15 = .ok (.if_icmp .ge 31, 3) := by decide +kernel
theorem dX2_slowed_18 : decode cX2_slowed 18 = .ok (.iload_n 1, 1) := by decide +kernel
theorem dX2_slowed_19 : decode cX2_slowed 19 = .ok (.iconst 0, 1) := by decide +kernel
theorem dX2_slowed_20 : decode cX2_slowed 20 = .ok (.aload_n 0, 1) := by decide +kernel
theorem dX2_slowed_21 : decode cX2_slowed 21 = .ok (.getfield 15, 3) := by decide +kernel
theorem dX2_slowed_24 : decode cX2_slowed 24 = .ok (.iload_n 2, 1) := by decide +kernel
theorem dX2_slowed_25 : decode cX2_slowed 25 = .ok (.iconst 1, 1) := by decide +kernel
theorem dX2_slowed_26 : decode cX2_slowed 26 = .ok (.isub, 1) := by decide +kernel
theorem dX2_slowed_27 : decode cX2_slowed 27 = .ok (.iaload, 1) := by decide +kernel
theorem dX2_slowed_28 : decode cX2_slowed 28 = .ok (.aload_n 0, 1) := by decide +kernel
theorem dX2_slowed_29 : decode cX2_slowed 29 = .ok (.getfield 15, 3) := by decide +kernel
theorem dX2_slowed_32 : decode cX2_slowed 32 = .ok (.iload_n 2, 1) := by decide +kernel
theorem dX2_slowed_33 : decode cX2_slowed 33 = .ok (.iaload, 1) := by decide +kernel
theorem dX2_slowed_34 : decode cX2_slowed 34 = .ok (.isub, 1) := by decide +kernel
theorem dX2_slowed_35 : decode cX2_slowed 35 = .ok (.invokestatic 69, 3) := by decide +kernel
theorem dX2_slowed_38 : decode cX2_slowed 38 = .ok (.iadd, 1) := by decide +kernel
theorem dX2_slowed_39 : decode cX2_slowed 39 = .ok (.istore_n 1, 1) := by decide +kernel
theorem dX2_slowed_40 : decode cX2_slowed 40 = .ok (.iinc 2 1, 3) := by decide +kernel
theorem dX2_slowed_43 : decode cX2_slowed 43 = .ok (.goto (-39), 3) := by decide +kernel
theorem dX2_slowed_46 : decode cX2_slowed 46 = .ok (.iload_n 1, 1) := by decide +kernel
theorem dX2_slowed_47 : decode cX2_slowed 47 = .ok (.ireturn, 1) := by decide +kernel
theorem dX2_turned_0 : decode cX2_turned 0 = .ok (.iconst 0, 1) := by decide +kernel
theorem dX2_turned_1 : decode cX2_turned 1 = .ok (.istore_n 1, 1) := by decide +kernel
theorem dX2_turned_2 : decode cX2_turned 2 = .ok (.iconst 0, 1) := by decide +kernel
theorem dX2_turned_3 : decode cX2_turned 3 = .ok (.istore_n 2, 1) := by decide +kernel
theorem dX2_turned_4 : decode cX2_turned 4 = .ok (.iconst 0, 1) := by decide +kernel
theorem dX2_turned_5 : decode cX2_turned 5 = .ok (.istore_n 3, 1) := by decide +kernel
theorem dX2_turned_6 : decode cX2_turned 6 = .ok (.iload_n 3, 1) := by decide +kernel
theorem dX2_turned_7 : decode cX2_turned 7 = .ok (.aload_n 0, 1) := by decide +kernel
theorem dX2_turned_8 : decode cX2_turned 8 = .ok (.getfield 36, 3) := by decide +kernel
theorem dX2_turned_11 : decode cX2_turned 11 = .ok (.if_icmp .ge 40, 3) := by decide +kernel
theorem dX2_turned_14 : decode cX2_turned 14 = .ok (.iload_n 3, 1) := by decide +kernel
theorem dX2_turned_15 : decode cX2_turned 15 = .ok (.bipush 8, 2) := by decide +kernel
theorem dX2_turned_17 : decode cX2_turned 17 = .ok (.if_icmp .ge 34, 3) := by decide +kernel
theorem dX2_turned_20 : decode cX2_turned 20 = .ok (.iload_n 1, 1) := by decide +kernel
theorem dX2_turned_21 : decode cX2_turned 21 = .ok (.aload_n 0, 1) := by decide +kernel
theorem dX2_turned_22 : decode cX2_turned 22 = .ok (.getfield 9, 3) := by decide +kernel
theorem dX2_turned_25 : decode cX2_turned 25 = .ok (.iload_n 3, 1) := by decide +kernel
theorem dX2_turned_26 : decode cX2_turned 26 = .ok (.iaload, 1) := by decide +kernel
theorem dX2_turned_27 : decode cX2_turned 27 = .ok (.iadd, 1) := by decide +kernel
theorem dX2_turned_28 : decode cX2_turned 28 = .ok (.istore_n 1, 1) := by decide +kernel
theorem dX2_turned_29 : decode cX2_turned 29 = .ok (.iload_n 2, 1) := by decide +kernel
theorem dX2_turned_30 : decode cX2_turned 30 = .ok (.aload_n 0, 1) := by decide +kernel
theorem dX2_turned_31 : decode cX2_turned 31 = .ok (.getfield 9, 3) := by decide +kernel
theorem dX2_turned_34 : decode cX2_turned 34 = .ok (.iload_n 3, 1) := by decide +kernel
theorem dX2_turned_35 : decode cX2_turned 35 = .ok (.iaload, 1) := by decide +kernel
theorem dX2_turned_36 : decode cX2_turned 36 = .ok (.aload_n 0, 1) := by decide +kernel
theorem dX2_turned_37 : decode cX2_turned 37 = .ok (.getfield 18, 3) := by decide +kernel
theorem dX2_turned_40 : decode cX2_turned 40 = .ok (.iload_n 3, 1) := by decide +kernel
theorem dX2_turned_41 : decode cX2_turned 41 = .ok (.iaload, 1) := by decide +kernel
theorem dX2_turned_42 : decode cX2_turned 42 = .ok (.imul, 1) := by decide +kernel
theorem dX2_turned_43 : decode cX2_turned 43 = .ok (.iadd, 1) := by decide +kernel
theorem dX2_turned_44 : decode cX2_turned 44 = .ok (.istore_n 2, 1) := by decide +kernel
theorem dX2_turned_45 : decode cX2_turned 45 = .ok (.iinc 3 1, 3) := by decide +kernel
theorem dX2_turned_48 : decode cX2_turned 48 = .ok (.goto (-42), 3) := by decide +kernel
theorem dX2_turned_51 : decode cX2_turned 51 = .ok (.iload_n 1, 1) := by decide +kernel
theorem dX2_turned_52 : decode cX2_turned 52 = .ok (.ifCond .le 9, 3) := by decide +kernel
theorem dX2_turned_55 : decode cX2_turned 55 = .ok (.iload_n 2, 1) := by decide +kernel
theorem dX2_turned_56 : decode cX2_turned 56 = .ok (.iload_n 1, 1) := by decide +kernel
theorem dX2_turned_57 : decode cX2_turned 57 = .ok (.idiv, 1) := by decide +kernel
theorem dX2_turned_58 : decode cX2_turned 58 = .ok (.goto 4, 3) := by decide +kernel
theorem dX2_turned_61 : decode cX2_turned 61 = .ok (.iconst 0, 1) := by decide +kernel
theorem dX2_turned_62 : decode cX2_turned 62 = .ok (.ireturn, 1) := by decide +kernel
theorem dX2_ring_0 : decode cX2_ring 0 = .ok (.aload_n 0, 1) := by decide +kernel
theorem dX2_ring_1 : decode cX2_ring 1 = .ok (.getfield 51, 3) := by decide +kernel
theorem dX2_ring_4 : decode cX2_ring 4 = .ok (.iconst 2, 1) := by decide +kernel
theorem dX2_ring_5 : decode cX2_ring 5 = .ok (.iload_n 1, 1) := by decide +kernel
theorem dX2_ring_6 : decode cX2_ring 6 = .ok (.imul, 1) := by decide +kernel
theorem dX2_ring_7 : decode cX2_ring 7 = .ok (.iload_n 2, 1) := by decide +kernel
theorem dX2_ring_8 : decode cX2_ring 8 = .ok (.iadd, 1) := by decide +kernel
theorem dX2_ring_9 : decode cX2_ring 9 = .ok (.iconst 3, 1) := by decide +kernel
theorem dX2_ring_10 : decode cX2_ring 10 = .ok (.iadd, 1) := by decide +kernel
theorem dX2_ring_11 : decode cX2_ring 11 = .ok (.imul, 1) := by decide +kernel
theorem dX2_ring_12 : decode cX2_ring 12 = .ok (.iconst 2, 1) := by decide +kernel
theorem dX2_ring_13 : decode cX2_ring 13 = .ok (.invokestatic 75, 3) := by decide +kernel
theorem dX2_ring_16 : decode cX2_ring 16 = .ok (.aload_n 0, 1) := by decide +kernel
theorem dX2_ring_17 : decode cX2_ring 17 = .ok (.getfield 57, 3) := by decide +kernel
theorem dX2_ring_20 : decode cX2_ring 20 = .ok (.iload_n 2, 1) := by decide +kernel
theorem dX2_ring_21 : decode cX2_ring 21 = .ok (.imul, 1) := by decide +kernel
theorem dX2_ring_22 : decode cX2_ring 22 = .ok (.iload_n 2, 1) := by decide +kernel
theorem dX2_ring_23 : decode cX2_ring 23 = .ok (.iconst 1, 1) := by decide +kernel
theorem dX2_ring_24 : decode cX2_ring 24 = .ok (.iadd, 1) := by decide +kernel
theorem dX2_ring_25 : decode cX2_ring 25 = .ok (.imul, 1) := by decide +kernel
theorem dX2_ring_26 : decode cX2_ring 26 = .ok (.isub, 1) := by decide +kernel
theorem dX2_ring_27 : decode cX2_ring 27 = .ok (.istore 4, 2) := by decide +kernel
theorem dX2_ring_29 : decode cX2_ring 29 = .ok (.iload 4, 2) := by decide +kernel
theorem dX2_ring_31 : decode cX2_ring 31 = .ok (.aload_n 0, 1) := by decide +kernel
theorem dX2_ring_32 : decode cX2_ring 32 = .ok (.getfield 66, 3) := by decide +kernel
theorem dX2_ring_35 : decode cX2_ring 35 = .ok (.isub, 1) := by decide +kernel
theorem dX2_ring_36 : decode cX2_ring 36 = .ok (.invokestatic 78, 3) := by decide +kernel
theorem dX2_ring_39 : decode cX2_ring 39 = .ok (.istore 5, 2) := by decide +kernel
theorem dX2_ring_41 : decode cX2_ring 41 = .ok (.iload_n 2, 1) := by decide +kernel
theorem dX2_ring_42 : decode cX2_ring 42 = .ok (.iconst 1, 1) := by decide +kernel
theorem dX2_ring_43 : decode cX2_ring 43 = .ok (.if_icmp .ne 43, 3) := by decide +kernel
theorem dX2_ring_46 : decode cX2_ring 46 = .ok (.iload 5, 2) := by decide +kernel
theorem dX2_ring_48 : decode cX2_ring 48 = .ok (.sipush 500, 3) := by decide +kernel
theorem dX2_ring_51 : decode cX2_ring 51 = .ok (.if_icmp .ge 35, 3) := by decide +kernel
theorem dX2_ring_54 : decode cX2_ring 54 = .ok (.sipush 500, 3) := by decide +kernel
theorem dX2_ring_57 : decode cX2_ring 57 = .ok (.iload 5, 2) := by decide +kernel
theorem dX2_ring_59 : decode cX2_ring 59 = .ok (.isub, 1) := by decide +kernel
theorem dX2_ring_60 : decode cX2_ring 60 = .ok (.iconst 2, 1) := by decide +kernel
theorem dX2_ring_61 : decode cX2_ring 61 = .ok (.idiv, 1) := by decide +kernel
theorem dX2_ring_62 : decode cX2_ring 62 = .ok (.istore 6, 2) := by decide +kernel
theorem dX2_ring_64 : decode cX2_ring 64 = .ok (.iload 4, 2) := by decide +kernel
theorem dX2_ring_66 : decode cX2_ring 66 = .ok (.iload 4, 2) := by decide +kernel
theorem dX2_ring_68 : decode cX2_ring 68 = .ok (.aload_n 0, 1) := by decide +kernel
theorem dX2_ring_69 : decode cX2_ring 69 = .ok (.getfield 66, 3) := by decide +kernel
theorem dX2_ring_72 : decode cX2_ring 72 = .ok (.if_icmp .lt 8, 3) := by decide +kernel
theorem dX2_ring_75 : decode cX2_ring 75 = .ok (.iload 6, 2) := by decide +kernel
theorem dX2_ring_77 : decode cX2_ring 77 = .ok (.goto 6, 3) := by decide +kernel
theorem dX2_ring_80 : decode cX2_ring 80 = .ok (.iload 6, 2) := by decide +kernel
theorem dX2_ring_82 : decode cX2_ring 82 = .ok (.ineg, 1) := by decide +kernel
theorem dX2_ring_83 : decode cX2_ring 83 = .ok (.iadd, 1) := by decide +kernel
theorem dX2_ring_84 : decode cX2_ring 84 = .ok (.istore 4, 2) := by decide +kernel
theorem dX2_ring_86 : decode cX2_ring 86 = .ok (.iload 4, 2) := by decide +kernel
theorem dX2_ring_88 : decode cX2_ring 88 = .ok (.bipush 10, 2) := by decide +kernel
theorem dX2_ring_90 : decode cX2_ring 90 = .ok (.aload_n 0, 1) := by decide +kernel
theorem dX2_ring_91 : decode cX2_ring 91 = .ok (.getfield 63, 3) := by decide +kernel
theorem dX2_ring_94 : decode cX2_ring 94 = .ok (.imul, 1) := by decide +kernel
theorem dX2_ring_95 : decode cX2_ring 95 = .ok (.iload_n 3, 1) := by decide +kernel
theorem dX2_ring_96 : decode cX2_ring 96 = .ok (.imul, 1) := by decide +kernel
theorem dX2_ring_97 : decode cX2_ring 97 = .ok (.iadd, 1) := by decide +kernel
theorem dX2_ring_98 : decode cX2_ring 98 = .ok (.ireturn, 1) := by decide +kernel
theorem dX2_ringsNear_0 : decode cX2_ringsNear 0 = .ok (.iconst 1, 1) := by decide +kernel
theorem dX2_ringsNear_1 : decode cX2_ringsNear 1 = .ok (.istore_n 2, 1) := by decide +kernel
theorem dX2_ringsNear_2 : decode cX2_ringsNear 2 = .ok (.iload_n 2, 1) := by decide +kernel
theorem dX2_ringsNear_3 : decode cX2_ringsNear 3 = .ok (.bipush 12, 2) := by decide +kernel
theorem dX2_ringsNear_5 : decode cX2_ringsNear 5 = .ok (.if_icmp .gt 42, 3) := by decide +kernel
theorem dX2_ringsNear_8 : decode cX2_ringsNear 8 = .ok (.iconst 0, 1) := by decide +kernel
theorem dX2_ringsNear_9 : decode cX2_ringsNear 9 = .ok (.istore_n 3, 1) := by decide +kernel
theorem dX2_ringsNear_10 : decode cX2_ringsNear 10 = .ok (.iload_n 3, 1) := by decide +kernel
theorem dX2_ringsNear_11 : decode cX2_ringsNear 11 = .ok (.iconst 2, 1) := by decide +kernel
theorem dX2_ringsNear_12 : decode cX2_ringsNear 12 = .ok (.if_icmp .gt 29, 3) := by decide +kernel
theorem dX2_ringsNear_15 : decode cX2_ringsNear 15 = .ok (.aload_n 0, 1) := by decide +kernel
theorem dX2_ringsNear_16 : decode cX2_ringsNear 16 = .ok (.iload_n 2, 1) := by decide +kernel
theorem dX2_ringsNear_17 : decode cX2_ringsNear 17 = .ok (.iload_n 3, 1) := by decide +kernel
theorem dX2_ringsNear_18 : decode cX2_ringsNear 18 = .ok (.iconst 0, 1) := by decide +kernel
theorem dX2_ringsNear_19 : decode cX2_ringsNear 19 = .ok (.invokevirtual 82, 3) := by decide +kernel
theorem dX2_ringsNear_22 : decode cX2_ringsNear 22 = .ok (.iload_n 1, 1) := by decide +kernel
theorem dX2_ringsNear_23 : decode cX2_ringsNear 23 = .ok (.isub, 1) := by decide +kernel
theorem dX2_ringsNear_24 : decode cX2_ringsNear 24 = .ok (.invokestatic 78, 3) := by decide +kernel
theorem dX2_ringsNear_27 : decode cX2_ringsNear 27 = .ok (.sipush 20000, 3) := by decide +kernel
theorem dX2_ringsNear_30 : decode cX2_ringsNear 30 = .ok (.if_icmp .ge 5, 3) := by decide +kernel
theorem dX2_ringsNear_33 : decode cX2_ringsNear 33 = .ok (.iconst 1, 1) := by decide +kernel
theorem dX2_ringsNear_34 : decode cX2_ringsNear 34 = .ok (.ireturn, 1) := by decide +kernel
theorem dX2_ringsNear_35 : decode cX2_ringsNear 35 = .ok (.iinc 3 1, 3) := by decide +kernel
theorem dX2_ringsNear_38 : decode cX2_ringsNear 38 = .ok (.goto (-28), 3) := by decide +kernel
theorem dX2_ringsNear_41 : decode cX2_ringsNear 41 = .ok (.iinc 2 1, 3) := by decide +kernel
theorem dX2_ringsNear_44 : decode cX2_ringsNear 44 = .ok (.goto (-42), 3) := by decide +kernel
theorem dX2_ringsNear_47 : decode cX2_ringsNear 47 = .ok (.iconst 0, 1) := by decide +kernel
theorem dX2_ringsNear_48 : decode cX2_ringsNear 48 = .ok (.ireturn, 1) := by decide +kernel
theorem dX3_init_0 : decode cX3_init 0 = .ok (.aload_n 0, 1) := by decide +kernel
theorem dX3_init_1 : decode cX3_init 1 = .ok (.invokespecial 1, 3) := by decide +kernel
theorem dX3_init_4 : decode cX3_init 4 = .ok (.aload_n 0, 1) := by decide +kernel
theorem dX3_init_5 : decode cX3_init 5 = .ok (.bipush 6, 2) := by decide +kernel
theorem dX3_init_7 : decode cX3_init 7 = .ok (.anewarray 9, 3) := by decide +kernel
theorem dX3_init_10 : decode cX3_init 10 = .ok (.putfield 11, 3) := by decide +kernel
theorem dX3_init_13 : decode cX3_init 13 = .ok (.aload_n 0, 1) := by decide +kernel
theorem dX3_init_14 : decode cX3_init 14 = .ok (.new 9, 3) := by decide +kernel
theorem dX3_init_17 : decode cX3_init 17 = .ok (.dup, 1) := by decide +kernel
theorem dX3_init_18 : decode cX3_init 18 = .ok (.invokespecial 15, 3) := by decide +kernel
theorem dX3_init_21 : decode cX3_init 21 = .ok (.putfield 16, 3) := by decide +kernel
theorem dX3_init_24 : decode cX3_init 24 = .ok (.aload_n 0, 1) := by decide +kernel
theorem dX3_init_25 : decode cX3_init 25 = .ok (.iconst 4, 1) := by decide +kernel
theorem dX3_init_26 : decode cX3_init 26 = .ok (.newarray .boolean, 2) := by decide +kernel
theorem dX3_init_28 : decode cX3_init 28 = .ok (.putfield 20, 3) := by decide +kernel
theorem dX3_init_31 : decode cX3_init 31 = .ok (.aload_n 0, 1) := by decide +kernel
theorem dX3_init_32 : decode cX3_init 32 = .ok (.sipush 1000, 3) := by decide +kernel
theorem dX3_init_35 : decode cX3_init 35 = .ok (.putfield 24, 3) := by decide +kernel
theorem dX3_init_38 : decode cX3_init 38 = .ok (.aload_n 0, 1) := by decide +kernel
theorem dX3_init_39 : decode cX3_init 39 = .ok (.bipush 40, 2) := by decide +kernel
theorem dX3_init_41 : decode cX3_init 41 = .ok (.anewarray 28, 3) := by decide +kernel
theorem dX3_init_44 : decode cX3_init 44 = .ok (.putfield 30, 3) := by decide +kernel
theorem dX3_init_47 : decode cX3_init 47 = .ok (.aload_n 0, 1) := by decide +kernel
theorem dX3_init_48 : decode cX3_init 48 = .ok (.new 34, 3) := by decide +kernel
theorem dX3_init_51 : decode cX3_init 51 = .ok (.dup, 1) := by decide +kernel
theorem dX3_init_52 : decode cX3_init 52 = .ok (.invokespecial 36, 3) := by decide +kernel
theorem dX3_init_55 : decode cX3_init 55 = .ok (.putfield 37, 3) := by decide +kernel
theorem dX3_init_58 : decode cX3_init 58 = .ok (.return_, 1) := by decide +kernel
theorem dX3_shell_0 : decode cX3_shell 0 = .ok (.iload_n 1, 1) := by decide +kernel
theorem dX3_shell_1 : decode cX3_shell 1 = .ok (.iconst 1, 1) := by decide +kernel
theorem dX3_shell_2 : decode cX3_shell 2 = .ok (.bipush 99, 2) := by decide +kernel
theorem dX3_shell_4 : decode cX3_shell 4 = .ok (.invokestatic 41, 3) := by decide +kernel
theorem dX3_shell_7 : decode cX3_shell 7 = .ok (.ifCond .ne 23, 3) := by decide +kernel
theorem dX3_shell_10 : decode cX3_shell 10 = .ok (.iload_n 2, 1) := by decide +kernel
theorem dX3_shell_11 : decode cX3_shell 11 = .ok (.iconst 1, 1) := by decide +kernel
theorem dX3_shell_12 : decode cX3_shell 12 = .ok (.bipush 99, 2) := by decide +kernel
theorem dX3_shell_14 : decode cX3_shell 14 = .ok (.invokestatic 41, 3) := by decide +kernel
theorem dX3_shell_17 : decode cX3_shell 17 = .ok (.ifCond .ne 13, 3) := by decide +kernel
theorem dX3_shell_20 : decode cX3_shell 20 = .ok (.iload_n 3, 1) := by decide +kernel
theorem dX3_shell_21 : decode cX3_shell 21 = .ok (.iconst 0, 1) := by decide +kernel
theorem dX3_shell_22 : decode cX3_shell 22 = .ok (.bipush 9, 2) := by decide +kernel
theorem dX3_shell_24 : decode cX3_shell 24 = .ok (.invokestatic 41, 3) := by decide +kernel
theorem dX3_shell_27 : decode cX3_shell 27 = .ok (.ifCond .eq 13, 3) := by decide +kernel
theorem dX3_shell_30 : decode cX3_shell 30 = .ok (.new 45, 3) := by decide +kernel
theorem dX3_shell_33 : decode cX3_shell 33 = .ok (.dup, 1) := by decide +kernel
theorem dX3_shell_34 : decode cX3_shell 34 = .ok (.ldc 47, 2) := by decide +kernel
theorem dX3_shell_36 : decode cX3_shell 36 = .ok (.invokespecial 49, 3) := by decide +kernel
theorem dX3_shell_39 : decode cX3_shell 39 = .ok (.athrow, 1) := by decide +kernel
theorem dX3_shell_40 : decode cX3_shell 40 = .ok (.aload_n 0, 1) := by decide +kernel
theorem dX3_shell_41 : decode cX3_shell 41 = .ok (.getfield 16, 3) := by decide +kernel
theorem dX3_shell_44 : decode cX3_shell 44 = .ok (.getfield 52, 3) := by decide +kernel
theorem dX3_shell_47 : decode cX3_shell 47 = .ok (.bipush 8, 2) := by decide +kernel
theorem dX3_shell_49 : decode cX3_shell 49 = .ok (.if_icmp .lt 13, 3) := by decide +kernel
theorem dX3_shell_52 : decode cX3_shell 52 = .ok (.new 55, 3) := by decide +kernel
theorem dX3_shell_55 : decode cX3_shell 55 = .ok (.dup, 1) := by decide +kernel
theorem dX3_shell_56 : decode cX3_shell 56 = .ok (.ldc 57, 2) := by decide +kernel
theorem dX3_shell_58 : decode cX3_shell 58 = .ok (.invokespecial 59, 3) := by decide +kernel
theorem dX3_shell_61 : decode cX3_shell 61 = .ok (.athrow, 1) := by decide +kernel
theorem dX3_shell_62 : decode cX3_shell 62 = .ok (.aload_n 0, 1) := by decide +kernel
theorem dX3_shell_63 : decode cX3_shell 63 = .ok (.getfield 16, 3) := by decide +kernel
theorem dX3_shell_66 : decode cX3_shell 66 = .ok (.iload_n 1, 1) := by decide +kernel
theorem dX3_shell_67 : decode cX3_shell 67 = .ok (.iload_n 2, 1) := by decide +kernel
theorem dX3_shell_68 : decode cX3_shell 68 = .ok (.iload_n 3, 1) := by decide +kernel
theorem dX3_shell_69 : decode cX3_shell 69 = .ok (.invokevirtual 60, 3) := by decide +kernel
theorem dX3_shell_72 : decode cX3_shell 72 = .ok (.aload_n 0, 1) := by decide +kernel
theorem dX3_shell_73 : decode cX3_shell 73 = .ok (.getfield 16, 3) := by decide +kernel
theorem dX3_shell_76 : decode cX3_shell 76 = .ok (.getfield 52, 3) := by decide +kernel
theorem dX3_shell_79 : decode cX3_shell 79 = .ok (.ireturn, 1) := by decide +kernel
theorem dX3_star_0 : decode cX3_star 0 = .ok (.iload_n 1, 1) := by decide +kernel
theorem dX3_star_1 : decode cX3_star 1 = .ok (.iconst 0, 1) := by decide +kernel
theorem dX3_star_2 : decode cX3_star 2 = .ok (.bipush 99, 2) := by decide +kernel
theorem dX3_star_4 : decode cX3_star 4 = .ok (.invokestatic 41, 3) := by decide +kernel
theorem dX3_star_7 : decode cX3_star 7 = .ok (.ifCond .eq 13, 3) := by decide +kernel
theorem dX3_star_10 : decode cX3_star 10 = .ok (.new 45, 3) := by decide +kernel
theorem dX3_star_13 : decode cX3_star 13 = .ok (.dup, 1) := by decide +kernel
theorem dX3_star_14 : decode cX3_star 14 = .ok (.ldc 64, 2) := by decide +kernel
theorem dX3_star_16 : decode cX3_star 16 = .ok (.invokespecial 49, 3) := by decide +kernel
theorem dX3_star_19 : decode cX3_star 19 = .ok (.athrow, 1) := by decide +kernel
theorem dX3_star_20 : decode cX3_star 20 = .ok (.aload_n 0, 1) := by decide +kernel
theorem dX3_star_21 : decode cX3_star 21 = .ok (.getfield 16, 3) := by decide +kernel
theorem dX3_star_24 : decode cX3_star 24 = .ok (.getfield 52, 3) := by decide +kernel
theorem dX3_star_27 : decode cX3_star 27 = .ok (.ifCond .eq 12, 3) := by decide +kernel
theorem dX3_star_30 : decode cX3_star 30 = .ok (.aload_n 0, 1) := by decide +kernel
theorem dX3_star_31 : decode cX3_star 31 = .ok (.getfield 66, 3) := by decide +kernel
theorem dX3_star_34 : decode cX3_star 34 = .ok (.bipush 6, 2) := by decide +kernel
theorem dX3_star_36 : decode cX3_star 36 = .ok (.if_icmp .lt 13, 3) := by decide +kernel
theorem dX3_star_39 : decode cX3_star 39 = .ok (.new 55, 3) := by decide +kernel
theorem dX3_star_42 : decode cX3_star 42 = .ok (.dup, 1) := by decide +kernel
theorem dX3_star_43 : decode cX3_star 43 = .ok (.ldc 69, 2) := by decide +kernel
theorem dX3_star_45 : decode cX3_star 45 = .ok (.invokespecial 59, 3) := by decide +kernel
theorem dX3_star_48 : decode cX3_star 48 = .ok (.athrow, 1) := by decide +kernel
theorem dX3_star_49 : decode cX3_star 49 = .ok (.aload_n 0, 1) := by decide +kernel
theorem dX3_star_50 : decode cX3_star 50 = .ok (.getfield 16, 3) := by decide +kernel
theorem dX3_star_53 : decode cX3_star 53 = .ok (.iload_n 1, 1) := by decide +kernel
theorem dX3_star_54 : decode cX3_star 54 = .ok (.invokevirtual 71, 3) := by decide +kernel
theorem dX3_star_57 : decode cX3_star 57 = .ok (.aload_n 0, 1) := by decide +kernel
theorem dX3_star_58 : decode cX3_star 58 = .ok (.getfield 11, 3) := by decide +kernel
theorem dX3_star_61 : decode cX3_star 61 = .ok (.aload_n 0, 1) := by decide +kernel
theorem dX3_star_62 : decode cX3_star 62 = .ok (.getfield 66, 3) := by decide +kernel
theorem dX3_star_65 : decode cX3_star 65 = .ok (.aload_n 0, 1) := by decide +kernel
theorem dX3_star_66 : decode cX3_star 66 = .ok (.getfield 16, 3) := by decide +kernel
theorem dX3_star_69 : decode cX3_star 69 = .ok (.aastore, 1) := by decide +kernel
theorem dX3_star_70 : decode cX3_star 70 = .ok (.aload_n 0, 1) := by decide +kernel
theorem dX3_star_71 : decode cX3_star 71 = .ok (.new 9, 3) := by decide +kernel
theorem dX3_star_74 : decode cX3_star 74 = .ok (.dup, 1) := by decide +kernel
theorem dX3_star_75 : decode cX3_star 75 = .ok (.invokespecial 15, 3) := by decide +kernel
theorem dX3_star_78 : decode cX3_star 78 = .ok (.putfield 16, 3) := by decide +kernel
theorem dX3_star_81 : decode cX3_star 81 = .ok (.aload_n 0, 1) := by decide +kernel
theorem dX3_star_82 : decode cX3_star 82 = .ok (.dup, 1) := by decide +kernel
theorem dX3_star_83 : decode cX3_star 83 = .ok (.getfield 66, 3) := by decide +kernel
theorem dX3_star_86 : decode cX3_star 86 = .ok (.iconst 1, 1) := by decide +kernel
theorem dX3_star_87 : decode cX3_star 87 = .ok (.iadd, 1) := by decide +kernel
theorem dX3_star_88 : decode cX3_star 88 = .ok (.putfield 66, 3) := by decide +kernel
theorem dX3_star_91 : decode cX3_star 91 = .ok (.aload_n 0, 1) := by decide +kernel
theorem dX3_star_92 : decode cX3_star 92 = .ok (.getfield 66, 3) := by decide +kernel
theorem dX3_star_95 : decode cX3_star 95 = .ok (.iconst 1, 1) := by decide +kernel
theorem dX3_star_96 : decode cX3_star 96 = .ok (.isub, 1) := by decide +kernel
theorem dX3_star_97 : decode cX3_star 97 = .ok (.ireturn, 1) := by decide +kernel
theorem dX3_frame_0 : decode cX3_frame 0 = .ok (.aload_n 0, 1) := by decide +kernel
theorem dX3_frame_1 : decode cX3_frame 1 = .ok (.iload_n 1, 1) := by decide +kernel
theorem dX3_frame_2 : decode cX3_frame 2 = .ok (.invokevirtual 75, 3) := by decide +kernel
theorem dX3_frame_5 : decode cX3_frame 5 = .ok (.astore 5, 2) := by decide +kernel
theorem dX3_frame_7 : decode cX3_frame 7 = .ok (.iload_n 2, 1) := by decide +kernel
theorem dX3_frame_8 : decode cX3_frame 8 = .ok (.invokestatic 79, 3) := by decide +kernel
theorem dX3_frame_11 : decode cX3_frame 11 = .ok (.iload_n 3, 1) := by decide +kernel
theorem dX3_frame_12 : decode cX3_frame 12 = .ok (.invokestatic 82, 3) := by decide +kernel
theorem dX3_frame_15 : decode cX3_frame 15 = .ok (.iload 4, 2) := by decide +kernel
theorem dX3_frame_17 : decode cX3_frame 17 = .ok (.iconst 0, 1) := by decide +kernel
theorem dX3_frame_18 : decode cX3_frame 18 = .ok (.sipush 9999, 3) := by decide +kernel
theorem dX3_frame_21 : decode cX3_frame 21 = .ok (.invokestatic 41, 3) := by decide +kernel
theorem dX3_frame_24 : decode cX3_frame 24 = .ok (.ifCond .eq 13, 3) := by decide +kernel
theorem dX3_frame_27 : decode cX3_frame 27 = .ok (.new 45, 3) := by decide +kernel
theorem dX3_frame_30 : decode cX3_frame 30 = .ok (.dup, 1) := by decide +kernel
theorem dX3_frame_31 : decode cX3_frame 31 = .ok (.ldc 85, 2) := by decide +kernel
theorem dX3_frame_33 : decode cX3_frame 33 = .ok (.invokespecial 49, 3) := by decide +kernel
theorem dX3_frame_36 : decode cX3_frame 36 = .ok (.athrow, 1) := by decide +kernel
theorem dX3_frame_37 : decode cX3_frame 37 = .ok (.aload 5, 2) := by decide +kernel
theorem dX3_frame_39 : decode cX3_frame 39 = .ok (.getfield 87, 3) := by decide +kernel
theorem dX3_frame_42 : decode cX3_frame 42 = .ok (.iload_n 3, 1) := by decide +kernel
theorem dX3_frame_43 : decode cX3_frame 43 = .ok (.iaload, 1) := by decide +kernel
theorem dX3_frame_44 : decode cX3_frame 44 = .ok (.istore 6, 2) := by decide +kernel
theorem dX3_frame_46 : decode cX3_frame 46 = .ok (.aload 5, 2) := by decide +kernel
theorem dX3_frame_48 : decode cX3_frame 48 = .ok (.getfield 87, 3) := by decide +kernel
theorem dX3_frame_51 : decode cX3_frame 51 = .ok (.iload_n 3, 1) := by decide +kernel
theorem dX3_frame_52 : decode cX3_frame 52 = .ok (.iload 4, 2) := by decide +kernel
theorem dX3_frame_54 : decode cX3_frame 54 = .ok (.iastore, 1) := by decide +kernel
theorem dX3_frame_55 : decode cX3_frame 55 = .ok (.aload 5, 2) := by decide +kernel
theorem dX3_frame_57 : decode cX3_frame 57 = .ok (.getfield 91, 3) := by decide +kernel
theorem dX3_frame_60 : decode cX3_frame 60 = .ok (.iload_n 3, 1) := by decide +kernel
theorem dX3_frame_61 : decode cX3_frame 61 = .ok (.iload_n 2, 1) := by decide +kernel
theorem dX3_frame_62 : decode cX3_frame 62 = .ok (.iastore, 1) := by decide +kernel
theorem dX3_frame_63 : decode cX3_frame 63 = .ok (.iload 6, 2) := by decide +kernel
theorem dX3_frame_65 : decode cX3_frame 65 = .ok (.ireturn, 1) := by decide +kernel
theorem dX3_drop_0 : decode cX3_drop 0 = .ok (.aload_n 0, 1) := by decide +kernel
theorem dX3_drop_1 : decode cX3_drop 1 = .ok (.iload_n 1, 1) := by decide +kernel
theorem dX3_drop_2 : decode cX3_drop 2 = .ok (.invokevirtual 75, 3) := by decide +kernel
theorem dX3_drop_5 : decode cX3_drop 5 = .ok (.astore_n 3, 1) := by decide +kernel
theorem dX3_drop_6 : decode cX3_drop 6 = .ok (.iload_n 2, 1) := by decide +kernel
theorem dX3_drop_7 : decode cX3_drop 7 = .ok (.invokestatic 82, 3) := by decide +kernel
theorem dX3_drop_10 : decode cX3_drop 10 = .ok (.aload_n 3, 1) := by decide +kernel
theorem dX3_drop_11 : decode cX3_drop 11 = .ok (.getfield 87, 3) := by decide +kernel
theorem dX3_drop_14 : decode cX3_drop 14 = .ok (.iload_n 2, 1) := by decide +kernel
theorem dX3_drop_15 : decode cX3_drop 15 = .ok (.iaload, 1) := by decide +kernel
theorem dX3_drop_16 : decode cX3_drop 16 = .ok (.istore 4, 2) := by decide +kernel
theorem dX3_drop_18 : decode cX3_drop 18 = .ok (.iload 4, 2) := by decide +kernel
theorem dX3_drop_20 : decode cX3_drop 20 = .ok (.iconst (-1), 1) := by decide +kernel
theorem dX3_drop_21 : decode cX3_drop 21 = .ok (.if_icmp .ne 13, 3) := by decide +kernel
theorem dX3_drop_24 : decode cX3_drop 24 = .ok (.new 55, 3) := by decide +kernel
theorem dX3_drop_27 : decode cX3_drop 27 = .ok (.dup, 1) := by decide +kernel
theorem dX3_drop_28 : decode cX3_drop 28 = .ok (.ldc 94, 2) := by decide +kernel
theorem dX3_drop_30 : decode cX3_drop 30 = .ok (.invokespecial 59, 3) := by decide +kernel
theorem dX3_drop_33 : decode cX3_drop 33 = .ok (.athrow, 1) := by decide +kernel
theorem dX3_drop_34 : decode cX3_drop 34 = .ok (.aload_n 3, 1) := by decide +kernel
theorem dX3_drop_35 : decode cX3_drop 35 = .ok (.getfield 87, 3) := by decide +kernel
theorem dX3_drop_38 : decode cX3_drop 38 = .ok (.iload_n 2, 1) := by decide +kernel
theorem dX3_drop_39 : decode cX3_drop 39 = .ok (.iconst (-1), 1) := by decide +kernel
theorem dX3_drop_40 : decode cX3_drop 40 = .ok (.iastore, 1) := by decide +kernel
theorem dX3_drop_41 : decode cX3_drop 41 = .ok (.iload 4, 2) := by decide +kernel
theorem dX3_drop_43 : decode cX3_drop 43 = .ok (.ireturn, 1) := by decide +kernel
theorem dX3_mask_0 : decode cX3_mask 0 = .ok (.iload_n 1, 1) := by decide +kernel
theorem dX3_mask_1 : decode cX3_mask 1 = .ok (.invokestatic 79, 3) := by decide +kernel
theorem dX3_mask_4 : decode cX3_mask 4 = .ok (.aload_n 0, 1) := by decide +kernel
theorem dX3_mask_5 : decode cX3_mask 5 = .ok (.getfield 20, 3) := by decide +kernel
theorem dX3_mask_8 : decode cX3_mask 8 = .ok (.iload_n 1, 1) := by decide +kernel
theorem dX3_mask_9 : decode cX3_mask 9 = .ok (.baload, 1) := by decide +kernel
theorem dX3_mask_10 : decode cX3_mask 10 = .ok (.istore_n 3, 1) := by decide +kernel
theorem dX3_mask_11 : decode cX3_mask 11 = .ok (.aload_n 0, 1) := by decide +kernel
theorem dX3_mask_12 : decode cX3_mask 12 = .ok (.getfield 20, 3) := by decide +kernel
theorem dX3_mask_15 : decode cX3_mask 15 = .ok (.iload_n 1, 1) := by decide +kernel
theorem dX3_mask_16 : decode cX3_mask 16 = .ok (.iload_n 2, 1) := by decide +kernel
theorem dX3_mask_17 : decode cX3_mask 17 = .ok (.bastore, 1) := by decide +kernel
theorem dX3_mask_18 : decode cX3_mask 18 = .ok (.iload_n 3, 1) := by decide +kernel
theorem dX3_mask_19 : decode cX3_mask 19 = .ok (.ireturn, 1) := by decide +kernel
theorem dX3_threshold_0 : decode cX3_threshold 0 = .ok (.iload_n 1, 1) := by decide +kernel
theorem dX3_threshold_1 : decode cX3_threshold 1 = .ok (.iconst 1, 1) := by decide +kernel
theorem dX3_threshold_2 : decode cX3_threshold 2 = .ok (.ldc 96, 2) := by decide +kernel
theorem dX3_threshold_4 : decode cX3_threshold 4 = .ok (.invokestatic 41, 3) := by decide +kernel
theorem dX3_threshold_7 : decode cX3_threshold 7 = .ok (.ifCond .eq 13, 3) := by decide +kernel
theorem dX3_threshold_10 : decode cX3_threshold 10 = .ok (.new 45, 3) := by decide +kernel
theorem dX3_threshold_13 : decode cX3_threshold 13 = .ok (.dup, 1) := by decide +kernel
theorem dX3_threshold_14 : decode cX3_threshold 14 = .ok (.ldc 97, 2) := by decide +kernel
theorem dX3_threshold_16 : decode cX3_threshold 16 = .ok (.invokespecial 49, 3) := by decide +kernel
theorem dX3_threshold_19 : decode cX3_threshold 19 = .ok (.athrow, 1) := by decide +kernel
theorem dX3_threshold_20 : decode cX3_threshold 20 = .ok (.aload_n 0, 1) := by decide +kernel
theorem dX3_threshold_21 : decode cX3_threshold 21 = .ok (.getfield 24, 3) := by decide +kernel
theorem dX3_threshold_24 : decode cX3_threshold 24 = .ok (.istore_n 2, 1) := by decide +kernel
theorem dX3_threshold_25 : decode cX3_threshold 25 = .ok (.aload_n 0, 1) := by decide +kernel
theorem dX3_threshold_26 : decode cX3_threshold 26 = .ok (.iload_n 1, 1) := by decide +kernel
theorem dX3_threshold_27 : decode cX3_threshold 27 = .ok (.putfield 24, 3) := by decide +kernel
theorem dX3_threshold_30 : decode cX3_threshold 30 = .ok (.iload_n 2, 1) := by decide +kernel
theorem dX3_threshold_31 : decode cX3_threshold 31 = .ok (.ireturn, 1) := by decide +kernel
theorem dX3_takeOut_0 : decode cX3_takeOut 0 = .ok (.aload_n 0, 1) := by decide +kernel
theorem dX3_takeOut_1 : decode cX3_takeOut 1 = .ok (.iload_n 1, 1) := by decide +kernel
theorem dX3_takeOut_2 : decode cX3_takeOut 2 = .ok (.invokevirtual 75, 3) := by decide +kernel
theorem dX3_takeOut_5 : decode cX3_takeOut 5 = .ok (.astore_n 3, 1) := by decide +kernel
theorem dX3_takeOut_6 : decode cX3_takeOut 6 = .ok (.iload_n 2, 1) := by decide +kernel
theorem dX3_takeOut_7 : decode cX3_takeOut 7 = .ok (.iconst 1, 1) := by decide +kernel
theorem dX3_takeOut_8 : decode cX3_takeOut 8 = .ok (.bipush 31, 2) := by decide +kernel
theorem dX3_takeOut_10 : decode cX3_takeOut 10 = .ok (.invokestatic 41, 3) := by decide +kernel
theorem dX3_takeOut_13 : decode cX3_takeOut 13 = .ok (.ifCond .eq 13, 3) := by decide +kernel
theorem dX3_takeOut_16 : decode cX3_takeOut 16 = .ok (.new 45, 3) := by decide +kernel
theorem dX3_takeOut_19 : decode cX3_takeOut 19 = .ok (.dup, 1) := by decide +kernel
theorem dX3_takeOut_20 : decode cX3_takeOut 20 = .ok (.ldc 99, 2) := by decide +kernel
theorem dX3_takeOut_22 : decode cX3_takeOut 22 = .ok (.invokespecial 49, 3) := by decide +kernel
theorem dX3_takeOut_25 : decode cX3_takeOut 25 = .ok (.athrow, 1) := by decide +kernel
theorem dX3_takeOut_26 : decode cX3_takeOut 26 = .ok (.aload_n 3, 1) := by decide +kernel
theorem dX3_takeOut_27 : decode cX3_takeOut 27 = .ok (.getfield 101, 3) := by decide +kernel
theorem dX3_takeOut_30 : decode cX3_takeOut 30 = .ok (.bipush 6, 2) := by decide +kernel
theorem dX3_takeOut_32 : decode cX3_takeOut 32 = .ok (.if_icmp .lt 13, 3) := by decide +kernel
theorem dX3_takeOut_35 : decode cX3_takeOut 35 = .ok (.new 55, 3) := by decide +kernel
theorem dX3_takeOut_38 : decode cX3_takeOut 38 = .ok (.dup, 1) := by decide +kernel
theorem dX3_takeOut_39 : decode cX3_takeOut 39 = .ok (.ldc 104, 2) := by decide +kernel
theorem dX3_takeOut_41 : decode cX3_takeOut 41 = .ok (.invokespecial 59, 3) := by decide +kernel
theorem dX3_takeOut_44 : decode cX3_takeOut 44 = .ok (.athrow, 1) := by decide +kernel
theorem dX3_takeOut_45 : decode cX3_takeOut 45 = .ok (.aload_n 3, 1) := by decide +kernel
theorem dX3_takeOut_46 : decode cX3_takeOut 46 = .ok (.getfield 106, 3) := by decide +kernel
theorem dX3_takeOut_49 : decode cX3_takeOut 49 = .ok (.aload_n 3, 1) := by decide +kernel
theorem dX3_takeOut_50 : decode cX3_takeOut 50 = .ok (.getfield 101, 3) := by decide +kernel
theorem dX3_takeOut_53 : decode cX3_takeOut 53 = .ok (.iload_n 2, 1) := by decide +kernel
theorem dX3_takeOut_54 : decode cX3_takeOut 54 = .ok (.iastore, 1) := by decide +kernel
theorem dX3_takeOut_55 : decode cX3_takeOut 55 = .ok (.aload_n 3, 1) := by decide +kernel
theorem dX3_takeOut_56 : decode cX3_takeOut 56 = .ok (.dup, 1) := by decide +kernel
theorem dX3_takeOut_57 : decode cX3_takeOut 57 = .ok (.getfield 101, 3) := by decide +kernel
theorem dX3_takeOut_60 : decode cX3_takeOut 60 = .ok (.iconst 1, 1) := by decide +kernel
theorem dX3_takeOut_61 : decode cX3_takeOut 61 = .ok (.iadd, 1) := by decide +kernel
theorem dX3_takeOut_62 : decode cX3_takeOut 62 = .ok (.putfield 101, 3) := by decide +kernel
theorem dX3_takeOut_65 : decode cX3_takeOut 65 = .ok (.aload_n 3, 1) := by decide +kernel
theorem dX3_takeOut_66 : decode cX3_takeOut 66 = .ok (.getfield 101, 3) := by decide +kernel
theorem dX3_takeOut_69 : decode cX3_takeOut 69 = .ok (.ireturn, 1) := by decide +kernel
theorem dX3_putBack_0 : decode cX3_putBack 0 = .ok (.aload_n 0, 1) := by decide +kernel
theorem dX3_putBack_1 : decode cX3_putBack 1 = .ok (.iload_n 1, 1) := by decide +kernel
theorem dX3_putBack_2 : decode cX3_putBack 2 = .ok (.invokevirtual 75, 3) := by decide +kernel
theorem dX3_putBack_5 : decode cX3_putBack 5 = .ok (.astore_n 2, 1) := by decide +kernel
theorem dX3_putBack_6 : decode cX3_putBack 6 = .ok (.aload_n 2, 1) := by decide +kernel
theorem dX3_putBack_7 : decode cX3_putBack 7 = .ok (.getfield 101, 3) := by decide +kernel
theorem dX3_putBack_10 : decode cX3_putBack 10 = .ok (.istore_n 3, 1) := by decide +kernel
theorem dX3_putBack_11 : decode cX3_putBack 11 = .ok (.aload_n 2, 1) := by decide +kernel
theorem dX3_putBack_12 : decode cX3_putBack 12 = .ok (.iconst 0, 1) := by decide +kernel
theorem dX3_putBack_13 : decode cX3_putBack 13 = .ok (.putfield 101, 3) := by decide +kernel
theorem dX3_putBack_16 : decode cX3_putBack 16 = .ok (.iload_n 3, 1) := by decide +kernel
theorem dX3_putBack_17 : decode cX3_putBack 17 = .ok (.ireturn, 1) := by decide +kernel
theorem dX3_claimTone_0 : decode cX3_claimTone 0 = .ok (.aload_n 0, 1) := by decide +kernel
theorem dX3_claimTone_1 : decode cX3_claimTone 1 = .ok (.iload_n 1, 1) := by decide +kernel
theorem dX3_claimTone_2 : decode cX3_claimTone 2 = .ok (.invokevirtual 75, 3) := by decide +kernel
theorem dX3_claimTone_5 : decode cX3_claimTone 5 = .ok (.astore 4, 2) := by decide +kernel
theorem dX3_claimTone_7 : decode cX3_claimTone 7 = .ok (.iload_n 2, 1) := by decide +kernel
theorem dX3_claimTone_8 : decode cX3_claimTone 8 = .ok (.invokestatic 109, 3) := by decide +kernel
theorem dX3_claimTone_11 : decode cX3_claimTone 11 = .ok (.aload_n 0, 1) := by decide +kernel
theorem dX3_claimTone_12 : decode cX3_claimTone 12 = .ok (.invokevirtual 112, 3) := by decide +kernel
theorem dX3_claimTone_15 : decode cX3_claimTone 15 = .ok (.aload_n 0, 1) := by decide +kernel
theorem dX3_claimTone_16 : decode cX3_claimTone 16 = .ok (.aload 4, 2) := by decide +kernel
theorem dX3_claimTone_18 : decode cX3_claimTone 18 = .ok (.iload_n 2, 1) := by decide +kernel
theorem dX3_claimTone_19 : decode cX3_claimTone 19 = .ok (.iload_n 3, 1) := by decide +kernel
theorem dX3_claimTone_20 : decode cX3_claimTone 20 = .ok (.invokevirtual 115, 3) := by decide +kernel
theorem dX3_claimTone_23 : decode cX3_claimTone 23 = .ok (.ifCond .ne 13, 3) := by decide +kernel
theorem dX3_claimTone_26 : decode cX3_claimTone 26 = .ok (.new 55, 3) := by decide +kernel
theorem dX3_claimTone_29 : decode cX3_claimTone 29 = .ok (.dup, 1) := by decide +kernel
theorem dX3_claimTone_30 : decode cX3_claimTone 30 = .ok (.ldc 119, 2) := by decide +kernel
theorem dX3_claimTone_32 : decode cX3_claimTone 32 = .ok (.invokespecial 59, 3) := by decide +kernel
theorem dX3_claimTone_35 : decode cX3_claimTone 35 = .ok (.athrow, 1) := by decide +kernel
theorem dX3_claimTone_36 : decode cX3_claimTone 36 = .ok (.new 28, 3) := by decide +kernel
theorem dX3_claimTone_39 : decode cX3_claimTone 39 = .ok (.dup, 1) := by decide +kernel
theorem dX3_claimTone_40 : decode cX3_claimTone 40 = .ok (.iconst 0, 1) := by decide +kernel
theorem dX3_claimTone_41 : decode cX3_claimTone 41 = .ok (.iload_n 1, 1) := by decide +kernel
theorem dX3_claimTone_42 : decode cX3_claimTone 42 = .ok (.iload_n 3, 1) := by decide +kernel
theorem dX3_claimTone_43 : decode cX3_claimTone 43 = .ok (.invokespecial 121, 3) := by decide +kernel
theorem dX3_claimTone_46 : decode cX3_claimTone 46 = .ok (.astore 5, 2) := by decide +kernel
theorem dX3_claimTone_48 : decode cX3_claimTone 48 = .ok (.aload 5, 2) := by decide +kernel
theorem dX3_claimTone_50 : decode cX3_claimTone 50 = .ok (.iload_n 2, 1) := by decide +kernel
theorem dX3_claimTone_51 : decode cX3_claimTone 51 = .ok (.putfield 123, 3) := by decide +kernel
theorem dX3_claimTone_54 : decode cX3_claimTone 54 = .ok (.aload 5, 2) := by decide +kernel
theorem dX3_claimTone_56 : decode cX3_claimTone 56 = .ok (.aload 4, 2) := by decide +kernel
theorem dX3_claimTone_58 : decode cX3_claimTone 58 = .ok (.getfield 101, 3) := by decide +kernel
theorem dX3_claimTone_61 : decode cX3_claimTone 61 = .ok (.putfield 126, 3) := by decide +kernel
theorem dX3_claimTone_64 : decode cX3_claimTone 64 = .ok (.aload 5, 2) := by decide +kernel
theorem dX3_claimTone_66 : decode cX3_claimTone 66 = .ok (.aload_n 0, 1) := by decide +kernel
theorem dX3_claimTone_67 : decode cX3_claimTone 67 = .ok (.getfield 37, 3) := by decide +kernel
theorem dX3_claimTone_70 : decode cX3_claimTone 70 = .ok (.iload_n 3, 1) := by decide +kernel
theorem dX3_claimTone_71 : decode cX3_claimTone 71 = .ok (.invokevirtual 127, 3) := by decide +kernel
theorem dX3_claimTone_74 : decode cX3_claimTone 74 = .ok (.putfield 131, 3) := by decide +kernel
theorem dX3_claimTone_77 : decode cX3_claimTone 77 = .ok (.aload_n 0, 1) := by decide +kernel
theorem dX3_claimTone_78 : decode cX3_claimTone 78 = .ok (.aload 5, 2) := by decide +kernel
theorem dX3_claimTone_80 : decode cX3_claimTone 80 = .ok (.invokevirtual 135, 3) := by decide +kernel
theorem dX3_claimTone_83 : decode cX3_claimTone 83 = .ok (.ireturn, 1) := by decide +kernel
theorem dX3_claimAge_0 : decode cX3_claimAge 0 = .ok (.aload_n 0, 1) := by decide +kernel
theorem dX3_claimAge_1 : decode cX3_claimAge 1 = .ok (.iload_n 1, 1) := by decide +kernel
theorem dX3_claimAge_2 : decode cX3_claimAge 2 = .ok (.invokevirtual 139, 3) := by decide +kernel
theorem dX3_claimAge_5 : decode cX3_claimAge 5 = .ok (.astore_n 3, 1) := by decide +kernel
theorem dX3_claimAge_6 : decode cX3_claimAge 6 = .ok (.aload_n 0, 1) := by decide +kernel
theorem dX3_claimAge_7 : decode cX3_claimAge 7 = .ok (.iload_n 2, 1) := by decide +kernel
theorem dX3_claimAge_8 : decode cX3_claimAge 8 = .ok (.invokevirtual 139, 3) := by decide +kernel
theorem dX3_claimAge_11 : decode cX3_claimAge 11 = .ok (.astore 4, 2) := by decide +kernel
theorem dX3_claimAge_13 : decode cX3_claimAge 13 = .ok (.aload_n 3, 1) := by decide +kernel
theorem dX3_claimAge_14 : decode cX3_claimAge 14 = .ok (.getfield 143, 3) := by decide +kernel
theorem dX3_claimAge_17 : decode cX3_claimAge 17 = .ok (.ifCond .ne 11, 3) := by decide +kernel
theorem dX3_claimAge_20 : decode cX3_claimAge 20 = .ok (.aload 4, 2) := by decide +kernel
theorem dX3_claimAge_22 : decode cX3_claimAge 22 = .ok (.getfield 143, 3) := by decide +kernel
theorem dX3_claimAge_25 : decode cX3_claimAge 25 = .ok (.ifCond .eq 13, 3) := by decide +kernel
theorem dX3_claimAge_28 : decode cX3_claimAge 28 = .ok (.new 45, 3) := by decide +kernel
theorem dX3_claimAge_31 : decode cX3_claimAge 31 = .ok (.dup, 1) := by decide +kernel
theorem dX3_claimAge_32 : decode cX3_claimAge 32 = .ok (.ldc 146, 2) := by decide +kernel
theorem dX3_claimAge_34 : decode cX3_claimAge 34 = .ok (.invokespecial 49, 3) := by decide +kernel
theorem dX3_claimAge_37 : decode cX3_claimAge 37 = .ok (.athrow, 1) := by decide +kernel
theorem dX3_claimAge_38 : decode cX3_claimAge 38 = .ok (.aload_n 3, 1) := by decide +kernel
theorem dX3_claimAge_39 : decode cX3_claimAge 39 = .ok (.getfield 148, 3) := by decide +kernel
theorem dX3_claimAge_42 : decode cX3_claimAge 42 = .ok (.aload 4, 2) := by decide +kernel
theorem dX3_claimAge_44 : decode cX3_claimAge 44 = .ok (.getfield 148, 3) := by decide +kernel
theorem dX3_claimAge_47 : decode cX3_claimAge 47 = .ok (.if_icmp .ne 15, 3) := by decide +kernel
theorem dX3_claimAge_50 : decode cX3_claimAge 50 = .ok (.aload_n 3, 1) := by decide +kernel
theorem dX3_claimAge_51 : decode cX3_claimAge 51 = .ok (.getfield 151, 3) := by decide +kernel
theorem dX3_claimAge_54 : decode cX3_claimAge 54 = .ok (.aload 4, 2) := by decide +kernel
theorem dX3_claimAge_56 : decode cX3_claimAge 56 = .ok (.getfield 151, 3) := by decide +kernel
theorem dX3_claimAge_59 : decode cX3_claimAge 59 = .ok (.if_icmp .ne 13, 3) := by decide +kernel
theorem dX3_claimAge_62 : decode cX3_claimAge 62 = .ok (.new 45, 3) := by decide +kernel
theorem dX3_claimAge_65 : decode cX3_claimAge 65 = .ok (.dup, 1) := by decide +kernel
theorem dX3_claimAge_66 : decode cX3_claimAge 66 = .ok (.ldc 154, 2) := by decide +kernel
theorem dX3_claimAge_68 : decode cX3_claimAge 68 = .ok (.invokespecial 49, 3) := by decide +kernel
theorem dX3_claimAge_71 : decode cX3_claimAge 71 = .ok (.athrow, 1) := by decide +kernel
theorem dX3_claimAge_72 : decode cX3_claimAge 72 = .ok (.aload_n 0, 1) := by decide +kernel
theorem dX3_claimAge_73 : decode cX3_claimAge 73 = .ok (.invokevirtual 112, 3) := by decide +kernel
theorem dX3_claimAge_76 : decode cX3_claimAge 76 = .ok (.aload_n 3, 1) := by decide +kernel
theorem dX3_claimAge_77 : decode cX3_claimAge 77 = .ok (.getfield 156, 3) := by decide +kernel
theorem dX3_claimAge_80 : decode cX3_claimAge 80 = .ok (.ifCond .eq 11, 3) := by decide +kernel
theorem dX3_claimAge_83 : decode cX3_claimAge 83 = .ok (.aload 4, 2) := by decide +kernel
theorem dX3_claimAge_85 : decode cX3_claimAge 85 = .ok (.getfield 156, 3) := by decide +kernel
theorem dX3_claimAge_88 : decode cX3_claimAge 88 = .ok (.ifCond .ne 13, 3) := by decide +kernel
theorem dX3_claimAge_91 : decode cX3_claimAge 91 = .ok (.new 55, 3) := by decide +kernel
theorem dX3_claimAge_94 : decode cX3_claimAge 94 = .ok (.dup, 1) := by decide +kernel
theorem dX3_claimAge_95 : decode cX3_claimAge 95 = .ok (.ldc 160, 2) := by decide +kernel
theorem dX3_claimAge_97 : decode cX3_claimAge 97 = .ok (.invokespecial 59, 3) := by decide +kernel
theorem dX3_claimAge_100 : decode cX3_claimAge 100 = .ok (.athrow, 1) := by decide +kernel
theorem dX3_claimAge_101 : decode cX3_claimAge 101 = .ok (.new 28, 3) := by decide +kernel
theorem dX3_claimAge_104 : decode cX3_claimAge 104 = .ok (.dup, 1) := by decide +kernel
theorem dX3_claimAge_105 : decode cX3_claimAge 105 = .ok (.iconst 1, 1) := by decide +kernel
theorem dX3_claimAge_106 : decode cX3_claimAge 106 = .ok (.aload_n 3, 1) := by decide +kernel
theorem dX3_claimAge_107 : decode cX3_claimAge 107 = .ok (.getfield 148, 3) := by decide +kernel
theorem dX3_claimAge_110 : decode cX3_claimAge 110 = .ok (.aload_n 3, 1) := by decide +kernel
theorem dX3_claimAge_111 : decode cX3_claimAge 111 = .ok (.getfield 151, 3) := by decide +kernel
theorem dX3_claimAge_114 : decode cX3_claimAge 114 = .ok (.invokespecial 121, 3) := by decide +kernel
theorem dX3_claimAge_117 : decode cX3_claimAge 117 = .ok (.astore 5, 2) := by decide +kernel
theorem dX3_claimAge_119 : decode cX3_claimAge 119 = .ok (.aload 5, 2) := by decide +kernel
theorem dX3_claimAge_121 : decode cX3_claimAge 121 = .ok (.aload_n 0, 1) := by decide +kernel
theorem dX3_claimAge_122 : decode cX3_claimAge 122 = .ok (.ldc 162, 2) := by decide +kernel
theorem dX3_claimAge_124 : decode cX3_claimAge 124 = .ok (.aload_n 3, 1) := by decide +kernel
theorem dX3_claimAge_125 : decode cX3_claimAge 125 = .ok (.getfield 151, 3) := by decide +kernel
theorem dX3_claimAge_128 : decode cX3_claimAge 128 = .ok (.aload 4, 2) := by decide +kernel
theorem dX3_claimAge_130 : decode cX3_claimAge 130 = .ok (.getfield 151, 3) := by decide +kernel
theorem dX3_claimAge_133 : decode cX3_claimAge 133 = .ok (.isub, 1) := by decide +kernel
theorem dX3_claimAge_134 : decode cX3_claimAge 134 = .ok (.invokestatic 163, 3) := by decide +kernel
theorem dX3_claimAge_137 : decode cX3_claimAge 137 = .ok (.imul, 1) := by decide +kernel
theorem dX3_claimAge_138 : decode cX3_claimAge 138 = .ok (.invokevirtual 169, 3) := by decide +kernel
theorem dX3_claimAge_141 : decode cX3_claimAge 141 = .ok (.putfield 172, 3) := by decide +kernel
theorem dX3_claimAge_144 : decode cX3_claimAge 144 = .ok (.aload 5, 2) := by decide +kernel
theorem dX3_claimAge_146 : decode cX3_claimAge 146 = .ok (.iload_n 1, 1) := by decide +kernel
theorem dX3_claimAge_147 : decode cX3_claimAge 147 = .ok (.invokestatic 175, 3) := by decide +kernel
theorem dX3_claimAge_150 : decode cX3_claimAge 150 = .ok (.iload_n 2, 1) := by decide +kernel
theorem dX3_claimAge_151 : decode cX3_claimAge 151 = .ok (.invokestatic 175, 3) := by decide +kernel
theorem dX3_claimAge_154 : decode cX3_claimAge 154 = .ok (.lor, 1) := by decide +kernel
theorem dX3_claimAge_155 : decode cX3_claimAge 155 = .ok (.putfield 178, 3) := by decide +kernel
theorem dX3_claimAge_158 : decode cX3_claimAge 158 = .ok (.aload_n 0, 1) := by decide +kernel
theorem dX3_claimAge_159 : decode cX3_claimAge 159 = .ok (.aload 5, 2) := by decide +kernel
theorem dX3_claimAge_161 : decode cX3_claimAge 161 = .ok (.invokevirtual 135, 3) := by decide +kernel
theorem dX3_claimAge_164 : decode cX3_claimAge 164 = .ok (.ireturn, 1) := by decide +kernel
theorem dX3_claimPlanet_0 : decode cX3_claimPlanet 0 = .ok (.aload_n 0, 1) := by decide +kernel
theorem dX3_claimPlanet_1 : decode cX3_claimPlanet 1 = .ok (.iload_n 1, 1) := by decide +kernel
theorem dX3_claimPlanet_2 : decode cX3_claimPlanet 2 = .ok (.invokevirtual 139, 3) := by decide +kernel
theorem dX3_claimPlanet_5 : decode cX3_claimPlanet 5 = .ok (.astore_n 2, 1) := by decide +kernel
theorem dX3_claimPlanet_6 : decode cX3_claimPlanet 6 = .ok (.aload_n 2, 1) := by decide +kernel
theorem dX3_claimPlanet_7 : decode cX3_claimPlanet 7 = .ok (.getfield 143, 3) := by decide +kernel
theorem dX3_claimPlanet_10 : decode cX3_claimPlanet 10 = .ok (.ifCond .eq 13, 3) := by decide +kernel
theorem dX3_claimPlanet_13 : decode cX3_claimPlanet 13 = .ok (.new 45, 3) := by decide +kernel
theorem dX3_claimPlanet_16 : decode cX3_claimPlanet 16 = .ok (.dup, 1) := by decide +kernel
theorem dX3_claimPlanet_17 : decode cX3_claimPlanet 17 = .ok (.ldc 181, 2) := by decide +kernel
theorem dX3_claimPlanet_19 : decode cX3_claimPlanet 19 = .ok (.invokespecial 49, 3) := by decide +kernel
theorem dX3_claimPlanet_22 : decode cX3_claimPlanet 22 = .ok (.athrow, 1) := by decide +kernel
theorem dX3_claimPlanet_23 : decode cX3_claimPlanet 23 = .ok (.aload_n 0, 1) := by decide +kernel
theorem dX3_claimPlanet_24 : decode cX3_claimPlanet 24 = .ok (.invokevirtual 112, 3) := by decide +kernel
theorem dX3_claimPlanet_27 : decode cX3_claimPlanet 27 = .ok (.aload_n 2, 1) := by decide +kernel
theorem dX3_claimPlanet_28 : decode cX3_claimPlanet 28 = .ok (.getfield 156, 3) := by decide +kernel
theorem dX3_claimPlanet_31 : decode cX3_claimPlanet 31 = .ok (.ifCond .ne 13, 3) := by decide +kernel
theorem dX3_claimPlanet_34 : decode cX3_claimPlanet 34 = .ok (.new 55, 3) := by decide +kernel
theorem dX3_claimPlanet_37 : decode cX3_claimPlanet 37 = .ok (.dup, 1) := by decide +kernel
theorem dX3_claimPlanet_38 : decode cX3_claimPlanet 38 = .ok (.ldc 183, 2) := by decide +kernel
theorem dX3_claimPlanet_40 : decode cX3_claimPlanet 40 = .ok (.invokespecial 59, 3) := by decide +kernel
theorem dX3_claimPlanet_43 : decode cX3_claimPlanet 43 = .ok (.athrow, 1) := by decide +kernel
theorem dX3_claimPlanet_44 : decode cX3_claimPlanet 44 = .ok (.new 28, 3) := by decide +kernel
theorem dX3_claimPlanet_47 : decode cX3_claimPlanet 47 = .ok (.dup, 1) := by decide +kernel
theorem dX3_claimPlanet_48 : decode cX3_claimPlanet 48 = .ok (.iconst 2, 1) := by decide +kernel
theorem dX3_claimPlanet_49 : decode cX3_claimPlanet 49 = .ok (.aload_n 2, 1) := by decide +kernel
theorem dX3_claimPlanet_50 : decode cX3_claimPlanet 50 = .ok (.getfield 148, 3) := by decide +kernel
theorem dX3_claimPlanet_53 : decode cX3_claimPlanet 53 = .ok (.aload_n 2, 1) := by decide +kernel
theorem dX3_claimPlanet_54 : decode cX3_claimPlanet 54 = .ok (.getfield 151, 3) := by decide +kernel
theorem dX3_claimPlanet_57 : decode cX3_claimPlanet 57 = .ok (.invokespecial 121, 3) := by decide +kernel
theorem dX3_claimPlanet_60 : decode cX3_claimPlanet 60 = .ok (.astore_n 3, 1) := by decide +kernel
theorem dX3_claimPlanet_61 : decode cX3_claimPlanet 61 = .ok (.aload_n 3, 1) := by decide +kernel
theorem dX3_claimPlanet_62 : decode cX3_claimPlanet 62 = .ok (.iload_n 1, 1) := by decide +kernel
theorem dX3_claimPlanet_63 : decode cX3_claimPlanet 63 = .ok (.invokestatic 175, 3) := by decide +kernel
theorem dX3_claimPlanet_66 : decode cX3_claimPlanet 66 = .ok (.putfield 178, 3) := by decide +kernel
theorem dX3_claimPlanet_69 : decode cX3_claimPlanet 69 = .ok (.aload_n 0, 1) := by decide +kernel
theorem dX3_claimPlanet_70 : decode cX3_claimPlanet 70 = .ok (.aload_n 3, 1) := by decide +kernel
theorem dX3_claimPlanet_71 : decode cX3_claimPlanet 71 = .ok (.invokevirtual 135, 3) := by decide +kernel
theorem dX3_claimPlanet_74 : decode cX3_claimPlanet 74 = .ok (.ireturn, 1) := by decide +kernel
theorem dX3_cite_0 : decode cX3_cite 0 = .ok (.aload_n 0, 1) := by decide +kernel
theorem dX3_cite_1 : decode cX3_cite 1 = .ok (.iload_n 1, 1) := by decide +kernel
theorem dX3_cite_2 : decode cX3_cite 2 = .ok (.invokevirtual 139, 3) := by decide +kernel
theorem dX3_cite_5 : decode cX3_cite 5 = .ok (.astore_n 3, 1) := by decide +kernel
theorem dX3_cite_6 : decode cX3_cite 6 = .ok (.aload_n 0, 1) := by decide +kernel
theorem dX3_cite_7 : decode cX3_cite 7 = .ok (.iload_n 2, 1) := by decide +kernel
theorem dX3_cite_8 : decode cX3_cite 8 = .ok (.invokevirtual 139, 3) := by decide +kernel
theorem dX3_cite_11 : decode cX3_cite 11 = .ok (.astore 4, 2) := by decide +kernel
theorem dX3_cite_13 : decode cX3_cite 13 = .ok (.iload_n 2, 1) := by decide +kernel
theorem dX3_cite_14 : decode cX3_cite 14 = .ok (.iload_n 1, 1) := by decide +kernel
theorem dX3_cite_15 : decode cX3_cite 15 = .ok (.if_icmp .lt 13, 3) := by decide +kernel
theorem dX3_cite_18 : decode cX3_cite 18 = .ok (.new 45, 3) := by decide +kernel
theorem dX3_cite_21 : decode cX3_cite 21 = .ok (.dup, 1) := by decide +kernel
theorem dX3_cite_22 : decode cX3_cite 22 = .ok (.ldc 185, 2) := by decide +kernel
theorem dX3_cite_24 : decode cX3_cite 24 = .ok (.invokespecial 49, 3) := by decide +kernel
theorem dX3_cite_27 : decode cX3_cite 27 = .ok (.athrow, 1) := by decide +kernel
theorem dX3_cite_28 : decode cX3_cite 28 = .ok (.aload_n 3, 1) := by decide +kernel
theorem dX3_cite_29 : decode cX3_cite 29 = .ok (.getfield 156, 3) := by decide +kernel
theorem dX3_cite_32 : decode cX3_cite 32 = .ok (.ifCond .eq 25, 3) := by decide +kernel
theorem dX3_cite_35 : decode cX3_cite 35 = .ok (.aload 4, 2) := by decide +kernel
theorem dX3_cite_37 : decode cX3_cite 37 = .ok (.getfield 156, 3) := by decide +kernel
theorem dX3_cite_40 : decode cX3_cite 40 = .ok (.ifCond .eq 17, 3) := by decide +kernel
theorem dX3_cite_43 : decode cX3_cite 43 = .ok (.aload_n 3, 1) := by decide +kernel
theorem dX3_cite_44 : decode cX3_cite 44 = .ok (.getfield 178, 3) := by decide +kernel
theorem dX3_cite_47 : decode cX3_cite 47 = .ok (.iload_n 2, 1) := by decide +kernel
theorem dX3_cite_48 : decode cX3_cite 48 = .ok (.invokestatic 175, 3) := by decide +kernel
theorem dX3_cite_51 : decode cX3_cite 51 = .ok (.land, 1) := by decide +kernel
theorem dX3_cite_52 : decode cX3_cite 52 = .ok (.lconst 0, 1) := by decide +kernel
theorem dX3_cite_53 : decode cX3_cite 53 = .ok (.lcmp, 1) := by decide +kernel
theorem dX3_cite_54 : decode cX3_cite 54 = .ok (.ifCond .eq 13, 3) := by decide +kernel
theorem dX3_cite_57 : decode cX3_cite 57 = .ok (.new 55, 3) := by decide +kernel
theorem dX3_cite_60 : decode cX3_cite 60 = .ok (.dup, 1) := by decide +kernel
theorem dX3_cite_61 : decode cX3_cite 61 = .ok (.ldc 187, 2) := by decide +kernel
theorem dX3_cite_63 : decode cX3_cite 63 = .ok (.invokespecial 59, 3) := by decide +kernel
theorem dX3_cite_66 : decode cX3_cite 66 = .ok (.athrow, 1) := by decide +kernel
theorem dX3_cite_67 : decode cX3_cite 67 = .ok (.aload_n 3, 1) := by decide +kernel
theorem dX3_cite_68 : decode cX3_cite 68 = .ok (.dup, 1) := by decide +kernel
theorem dX3_cite_69 : decode cX3_cite 69 = .ok (.getfield 178, 3) := by decide +kernel
theorem dX3_cite_72 : decode cX3_cite 72 = .ok (.iload_n 2, 1) := by decide +kernel
theorem dX3_cite_73 : decode cX3_cite 73 = .ok (.invokestatic 175, 3) := by decide +kernel
theorem dX3_cite_76 : decode cX3_cite 76 = .ok (.lor, 1) := by decide +kernel
theorem dX3_cite_77 : decode cX3_cite 77 = .ok (.putfield 178, 3) := by decide +kernel
theorem dX3_cite_80 : decode cX3_cite 80 = .ok (.aload_n 3, 1) := by decide +kernel
theorem dX3_cite_81 : decode cX3_cite 81 = .ok (.getfield 178, 3) := by decide +kernel
theorem dX3_cite_84 : decode cX3_cite 84 = .ok (.invokestatic 189, 3) := by decide +kernel
theorem dX3_cite_87 : decode cX3_cite 87 = .ok (.ireturn, 1) := by decide +kernel
theorem dX3_withdraw_0 : decode cX3_withdraw 0 = .ok (.aload_n 0, 1) := by decide +kernel
theorem dX3_withdraw_1 : decode cX3_withdraw 1 = .ok (.iload_n 1, 1) := by decide +kernel
theorem dX3_withdraw_2 : decode cX3_withdraw 2 = .ok (.invokevirtual 139, 3) := by decide +kernel
theorem dX3_withdraw_5 : decode cX3_withdraw 5 = .ok (.getfield 156, 3) := by decide +kernel
theorem dX3_withdraw_8 : decode cX3_withdraw 8 = .ok (.ifCond .ne 13, 3) := by decide +kernel
theorem dX3_withdraw_11 : decode cX3_withdraw 11 = .ok (.new 55, 3) := by decide +kernel
theorem dX3_withdraw_14 : decode cX3_withdraw 14 = .ok (.dup, 1) := by decide +kernel
theorem dX3_withdraw_15 : decode cX3_withdraw 15 = .ok (.ldc 183, 2) := by decide +kernel
theorem dX3_withdraw_17 : decode cX3_withdraw 17 = .ok (.invokespecial 59, 3) := by decide +kernel
theorem dX3_withdraw_20 : decode cX3_withdraw 20 = .ok (.athrow, 1) := by decide +kernel
theorem dX3_withdraw_21 : decode cX3_withdraw 21 = .ok (.aload_n 0, 1) := by decide +kernel
theorem dX3_withdraw_22 : decode cX3_withdraw 22 = .ok (.iload_n 1, 1) := by decide +kernel
theorem dX3_withdraw_23 : decode cX3_withdraw 23 = .ok (.invokestatic 175, 3) := by decide +kernel
theorem dX3_withdraw_26 : decode cX3_withdraw 26 = .ok (.invokevirtual 195, 3) := by decide +kernel
theorem dX3_withdraw_29 : decode cX3_withdraw 29 = .ok (.ireturn, 1) := by decide +kernel
theorem dX3_audit_0 : decode cX3_audit 0 = .ok (.lconst 0, 1) := by decide +kernel
theorem dX3_audit_1 : decode cX3_audit 1 = .ok (.lstore_n 1, 1) := by decide +kernel
theorem dX3_audit_2 : decode cX3_audit 2 = .ok (.iconst 0, 1) := by decide +kernel
theorem dX3_audit_3 : decode cX3_audit 3 = .ok (.istore_n 3, 1) := by decide +kernel
theorem dX3_audit_4 : decode cX3_audit 4 = .ok (.iload_n 3, 1) := by decide +kernel
theorem dX3_audit_5 : decode cX3_audit 5 = .ok (.aload_n 0, 1) := by decide +kernel
theorem dX3_audit_6 : decode cX3_audit 6 = .ok (.getfield 198, 3) := by decide +kernel
theorem dX3_audit_9 : decode cX3_audit 9 = .ok (.if_icmp .ge 46, 3) := by decide +kernel
theorem dX3_audit_12 : decode cX3_audit 12 = .ok (.aload_n 0, 1) := by decide +kernel
theorem dX3_audit_13 : decode cX3_audit 13 = .ok (.getfield 30, 3) := by decide +kernel
theorem dX3_audit_16 : decode cX3_audit 16 = .ok (.iload_n 3, 1) := by decide +kernel
theorem dX3_audit_17 : decode cX3_audit 17 = .ok (.aaload, 1) := by decide +kernel
theorem dX3_audit_18 : decode cX3_audit 18 = .ok (.astore 4, 2) := by decide +kernel
theorem dX3_audit_20 : decode cX3_audit 20 = .ok (.aload 4, 2) := by decide +kernel
theorem dX3_audit_22 : decode cX3_audit 22 = .ok (.ifnull 27, 3) := by decide +kernel
theorem dX3_audit_25 : decode cX3_audit 25 = .ok (.aload 4, 2) := by decide +kernel
theorem dX3_audit_27 : decode cX3_audit 27 = .ok (.getfield 156, 3) := by decide +kernel
theorem dX3_audit_30 : decode cX3_audit 30 = .ok (.ifCond .eq 19, 3) := by decide +kernel
theorem dX3_audit_33 : decode cX3_audit 33 = .ok (.aload_n 0, 1) := by decide +kernel
theorem dX3_audit_34 : decode cX3_audit 34 = .ok (.aload 4, 2) := by decide +kernel
theorem dX3_audit_36 : decode cX3_audit 36 = .ok (.invokevirtual 201, 3) := by decide +kernel
theorem dX3_audit_39 : decode cX3_audit 39 = .ok (.ifCond .ne 10, 3) := by decide +kernel
theorem dX3_audit_42 : decode cX3_audit 42 = .ok (.lload_n 1, 1) := by decide +kernel
theorem dX3_audit_43 : decode cX3_audit 43 = .ok (.iload_n 3, 1) := by decide +kernel
theorem dX3_audit_44 : decode cX3_audit 44 = .ok (.invokestatic 175, 3) := by decide +kernel
theorem dX3_audit_47 : decode cX3_audit 47 = .ok (.lor, 1) := by decide +kernel
theorem dX3_audit_48 : decode cX3_audit 48 = .ok (.lstore_n 1, 1) := by decide +kernel
theorem dX3_audit_49 : decode cX3_audit 49 = .ok (.iinc 3 1, 3) := by decide +kernel
theorem dX3_audit_52 : decode cX3_audit 52 = .ok (.goto (-48), 3) := by decide +kernel
theorem dX3_audit_55 : decode cX3_audit 55 = .ok (.aload_n 0, 1) := by decide +kernel
theorem dX3_audit_56 : decode cX3_audit 56 = .ok (.lload_n 1, 1) := by decide +kernel
theorem dX3_audit_57 : decode cX3_audit 57 = .ok (.invokevirtual 195, 3) := by decide +kernel
theorem dX3_audit_60 : decode cX3_audit 60 = .ok (.ireturn, 1) := by decide +kernel
theorem dX3_ofStar_0 : decode cX3_ofStar 0 = .ok (.aload_n 0, 1) := by decide +kernel
theorem dX3_ofStar_1 : decode cX3_ofStar 1 = .ok (.iload_n 1, 1) := by decide +kernel
theorem dX3_ofStar_2 : decode cX3_ofStar 2 = .ok (.invokevirtual 75, 3) := by decide +kernel
theorem dX3_ofStar_5 : decode cX3_ofStar 5 = .ok (.astore_n 3, 1) := by decide +kernel
theorem dX3_ofStar_6 : decode cX3_ofStar 6 = .ok (.iload_n 2, 1) := by decide +kernel
theorem dX3_ofStar_7 : decode cX3_ofStar 7 = .ok (.tableswitch 67 0 5 #[37, 42, 47, 52, 57, 62], 37) := by decide +kernel
theorem dX3_ofStar_44 : decode cX3_ofStar 44 = .ok (.aload_n 3, 1) := by decide +kernel
theorem dX3_ofStar_45 : decode cX3_ofStar 45 = .ok (.getfield 205, 3) := by decide +kernel
theorem dX3_ofStar_48 : decode cX3_ofStar 48 = .ok (.ireturn, 1) := by decide +kernel
theorem dX3_ofStar_49 : decode cX3_ofStar 49 = .ok (.aload_n 3, 1) := by decide +kernel
theorem dX3_ofStar_50 : decode cX3_ofStar 50 = .ok (.getfield 206, 3) := by decide +kernel
theorem dX3_ofStar_53 : decode cX3_ofStar 53 = .ok (.ireturn, 1) := by decide +kernel
theorem dX3_ofStar_54 : decode cX3_ofStar 54 = .ok (.aload_n 3, 1) := by decide +kernel
theorem dX3_ofStar_55 : decode cX3_ofStar 55 = .ok (.getfield 209, 3) := by decide +kernel
theorem dX3_ofStar_58 : decode cX3_ofStar 58 = .ok (.ireturn, 1) := by decide +kernel
theorem dX3_ofStar_59 : decode cX3_ofStar 59 = .ok (.aload_n 3, 1) := by decide +kernel
theorem dX3_ofStar_60 : decode cX3_ofStar 60 = .ok (.getfield 212, 3) := by decide +kernel
theorem dX3_ofStar_63 : decode cX3_ofStar 63 = .ok (.ireturn, 1) := by decide +kernel
theorem dX3_ofStar_64 : decode cX3_ofStar 64 = .ok (.aload_n 3, 1) := by decide +kernel
theorem dX3_ofStar_65 : decode cX3_ofStar 65 = .ok (.getfield 215, 3) := by decide +kernel
theorem dX3_ofStar_68 : decode cX3_ofStar 68 = .ok (.ireturn, 1) := by decide +kernel
theorem dX3_ofStar_69 : decode cX3_ofStar 69 = .ok (.aload_n 3, 1) := by decide +kernel
theorem dX3_ofStar_70 : decode cX3_ofStar 70 = .ok (.getfield 218, 3) := by decide +kernel
theorem dX3_ofStar_73 : decode cX3_ofStar 73 = .ok (.ireturn, 1) := by decide +kernel
theorem dX3_ofStar_74 : decode cX3_ofStar 74 = .ok (.new 45, 3) := by decide +kernel
theorem dX3_ofStar_77 : decode cX3_ofStar 77 = .ok (.dup, 1) := by decide +kernel
theorem dX3_ofStar_78 : decode cX3_ofStar 78 = .ok (.ldc 221, 2) := by decide +kernel
theorem dX3_ofStar_80 : decode cX3_ofStar 80 = .ok (.invokespecial 49, 3) := by decide +kernel
theorem dX3_ofStar_83 : decode cX3_ofStar 83 = .ok (.athrow, 1) := by decide +kernel
theorem dX3_crossingAnew_0 : decode cX3_crossingAnew 0 = .ok (.aload_n 0, 1) := by decide +kernel
theorem dX3_crossingAnew_1 : decode cX3_crossingAnew 1 = .ok (.iload_n 1, 1) := by decide +kernel
theorem dX3_crossingAnew_2 : decode cX3_crossingAnew 2 = .ok (.invokevirtual 75, 3) := by decide +kernel
theorem dX3_crossingAnew_5 : decode cX3_crossingAnew 5 = .ok (.invokevirtual 223, 3) := by decide +kernel
theorem dX3_crossingAnew_8 : decode cX3_crossingAnew 8 = .ok (.ireturn, 1) := by decide +kernel
theorem dX3_tone_0 : decode cX3_tone 0 = .ok (.aload_n 0, 1) := by decide +kernel
theorem dX3_tone_1 : decode cX3_tone 1 = .ok (.iload_n 1, 1) := by decide +kernel
theorem dX3_tone_2 : decode cX3_tone 2 = .ok (.invokevirtual 75, 3) := by decide +kernel
theorem dX3_tone_5 : decode cX3_tone 5 = .ok (.astore 5, 2) := by decide +kernel
theorem dX3_tone_7 : decode cX3_tone 7 = .ok (.iload_n 2, 1) := by decide +kernel
theorem dX3_tone_8 : decode cX3_tone 8 = .ok (.iconst 1, 1) := by decide +kernel
theorem dX3_tone_9 : decode cX3_tone 9 = .ok (.bipush 12, 2) := by decide +kernel
theorem dX3_tone_11 : decode cX3_tone 11 = .ok (.invokestatic 41, 3) := by decide +kernel
theorem dX3_tone_14 : decode cX3_tone 14 = .ok (.ifCond .ne 23, 3) := by decide +kernel
theorem dX3_tone_17 : decode cX3_tone 17 = .ok (.iload_n 3, 1) := by decide +kernel
theorem dX3_tone_18 : decode cX3_tone 18 = .ok (.iconst 0, 1) := by decide +kernel
theorem dX3_tone_19 : decode cX3_tone 19 = .ok (.iconst 3, 1) := by decide +kernel
theorem dX3_tone_20 : decode cX3_tone 20 = .ok (.invokestatic 41, 3) := by decide +kernel
theorem dX3_tone_23 : decode cX3_tone 23 = .ok (.ifCond .ne 14, 3) := by decide +kernel
theorem dX3_tone_26 : decode cX3_tone 26 = .ok (.iload 4, 2) := by decide +kernel
theorem dX3_tone_28 : decode cX3_tone 28 = .ok (.iload_n 3, 1) := by decide +kernel
theorem dX3_tone_29 : decode cX3_tone 29 = .ok (.ineg, 1) := by decide +kernel
theorem dX3_tone_30 : decode cX3_tone 30 = .ok (.iload_n 3, 1) := by decide +kernel
theorem dX3_tone_31 : decode cX3_tone 31 = .ok (.invokestatic 41, 3) := by decide +kernel
theorem dX3_tone_34 : decode cX3_tone 34 = .ok (.ifCond .eq 13, 3) := by decide +kernel
theorem dX3_tone_37 : decode cX3_tone 37 = .ok (.new 45, 3) := by decide +kernel
theorem dX3_tone_40 : decode cX3_tone 40 = .ok (.dup, 1) := by decide +kernel
theorem dX3_tone_41 : decode cX3_tone 41 = .ok (.ldc 227, 2) := by decide +kernel
theorem dX3_tone_43 : decode cX3_tone 43 = .ok (.invokespecial 49, 3) := by decide +kernel
theorem dX3_tone_46 : decode cX3_tone 46 = .ok (.athrow, 1) := by decide +kernel
theorem dX3_tone_47 : decode cX3_tone 47 = .ok (.aload 5, 2) := by decide +kernel
theorem dX3_tone_49 : decode cX3_tone 49 = .ok (.iload_n 2, 1) := by decide +kernel
theorem dX3_tone_50 : decode cX3_tone 50 = .ok (.iload_n 3, 1) := by decide +kernel
theorem dX3_tone_51 : decode cX3_tone 51 = .ok (.iload 4, 2) := by decide +kernel
theorem dX3_tone_53 : decode cX3_tone 53 = .ok (.invokevirtual 229, 3) := by decide +kernel
theorem dX3_tone_56 : decode cX3_tone 56 = .ok (.ireturn, 1) := by decide +kernel
theorem dX3_frames_0 : decode cX3_frames 0 = .ok (.aload_n 0, 1) := by decide +kernel
theorem dX3_frames_1 : decode cX3_frames 1 = .ok (.getfield 37, 3) := by decide +kernel
theorem dX3_frames_4 : decode cX3_frames 4 = .ok (.aload_n 0, 1) := by decide +kernel
theorem dX3_frames_5 : decode cX3_frames 5 = .ok (.iload_n 1, 1) := by decide +kernel
theorem dX3_frames_6 : decode cX3_frames 6 = .ok (.invokevirtual 75, 3) := by decide +kernel
theorem dX3_frames_9 : decode cX3_frames 9 = .ok (.aload_n 0, 1) := by decide +kernel
theorem dX3_frames_10 : decode cX3_frames 10 = .ok (.getfield 20, 3) := by decide +kernel
theorem dX3_frames_13 : decode cX3_frames 13 = .ok (.invokevirtual 233, 3) := by decide +kernel
theorem dX3_frames_16 : decode cX3_frames 16 = .ok (.aload_n 0, 1) := by decide +kernel
theorem dX3_frames_17 : decode cX3_frames 17 = .ok (.getfield 37, 3) := by decide +kernel
theorem dX3_frames_20 : decode cX3_frames 20 = .ok (.getfield 237, 3) := by decide +kernel
theorem dX3_frames_23 : decode cX3_frames 23 = .ok (.ireturn, 1) := by decide +kernel
theorem dX3_value_0 : decode cX3_value 0 = .ok (.aload_n 0, 1) := by decide +kernel
theorem dX3_value_1 : decode cX3_value 1 = .ok (.iload_n 1, 1) := by decide +kernel
theorem dX3_value_2 : decode cX3_value 2 = .ok (.invokevirtual 75, 3) := by decide +kernel
theorem dX3_value_5 : decode cX3_value 5 = .ok (.astore 4, 2) := by decide +kernel
theorem dX3_value_7 : decode cX3_value 7 = .ok (.iload_n 2, 1) := by decide +kernel
theorem dX3_value_8 : decode cX3_value 8 = .ok (.invokestatic 109, 3) := by decide +kernel
theorem dX3_value_11 : decode cX3_value 11 = .ok (.iload_n 3, 1) := by decide +kernel
theorem dX3_value_12 : decode cX3_value 12 = .ok (.invokestatic 82, 3) := by decide +kernel
theorem dX3_value_15 : decode cX3_value 15 = .ok (.aload_n 0, 1) := by decide +kernel
theorem dX3_value_16 : decode cX3_value 16 = .ok (.getfield 37, 3) := by decide +kernel
theorem dX3_value_19 : decode cX3_value 19 = .ok (.aload 4, 2) := by decide +kernel
theorem dX3_value_21 : decode cX3_value 21 = .ok (.aload_n 0, 1) := by decide +kernel
theorem dX3_value_22 : decode cX3_value 22 = .ok (.getfield 20, 3) := by decide +kernel
theorem dX3_value_25 : decode cX3_value 25 = .ok (.iload_n 2, 1) := by decide +kernel
theorem dX3_value_26 : decode cX3_value 26 = .ok (.aload 4, 2) := by decide +kernel
theorem dX3_value_28 : decode cX3_value 28 = .ok (.getfield 101, 3) := by decide +kernel
theorem dX3_value_31 : decode cX3_value 31 = .ok (.invokevirtual 240, 3) := by decide +kernel
theorem dX3_value_34 : decode cX3_value 34 = .ok (.aload_n 0, 1) := by decide +kernel
theorem dX3_value_35 : decode cX3_value 35 = .ok (.getfield 37, 3) := by decide +kernel
theorem dX3_value_38 : decode cX3_value 38 = .ok (.iload_n 3, 1) := by decide +kernel
theorem dX3_value_39 : decode cX3_value 39 = .ok (.invokevirtual 244, 3) := by decide +kernel
theorem dX3_value_42 : decode cX3_value 42 = .ok (.l2i, 1) := by decide +kernel
theorem dX3_value_43 : decode cX3_value 43 = .ok (.ireturn, 1) := by decide +kernel
theorem dX3_power_0 : decode cX3_power 0 = .ok (.aload_n 0, 1) := by decide +kernel
theorem dX3_power_1 : decode cX3_power 1 = .ok (.iload_n 1, 1) := by decide +kernel
theorem dX3_power_2 : decode cX3_power 2 = .ok (.invokevirtual 75, 3) := by decide +kernel
theorem dX3_power_5 : decode cX3_power 5 = .ok (.astore 4, 2) := by decide +kernel
theorem dX3_power_7 : decode cX3_power 7 = .ok (.iload_n 2, 1) := by decide +kernel
theorem dX3_power_8 : decode cX3_power 8 = .ok (.invokestatic 109, 3) := by decide +kernel
theorem dX3_power_11 : decode cX3_power 11 = .ok (.iload_n 3, 1) := by decide +kernel
theorem dX3_power_12 : decode cX3_power 12 = .ok (.invokestatic 247, 3) := by decide +kernel
theorem dX3_power_15 : decode cX3_power 15 = .ok (.aload_n 0, 1) := by decide +kernel
theorem dX3_power_16 : decode cX3_power 16 = .ok (.getfield 37, 3) := by decide +kernel
theorem dX3_power_19 : decode cX3_power 19 = .ok (.aload 4, 2) := by decide +kernel
theorem dX3_power_21 : decode cX3_power 21 = .ok (.aload_n 0, 1) := by decide +kernel
theorem dX3_power_22 : decode cX3_power 22 = .ok (.getfield 20, 3) := by decide +kernel
theorem dX3_power_25 : decode cX3_power 25 = .ok (.iload_n 2, 1) := by decide +kernel
theorem dX3_power_26 : decode cX3_power 26 = .ok (.aload 4, 2) := by decide +kernel
theorem dX3_power_28 : decode cX3_power 28 = .ok (.getfield 101, 3) := by decide +kernel
theorem dX3_power_31 : decode cX3_power 31 = .ok (.invokevirtual 240, 3) := by decide +kernel
theorem dX3_power_34 : decode cX3_power 34 = .ok (.aload_n 0, 1) := by decide +kernel
theorem dX3_power_35 : decode cX3_power 35 = .ok (.getfield 37, 3) := by decide +kernel
theorem dX3_power_38 : decode cX3_power 38 = .ok (.iload_n 3, 1) := by decide +kernel
theorem dX3_power_39 : decode cX3_power 39 = .ok (.invokevirtual 127, 3) := by decide +kernel
theorem dX3_power_42 : decode cX3_power 42 = .ok (.lreturn, 1) := by decide +kernel
theorem dX3_window_0 : decode cX3_window 0 = .ok (.aload_n 0, 1) := by decide +kernel
theorem dX3_window_1 : decode cX3_window 1 = .ok (.iload_n 1, 1) := by decide +kernel
theorem dX3_window_2 : decode cX3_window 2 = .ok (.invokevirtual 75, 3) := by decide +kernel
theorem dX3_window_5 : decode cX3_window 5 = .ok (.astore_n 3, 1) := by decide +kernel
theorem dX3_window_6 : decode cX3_window 6 = .ok (.iload_n 2, 1) := by decide +kernel
theorem dX3_window_7 : decode cX3_window 7 = .ok (.invokestatic 247, 3) := by decide +kernel
theorem dX3_window_10 : decode cX3_window 10 = .ok (.aload_n 0, 1) := by decide +kernel
theorem dX3_window_11 : decode cX3_window 11 = .ok (.getfield 37, 3) := by decide +kernel
theorem dX3_window_14 : decode cX3_window 14 = .ok (.aload_n 3, 1) := by decide +kernel
theorem dX3_window_15 : decode cX3_window 15 = .ok (.aload_n 0, 1) := by decide +kernel
theorem dX3_window_16 : decode cX3_window 16 = .ok (.getfield 20, 3) := by decide +kernel
theorem dX3_window_19 : decode cX3_window 19 = .ok (.invokevirtual 233, 3) := by decide +kernel
theorem dX3_window_22 : decode cX3_window 22 = .ok (.aload_n 0, 1) := by decide +kernel
theorem dX3_window_23 : decode cX3_window 23 = .ok (.getfield 37, 3) := by decide +kernel
theorem dX3_window_26 : decode cX3_window 26 = .ok (.invokevirtual 250, 3) := by decide +kernel
theorem dX3_window_29 : decode cX3_window 29 = .ok (.aload_n 0, 1) := by decide +kernel
theorem dX3_window_30 : decode cX3_window 30 = .ok (.getfield 37, 3) := by decide +kernel
theorem dX3_window_33 : decode cX3_window 33 = .ok (.iload_n 2, 1) := by decide +kernel
theorem dX3_window_34 : decode cX3_window 34 = .ok (.invokevirtual 127, 3) := by decide +kernel
theorem dX3_window_37 : decode cX3_window 37 = .ok (.lreturn, 1) := by decide +kernel
theorem dX3_isPeak_0 : decode cX3_isPeak 0 = .ok (.aload_n 0, 1) := by decide +kernel
theorem dX3_isPeak_1 : decode cX3_isPeak 1 = .ok (.iload_n 1, 1) := by decide +kernel
theorem dX3_isPeak_2 : decode cX3_isPeak 2 = .ok (.invokevirtual 75, 3) := by decide +kernel
theorem dX3_isPeak_5 : decode cX3_isPeak 5 = .ok (.astore 4, 2) := by decide +kernel
theorem dX3_isPeak_7 : decode cX3_isPeak 7 = .ok (.iload_n 2, 1) := by decide +kernel
theorem dX3_isPeak_8 : decode cX3_isPeak 8 = .ok (.invokestatic 109, 3) := by decide +kernel
theorem dX3_isPeak_11 : decode cX3_isPeak 11 = .ok (.aload_n 0, 1) := by decide +kernel
theorem dX3_isPeak_12 : decode cX3_isPeak 12 = .ok (.aload 4, 2) := by decide +kernel
theorem dX3_isPeak_14 : decode cX3_isPeak 14 = .ok (.iload_n 2, 1) := by decide +kernel
theorem dX3_isPeak_15 : decode cX3_isPeak 15 = .ok (.iload_n 3, 1) := by decide +kernel
theorem dX3_isPeak_16 : decode cX3_isPeak 16 = .ok (.invokevirtual 115, 3) := by decide +kernel
theorem dX3_isPeak_19 : decode cX3_isPeak 19 = .ok (.ireturn, 1) := by decide +kernel
theorem dX3_isSeenThrough_0 : decode cX3_isSeenThrough 0 = .ok (.aload_n 0, 1) := by decide +kernel
theorem dX3_isSeenThrough_1 : decode cX3_isSeenThrough 1 = .ok (.iload_n 1, 1) := by decide +kernel
theorem dX3_isSeenThrough_2 : decode cX3_isSeenThrough 2 = .ok (.invokevirtual 75, 3) := by decide +kernel
theorem dX3_isSeenThrough_5 : decode cX3_isSeenThrough 5 = .ok (.astore 5, 2) := by decide +kernel
theorem dX3_isSeenThrough_7 : decode cX3_isSeenThrough 7 = .ok (.iload_n 2, 1) := by decide +kernel
theorem dX3_isSeenThrough_8 : decode cX3_isSeenThrough 8 = .ok (.invokestatic 109, 3) := by decide +kernel
theorem dX3_isSeenThrough_11 : decode cX3_isSeenThrough 11 = .ok (.iload_n 3, 1) := by decide +kernel
theorem dX3_isSeenThrough_12 : decode cX3_isSeenThrough 12 = .ok (.invokestatic 247, 3) := by decide +kernel
theorem dX3_isSeenThrough_15 : decode cX3_isSeenThrough 15 = .ok (.iload 4, 2) := by decide +kernel
theorem dX3_isSeenThrough_17 : decode cX3_isSeenThrough 17 = .ok (.invokestatic 247, 3) := by decide +kernel
theorem dX3_isSeenThrough_20 : decode cX3_isSeenThrough 20 = .ok (.iload_n 3, 1) := by decide +kernel
theorem dX3_isSeenThrough_21 : decode cX3_isSeenThrough 21 = .ok (.iload 4, 2) := by decide +kernel
theorem dX3_isSeenThrough_23 : decode cX3_isSeenThrough 23 = .ok (.if_icmp .ne 13, 3) := by decide +kernel
theorem dX3_isSeenThrough_26 : decode cX3_isSeenThrough 26 = .ok (.new 45, 3) := by decide +kernel
theorem dX3_isSeenThrough_29 : decode cX3_isSeenThrough 29 = .ok (.dup, 1) := by decide +kernel
theorem dX3_isSeenThrough_30 : decode cX3_isSeenThrough 30 = .ok (.ldc 253, 2) := by decide +kernel
theorem dX3_isSeenThrough_32 : decode cX3_isSeenThrough 32 = .ok (.invokespecial 49, 3) := by decide +kernel
theorem dX3_isSeenThrough_35 : decode cX3_isSeenThrough 35 = .ok (.athrow, 1) := by decide +kernel
theorem dX3_isSeenThrough_36 : decode cX3_isSeenThrough 36 = .ok (.aload_n 0, 1) := by decide +kernel
theorem dX3_isSeenThrough_37 : decode cX3_isSeenThrough 37 = .ok (.getfield 37, 3) := by decide +kernel
theorem dX3_isSeenThrough_40 : decode cX3_isSeenThrough 40 = .ok (.aload 5, 2) := by decide +kernel
theorem dX3_isSeenThrough_42 : decode cX3_isSeenThrough 42 = .ok (.aload_n 0, 1) := by decide +kernel
theorem dX3_isSeenThrough_43 : decode cX3_isSeenThrough 43 = .ok (.getfield 20, 3) := by decide +kernel
theorem dX3_isSeenThrough_46 : decode cX3_isSeenThrough 46 = .ok (.iload_n 2, 1) := by decide +kernel
theorem dX3_isSeenThrough_47 : decode cX3_isSeenThrough 47 = .ok (.aload 5, 2) := by decide +kernel
theorem dX3_isSeenThrough_49 : decode cX3_isSeenThrough 49 = .ok (.getfield 101, 3) := by decide +kernel
theorem dX3_isSeenThrough_52 : decode cX3_isSeenThrough 52 = .ok (.invokevirtual 240, 3) := by decide +kernel
theorem dX3_isSeenThrough_55 : decode cX3_isSeenThrough 55 = .ok (.aload_n 0, 1) := by decide +kernel
theorem dX3_isSeenThrough_56 : decode cX3_isSeenThrough 56 = .ok (.getfield 37, 3) := by decide +kernel
theorem dX3_isSeenThrough_59 : decode cX3_isSeenThrough 59 = .ok (.iload 4, 2) := by decide +kernel
theorem dX3_isSeenThrough_61 : decode cX3_isSeenThrough 61 = .ok (.invokevirtual 127, 3) := by decide +kernel
theorem dX3_isSeenThrough_64 : decode cX3_isSeenThrough 64 = .ok (.aload_n 0, 1) := by decide +kernel
theorem dX3_isSeenThrough_65 : decode cX3_isSeenThrough 65 = .ok (.getfield 37, 3) := by decide +kernel
theorem dX3_isSeenThrough_68 : decode cX3_isSeenThrough 68 = .ok (.iload_n 3, 1) := by decide +kernel
theorem dX3_isSeenThrough_69 : decode cX3_isSeenThrough 69 = .ok (.invokevirtual 127, 3) := by decide +kernel
theorem dX3_isSeenThrough_72 : decode cX3_isSeenThrough 72 = .ok (.lcmp, 1) := by decide +kernel
theorem dX3_isSeenThrough_73 : decode cX3_isSeenThrough 73 = .ok (.ifCond .gt 5, 3) := by decide +kernel
theorem dX3_isSeenThrough_76 : decode cX3_isSeenThrough 76 = .ok (.iconst 0, 1) := by decide +kernel
theorem dX3_isSeenThrough_77 : decode cX3_isSeenThrough 77 = .ok (.ireturn, 1) := by decide +kernel
theorem dX3_isSeenThrough_78 : decode cX3_isSeenThrough 78 = .ok (.aload_n 0, 1) := by decide +kernel
theorem dX3_isSeenThrough_79 : decode cX3_isSeenThrough 79 = .ok (.getfield 37, 3) := by decide +kernel
theorem dX3_isSeenThrough_82 : decode cX3_isSeenThrough 82 = .ok (.invokevirtual 250, 3) := by decide +kernel
theorem dX3_isSeenThrough_85 : decode cX3_isSeenThrough 85 = .ok (.aload_n 0, 1) := by decide +kernel
theorem dX3_isSeenThrough_86 : decode cX3_isSeenThrough 86 = .ok (.getfield 37, 3) := by decide +kernel
theorem dX3_isSeenThrough_89 : decode cX3_isSeenThrough 89 = .ok (.getfield 237, 3) := by decide +kernel
theorem dX3_isSeenThrough_92 : decode cX3_isSeenThrough 92 = .ok (.i2l, 1) := by decide +kernel
theorem dX3_isSeenThrough_93 : decode cX3_isSeenThrough 93 = .ok (.aload_n 0, 1) := by decide +kernel
theorem dX3_isSeenThrough_94 : decode cX3_isSeenThrough 94 = .ok (.getfield 37, 3) := by decide +kernel
theorem dX3_isSeenThrough_97 : decode cX3_isSeenThrough 97 = .ok (.getfield 237, 3) := by decide +kernel
theorem dX3_isSeenThrough_100 : decode cX3_isSeenThrough 100 = .ok (.i2l, 1) := by decide +kernel
theorem dX3_isSeenThrough_101 : decode cX3_isSeenThrough 101 = .ok (.lmul, 1) := by decide +kernel
theorem dX3_isSeenThrough_102 : decode cX3_isSeenThrough 102 = .ok (.lstore 6, 2) := by decide +kernel
theorem dX3_isSeenThrough_104 : decode cX3_isSeenThrough 104 = .ok (.ldc2_w 255, 3) := by decide +kernel
theorem dX3_isSeenThrough_107 : decode cX3_isSeenThrough 107 = .ok (.aload_n 0, 1) := by decide +kernel
theorem dX3_isSeenThrough_108 : decode cX3_isSeenThrough 108 = .ok (.getfield 37, 3) := by decide +kernel
theorem dX3_isSeenThrough_111 : decode cX3_isSeenThrough 111 = .ok (.iload_n 3, 1) := by decide +kernel
theorem dX3_isSeenThrough_112 : decode cX3_isSeenThrough 112 = .ok (.iload 4, 2) := by decide +kernel
theorem dX3_isSeenThrough_114 : decode cX3_isSeenThrough 114 = .ok (.isub, 1) := by decide +kernel
theorem dX3_isSeenThrough_115 : decode cX3_isSeenThrough 115 = .ok (.invokestatic 163, 3) := by decide +kernel
theorem dX3_isSeenThrough_118 : decode cX3_isSeenThrough 118 = .ok (.invokevirtual 127, 3) := by decide +kernel
theorem dX3_isSeenThrough_121 : decode cX3_isSeenThrough 121 = .ok (.lmul, 1) := by decide +kernel
theorem dX3_isSeenThrough_122 : decode cX3_isSeenThrough 122 = .ok (.lload 6, 2) := by decide +kernel
theorem dX3_isSeenThrough_124 : decode cX3_isSeenThrough 124 = .ok (.lcmp, 1) := by decide +kernel
theorem dX3_isSeenThrough_125 : decode cX3_isSeenThrough 125 = .ok (.ifCond .lt 7, 3) := by decide +kernel
theorem dX3_isSeenThrough_128 : decode cX3_isSeenThrough 128 = .ok (.iconst 1, 1) := by decide +kernel
theorem dX3_isSeenThrough_129 : decode cX3_isSeenThrough 129 = .ok (.goto 4, 3) := by decide +kernel
theorem dX3_isSeenThrough_132 : decode cX3_isSeenThrough 132 = .ok (.iconst 0, 1) := by decide +kernel
theorem dX3_isSeenThrough_133 : decode cX3_isSeenThrough 133 = .ok (.ireturn, 1) := by decide +kernel
theorem dX3_ofClaim_0 : decode cX3_ofClaim 0 = .ok (.aload_n 0, 1) := by decide +kernel
theorem dX3_ofClaim_1 : decode cX3_ofClaim 1 = .ok (.iload_n 1, 1) := by decide +kernel
theorem dX3_ofClaim_2 : decode cX3_ofClaim 2 = .ok (.invokevirtual 139, 3) := by decide +kernel
theorem dX3_ofClaim_5 : decode cX3_ofClaim 5 = .ok (.astore_n 3, 1) := by decide +kernel
theorem dX3_ofClaim_6 : decode cX3_ofClaim 6 = .ok (.iload_n 2, 1) := by decide +kernel
theorem dX3_ofClaim_7 : decode cX3_ofClaim 7 = .ok (.tableswitch 78 0 5 #[37, 42, 47, 52, 57, 70], 37) := by decide +kernel
theorem dX3_ofClaim_44 : decode cX3_ofClaim 44 = .ok (.aload_n 3, 1) := by decide +kernel
theorem dX3_ofClaim_45 : decode cX3_ofClaim 45 = .ok (.getfield 143, 3) := by decide +kernel
theorem dX3_ofClaim_48 : decode cX3_ofClaim 48 = .ok (.ireturn, 1) := by decide +kernel
theorem dX3_ofClaim_49 : decode cX3_ofClaim 49 = .ok (.aload_n 3, 1) := by decide +kernel
theorem dX3_ofClaim_50 : decode cX3_ofClaim 50 = .ok (.getfield 148, 3) := by decide +kernel
theorem dX3_ofClaim_53 : decode cX3_ofClaim 53 = .ok (.ireturn, 1) := by decide +kernel
theorem dX3_ofClaim_54 : decode cX3_ofClaim 54 = .ok (.aload_n 3, 1) := by decide +kernel
theorem dX3_ofClaim_55 : decode cX3_ofClaim 55 = .ok (.getfield 151, 3) := by decide +kernel
theorem dX3_ofClaim_58 : decode cX3_ofClaim 58 = .ok (.ireturn, 1) := by decide +kernel
theorem dX3_ofClaim_59 : decode cX3_ofClaim 59 = .ok (.aload_n 3, 1) := by decide +kernel
theorem dX3_ofClaim_60 : decode cX3_ofClaim 60 = .ok (.getfield 172, 3) := by decide +kernel
theorem dX3_ofClaim_63 : decode cX3_ofClaim 63 = .ok (.ireturn, 1) := by decide +kernel
theorem dX3_ofClaim_64 : decode cX3_ofClaim 64 = .ok (.aload_n 3, 1) := by decide +kernel
theorem dX3_ofClaim_65 : decode cX3_ofClaim 65 = .ok (.getfield 156, 3) := by decide +kernel
theorem dX3_ofClaim_68 : decode cX3_ofClaim 68 = .ok (.ifCond .eq 7, 3) := by decide +kernel
theorem dX3_ofClaim_71 : decode cX3_ofClaim 71 = .ok (.iconst 1, 1) := by decide +kernel
theorem dX3_ofClaim_72 : decode cX3_ofClaim 72 = .ok (.goto 4, 3) := by decide +kernel
theorem dX3_ofClaim_75 : decode cX3_ofClaim 75 = .ok (.iconst 0, 1) := by decide +kernel
theorem dX3_ofClaim_76 : decode cX3_ofClaim 76 = .ok (.ireturn, 1) := by decide +kernel
theorem dX3_ofClaim_77 : decode cX3_ofClaim 77 = .ok (.aload_n 3, 1) := by decide +kernel
theorem dX3_ofClaim_78 : decode cX3_ofClaim 78 = .ok (.getfield 178, 3) := by decide +kernel
theorem dX3_ofClaim_81 : decode cX3_ofClaim 81 = .ok (.invokestatic 189, 3) := by decide +kernel
theorem dX3_ofClaim_84 : decode cX3_ofClaim 84 = .ok (.ireturn, 1) := by decide +kernel
theorem dX3_ofClaim_85 : decode cX3_ofClaim 85 = .ok (.new 45, 3) := by decide +kernel
theorem dX3_ofClaim_88 : decode cX3_ofClaim 88 = .ok (.dup, 1) := by decide +kernel
theorem dX3_ofClaim_89 : decode cX3_ofClaim 89 = .ok (.ldc 221, 2) := by decide +kernel
theorem dX3_ofClaim_91 : decode cX3_ofClaim 91 = .ok (.invokespecial 49, 3) := by decide +kernel
theorem dX3_ofClaim_94 : decode cX3_ofClaim 94 = .ok (.athrow, 1) := by decide +kernel
theorem dX3_isSound_0 : decode cX3_isSound 0 = .ok (.aload_n 0, 1) := by decide +kernel
theorem dX3_isSound_1 : decode cX3_isSound 1 = .ok (.aload_n 0, 1) := by decide +kernel
theorem dX3_isSound_2 : decode cX3_isSound 2 = .ok (.iload_n 1, 1) := by decide +kernel
theorem dX3_isSound_3 : decode cX3_isSound 3 = .ok (.invokevirtual 139, 3) := by decide +kernel
theorem dX3_isSound_6 : decode cX3_isSound 6 = .ok (.invokevirtual 201, 3) := by decide +kernel
theorem dX3_isSound_9 : decode cX3_isSound 9 = .ok (.ireturn, 1) := by decide +kernel
theorem dX3_isOutside_0 : decode cX3_isOutside 0 = .ok (.iload_n 0, 1) := by decide +kernel
theorem dX3_isOutside_1 : decode cX3_isOutside 1 = .ok (.iload_n 1, 1) := by decide +kernel
theorem dX3_isOutside_2 : decode cX3_isOutside 2 = .ok (.if_icmp .lt 8, 3) := by decide +kernel
theorem dX3_isOutside_5 : decode cX3_isOutside 5 = .ok (.iload_n 0, 1) := by decide +kernel
theorem dX3_isOutside_6 : decode cX3_isOutside 6 = .ok (.iload_n 2, 1) := by decide +kernel
theorem dX3_isOutside_7 : decode cX3_isOutside 7 = .ok (.if_icmp .le 7, 3) := by decide +kernel
theorem dX3_isOutside_10 : decode cX3_isOutside 10 = .ok (.iconst 1, 1) := by decide +kernel
theorem dX3_isOutside_11 : decode cX3_isOutside 11 = .ok (.goto 4, 3) := by decide +kernel
theorem dX3_isOutside_14 : decode cX3_isOutside 14 = .ok (.iconst 0, 1) := by decide +kernel
theorem dX3_isOutside_15 : decode cX3_isOutside 15 = .ok (.ireturn, 1) := by decide +kernel
theorem dX3_starAt_0 : decode cX3_starAt 0 = .ok (.iload_n 1, 1) := by decide +kernel
theorem dX3_starAt_1 : decode cX3_starAt 1 = .ok (.ifCond .lt 20, 3) := by decide +kernel
theorem dX3_starAt_4 : decode cX3_starAt 4 = .ok (.iload_n 1, 1) := by decide +kernel
theorem dX3_starAt_5 : decode cX3_starAt 5 = .ok (.aload_n 0, 1) := by decide +kernel
theorem dX3_starAt_6 : decode cX3_starAt 6 = .ok (.getfield 66, 3) := by decide +kernel
theorem dX3_starAt_9 : decode cX3_starAt 9 = .ok (.if_icmp .ge 12, 3) := by decide +kernel
theorem dX3_starAt_12 : decode cX3_starAt 12 = .ok (.aload_n 0, 1) := by decide +kernel
theorem dX3_starAt_13 : decode cX3_starAt 13 = .ok (.getfield 11, 3) := by decide +kernel
theorem dX3_starAt_16 : decode cX3_starAt 16 = .ok (.iload_n 1, 1) := by decide +kernel
theorem dX3_starAt_17 : decode cX3_starAt 17 = .ok (.aaload, 1) := by decide +kernel
theorem dX3_starAt_18 : decode cX3_starAt 18 = .ok (.ifnonnull 14, 3) := by decide +kernel
theorem dX3_starAt_21 : decode cX3_starAt 21 = .ok (.new 257, 3) := by decide +kernel
theorem dX3_starAt_24 : decode cX3_starAt 24 = .ok (.dup, 1) := by decide +kernel
theorem dX3_starAt_25 : decode cX3_starAt 25 = .ok (.ldc_w 259, 3) := by decide +kernel
theorem dX3_starAt_28 : decode cX3_starAt 28 = .ok (.invokespecial 261, 3) := by decide +kernel
theorem dX3_starAt_31 : decode cX3_starAt 31 = .ok (.athrow, 1) := by decide +kernel
theorem dX3_starAt_32 : decode cX3_starAt 32 = .ok (.aload_n 0, 1) := by decide +kernel
theorem dX3_starAt_33 : decode cX3_starAt 33 = .ok (.getfield 11, 3) := by decide +kernel
theorem dX3_starAt_36 : decode cX3_starAt 36 = .ok (.iload_n 1, 1) := by decide +kernel
theorem dX3_starAt_37 : decode cX3_starAt 37 = .ok (.aaload, 1) := by decide +kernel
theorem dX3_starAt_38 : decode cX3_starAt 38 = .ok (.areturn, 1) := by decide +kernel
theorem dX3_claimAt_0 : decode cX3_claimAt 0 = .ok (.iload_n 1, 1) := by decide +kernel
theorem dX3_claimAt_1 : decode cX3_claimAt 1 = .ok (.ifCond .lt 20, 3) := by decide +kernel
theorem dX3_claimAt_4 : decode cX3_claimAt 4 = .ok (.iload_n 1, 1) := by decide +kernel
theorem dX3_claimAt_5 : decode cX3_claimAt 5 = .ok (.aload_n 0, 1) := by decide +kernel
theorem dX3_claimAt_6 : decode cX3_claimAt 6 = .ok (.getfield 198, 3) := by decide +kernel
theorem dX3_claimAt_9 : decode cX3_claimAt 9 = .ok (.if_icmp .ge 12, 3) := by decide +kernel
theorem dX3_claimAt_12 : decode cX3_claimAt 12 = .ok (.aload_n 0, 1) := by decide +kernel
theorem dX3_claimAt_13 : decode cX3_claimAt 13 = .ok (.getfield 30, 3) := by decide +kernel
theorem dX3_claimAt_16 : decode cX3_claimAt 16 = .ok (.iload_n 1, 1) := by decide +kernel
theorem dX3_claimAt_17 : decode cX3_claimAt 17 = .ok (.aaload, 1) := by decide +kernel
theorem dX3_claimAt_18 : decode cX3_claimAt 18 = .ok (.ifnonnull 14, 3) := by decide +kernel
theorem dX3_claimAt_21 : decode cX3_claimAt 21 = .ok (.new 257, 3) := by decide +kernel
theorem dX3_claimAt_24 : decode cX3_claimAt 24 = .ok (.dup, 1) := by decide +kernel
theorem dX3_claimAt_25 : decode cX3_claimAt 25 = .ok (.ldc_w 262, 3) := by decide +kernel
theorem dX3_claimAt_28 : decode cX3_claimAt 28 = .ok (.invokespecial 261, 3) := by decide +kernel
theorem dX3_claimAt_31 : decode cX3_claimAt 31 = .ok (.athrow, 1) := by decide +kernel
theorem dX3_claimAt_32 : decode cX3_claimAt 32 = .ok (.aload_n 0, 1) := by decide +kernel
theorem dX3_claimAt_33 : decode cX3_claimAt 33 = .ok (.getfield 30, 3) := by decide +kernel
theorem dX3_claimAt_36 : decode cX3_claimAt 36 = .ok (.iload_n 1, 1) := by decide +kernel
theorem dX3_claimAt_37 : decode cX3_claimAt 37 = .ok (.aaload, 1) := by decide +kernel
theorem dX3_claimAt_38 : decode cX3_claimAt 38 = .ok (.areturn, 1) := by decide +kernel
theorem dX3_lookForSite_0 : decode cX3_lookForSite 0 = .ok (.iload_n 0, 1) := by decide +kernel
theorem dX3_lookForSite_1 : decode cX3_lookForSite 1 = .ok (.iconst 0, 1) := by decide +kernel
theorem dX3_lookForSite_2 : decode cX3_lookForSite 2 = .ok (.iconst 3, 1) := by decide +kernel
theorem dX3_lookForSite_3 : decode cX3_lookForSite 3 = .ok (.invokestatic 41, 3) := by decide +kernel
theorem dX3_lookForSite_6 : decode cX3_lookForSite 6 = .ok (.ifCond .eq 14, 3) := by decide +kernel
theorem dX3_lookForSite_9 : decode cX3_lookForSite 9 = .ok (.new 257, 3) := by decide +kernel
theorem dX3_lookForSite_12 : decode cX3_lookForSite 12 = .ok (.dup, 1) := by decide +kernel
theorem dX3_lookForSite_13 : decode cX3_lookForSite 13 = .ok (.ldc_w 264, 3) := by decide +kernel
theorem dX3_lookForSite_16 : decode cX3_lookForSite 16 = .ok (.invokespecial 261, 3) := by decide +kernel
theorem dX3_lookForSite_19 : decode cX3_lookForSite 19 = .ok (.athrow, 1) := by decide +kernel
theorem dX3_lookForSite_20 : decode cX3_lookForSite 20 = .ok (.return_, 1) := by decide +kernel
theorem dX3_lookForFilter_0 : decode cX3_lookForFilter 0 = .ok (.iload_n 0, 1) := by decide +kernel
theorem dX3_lookForFilter_1 : decode cX3_lookForFilter 1 = .ok (.iconst 0, 1) := by decide +kernel
theorem dX3_lookForFilter_2 : decode cX3_lookForFilter 2 = .ok (.iconst 2, 1) := by decide +kernel
theorem dX3_lookForFilter_3 : decode cX3_lookForFilter 3 = .ok (.invokestatic 41, 3) := by decide +kernel
theorem dX3_lookForFilter_6 : decode cX3_lookForFilter 6 = .ok (.ifCond .eq 14, 3) := by decide +kernel
theorem dX3_lookForFilter_9 : decode cX3_lookForFilter 9 = .ok (.new 257, 3) := by decide +kernel
theorem dX3_lookForFilter_12 : decode cX3_lookForFilter 12 = .ok (.dup, 1) := by decide +kernel
theorem dX3_lookForFilter_13 : decode cX3_lookForFilter 13 = .ok (.ldc_w 266, 3) := by decide +kernel
theorem dX3_lookForFilter_16 : decode cX3_lookForFilter 16 = .ok (.invokespecial 261, 3) := by decide +kernel
theorem dX3_lookForFilter_19 : decode cX3_lookForFilter 19 = .ok (.athrow, 1) := by decide +kernel
theorem dX3_lookForFilter_20 : decode cX3_lookForFilter 20 = .ok (.return_, 1) := by decide +kernel
theorem dX3_lookAtTime_0 : decode cX3_lookAtTime 0 = .ok (.iload_n 0, 1) := by decide +kernel
theorem dX3_lookAtTime_1 : decode cX3_lookAtTime 1 = .ok (.iconst 0, 1) := by decide +kernel
theorem dX3_lookAtTime_2 : decode cX3_lookAtTime 2 = .ok (.sipush 255, 3) := by decide +kernel
theorem dX3_lookAtTime_5 : decode cX3_lookAtTime 5 = .ok (.invokestatic 41, 3) := by decide +kernel
theorem dX3_lookAtTime_8 : decode cX3_lookAtTime 8 = .ok (.ifCond .eq 14, 3) := by decide +kernel
theorem dX3_lookAtTime_11 : decode cX3_lookAtTime 11 = .ok (.new 45, 3) := by decide +kernel
theorem dX3_lookAtTime_14 : decode cX3_lookAtTime 14 = .ok (.dup, 1) := by decide +kernel
theorem dX3_lookAtTime_15 : decode cX3_lookAtTime 15 = .ok (.ldc_w 268, 3) := by decide +kernel
theorem dX3_lookAtTime_18 : decode cX3_lookAtTime 18 = .ok (.invokespecial 49, 3) := by decide +kernel
theorem dX3_lookAtTime_21 : decode cX3_lookAtTime 21 = .ok (.athrow, 1) := by decide +kernel
theorem dX3_lookAtTime_22 : decode cX3_lookAtTime 22 = .ok (.return_, 1) := by decide +kernel
theorem dX3_lookAtLine_0 : decode cX3_lookAtLine 0 = .ok (.iload_n 0, 1) := by decide +kernel
theorem dX3_lookAtLine_1 : decode cX3_lookAtLine 1 = .ok (.iconst 0, 1) := by decide +kernel
theorem dX3_lookAtLine_2 : decode cX3_lookAtLine 2 = .ok (.bipush 31, 2) := by decide +kernel
theorem dX3_lookAtLine_4 : decode cX3_lookAtLine 4 = .ok (.invokestatic 41, 3) := by decide +kernel
theorem dX3_lookAtLine_7 : decode cX3_lookAtLine 7 = .ok (.ifCond .eq 13, 3) := by decide +kernel
theorem dX3_lookAtLine_10 : decode cX3_lookAtLine 10 = .ok (.new 45, 3) := by decide +kernel
theorem dX3_lookAtLine_13 : decode cX3_lookAtLine 13 = .ok (.dup, 1) := by decide +kernel
theorem dX3_lookAtLine_14 : decode cX3_lookAtLine 14 = .ok (.ldc 99, 2) := by decide +kernel
theorem dX3_lookAtLine_16 : decode cX3_lookAtLine 16 = .ok (.invokespecial 49, 3) := by decide +kernel
theorem dX3_lookAtLine_19 : decode cX3_lookAtLine 19 = .ok (.athrow, 1) := by decide +kernel
theorem dX3_lookAtLine_20 : decode cX3_lookAtLine 20 = .ok (.return_, 1) := by decide +kernel
theorem dX3_lookForRoom_0 : decode cX3_lookForRoom 0 = .ok (.aload_n 0, 1) := by decide +kernel
theorem dX3_lookForRoom_1 : decode cX3_lookForRoom 1 = .ok (.getfield 198, 3) := by decide +kernel
theorem dX3_lookForRoom_4 : decode cX3_lookForRoom 4 = .ok (.bipush 40, 2) := by decide +kernel
theorem dX3_lookForRoom_6 : decode cX3_lookForRoom 6 = .ok (.if_icmp .lt 14, 3) := by decide +kernel
theorem dX3_lookForRoom_9 : decode cX3_lookForRoom 9 = .ok (.new 55, 3) := by decide +kernel
theorem dX3_lookForRoom_12 : decode cX3_lookForRoom 12 = .ok (.dup, 1) := by decide +kernel
theorem dX3_lookForRoom_13 : decode cX3_lookForRoom 13 = .ok (.ldc_w 270, 3) := by decide +kernel
theorem dX3_lookForRoom_16 : decode cX3_lookForRoom 16 = .ok (.invokespecial 59, 3) := by decide +kernel
theorem dX3_lookForRoom_19 : decode cX3_lookForRoom 19 = .ok (.athrow, 1) := by decide +kernel
theorem dX3_lookForRoom_20 : decode cX3_lookForRoom 20 = .ok (.return_, 1) := by decide +kernel
theorem dX3_cosine_0 : decode cX3_cosine 0 = .ok (.getstatic 272, 3) := by decide +kernel
theorem dX3_cosine_3 : decode cX3_cosine 3 = .ok (.iload_n 0, 1) := by decide +kernel
theorem dX3_cosine_4 : decode cX3_cosine 4 = .ok (.bipush 63, 2) := by decide +kernel
theorem dX3_cosine_6 : decode cX3_cosine 6 = .ok (.iand, 1) := by decide +kernel
theorem dX3_cosine_7 : decode cX3_cosine 7 = .ok (.iaload, 1) := by decide +kernel
theorem dX3_cosine_8 : decode cX3_cosine 8 = .ok (.ireturn, 1) := by decide +kernel
theorem dX3_sine_0 : decode cX3_sine 0 = .ok (.iload_n 0, 1) := by decide +kernel
theorem dX3_sine_1 : decode cX3_sine 1 = .ok (.bipush 16, 2) := by decide +kernel
theorem dX3_sine_3 : decode cX3_sine 3 = .ok (.isub, 1) := by decide +kernel
theorem dX3_sine_4 : decode cX3_sine 4 = .ok (.invokestatic 275, 3) := by decide +kernel
theorem dX3_sine_7 : decode cX3_sine 7 = .ok (.ireturn, 1) := by decide +kernel
theorem dX3_bit_0 : decode cX3_bit 0 = .ok (.lconst 1, 1) := by decide +kernel
theorem dX3_bit_1 : decode cX3_bit 1 = .ok (.iload_n 0, 1) := by decide +kernel
theorem dX3_bit_2 : decode cX3_bit 2 = .ok (.lshl, 1) := by decide +kernel
theorem dX3_bit_3 : decode cX3_bit 3 = .ok (.lreturn, 1) := by decide +kernel
theorem dX3_standsOut_0 : decode cX3_standsOut 0 = .ok (.iload_n 3, 1) := by decide +kernel
theorem dX3_standsOut_1 : decode cX3_standsOut 1 = .ok (.iconst 1, 1) := by decide +kernel
theorem dX3_standsOut_2 : decode cX3_standsOut 2 = .ok (.bipush 30, 2) := by decide +kernel
theorem dX3_standsOut_4 : decode cX3_standsOut 4 = .ok (.invokestatic 41, 3) := by decide +kernel
theorem dX3_standsOut_7 : decode cX3_standsOut 7 = .ok (.ifCond .eq 5, 3) := by decide +kernel
theorem dX3_standsOut_10 : decode cX3_standsOut 10 = .ok (.iconst 0, 1) := by decide +kernel
theorem dX3_standsOut_11 : decode cX3_standsOut 11 = .ok (.ireturn, 1) := by decide +kernel
theorem dX3_standsOut_12 : decode cX3_standsOut 12 = .ok (.aload_n 0, 1) := by decide +kernel
theorem dX3_standsOut_13 : decode cX3_standsOut 13 = .ok (.getfield 37, 3) := by decide +kernel
theorem dX3_standsOut_16 : decode cX3_standsOut 16 = .ok (.aload_n 1, 1) := by decide +kernel
theorem dX3_standsOut_17 : decode cX3_standsOut 17 = .ok (.aload_n 0, 1) := by decide +kernel
theorem dX3_standsOut_18 : decode cX3_standsOut 18 = .ok (.getfield 20, 3) := by decide +kernel
theorem dX3_standsOut_21 : decode cX3_standsOut 21 = .ok (.iload_n 2, 1) := by decide +kernel
theorem dX3_standsOut_22 : decode cX3_standsOut 22 = .ok (.aload_n 1, 1) := by decide +kernel
theorem dX3_standsOut_23 : decode cX3_standsOut 23 = .ok (.getfield 101, 3) := by decide +kernel
theorem dX3_standsOut_26 : decode cX3_standsOut 26 = .ok (.invokevirtual 240, 3) := by decide +kernel
theorem dX3_standsOut_29 : decode cX3_standsOut 29 = .ok (.aload_n 0, 1) := by decide +kernel
theorem dX3_standsOut_30 : decode cX3_standsOut 30 = .ok (.getfield 37, 3) := by decide +kernel
theorem dX3_standsOut_33 : decode cX3_standsOut 33 = .ok (.iload_n 3, 1) := by decide +kernel
theorem dX3_standsOut_34 : decode cX3_standsOut 34 = .ok (.invokevirtual 127, 3) := by decide +kernel
theorem dX3_standsOut_37 : decode cX3_standsOut 37 = .ok (.lstore 4, 2) := by decide +kernel
theorem dX3_standsOut_39 : decode cX3_standsOut 39 = .ok (.lload 4, 2) := by decide +kernel
theorem dX3_standsOut_41 : decode cX3_standsOut 41 = .ok (.aload_n 0, 1) := by decide +kernel
theorem dX3_standsOut_42 : decode cX3_standsOut 42 = .ok (.getfield 24, 3) := by decide +kernel
theorem dX3_standsOut_45 : decode cX3_standsOut 45 = .ok (.i2l, 1) := by decide +kernel
theorem dX3_standsOut_46 : decode cX3_standsOut 46 = .ok (.lcmp, 1) := by decide +kernel
theorem dX3_standsOut_47 : decode cX3_standsOut 47 = .ok (.ifCond .lt 39, 3) := by decide +kernel
theorem dX3_standsOut_50 : decode cX3_standsOut 50 = .ok (.lload 4, 2) := by decide +kernel
theorem dX3_standsOut_52 : decode cX3_standsOut 52 = .ok (.aload_n 0, 1) := by decide +kernel
theorem dX3_standsOut_53 : decode cX3_standsOut 53 = .ok (.getfield 37, 3) := by decide +kernel
theorem dX3_standsOut_56 : decode cX3_standsOut 56 = .ok (.iload_n 3, 1) := by decide +kernel
theorem dX3_standsOut_57 : decode cX3_standsOut 57 = .ok (.iconst 1, 1) := by decide +kernel
theorem dX3_standsOut_58 : decode cX3_standsOut 58 = .ok (.isub, 1) := by decide +kernel
theorem dX3_standsOut_59 : decode cX3_standsOut 59 = .ok (.invokevirtual 127, 3) := by decide +kernel
theorem dX3_standsOut_62 : decode cX3_standsOut 62 = .ok (.lcmp, 1) := by decide +kernel
theorem dX3_standsOut_63 : decode cX3_standsOut 63 = .ok (.ifCond .le 23, 3) := by decide +kernel
theorem dX3_standsOut_66 : decode cX3_standsOut 66 = .ok (.lload 4, 2) := by decide +kernel
theorem dX3_standsOut_68 : decode cX3_standsOut 68 = .ok (.aload_n 0, 1) := by decide +kernel
theorem dX3_standsOut_69 : decode cX3_standsOut 69 = .ok (.getfield 37, 3) := by decide +kernel
theorem dX3_standsOut_72 : decode cX3_standsOut 72 = .ok (.iload_n 3, 1) := by decide +kernel
theorem dX3_standsOut_73 : decode cX3_standsOut 73 = .ok (.iconst 1, 1) := by decide +kernel
theorem dX3_standsOut_74 : decode cX3_standsOut 74 = .ok (.iadd, 1) := by decide +kernel
theorem dX3_standsOut_75 : decode cX3_standsOut 75 = .ok (.invokevirtual 127, 3) := by decide +kernel
theorem dX3_standsOut_78 : decode cX3_standsOut 78 = .ok (.lcmp, 1) := by decide +kernel
theorem dX3_standsOut_79 : decode cX3_standsOut 79 = .ok (.ifCond .le 7, 3) := by decide +kernel
theorem dX3_standsOut_82 : decode cX3_standsOut 82 = .ok (.iconst 1, 1) := by decide +kernel
theorem dX3_standsOut_83 : decode cX3_standsOut 83 = .ok (.goto 4, 3) := by decide +kernel
theorem dX3_standsOut_86 : decode cX3_standsOut 86 = .ok (.iconst 0, 1) := by decide +kernel
theorem dX3_standsOut_87 : decode cX3_standsOut 87 = .ok (.ireturn, 1) := by decide +kernel
theorem dX3_enter_0 : decode cX3_enter 0 = .ok (.aload_n 0, 1) := by decide +kernel
theorem dX3_enter_1 : decode cX3_enter 1 = .ok (.getfield 198, 3) := by decide +kernel
theorem dX3_enter_4 : decode cX3_enter 4 = .ok (.bipush 40, 2) := by decide +kernel
theorem dX3_enter_6 : decode cX3_enter 6 = .ok (.if_icmp .ge 23, 3) := by decide +kernel
theorem dX3_enter_9 : decode cX3_enter 9 = .ok (.aload_n 0, 1) := by decide +kernel
theorem dX3_enter_10 : decode cX3_enter 10 = .ok (.getfield 30, 3) := by decide +kernel
theorem dX3_enter_13 : decode cX3_enter 13 = .ok (.aload_n 0, 1) := by decide +kernel
theorem dX3_enter_14 : decode cX3_enter 14 = .ok (.getfield 198, 3) := by decide +kernel
theorem dX3_enter_17 : decode cX3_enter 17 = .ok (.aload_n 1, 1) := by decide +kernel
theorem dX3_enter_18 : decode cX3_enter 18 = .ok (.aastore, 1) := by decide +kernel
theorem dX3_enter_19 : decode cX3_enter 19 = .ok (.aload_n 0, 1) := by decide +kernel
theorem dX3_enter_20 : decode cX3_enter 20 = .ok (.dup, 1) := by decide +kernel
theorem dX3_enter_21 : decode cX3_enter 21 = .ok (.getfield 198, 3) := by decide +kernel
theorem dX3_enter_24 : decode cX3_enter 24 = .ok (.iconst 1, 1) := by decide +kernel
theorem dX3_enter_25 : decode cX3_enter 25 = .ok (.iadd, 1) := by decide +kernel
theorem dX3_enter_26 : decode cX3_enter 26 = .ok (.putfield 198, 3) := by decide +kernel
theorem dX3_enter_29 : decode cX3_enter 29 = .ok (.aload_n 0, 1) := by decide +kernel
theorem dX3_enter_30 : decode cX3_enter 30 = .ok (.getfield 198, 3) := by decide +kernel
theorem dX3_enter_33 : decode cX3_enter 33 = .ok (.iconst 1, 1) := by decide +kernel
theorem dX3_enter_34 : decode cX3_enter 34 = .ok (.isub, 1) := by decide +kernel
theorem dX3_enter_35 : decode cX3_enter 35 = .ok (.ireturn, 1) := by decide +kernel
theorem dX3_ageOfNearest_0 : decode cX3_ageOfNearest 0 = .ok (.iconst (-1), 1) := by decide +kernel
theorem dX3_ageOfNearest_1 : decode cX3_ageOfNearest 1 = .ok (.istore_n 2, 1) := by decide +kernel
theorem dX3_ageOfNearest_2 : decode cX3_ageOfNearest 2 = .ok (.ldc_w 280, 3) := by decide +kernel
theorem dX3_ageOfNearest_5 : decode cX3_ageOfNearest 5 = .ok (.istore_n 3, 1) := by decide +kernel
theorem dX3_ageOfNearest_6 : decode cX3_ageOfNearest 6 = .ok (.iconst 0, 1) := by decide +kernel
theorem dX3_ageOfNearest_7 : decode cX3_ageOfNearest 7 = .ok (.istore 4, 2) := by decide +kernel
theorem dX3_ageOfNearest_9 : decode cX3_ageOfNearest 9 = .ok (.iload 4, 2) := by decide +kernel
theorem dX3_ageOfNearest_11 : decode cX3_ageOfNearest 11 = .ok (.aload_n 0, 1) := by decide +kernel
theorem dX3_ageOfNearest_12 : decode cX3_ageOfNearest 12 = .ok (.getfield 66, 3) := by decide +kernel
theorem dX3_ageOfNearest_15 : decode cX3_ageOfNearest 15 = .ok (.if_icmp .ge 54, 3) := by decide +kernel
theorem dX3_ageOfNearest_18 : decode cX3_ageOfNearest 18 = .ok (.aload_n 0, 1) := by decide +kernel
theorem dX3_ageOfNearest_19 : decode cX3_ageOfNearest 19 = .ok (.getfield 11, 3) := by decide +kernel
theorem dX3_ageOfNearest_22 : decode cX3_ageOfNearest 22 = .ok (.iload 4, 2) := by decide +kernel
theorem dX3_ageOfNearest_24 : decode cX3_ageOfNearest 24 = .ok (.aaload, 1) := by decide +kernel
theorem dX3_ageOfNearest_25 : decode cX3_ageOfNearest 25 = .ok (.astore 5, 2) := by decide +kernel
theorem dX3_ageOfNearest_27 : decode cX3_ageOfNearest 27 = .ok (.aload 5, 2) := by decide +kernel
theorem dX3_ageOfNearest_29 : decode cX3_ageOfNearest 29 = .ok (.ifnull 34, 3) := by decide +kernel
theorem dX3_ageOfNearest_32 : decode cX3_ageOfNearest 32 = .ok (.aload 5, 2) := by decide +kernel
theorem dX3_ageOfNearest_34 : decode cX3_ageOfNearest 34 = .ok (.getfield 209, 3) := by decide +kernel
theorem dX3_ageOfNearest_37 : decode cX3_ageOfNearest 37 = .ok (.iload_n 1, 1) := by decide +kernel
theorem dX3_ageOfNearest_38 : decode cX3_ageOfNearest 38 = .ok (.isub, 1) := by decide +kernel
theorem dX3_ageOfNearest_39 : decode cX3_ageOfNearest 39 = .ok (.invokestatic 163, 3) := by decide +kernel
theorem dX3_ageOfNearest_42 : decode cX3_ageOfNearest 42 = .ok (.iload_n 3, 1) := by decide +kernel
theorem dX3_ageOfNearest_43 : decode cX3_ageOfNearest 43 = .ok (.if_icmp .ge 20, 3) := by decide +kernel
theorem dX3_ageOfNearest_46 : decode cX3_ageOfNearest 46 = .ok (.aload 5, 2) := by decide +kernel
theorem dX3_ageOfNearest_48 : decode cX3_ageOfNearest 48 = .ok (.getfield 209, 3) := by decide +kernel
theorem dX3_ageOfNearest_51 : decode cX3_ageOfNearest 51 = .ok (.iload_n 1, 1) := by decide +kernel
theorem dX3_ageOfNearest_52 : decode cX3_ageOfNearest 52 = .ok (.isub, 1) := by decide +kernel
theorem dX3_ageOfNearest_53 : decode cX3_ageOfNearest 53 = .ok (.invokestatic 163, 3) := by decide +kernel
theorem dX3_ageOfNearest_56 : decode cX3_ageOfNearest 56 = .ok (.istore_n 3, 1) := by decide +kernel
theorem dX3_ageOfNearest_57 : decode cX3_ageOfNearest 57 = .ok (.aload 5, 2) := by decide +kernel
theorem dX3_ageOfNearest_59 : decode cX3_ageOfNearest 59 = .ok (.getfield 205, 3) := by decide +kernel
theorem dX3_ageOfNearest_62 : decode cX3_ageOfNearest 62 = .ok (.istore_n 2, 1) := by decide +kernel
theorem dX3_ageOfNearest_63 : decode cX3_ageOfNearest 63 = .ok (.iinc 4 1, 3) := by decide +kernel
theorem dX3_ageOfNearest_66 : decode cX3_ageOfNearest 66 = .ok (.goto (-57), 3) := by decide +kernel
theorem dX3_ageOfNearest_69 : decode cX3_ageOfNearest 69 = .ok (.iload_n 2, 1) := by decide +kernel
theorem dX3_ageOfNearest_70 : decode cX3_ageOfNearest 70 = .ok (.ireturn, 1) := by decide +kernel
theorem dX3_withdrawAll_0 : decode cX3_withdrawAll 0 = .ok (.lconst 0, 1) := by decide +kernel
theorem dX3_withdrawAll_1 : decode cX3_withdrawAll 1 = .ok (.lstore_n 3, 1) := by decide +kernel
theorem dX3_withdrawAll_2 : decode cX3_withdrawAll 2 = .ok (.iconst 0, 1) := by decide +kernel
theorem dX3_withdrawAll_3 : decode cX3_withdrawAll 3 = .ok (.istore 5, 2) := by decide +kernel
theorem dX3_withdrawAll_5 : decode cX3_withdrawAll 5 = .ok (.iload 5, 2) := by decide +kernel
theorem dX3_withdrawAll_7 : decode cX3_withdrawAll 7 = .ok (.aload_n 0, 1) := by decide +kernel
theorem dX3_withdrawAll_8 : decode cX3_withdrawAll 8 = .ok (.getfield 198, 3) := by decide +kernel
theorem dX3_withdrawAll_11 : decode cX3_withdrawAll 11 = .ok (.if_icmp .ge 86, 3) := by decide +kernel
theorem dX3_withdrawAll_14 : decode cX3_withdrawAll 14 = .ok (.aload_n 0, 1) := by decide +kernel
theorem dX3_withdrawAll_15 : decode cX3_withdrawAll 15 = .ok (.getfield 30, 3) := by decide +kernel
theorem dX3_withdrawAll_18 : decode cX3_withdrawAll 18 = .ok (.iload 5, 2) := by decide +kernel
theorem dX3_withdrawAll_20 : decode cX3_withdrawAll 20 = .ok (.aaload, 1) := by decide +kernel
theorem dX3_withdrawAll_21 : decode cX3_withdrawAll 21 = .ok (.astore 6, 2) := by decide +kernel
theorem dX3_withdrawAll_23 : decode cX3_withdrawAll 23 = .ok (.lload_n 1, 1) := by decide +kernel
theorem dX3_withdrawAll_24 : decode cX3_withdrawAll 24 = .ok (.iload 5, 2) := by decide +kernel
theorem dX3_withdrawAll_26 : decode cX3_withdrawAll 26 = .ok (.invokestatic 175, 3) := by decide +kernel
theorem dX3_withdrawAll_29 : decode cX3_withdrawAll 29 = .ok (.land, 1) := by decide +kernel
theorem dX3_withdrawAll_30 : decode cX3_withdrawAll 30 = .ok (.lconst 0, 1) := by decide +kernel
theorem dX3_withdrawAll_31 : decode cX3_withdrawAll 31 = .ok (.lcmp, 1) := by decide +kernel
theorem dX3_withdrawAll_32 : decode cX3_withdrawAll 32 = .ok (.ifCond .ne 20, 3) := by decide +kernel
theorem dX3_withdrawAll_35 : decode cX3_withdrawAll 35 = .ok (.aload 6, 2) := by decide +kernel
theorem dX3_withdrawAll_37 : decode cX3_withdrawAll 37 = .ok (.ifnull 19, 3) := by decide +kernel
theorem dX3_withdrawAll_40 : decode cX3_withdrawAll 40 = .ok (.aload 6, 2) := by decide +kernel
theorem dX3_withdrawAll_42 : decode cX3_withdrawAll 42 = .ok (.getfield 178, 3) := by decide +kernel
theorem dX3_withdrawAll_45 : decode cX3_withdrawAll 45 = .ok (.lload_n 3, 1) := by decide +kernel
theorem dX3_withdrawAll_46 : decode cX3_withdrawAll 46 = .ok (.land, 1) := by decide +kernel
theorem dX3_withdrawAll_47 : decode cX3_withdrawAll 47 = .ok (.lconst 0, 1) := by decide +kernel
theorem dX3_withdrawAll_48 : decode cX3_withdrawAll 48 = .ok (.lcmp, 1) := by decide +kernel
theorem dX3_withdrawAll_49 : decode cX3_withdrawAll 49 = .ok (.ifCond .eq 7, 3) := by decide +kernel
theorem dX3_withdrawAll_52 : decode cX3_withdrawAll 52 = .ok (.iconst 1, 1) := by decide +kernel
theorem dX3_withdrawAll_53 : decode cX3_withdrawAll 53 = .ok (.goto 4, 3) := by decide +kernel
theorem dX3_withdrawAll_56 : decode cX3_withdrawAll 56 = .ok (.iconst 0, 1) := by decide +kernel
theorem dX3_withdrawAll_57 : decode cX3_withdrawAll 57 = .ok (.istore 7, 2) := by decide +kernel
theorem dX3_withdrawAll_59 : decode cX3_withdrawAll 59 = .ok (.aload 6, 2) := by decide +kernel
theorem dX3_withdrawAll_61 : decode cX3_withdrawAll 61 = .ok (.ifnull 30, 3) := by decide +kernel
theorem dX3_withdrawAll_64 : decode cX3_withdrawAll 64 = .ok (.aload 6, 2) := by decide +kernel
theorem dX3_withdrawAll_66 : decode cX3_withdrawAll 66 = .ok (.getfield 156, 3) := by decide +kernel
theorem dX3_withdrawAll_69 : decode cX3_withdrawAll 69 = .ok (.ifCond .eq 22, 3) := by decide +kernel
theorem dX3_withdrawAll_72 : decode cX3_withdrawAll 72 = .ok (.iload 7, 2) := by decide +kernel
theorem dX3_withdrawAll_74 : decode cX3_withdrawAll 74 = .ok (.ifCond .eq 17, 3) := by decide +kernel
theorem dX3_withdrawAll_77 : decode cX3_withdrawAll 77 = .ok (.aload 6, 2) := by decide +kernel
theorem dX3_withdrawAll_79 : decode cX3_withdrawAll 79 = .ok (.iconst 0, 1) := by decide +kernel
theorem dX3_withdrawAll_80 : decode cX3_withdrawAll 80 = .ok (.putfield 156, 3) := by decide +kernel
theorem dX3_withdrawAll_83 : decode cX3_withdrawAll 83 = .ok (.lload_n 3, 1) := by decide +kernel
theorem dX3_withdrawAll_84 : decode cX3_withdrawAll 84 = .ok (.iload 5, 2) := by decide +kernel
theorem dX3_withdrawAll_86 : decode cX3_withdrawAll 86 = .ok (.invokestatic 175, 3) := by decide +kernel
theorem dX3_withdrawAll_89 : decode cX3_withdrawAll 89 = .ok (.lor, 1) := by decide +kernel
theorem dX3_withdrawAll_90 : decode cX3_withdrawAll 90 = .ok (.lstore_n 3, 1) := by decide +kernel
theorem dX3_withdrawAll_91 : decode cX3_withdrawAll 91 = .ok (.iinc 5 1, 3) := by decide +kernel
theorem dX3_withdrawAll_94 : decode cX3_withdrawAll 94 = .ok (.goto (-89), 3) := by decide +kernel
theorem dX3_withdrawAll_97 : decode cX3_withdrawAll 97 = .ok (.lload_n 3, 1) := by decide +kernel
theorem dX3_withdrawAll_98 : decode cX3_withdrawAll 98 = .ok (.invokestatic 189, 3) := by decide +kernel
theorem dX3_withdrawAll_101 : decode cX3_withdrawAll 101 = .ok (.ireturn, 1) := by decide +kernel
theorem dX3_holds_0 : decode cX3_holds 0 = .ok (.aload_n 1, 1) := by decide +kernel
theorem dX3_holds_1 : decode cX3_holds 1 = .ok (.getfield 148, 3) := by decide +kernel
theorem dX3_holds_4 : decode cX3_holds 4 = .ok (.ifCond .lt 26, 3) := by decide +kernel
theorem dX3_holds_7 : decode cX3_holds 7 = .ok (.aload_n 1, 1) := by decide +kernel
theorem dX3_holds_8 : decode cX3_holds 8 = .ok (.getfield 148, 3) := by decide +kernel
theorem dX3_holds_11 : decode cX3_holds 11 = .ok (.aload_n 0, 1) := by decide +kernel
theorem dX3_holds_12 : decode cX3_holds 12 = .ok (.getfield 66, 3) := by decide +kernel
theorem dX3_holds_15 : decode cX3_holds 15 = .ok (.if_icmp .ge 15, 3) := by decide +kernel
theorem dX3_holds_18 : decode cX3_holds 18 = .ok (.aload_n 0, 1) := by decide +kernel
theorem dX3_holds_19 : decode cX3_holds 19 = .ok (.getfield 11, 3) := by decide +kernel
theorem dX3_holds_22 : decode cX3_holds 22 = .ok (.aload_n 1, 1) := by decide +kernel
theorem dX3_holds_23 : decode cX3_holds 23 = .ok (.getfield 148, 3) := by decide +kernel
theorem dX3_holds_26 : decode cX3_holds 26 = .ok (.aaload, 1) := by decide +kernel
theorem dX3_holds_27 : decode cX3_holds 27 = .ok (.ifnonnull 5, 3) := by decide +kernel
theorem dX3_holds_30 : decode cX3_holds 30 = .ok (.iconst 0, 1) := by decide +kernel
theorem dX3_holds_31 : decode cX3_holds 31 = .ok (.ireturn, 1) := by decide +kernel
theorem dX3_holds_32 : decode cX3_holds 32 = .ok (.aload_n 0, 1) := by decide +kernel
theorem dX3_holds_33 : decode cX3_holds 33 = .ok (.getfield 11, 3) := by decide +kernel
theorem dX3_holds_36 : decode cX3_holds 36 = .ok (.aload_n 1, 1) := by decide +kernel
theorem dX3_holds_37 : decode cX3_holds 37 = .ok (.getfield 148, 3) := by decide +kernel
theorem dX3_holds_40 : decode cX3_holds 40 = .ok (.aaload, 1) := by decide +kernel
theorem dX3_holds_41 : decode cX3_holds 41 = .ok (.astore_n 2, 1) := by decide +kernel
theorem dX3_holds_42 : decode cX3_holds 42 = .ok (.aload_n 1, 1) := by decide +kernel
theorem dX3_holds_43 : decode cX3_holds 43 = .ok (.getfield 143, 3) := by decide +kernel
theorem dX3_holds_46 : decode cX3_holds 46 = .ok (.ifCond .ne 55, 3) := by decide +kernel
theorem dX3_holds_49 : decode cX3_holds 49 = .ok (.aload_n 0, 1) := by decide +kernel
theorem dX3_holds_50 : decode cX3_holds 50 = .ok (.getfield 37, 3) := by decide +kernel
theorem dX3_holds_53 : decode cX3_holds 53 = .ok (.aload_n 2, 1) := by decide +kernel
theorem dX3_holds_54 : decode cX3_holds 54 = .ok (.aload_n 0, 1) := by decide +kernel
theorem dX3_holds_55 : decode cX3_holds 55 = .ok (.getfield 20, 3) := by decide +kernel
theorem dX3_holds_58 : decode cX3_holds 58 = .ok (.aload_n 1, 1) := by decide +kernel
theorem dX3_holds_59 : decode cX3_holds 59 = .ok (.getfield 123, 3) := by decide +kernel
theorem dX3_holds_62 : decode cX3_holds 62 = .ok (.aload_n 1, 1) := by decide +kernel
theorem dX3_holds_63 : decode cX3_holds 63 = .ok (.getfield 126, 3) := by decide +kernel
theorem dX3_holds_66 : decode cX3_holds 66 = .ok (.aload_n 2, 1) := by decide +kernel
theorem dX3_holds_67 : decode cX3_holds 67 = .ok (.getfield 101, 3) := by decide +kernel
theorem dX3_holds_70 : decode cX3_holds 70 = .ok (.invokestatic 281, 3) := by decide +kernel
theorem dX3_holds_73 : decode cX3_holds 73 = .ok (.invokevirtual 240, 3) := by decide +kernel
theorem dX3_holds_76 : decode cX3_holds 76 = .ok (.aload_n 0, 1) := by decide +kernel
theorem dX3_holds_77 : decode cX3_holds 77 = .ok (.getfield 37, 3) := by decide +kernel
theorem dX3_holds_80 : decode cX3_holds 80 = .ok (.aload_n 1, 1) := by decide +kernel
theorem dX3_holds_81 : decode cX3_holds 81 = .ok (.getfield 151, 3) := by decide +kernel
theorem dX3_holds_84 : decode cX3_holds 84 = .ok (.invokevirtual 127, 3) := by decide +kernel
theorem dX3_holds_87 : decode cX3_holds 87 = .ok (.aload_n 1, 1) := by decide +kernel
theorem dX3_holds_88 : decode cX3_holds 88 = .ok (.getfield 131, 3) := by decide +kernel
theorem dX3_holds_91 : decode cX3_holds 91 = .ok (.lcmp, 1) := by decide +kernel
theorem dX3_holds_92 : decode cX3_holds 92 = .ok (.ifCond .ne 7, 3) := by decide +kernel
theorem dX3_holds_95 : decode cX3_holds 95 = .ok (.iconst 1, 1) := by decide +kernel
theorem dX3_holds_96 : decode cX3_holds 96 = .ok (.goto 4, 3) := by decide +kernel
theorem dX3_holds_99 : decode cX3_holds 99 = .ok (.iconst 0, 1) := by decide +kernel
theorem dX3_holds_100 : decode cX3_holds 100 = .ok (.ireturn, 1) := by decide +kernel
theorem dX3_holds_101 : decode cX3_holds 101 = .ok (.aload_n 1, 1) := by decide +kernel
theorem dX3_holds_102 : decode cX3_holds 102 = .ok (.getfield 143, 3) := by decide +kernel
theorem dX3_holds_105 : decode cX3_holds 105 = .ok (.iconst 2, 1) := by decide +kernel
theorem dX3_holds_106 : decode cX3_holds 106 = .ok (.if_icmp .ne 17, 3) := by decide +kernel
theorem dX3_holds_109 : decode cX3_holds 109 = .ok (.aload_n 2, 1) := by decide +kernel
theorem dX3_holds_110 : decode cX3_holds 110 = .ok (.ldc 162, 2) := by decide +kernel
theorem dX3_holds_112 : decode cX3_holds 112 = .ok (.aload_n 1, 1) := by decide +kernel
theorem dX3_holds_113 : decode cX3_holds 113 = .ok (.getfield 151, 3) := by decide +kernel
theorem dX3_holds_116 : decode cX3_holds 116 = .ok (.imul, 1) := by decide +kernel
theorem dX3_holds_117 : decode cX3_holds 117 = .ok (.invokevirtual 285, 3) := by decide +kernel
theorem dX3_holds_120 : decode cX3_holds 120 = .ok (.ifCond .ne 7, 3) := by decide +kernel
theorem dX3_holds_123 : decode cX3_holds 123 = .ok (.iconst 1, 1) := by decide +kernel
theorem dX3_holds_124 : decode cX3_holds 124 = .ok (.goto 4, 3) := by decide +kernel
theorem dX3_holds_127 : decode cX3_holds 127 = .ok (.iconst 0, 1) := by decide +kernel
theorem dX3_holds_128 : decode cX3_holds 128 = .ok (.ireturn, 1) := by decide +kernel
theorem dX4_init_0 : decode cX4_init 0 = .ok (.aload_n 0, 1) := by decide +kernel
theorem dX4_init_1 : decode cX4_init 1 = .ok (.invokespecial 1, 3) := by decide +kernel
theorem dX4_init_4 : decode cX4_init 4 = .ok (.aload_n 0, 1) := by decide +kernel
theorem dX4_init_5 : decode cX4_init 5 = .ok (.bipush 8, 2) := by decide +kernel
theorem dX4_init_7 : decode cX4_init 7 = .ok (.newarray .int, 2) := by decide +kernel
theorem dX4_init_9 : decode cX4_init 9 = .ok (.putfield 7, 3) := by decide +kernel
theorem dX4_init_12 : decode cX4_init 12 = .ok (.aload_n 0, 1) := by decide +kernel
theorem dX4_init_13 : decode cX4_init 13 = .ok (.bipush 8, 2) := by decide +kernel
theorem dX4_init_15 : decode cX4_init 15 = .ok (.newarray .int, 2) := by decide +kernel
theorem dX4_init_17 : decode cX4_init 17 = .ok (.putfield 13, 3) := by decide +kernel
theorem dX4_init_20 : decode cX4_init 20 = .ok (.aload_n 0, 1) := by decide +kernel
theorem dX4_init_21 : decode cX4_init 21 = .ok (.bipush 8, 2) := by decide +kernel
theorem dX4_init_23 : decode cX4_init 23 = .ok (.newarray .int, 2) := by decide +kernel
theorem dX4_init_25 : decode cX4_init 25 = .ok (.putfield 16, 3) := by decide +kernel
theorem dX4_init_28 : decode cX4_init 28 = .ok (.aload_n 0, 1) := by decide +kernel
theorem dX4_init_29 : decode cX4_init 29 = .ok (.bipush 6, 2) := by decide +kernel
theorem dX4_init_31 : decode cX4_init 31 = .ok (.newarray .int, 2) := by decide +kernel
theorem dX4_init_33 : decode cX4_init 33 = .ok (.putfield 19, 3) := by decide +kernel
theorem dX4_init_36 : decode cX4_init 36 = .ok (.aload_n 0, 1) := by decide +kernel
theorem dX4_init_37 : decode cX4_init 37 = .ok (.bipush 6, 2) := by decide +kernel
theorem dX4_init_39 : decode cX4_init 39 = .ok (.newarray .int, 2) := by decide +kernel
theorem dX4_init_41 : decode cX4_init 41 = .ok (.putfield 22, 3) := by decide +kernel
theorem dX4_init_44 : decode cX4_init 44 = .ok (.aload_n 0, 1) := by decide +kernel
theorem dX4_init_45 : decode cX4_init 45 = .ok (.bipush 6, 2) := by decide +kernel
theorem dX4_init_47 : decode cX4_init 47 = .ok (.newarray .int, 2) := by decide +kernel
theorem dX4_init_49 : decode cX4_init 49 = .ok (.putfield 25, 3) := by decide +kernel
theorem dX4_init_52 : decode cX4_init 52 = .ok (.aload_n 0, 1) := by decide +kernel
theorem dX4_init_53 : decode cX4_init 53 = .ok (.bipush 6, 2) := by decide +kernel
theorem dX4_init_55 : decode cX4_init 55 = .ok (.newarray .int, 2) := by decide +kernel
theorem dX4_init_57 : decode cX4_init 57 = .ok (.putfield 28, 3) := by decide +kernel
theorem dX4_init_60 : decode cX4_init 60 = .ok (.aload_n 0, 1) := by decide +kernel
theorem dX4_init_61 : decode cX4_init 61 = .ok (.bipush 6, 2) := by decide +kernel
theorem dX4_init_63 : decode cX4_init 63 = .ok (.newarray .int, 2) := by decide +kernel
theorem dX4_init_65 : decode cX4_init 65 = .ok (.putfield 31, 3) := by decide +kernel
theorem dX4_init_68 : decode cX4_init 68 = .ok (.aload_n 0, 1) := by decide +kernel
theorem dX4_init_69 : decode cX4_init 69 = .ok (.bipush 6, 2) := by decide +kernel
theorem dX4_init_71 : decode cX4_init 71 = .ok (.newarray .int, 2) := by decide +kernel
theorem dX4_init_73 : decode cX4_init 73 = .ok (.putfield 34, 3) := by decide +kernel
theorem dX4_init_76 : decode cX4_init 76 = .ok (.aload_n 0, 1) := by decide +kernel
theorem dX4_init_77 : decode cX4_init 77 = .ok (.sipush 1536, 3) := by decide +kernel
theorem dX4_init_80 : decode cX4_init 80 = .ok (.newarray .int, 2) := by decide +kernel
theorem dX4_init_82 : decode cX4_init 82 = .ok (.putfield 37, 3) := by decide +kernel
theorem dX4_init_85 : decode cX4_init 85 = .ok (.aload_n 0, 1) := by decide +kernel
theorem dX4_init_86 : decode cX4_init 86 = .ok (.sipush 1536, 3) := by decide +kernel
theorem dX4_init_89 : decode cX4_init 89 = .ok (.newarray .int, 2) := by decide +kernel
theorem dX4_init_91 : decode cX4_init 91 = .ok (.putfield 40, 3) := by decide +kernel
theorem dX4_init_94 : decode cX4_init 94 = .ok (.aload_n 0, 1) := by decide +kernel
theorem dX4_init_95 : decode cX4_init 95 = .ok (.iconst 4, 1) := by decide +kernel
theorem dX4_init_96 : decode cX4_init 96 = .ok (.newarray .boolean, 2) := by decide +kernel
theorem dX4_init_98 : decode cX4_init 98 = .ok (.putfield 43, 3) := by decide +kernel
theorem dX4_init_101 : decode cX4_init 101 = .ok (.aload_n 0, 1) := by decide +kernel
theorem dX4_init_102 : decode cX4_init 102 = .ok (.sipush 1000, 3) := by decide +kernel
theorem dX4_init_105 : decode cX4_init 105 = .ok (.putfield 47, 3) := by decide +kernel
theorem dX4_init_108 : decode cX4_init 108 = .ok (.aload_n 0, 1) := by decide +kernel
theorem dX4_init_109 : decode cX4_init 109 = .ok (.bipush 6, 2) := by decide +kernel
theorem dX4_init_111 : decode cX4_init 111 = .ok (.newarray .int, 2) := by decide +kernel
theorem dX4_init_113 : decode cX4_init 113 = .ok (.putfield 51, 3) := by decide +kernel
theorem dX4_init_116 : decode cX4_init 116 = .ok (.aload_n 0, 1) := by decide +kernel
theorem dX4_init_117 : decode cX4_init 117 = .ok (.bipush 36, 2) := by decide +kernel
theorem dX4_init_119 : decode cX4_init 119 = .ok (.newarray .int, 2) := by decide +kernel
theorem dX4_init_121 : decode cX4_init 121 = .ok (.putfield 54, 3) := by decide +kernel
theorem dX4_init_124 : decode cX4_init 124 = .ok (.aload_n 0, 1) := by decide +kernel
theorem dX4_init_125 : decode cX4_init 125 = .ok (.bipush 64, 2) := by decide +kernel
theorem dX4_init_127 : decode cX4_init 127 = .ok (.newarray .int, 2) := by decide +kernel
theorem dX4_init_129 : decode cX4_init 129 = .ok (.putfield 57, 3) := by decide +kernel
theorem dX4_init_132 : decode cX4_init 132 = .ok (.aload_n 0, 1) := by decide +kernel
theorem dX4_init_133 : decode cX4_init 133 = .ok (.sipush 256, 3) := by decide +kernel
theorem dX4_init_136 : decode cX4_init 136 = .ok (.newarray .long, 2) := by decide +kernel
theorem dX4_init_138 : decode cX4_init 138 = .ok (.putfield 60, 3) := by decide +kernel
theorem dX4_init_141 : decode cX4_init 141 = .ok (.aload_n 0, 1) := by decide +kernel
theorem dX4_init_142 : decode cX4_init 142 = .ok (.sipush 256, 3) := by decide +kernel
theorem dX4_init_145 : decode cX4_init 145 = .ok (.newarray .boolean, 2) := by decide +kernel
theorem dX4_init_147 : decode cX4_init 147 = .ok (.putfield 64, 3) := by decide +kernel
theorem dX4_init_150 : decode cX4_init 150 = .ok (.aload_n 0, 1) := by decide +kernel
theorem dX4_init_151 : decode cX4_init 151 = .ok (.bipush 40, 2) := by decide +kernel
theorem dX4_init_153 : decode cX4_init 153 = .ok (.newarray .int, 2) := by decide +kernel
theorem dX4_init_155 : decode cX4_init 155 = .ok (.putfield 67, 3) := by decide +kernel
theorem dX4_init_158 : decode cX4_init 158 = .ok (.aload_n 0, 1) := by decide +kernel
theorem dX4_init_159 : decode cX4_init 159 = .ok (.bipush 40, 2) := by decide +kernel
theorem dX4_init_161 : decode cX4_init 161 = .ok (.newarray .int, 2) := by decide +kernel
theorem dX4_init_163 : decode cX4_init 163 = .ok (.putfield 70, 3) := by decide +kernel
theorem dX4_init_166 : decode cX4_init 166 = .ok (.aload_n 0, 1) := by decide +kernel
theorem dX4_init_167 : decode cX4_init 167 = .ok (.bipush 40, 2) := by decide +kernel
theorem dX4_init_169 : decode cX4_init 169 = .ok (.newarray .int, 2) := by decide +kernel
theorem dX4_init_171 : decode cX4_init 171 = .ok (.putfield 73, 3) := by decide +kernel
theorem dX4_init_174 : decode cX4_init 174 = .ok (.aload_n 0, 1) := by decide +kernel
theorem dX4_init_175 : decode cX4_init 175 = .ok (.bipush 40, 2) := by decide +kernel
theorem dX4_init_177 : decode cX4_init 177 = .ok (.newarray .int, 2) := by decide +kernel
theorem dX4_init_179 : decode cX4_init 179 = .ok (.putfield 76, 3) := by decide +kernel
theorem dX4_init_182 : decode cX4_init 182 = .ok (.aload_n 0, 1) := by decide +kernel
theorem dX4_init_183 : decode cX4_init 183 = .ok (.bipush 40, 2) := by decide +kernel
theorem dX4_init_185 : decode cX4_init 185 = .ok (.newarray .int, 2) := by decide +kernel
theorem dX4_init_187 : decode cX4_init 187 = .ok (.putfield 79, 3) := by decide +kernel
theorem dX4_init_190 : decode cX4_init 190 = .ok (.aload_n 0, 1) := by decide +kernel
theorem dX4_init_191 : decode cX4_init 191 = .ok (.bipush 40, 2) := by decide +kernel
theorem dX4_init_193 : decode cX4_init 193 = .ok (.newarray .long, 2) := by decide +kernel
theorem dX4_init_195 : decode cX4_init 195 = .ok (.putfield 82, 3) := by decide +kernel
theorem dX4_init_198 : decode cX4_init 198 = .ok (.aload_n 0, 1) := by decide +kernel
theorem dX4_init_199 : decode cX4_init 199 = .ok (.bipush 40, 2) := by decide +kernel
theorem dX4_init_201 : decode cX4_init 201 = .ok (.newarray .int, 2) := by decide +kernel
theorem dX4_init_203 : decode cX4_init 203 = .ok (.putfield 85, 3) := by decide +kernel
theorem dX4_init_206 : decode cX4_init 206 = .ok (.aload_n 0, 1) := by decide +kernel
theorem dX4_init_207 : decode cX4_init 207 = .ok (.bipush 40, 2) := by decide +kernel
theorem dX4_init_209 : decode cX4_init 209 = .ok (.newarray .long, 2) := by decide +kernel
theorem dX4_init_211 : decode cX4_init 211 = .ok (.putfield 88, 3) := by decide +kernel
theorem dX4_init_214 : decode cX4_init 214 = .ok (.aload_n 0, 1) := by decide +kernel
theorem dX4_init_215 : decode cX4_init 215 = .ok (.bipush 40, 2) := by decide +kernel
theorem dX4_init_217 : decode cX4_init 217 = .ok (.newarray .boolean, 2) := by decide +kernel
theorem dX4_init_219 : decode cX4_init 219 = .ok (.putfield 91, 3) := by decide +kernel
theorem dX4_init_222 : decode cX4_init 222 = .ok (.aload_n 0, 1) := by decide +kernel
theorem dX4_init_223 : decode cX4_init 223 = .ok (.iconst 0, 1) := by decide +kernel
theorem dX4_init_224 : decode cX4_init 224 = .ok (.sipush 1000, 3) := by decide +kernel
theorem dX4_init_227 : decode cX4_init 227 = .ok (.sipush 995, 3) := by decide +kernel
theorem dX4_init_230 : decode cX4_init 230 = .ok (.sipush 981, 3) := by decide +kernel
theorem dX4_init_233 : decode cX4_init 233 = .ok (.sipush 957, 3) := by decide +kernel
theorem dX4_init_236 : decode cX4_init 236 = .ok (.invokevirtual 94, 3) := by decide +kernel
theorem dX4_init_239 : decode cX4_init 239 = .ok (.aload_n 0, 1) := by decide +kernel
theorem dX4_init_240 : decode cX4_init 240 = .ok (.iconst 4, 1) := by decide +kernel
theorem dX4_init_241 : decode cX4_init 241 = .ok (.sipush 924, 3) := by decide +kernel
theorem dX4_init_244 : decode cX4_init 244 = .ok (.sipush 882, 3) := by decide +kernel
theorem dX4_init_247 : decode cX4_init 247 = .ok (.sipush 831, 3) := by decide +kernel
theorem dX4_init_250 : decode cX4_init 250 = .ok (.sipush 773, 3) := by decide +kernel
theorem dX4_init_253 : decode cX4_init 253 = .ok (.invokevirtual 94, 3) := by decide +kernel
theorem dX4_init_256 : decode cX4_init 256 = .ok (.aload_n 0, 1) := by decide +kernel
theorem dX4_init_257 : decode cX4_init 257 = .ok (.bipush 8, 2) := by decide +kernel
theorem dX4_init_259 : decode cX4_init 259 = .ok (.sipush 707, 3) := by decide +kernel
theorem dX4_init_262 : decode cX4_init 262 = .ok (.sipush 634, 3) := by decide +kernel
theorem dX4_init_265 : decode cX4_init 265 = .ok (.sipush 556, 3) := by decide +kernel
theorem dX4_init_268 : decode cX4_init 268 = .ok (.sipush 471, 3) := by decide +kernel
theorem dX4_init_271 : decode cX4_init 271 = .ok (.invokevirtual 94, 3) := by decide +kernel
theorem dX4_init_274 : decode cX4_init 274 = .ok (.aload_n 0, 1) := by decide +kernel
theorem dX4_init_275 : decode cX4_init 275 = .ok (.bipush 12, 2) := by decide +kernel
theorem dX4_init_277 : decode cX4_init 277 = .ok (.sipush 383, 3) := by decide +kernel
theorem dX4_init_280 : decode cX4_init 280 = .ok (.sipush 290, 3) := by decide +kernel
theorem dX4_init_283 : decode cX4_init 283 = .ok (.sipush 195, 3) := by decide +kernel
theorem dX4_init_286 : decode cX4_init 286 = .ok (.bipush 98, 2) := by decide +kernel
theorem dX4_init_288 : decode cX4_init 288 = .ok (.invokevirtual 94, 3) := by decide +kernel
theorem dX4_init_291 : decode cX4_init 291 = .ok (.bipush 17, 2) := by decide +kernel
theorem dX4_init_293 : decode cX4_init 293 = .ok (.istore_n 1, 1) := by decide +kernel
theorem dX4_init_294 : decode cX4_init 294 = .ok (.iload_n 1, 1) := by decide +kernel
theorem dX4_init_295 : decode cX4_init 295 = .ok (.bipush 32, 2) := by decide +kernel
theorem dX4_init_297 : decode cX4_init 297 = .ok (.if_icmp .gt 25, 3) := by decide +kernel
theorem dX4_init_300 : decode cX4_init 300 = .ok (.aload_n 0, 1) := by decide +kernel
theorem dX4_init_301 : decode cX4_init 301 = .ok (.getfield 57, 3) := by decide +kernel
theorem dX4_init_304 : decode cX4_init 304 = .ok (.iload_n 1, 1) := by decide +kernel
theorem dX4_init_305 : decode cX4_init 305 = .ok (.aload_n 0, 1) := by decide +kernel
theorem dX4_init_306 : decode cX4_init 306 = .ok (.getfield 57, 3) := by decide +kernel
theorem dX4_init_309 : decode cX4_init 309 = .ok (.bipush 32, 2) := by decide +kernel
theorem dX4_init_311 : decode cX4_init 311 = .ok (.iload_n 1, 1) := by decide +kernel
theorem dX4_init_312 : decode cX4_init 312 = .ok (.isub, 1) := by decide +kernel
theorem dX4_init_313 : decode cX4_init 313 = .ok (.iaload, 1) := by decide +kernel
theorem dX4_init_314 : decode cX4_init 314 = .ok (.ineg, 1) := by decide +kernel
theorem dX4_init_315 : decode cX4_init 315 = .ok (.iastore, 1) := by decide +kernel
theorem dX4_init_316 : decode cX4_init 316 = .ok (.iinc 1 1, 3) := by decide +kernel
theorem dX4_init_319 : decode cX4_init 319 = .ok (.goto (-25), 3) := by decide +kernel
theorem dX4_init_322 : decode cX4_init 322 = .ok (.bipush 33, 2) := by decide +kernel
theorem dX4_init_324 : decode cX4_init 324 = .ok (.istore_n 1, 1) := by decide +kernel
theorem dX4_init_325 : decode cX4_init 325 = .ok (.iload_n 1, 1) := by decide +kernel
theorem dX4_init_326 : decode cX4_init 326 = .ok (.bipush 64, 2) := by decide +kernel
theorem dX4_init_328 : decode cX4_init 328 = .ok (.if_icmp .ge 24, 3) := by decide +kernel
theorem dX4_init_331 : decode cX4_init 331 = .ok (.aload_n 0, 1) := by decide +kernel
theorem dX4_init_332 : decode cX4_init 332 = .ok (.getfield 57, 3) := by decide +kernel
theorem dX4_init_335 : decode cX4_init 335 = .ok (.iload_n 1, 1) := by decide +kernel
theorem dX4_init_336 : decode cX4_init 336 = .ok (.aload_n 0, 1) := by decide +kernel
theorem dX4_init_337 : decode cX4_init 337 = .ok (.getfield 57, 3) := by decide +kernel
theorem dX4_init_340 : decode cX4_init 340 = .ok (.bipush 64, 2) := by decide +kernel
theorem dX4_init_342 : decode cX4_init 342 = .ok (.iload_n 1, 1) := by decide +kernel
theorem dX4_init_343 : decode cX4_init 343 = .ok (.isub, 1) := by decide +kernel
theorem dX4_init_344 : decode cX4_init 344 = .ok (.iaload, 1) := by decide +kernel
theorem dX4_init_345 : decode cX4_init 345 = .ok (.iastore, 1) := by decide +kernel
theorem dX4_init_346 : decode cX4_init 346 = .ok (.iinc 1 1, 3) := by decide +kernel
theorem dX4_init_349 : decode cX4_init 349 = .ok (.goto (-24), 3) := by decide +kernel
theorem dX4_init_352 : decode cX4_init 352 = .ok (.iconst 0, 1) := by decide +kernel
theorem dX4_init_353 : decode cX4_init 353 = .ok (.istore_n 1, 1) := by decide +kernel
theorem dX4_init_354 : decode cX4_init 354 = .ok (.iload_n 1, 1) := by decide +kernel
theorem dX4_init_355 : decode cX4_init 355 = .ok (.sipush 1536, 3) := by decide +kernel
theorem dX4_init_358 : decode cX4_init 358 = .ok (.if_icmp .ge 16, 3) := by decide +kernel
theorem dX4_init_361 : decode cX4_init 361 = .ok (.aload_n 0, 1) := by decide +kernel
theorem dX4_init_362 : decode cX4_init 362 = .ok (.getfield 37, 3) := by decide +kernel
theorem dX4_init_365 : decode cX4_init 365 = .ok (.iload_n 1, 1) := by decide +kernel
theorem dX4_init_366 : decode cX4_init 366 = .ok (.iconst (-1), 1) := by decide +kernel
theorem dX4_init_367 : decode cX4_init 367 = .ok (.iastore, 1) := by decide +kernel
theorem dX4_init_368 : decode cX4_init 368 = .ok (.iinc 1 1, 3) := by decide +kernel
theorem dX4_init_371 : decode cX4_init 371 = .ok (.goto (-17), 3) := by decide +kernel
theorem dX4_init_374 : decode cX4_init 374 = .ok (.return_, 1) := by decide +kernel
theorem dX4_laysRow_0 : decode cX4_laysRow 0 = .ok (.aload_n 0, 1) := by decide +kernel
theorem dX4_laysRow_1 : decode cX4_laysRow 1 = .ok (.getfield 57, 3) := by decide +kernel
theorem dX4_laysRow_4 : decode cX4_laysRow 4 = .ok (.iload_n 1, 1) := by decide +kernel
theorem dX4_laysRow_5 : decode cX4_laysRow 5 = .ok (.iload_n 2, 1) := by decide +kernel
theorem dX4_laysRow_6 : decode cX4_laysRow 6 = .ok (.iastore, 1) := by decide +kernel
theorem dX4_laysRow_7 : decode cX4_laysRow 7 = .ok (.aload_n 0, 1) := by decide +kernel
theorem dX4_laysRow_8 : decode cX4_laysRow 8 = .ok (.getfield 57, 3) := by decide +kernel
theorem dX4_laysRow_11 : decode cX4_laysRow 11 = .ok (.iload_n 1, 1) := by decide +kernel
theorem dX4_laysRow_12 : decode cX4_laysRow 12 = .ok (.iconst 1, 1) := by decide +kernel
theorem dX4_laysRow_13 : decode cX4_laysRow 13 = .ok (.iadd, 1) := by decide +kernel
theorem dX4_laysRow_14 : decode cX4_laysRow 14 = .ok (.iload_n 3, 1) := by decide +kernel
theorem dX4_laysRow_15 : decode cX4_laysRow 15 = .ok (.iastore, 1) := by decide +kernel
theorem dX4_laysRow_16 : decode cX4_laysRow 16 = .ok (.aload_n 0, 1) := by decide +kernel
theorem dX4_laysRow_17 : decode cX4_laysRow 17 = .ok (.getfield 57, 3) := by decide +kernel
theorem dX4_laysRow_20 : decode cX4_laysRow 20 = .ok (.iload_n 1, 1) := by decide +kernel
theorem dX4_laysRow_21 : decode cX4_laysRow 21 = .ok (.iconst 2, 1) := by decide +kernel
theorem dX4_laysRow_22 : decode cX4_laysRow 22 = .ok (.iadd, 1) := by decide +kernel
theorem dX4_laysRow_23 : decode cX4_laysRow 23 = .ok (.iload 4, 2) := by decide +kernel
theorem dX4_laysRow_25 : decode cX4_laysRow 25 = .ok (.iastore, 1) := by decide +kernel
theorem dX4_laysRow_26 : decode cX4_laysRow 26 = .ok (.aload_n 0, 1) := by decide +kernel
theorem dX4_laysRow_27 : decode cX4_laysRow 27 = .ok (.getfield 57, 3) := by decide +kernel
theorem dX4_laysRow_30 : decode cX4_laysRow 30 = .ok (.iload_n 1, 1) := by decide +kernel
theorem dX4_laysRow_31 : decode cX4_laysRow 31 = .ok (.iconst 3, 1) := by decide +kernel
theorem dX4_laysRow_32 : decode cX4_laysRow 32 = .ok (.iadd, 1) := by decide +kernel
theorem dX4_laysRow_33 : decode cX4_laysRow 33 = .ok (.iload 5, 2) := by decide +kernel
theorem dX4_laysRow_35 : decode cX4_laysRow 35 = .ok (.iastore, 1) := by decide +kernel
theorem dX4_laysRow_36 : decode cX4_laysRow 36 = .ok (.return_, 1) := by decide +kernel
theorem dX4_thrown_0 : decode cX4_thrown 0 = .ok (.aload_n 0, 1) := by decide +kernel
theorem dX4_thrown_1 : decode cX4_thrown 1 = .ok (.getfield 98, 3) := by decide +kernel
theorem dX4_thrown_4 : decode cX4_thrown 4 = .ok (.ireturn, 1) := by decide +kernel
theorem dX4_can_0 : decode cX4_can 0 = .ok (.aload_n 0, 1) := by decide +kernel
theorem dX4_can_1 : decode cX4_can 1 = .ok (.iload_n 1, 1) := by decide +kernel
theorem dX4_can_2 : decode cX4_can 2 = .ok (.putfield 98, 3) := by decide +kernel
theorem dX4_can_5 : decode cX4_can 5 = .ok (.iload_n 1, 1) := by decide +kernel
theorem dX4_can_6 : decode cX4_can 6 = .ok (.ifCond .ne 7, 3) := by decide +kernel
theorem dX4_can_9 : decode cX4_can 9 = .ok (.iconst 1, 1) := by decide +kernel
theorem dX4_can_10 : decode cX4_can 10 = .ok (.goto 4, 3) := by decide +kernel
theorem dX4_can_13 : decode cX4_can 13 = .ok (.iconst 0, 1) := by decide +kernel
theorem dX4_can_14 : decode cX4_can 14 = .ok (.ireturn, 1) := by decide +kernel
theorem dX4_isIn_0 : decode cX4_isIn 0 = .ok (.iload_n 0, 1) := by decide +kernel
theorem dX4_isIn_1 : decode cX4_isIn 1 = .ok (.iload_n 1, 1) := by decide +kernel
theorem dX4_isIn_2 : decode cX4_isIn 2 = .ok (.if_icmp .lt 12, 3) := by decide +kernel
theorem dX4_isIn_5 : decode cX4_isIn 5 = .ok (.iload_n 0, 1) := by decide +kernel
theorem dX4_isIn_6 : decode cX4_isIn 6 = .ok (.iload_n 2, 1) := by decide +kernel
theorem dX4_isIn_7 : decode cX4_isIn 7 = .ok (.if_icmp .gt 7, 3) := by decide +kernel
theorem dX4_isIn_10 : decode cX4_isIn 10 = .ok (.iconst 1, 1) := by decide +kernel
theorem dX4_isIn_11 : decode cX4_isIn 11 = .ok (.goto 4, 3) := by decide +kernel
theorem dX4_isIn_14 : decode cX4_isIn 14 = .ok (.iconst 0, 1) := by decide +kernel
theorem dX4_isIn_15 : decode cX4_isIn 15 = .ok (.ireturn, 1) := by decide +kernel
theorem dX4_isStar_0 : decode cX4_isStar 0 = .ok (.iload_n 1, 1) := by decide +kernel
theorem dX4_isStar_1 : decode cX4_isStar 1 = .ok (.iconst 0, 1) := by decide +kernel
theorem dX4_isStar_2 : decode cX4_isStar 2 = .ok (.aload_n 0, 1) := by decide +kernel
theorem dX4_isStar_3 : decode cX4_isStar 3 = .ok (.getfield 101, 3) := by decide +kernel
theorem dX4_isStar_6 : decode cX4_isStar 6 = .ok (.iconst 1, 1) := by decide +kernel
theorem dX4_isStar_7 : decode cX4_isStar 7 = .ok (.isub, 1) := by decide +kernel
theorem dX4_isStar_8 : decode cX4_isStar 8 = .ok (.invokestatic 104, 3) := by decide +kernel
theorem dX4_isStar_11 : decode cX4_isStar 11 = .ok (.ireturn, 1) := by decide +kernel
theorem dX4_isFilter_0 : decode cX4_isFilter 0 = .ok (.iload_n 0, 1) := by decide +kernel
theorem dX4_isFilter_1 : decode cX4_isFilter 1 = .ok (.iconst 0, 1) := by decide +kernel
theorem dX4_isFilter_2 : decode cX4_isFilter 2 = .ok (.iconst 2, 1) := by decide +kernel
theorem dX4_isFilter_3 : decode cX4_isFilter 3 = .ok (.invokestatic 104, 3) := by decide +kernel
theorem dX4_isFilter_6 : decode cX4_isFilter 6 = .ok (.ireturn, 1) := by decide +kernel
theorem dX4_isTime_0 : decode cX4_isTime 0 = .ok (.iload_n 0, 1) := by decide +kernel
theorem dX4_isTime_1 : decode cX4_isTime 1 = .ok (.iconst 0, 1) := by decide +kernel
theorem dX4_isTime_2 : decode cX4_isTime 2 = .ok (.sipush 255, 3) := by decide +kernel
theorem dX4_isTime_5 : decode cX4_isTime 5 = .ok (.invokestatic 104, 3) := by decide +kernel
theorem dX4_isTime_8 : decode cX4_isTime 8 = .ok (.ireturn, 1) := by decide +kernel
theorem dX4_isClaim_0 : decode cX4_isClaim 0 = .ok (.iload_n 1, 1) := by decide +kernel
theorem dX4_isClaim_1 : decode cX4_isClaim 1 = .ok (.iconst 0, 1) := by decide +kernel
theorem dX4_isClaim_2 : decode cX4_isClaim 2 = .ok (.aload_n 0, 1) := by decide +kernel
theorem dX4_isClaim_3 : decode cX4_isClaim 3 = .ok (.getfield 108, 3) := by decide +kernel
theorem dX4_isClaim_6 : decode cX4_isClaim 6 = .ok (.iconst 1, 1) := by decide +kernel
theorem dX4_isClaim_7 : decode cX4_isClaim 7 = .ok (.isub, 1) := by decide +kernel
theorem dX4_isClaim_8 : decode cX4_isClaim 8 = .ok (.invokestatic 104, 3) := by decide +kernel
theorem dX4_isClaim_11 : decode cX4_isClaim 11 = .ok (.ireturn, 1) := by decide +kernel
theorem dX4_size_0 : decode cX4_size 0 = .ok (.lload_n 0, 1) := by decide +kernel
theorem dX4_size_1 : decode cX4_size 1 = .ok (.lconst 0, 1) := by decide +kernel
theorem dX4_size_2 : decode cX4_size 2 = .ok (.lcmp, 1) := by decide +kernel
theorem dX4_size_3 : decode cX4_size 3 = .ok (.ifCond .ge 8, 3) := by decide +kernel
theorem dX4_size_6 : decode cX4_size 6 = .ok (.lload_n 0, 1) := by decide +kernel
theorem dX4_size_7 : decode cX4_size 7 = .ok (.lneg, 1) := by decide +kernel
theorem dX4_size_8 : decode cX4_size 8 = .ok (.goto 4, 3) := by decide +kernel
theorem dX4_size_11 : decode cX4_size 11 = .ok (.lload_n 0, 1) := by decide +kernel
theorem dX4_size_12 : decode cX4_size 12 = .ok (.lreturn, 1) := by decide +kernel
theorem dX4_down_0 : decode cX4_down 0 = .ok (.lload_n 0, 1) := by decide +kernel
theorem dX4_down_1 : decode cX4_down 1 = .ok (.lconst 0, 1) := by decide +kernel
theorem dX4_down_2 : decode cX4_down 2 = .ok (.lcmp, 1) := by decide +kernel
theorem dX4_down_3 : decode cX4_down 3 = .ok (.ifCond .lt 9, 3) := by decide +kernel
theorem dX4_down_6 : decode cX4_down 6 = .ok (.lload_n 0, 1) := by decide +kernel
theorem dX4_down_7 : decode cX4_down 7 = .ok (.lload_n 2, 1) := by decide +kernel
theorem dX4_down_8 : decode cX4_down 8 = .ok (.ldiv, 1) := by decide +kernel
theorem dX4_down_9 : decode cX4_down 9 = .ok (.goto 12, 3) := by decide +kernel
theorem dX4_down_12 : decode cX4_down 12 = .ok (.lload_n 0, 1) := by decide +kernel
theorem dX4_down_13 : decode cX4_down 13 = .ok (.lneg, 1) := by decide +kernel
theorem dX4_down_14 : decode cX4_down 14 = .ok (.lload_n 2, 1) := by decide +kernel
theorem dX4_down_15 : decode cX4_down 15 = .ok (.ladd, 1) := by decide +kernel
theorem dX4_down_16 : decode cX4_down 16 = .ok (.lconst 1, 1) := by decide +kernel
theorem dX4_down_17 : decode cX4_down 17 = .ok (.lsub, 1) := by decide +kernel
theorem dX4_down_18 : decode cX4_down 18 = .ok (.lload_n 2, 1) := by decide +kernel
theorem dX4_down_19 : decode cX4_down 19 = .ok (.ldiv, 1) := by decide +kernel
theorem dX4_down_20 : decode cX4_down 20 = .ok (.lneg, 1) := by decide +kernel
theorem dX4_down_21 : decode cX4_down 21 = .ok (.lreturn, 1) := by decide +kernel
theorem dX4_shell_0 : decode cX4_shell 0 = .ok (.iload_n 1, 1) := by decide +kernel
theorem dX4_shell_1 : decode cX4_shell 1 = .ok (.iconst 1, 1) := by decide +kernel
theorem dX4_shell_2 : decode cX4_shell 2 = .ok (.bipush 99, 2) := by decide +kernel
theorem dX4_shell_4 : decode cX4_shell 4 = .ok (.invokestatic 104, 3) := by decide +kernel
theorem dX4_shell_7 : decode cX4_shell 7 = .ok (.ifCond .eq 27, 3) := by decide +kernel
theorem dX4_shell_10 : decode cX4_shell 10 = .ok (.iload_n 2, 1) := by decide +kernel
theorem dX4_shell_11 : decode cX4_shell 11 = .ok (.iconst 1, 1) := by decide +kernel
theorem dX4_shell_12 : decode cX4_shell 12 = .ok (.bipush 99, 2) := by decide +kernel
theorem dX4_shell_14 : decode cX4_shell 14 = .ok (.invokestatic 104, 3) := by decide +kernel
theorem dX4_shell_17 : decode cX4_shell 17 = .ok (.ifCond .eq 17, 3) := by decide +kernel
theorem dX4_shell_20 : decode cX4_shell 20 = .ok (.iload_n 3, 1) := by decide +kernel
theorem dX4_shell_21 : decode cX4_shell 21 = .ok (.iconst 0, 1) := by decide +kernel
theorem dX4_shell_22 : decode cX4_shell 22 = .ok (.bipush 9, 2) := by decide +kernel
theorem dX4_shell_24 : decode cX4_shell 24 = .ok (.invokestatic 104, 3) := by decide +kernel
theorem dX4_shell_27 : decode cX4_shell 27 = .ok (.ifCond .eq 7, 3) := by decide +kernel
theorem dX4_shell_30 : decode cX4_shell 30 = .ok (.iconst 1, 1) := by decide +kernel
theorem dX4_shell_31 : decode cX4_shell 31 = .ok (.goto 4, 3) := by decide +kernel
theorem dX4_shell_34 : decode cX4_shell 34 = .ok (.iconst 0, 1) := by decide +kernel
theorem dX4_shell_35 : decode cX4_shell 35 = .ok (.istore 4, 2) := by decide +kernel
theorem dX4_shell_37 : decode cX4_shell 37 = .ok (.aload_n 0, 1) := by decide +kernel
theorem dX4_shell_38 : decode cX4_shell 38 = .ok (.iload 4, 2) := by decide +kernel
theorem dX4_shell_40 : decode cX4_shell 40 = .ok (.ifCond .ne 7, 3) := by decide +kernel
theorem dX4_shell_43 : decode cX4_shell 43 = .ok (.iconst 1, 1) := by decide +kernel
theorem dX4_shell_44 : decode cX4_shell 44 = .ok (.goto 17, 3) := by decide +kernel
theorem dX4_shell_47 : decode cX4_shell 47 = .ok (.aload_n 0, 1) := by decide +kernel
theorem dX4_shell_48 : decode cX4_shell 48 = .ok (.getfield 111, 3) := by decide +kernel
theorem dX4_shell_51 : decode cX4_shell 51 = .ok (.bipush 8, 2) := by decide +kernel
theorem dX4_shell_53 : decode cX4_shell 53 = .ok (.if_icmp .ne 7, 3) := by decide +kernel
theorem dX4_shell_56 : decode cX4_shell 56 = .ok (.iconst 2, 1) := by decide +kernel
theorem dX4_shell_57 : decode cX4_shell 57 = .ok (.goto 4, 3) := by decide +kernel
theorem dX4_shell_60 : decode cX4_shell 60 = .ok (.iconst 0, 1) := by decide +kernel
theorem dX4_shell_61 : decode cX4_shell 61 = .ok (.invokevirtual 114, 3) := by decide +kernel
theorem dX4_shell_64 : decode cX4_shell 64 = .ok (.ifCond .ne 5, 3) := by decide +kernel
theorem dX4_shell_67 : decode cX4_shell 67 = .ok (.iconst 0, 1) := by decide +kernel
theorem dX4_shell_68 : decode cX4_shell 68 = .ok (.ireturn, 1) := by decide +kernel
theorem dX4_shell_69 : decode cX4_shell 69 = .ok (.aload_n 0, 1) := by decide +kernel
theorem dX4_shell_70 : decode cX4_shell 70 = .ok (.getfield 7, 3) := by decide +kernel
theorem dX4_shell_73 : decode cX4_shell 73 = .ok (.aload_n 0, 1) := by decide +kernel
theorem dX4_shell_74 : decode cX4_shell 74 = .ok (.getfield 111, 3) := by decide +kernel
theorem dX4_shell_77 : decode cX4_shell 77 = .ok (.iload_n 1, 1) := by decide +kernel
theorem dX4_shell_78 : decode cX4_shell 78 = .ok (.iastore, 1) := by decide +kernel
theorem dX4_shell_79 : decode cX4_shell 79 = .ok (.aload_n 0, 1) := by decide +kernel
theorem dX4_shell_80 : decode cX4_shell 80 = .ok (.getfield 13, 3) := by decide +kernel
theorem dX4_shell_83 : decode cX4_shell 83 = .ok (.aload_n 0, 1) := by decide +kernel
theorem dX4_shell_84 : decode cX4_shell 84 = .ok (.getfield 111, 3) := by decide +kernel
theorem dX4_shell_87 : decode cX4_shell 87 = .ok (.iload_n 2, 1) := by decide +kernel
theorem dX4_shell_88 : decode cX4_shell 88 = .ok (.iastore, 1) := by decide +kernel
theorem dX4_shell_89 : decode cX4_shell 89 = .ok (.aload_n 0, 1) := by decide +kernel
theorem dX4_shell_90 : decode cX4_shell 90 = .ok (.getfield 16, 3) := by decide +kernel
theorem dX4_shell_93 : decode cX4_shell 93 = .ok (.aload_n 0, 1) := by decide +kernel
theorem dX4_shell_94 : decode cX4_shell 94 = .ok (.getfield 111, 3) := by decide +kernel
theorem dX4_shell_97 : decode cX4_shell 97 = .ok (.iload_n 3, 1) := by decide +kernel
theorem dX4_shell_98 : decode cX4_shell 98 = .ok (.iastore, 1) := by decide +kernel
theorem dX4_shell_99 : decode cX4_shell 99 = .ok (.aload_n 0, 1) := by decide +kernel
theorem dX4_shell_100 : decode cX4_shell 100 = .ok (.dup, 1) := by decide +kernel
theorem dX4_shell_101 : decode cX4_shell 101 = .ok (.getfield 111, 3) := by decide +kernel
theorem dX4_shell_104 : decode cX4_shell 104 = .ok (.iconst 1, 1) := by decide +kernel
theorem dX4_shell_105 : decode cX4_shell 105 = .ok (.iadd, 1) := by decide +kernel
theorem dX4_shell_106 : decode cX4_shell 106 = .ok (.putfield 111, 3) := by decide +kernel
theorem dX4_shell_109 : decode cX4_shell 109 = .ok (.aload_n 0, 1) := by decide +kernel
theorem dX4_shell_110 : decode cX4_shell 110 = .ok (.getfield 111, 3) := by decide +kernel
theorem dX4_shell_113 : decode cX4_shell 113 = .ok (.ireturn, 1) := by decide +kernel
theorem dX4_star_0 : decode cX4_star 0 = .ok (.aload_n 0, 1) := by decide +kernel
theorem dX4_star_1 : decode cX4_star 1 = .ok (.iload_n 1, 1) := by decide +kernel
theorem dX4_star_2 : decode cX4_star 2 = .ok (.iconst 0, 1) := by decide +kernel
theorem dX4_star_3 : decode cX4_star 3 = .ok (.bipush 99, 2) := by decide +kernel
theorem dX4_star_5 : decode cX4_star 5 = .ok (.invokestatic 104, 3) := by decide +kernel
theorem dX4_star_8 : decode cX4_star 8 = .ok (.ifCond .ne 7, 3) := by decide +kernel
theorem dX4_star_11 : decode cX4_star 11 = .ok (.iconst 1, 1) := by decide +kernel
theorem dX4_star_12 : decode cX4_star 12 = .ok (.goto 24, 3) := by decide +kernel
theorem dX4_star_15 : decode cX4_star 15 = .ok (.aload_n 0, 1) := by decide +kernel
theorem dX4_star_16 : decode cX4_star 16 = .ok (.getfield 111, 3) := by decide +kernel
theorem dX4_star_19 : decode cX4_star 19 = .ok (.ifCond .eq 12, 3) := by decide +kernel
theorem dX4_star_22 : decode cX4_star 22 = .ok (.aload_n 0, 1) := by decide +kernel
theorem dX4_star_23 : decode cX4_star 23 = .ok (.getfield 101, 3) := by decide +kernel
theorem dX4_star_26 : decode cX4_star 26 = .ok (.bipush 6, 2) := by decide +kernel
theorem dX4_star_28 : decode cX4_star 28 = .ok (.if_icmp .ne 7, 3) := by decide +kernel
theorem dX4_star_31 : decode cX4_star 31 = .ok (.iconst 2, 1) := by decide +kernel
theorem dX4_star_32 : decode cX4_star 32 = .ok (.goto 4, 3) := by decide +kernel
theorem dX4_star_35 : decode cX4_star 35 = .ok (.iconst 0, 1) := by decide +kernel
theorem dX4_star_36 : decode cX4_star 36 = .ok (.invokevirtual 114, 3) := by decide +kernel
theorem dX4_star_39 : decode cX4_star 39 = .ok (.ifCond .ne 5, 3) := by decide +kernel
theorem dX4_star_42 : decode cX4_star 42 = .ok (.iconst 0, 1) := by decide +kernel
theorem dX4_star_43 : decode cX4_star 43 = .ok (.ireturn, 1) := by decide +kernel
theorem dX4_star_44 : decode cX4_star 44 = .ok (.iconst 0, 1) := by decide +kernel
theorem dX4_star_45 : decode cX4_star 45 = .ok (.istore_n 2, 1) := by decide +kernel
theorem dX4_star_46 : decode cX4_star 46 = .ok (.iconst 0, 1) := by decide +kernel
theorem dX4_star_47 : decode cX4_star 47 = .ok (.istore_n 3, 1) := by decide +kernel
theorem dX4_star_48 : decode cX4_star 48 = .ok (.iconst 0, 1) := by decide +kernel
theorem dX4_star_49 : decode cX4_star 49 = .ok (.istore 4, 2) := by decide +kernel
theorem dX4_star_51 : decode cX4_star 51 = .ok (.iconst 0, 1) := by decide +kernel
theorem dX4_star_52 : decode cX4_star 52 = .ok (.istore 5, 2) := by decide +kernel
theorem dX4_star_54 : decode cX4_star 54 = .ok (.iconst 0, 1) := by decide +kernel
theorem dX4_star_55 : decode cX4_star 55 = .ok (.istore 6, 2) := by decide +kernel
theorem dX4_star_57 : decode cX4_star 57 = .ok (.iload 6, 2) := by decide +kernel
theorem dX4_star_59 : decode cX4_star 59 = .ok (.aload_n 0, 1) := by decide +kernel
theorem dX4_star_60 : decode cX4_star 60 = .ok (.getfield 111, 3) := by decide +kernel
theorem dX4_star_63 : decode cX4_star 63 = .ok (.if_icmp .ge 117, 3) := by decide +kernel
theorem dX4_star_66 : decode cX4_star 66 = .ok (.iload_n 2, 1) := by decide +kernel
theorem dX4_star_67 : decode cX4_star 67 = .ok (.sipush 1000, 3) := by decide +kernel
theorem dX4_star_70 : decode cX4_star 70 = .ok (.aload_n 0, 1) := by decide +kernel
theorem dX4_star_71 : decode cX4_star 71 = .ok (.getfield 7, 3) := by decide +kernel
theorem dX4_star_74 : decode cX4_star 74 = .ok (.iload 6, 2) := by decide +kernel
theorem dX4_star_76 : decode cX4_star 76 = .ok (.iaload, 1) := by decide +kernel
theorem dX4_star_77 : decode cX4_star 77 = .ok (.imul, 1) := by decide +kernel
theorem dX4_star_78 : decode cX4_star 78 = .ok (.aload_n 0, 1) := by decide +kernel
theorem dX4_star_79 : decode cX4_star 79 = .ok (.getfield 13, 3) := by decide +kernel
theorem dX4_star_82 : decode cX4_star 82 = .ok (.iload 6, 2) := by decide +kernel
theorem dX4_star_84 : decode cX4_star 84 = .ok (.iaload, 1) := by decide +kernel
theorem dX4_star_85 : decode cX4_star 85 = .ok (.idiv, 1) := by decide +kernel
theorem dX4_star_86 : decode cX4_star 86 = .ok (.iadd, 1) := by decide +kernel
theorem dX4_star_87 : decode cX4_star 87 = .ok (.istore_n 2, 1) := by decide +kernel
theorem dX4_star_88 : decode cX4_star 88 = .ok (.iload_n 3, 1) := by decide +kernel
theorem dX4_star_89 : decode cX4_star 89 = .ok (.iload 6, 2) := by decide +kernel
theorem dX4_star_91 : decode cX4_star 91 = .ok (.iconst 1, 1) := by decide +kernel
theorem dX4_star_92 : decode cX4_star 92 = .ok (.iadd, 1) := by decide +kernel
theorem dX4_star_93 : decode cX4_star 93 = .ok (.aload_n 0, 1) := by decide +kernel
theorem dX4_star_94 : decode cX4_star 94 = .ok (.getfield 111, 3) := by decide +kernel
theorem dX4_star_97 : decode cX4_star 97 = .ok (.if_icmp .ge 42, 3) := by decide +kernel
theorem dX4_star_100 : decode cX4_star 100 = .ok (.aload_n 0, 1) := by decide +kernel
theorem dX4_star_101 : decode cX4_star 101 = .ok (.getfield 13, 3) := by decide +kernel
theorem dX4_star_104 : decode cX4_star 104 = .ok (.iload 6, 2) := by decide +kernel
theorem dX4_star_106 : decode cX4_star 106 = .ok (.iaload, 1) := by decide +kernel
theorem dX4_star_107 : decode cX4_star 107 = .ok (.aload_n 0, 1) := by decide +kernel
theorem dX4_star_108 : decode cX4_star 108 = .ok (.getfield 13, 3) := by decide +kernel
theorem dX4_star_111 : decode cX4_star 111 = .ok (.iload 6, 2) := by decide +kernel
theorem dX4_star_113 : decode cX4_star 113 = .ok (.iconst 1, 1) := by decide +kernel
theorem dX4_star_114 : decode cX4_star 114 = .ok (.iadd, 1) := by decide +kernel
theorem dX4_star_115 : decode cX4_star 115 = .ok (.iaload, 1) := by decide +kernel
theorem dX4_star_116 : decode cX4_star 116 = .ok (.if_icmp .le 23, 3) := by decide +kernel
theorem dX4_star_119 : decode cX4_star 119 = .ok (.aload_n 0, 1) := by decide +kernel
theorem dX4_star_120 : decode cX4_star 120 = .ok (.getfield 13, 3) := by decide +kernel
theorem dX4_star_123 : decode cX4_star 123 = .ok (.iload 6, 2) := by decide +kernel
theorem dX4_star_125 : decode cX4_star 125 = .ok (.iaload, 1) := by decide +kernel
theorem dX4_star_126 : decode cX4_star 126 = .ok (.aload_n 0, 1) := by decide +kernel
theorem dX4_star_127 : decode cX4_star 127 = .ok (.getfield 13, 3) := by decide +kernel
theorem dX4_star_130 : decode cX4_star 130 = .ok (.iload 6, 2) := by decide +kernel
theorem dX4_star_132 : decode cX4_star 132 = .ok (.iconst 1, 1) := by decide +kernel
theorem dX4_star_133 : decode cX4_star 133 = .ok (.iadd, 1) := by decide +kernel
theorem dX4_star_134 : decode cX4_star 134 = .ok (.iaload, 1) := by decide +kernel
theorem dX4_star_135 : decode cX4_star 135 = .ok (.isub, 1) := by decide +kernel
theorem dX4_star_136 : decode cX4_star 136 = .ok (.goto 4, 3) := by decide +kernel
theorem dX4_star_139 : decode cX4_star 139 = .ok (.iconst 0, 1) := by decide +kernel
theorem dX4_star_140 : decode cX4_star 140 = .ok (.iadd, 1) := by decide +kernel
theorem dX4_star_141 : decode cX4_star 141 = .ok (.istore_n 3, 1) := by decide +kernel
theorem dX4_star_142 : decode cX4_star 142 = .ok (.iload 4, 2) := by decide +kernel
theorem dX4_star_144 : decode cX4_star 144 = .ok (.aload_n 0, 1) := by decide +kernel
theorem dX4_star_145 : decode cX4_star 145 = .ok (.getfield 7, 3) := by decide +kernel
theorem dX4_star_148 : decode cX4_star 148 = .ok (.iload 6, 2) := by decide +kernel
theorem dX4_star_150 : decode cX4_star 150 = .ok (.iaload, 1) := by decide +kernel
theorem dX4_star_151 : decode cX4_star 151 = .ok (.iadd, 1) := by decide +kernel
theorem dX4_star_152 : decode cX4_star 152 = .ok (.istore 4, 2) := by decide +kernel
theorem dX4_star_154 : decode cX4_star 154 = .ok (.iload 5, 2) := by decide +kernel
theorem dX4_star_156 : decode cX4_star 156 = .ok (.aload_n 0, 1) := by decide +kernel
theorem dX4_star_157 : decode cX4_star 157 = .ok (.getfield 7, 3) := by decide +kernel
theorem dX4_star_160 : decode cX4_star 160 = .ok (.iload 6, 2) := by decide +kernel
theorem dX4_star_162 : decode cX4_star 162 = .ok (.iaload, 1) := by decide +kernel
theorem dX4_star_163 : decode cX4_star 163 = .ok (.aload_n 0, 1) := by decide +kernel
theorem dX4_star_164 : decode cX4_star 164 = .ok (.getfield 16, 3) := by decide +kernel
theorem dX4_star_167 : decode cX4_star 167 = .ok (.iload 6, 2) := by decide +kernel
theorem dX4_star_169 : decode cX4_star 169 = .ok (.iaload, 1) := by decide +kernel
theorem dX4_star_170 : decode cX4_star 170 = .ok (.imul, 1) := by decide +kernel
theorem dX4_star_171 : decode cX4_star 171 = .ok (.iadd, 1) := by decide +kernel
theorem dX4_star_172 : decode cX4_star 172 = .ok (.istore 5, 2) := by decide +kernel
theorem dX4_star_174 : decode cX4_star 174 = .ok (.iinc 6 1, 3) := by decide +kernel
theorem dX4_star_177 : decode cX4_star 177 = .ok (.goto (-120), 3) := by decide +kernel
theorem dX4_star_180 : decode cX4_star 180 = .ok (.aload_n 0, 1) := by decide +kernel
theorem dX4_star_181 : decode cX4_star 181 = .ok (.getfield 19, 3) := by decide +kernel
theorem dX4_star_184 : decode cX4_star 184 = .ok (.aload_n 0, 1) := by decide +kernel
theorem dX4_star_185 : decode cX4_star 185 = .ok (.getfield 101, 3) := by decide +kernel
theorem dX4_star_188 : decode cX4_star 188 = .ok (.iload_n 1, 1) := by decide +kernel
theorem dX4_star_189 : decode cX4_star 189 = .ok (.iastore, 1) := by decide +kernel
theorem dX4_star_190 : decode cX4_star 190 = .ok (.aload_n 0, 1) := by decide +kernel
theorem dX4_star_191 : decode cX4_star 191 = .ok (.getfield 22, 3) := by decide +kernel
theorem dX4_star_194 : decode cX4_star 194 = .ok (.aload_n 0, 1) := by decide +kernel
theorem dX4_star_195 : decode cX4_star 195 = .ok (.getfield 101, 3) := by decide +kernel
theorem dX4_star_198 : decode cX4_star 198 = .ok (.iload_n 2, 1) := by decide +kernel
theorem dX4_star_199 : decode cX4_star 199 = .ok (.iastore, 1) := by decide +kernel
theorem dX4_star_200 : decode cX4_star 200 = .ok (.aload_n 0, 1) := by decide +kernel
theorem dX4_star_201 : decode cX4_star 201 = .ok (.getfield 25, 3) := by decide +kernel
theorem dX4_star_204 : decode cX4_star 204 = .ok (.aload_n 0, 1) := by decide +kernel
theorem dX4_star_205 : decode cX4_star 205 = .ok (.getfield 101, 3) := by decide +kernel
theorem dX4_star_208 : decode cX4_star 208 = .ok (.ldc 118, 2) := by decide +kernel
theorem dX4_star_210 : decode cX4_star 210 = .ok (.iload_n 2, 1) := by decide +kernel
theorem dX4_star_211 : decode cX4_star 211 = .ok (.idiv, 1) := by decide +kernel
theorem dX4_star_212 : decode cX4_star 212 = .ok (.iastore, 1) := by decide +kernel
theorem dX4_star_213 : decode cX4_star 213 = .ok (.aload_n 0, 1) := by decide +kernel
theorem dX4_star_214 : decode cX4_star 214 = .ok (.getfield 28, 3) := by decide +kernel
theorem dX4_star_217 : decode cX4_star 217 = .ok (.aload_n 0, 1) := by decide +kernel
theorem dX4_star_218 : decode cX4_star 218 = .ok (.getfield 101, 3) := by decide +kernel
theorem dX4_star_221 : decode cX4_star 221 = .ok (.iload_n 3, 1) := by decide +kernel
theorem dX4_star_222 : decode cX4_star 222 = .ok (.iastore, 1) := by decide +kernel
theorem dX4_star_223 : decode cX4_star 223 = .ok (.aload_n 0, 1) := by decide +kernel
theorem dX4_star_224 : decode cX4_star 224 = .ok (.getfield 31, 3) := by decide +kernel
theorem dX4_star_227 : decode cX4_star 227 = .ok (.aload_n 0, 1) := by decide +kernel
theorem dX4_star_228 : decode cX4_star 228 = .ok (.getfield 101, 3) := by decide +kernel
theorem dX4_star_231 : decode cX4_star 231 = .ok (.iload 5, 2) := by decide +kernel
theorem dX4_star_233 : decode cX4_star 233 = .ok (.iload 4, 2) := by decide +kernel
theorem dX4_star_235 : decode cX4_star 235 = .ok (.idiv, 1) := by decide +kernel
theorem dX4_star_236 : decode cX4_star 236 = .ok (.iastore, 1) := by decide +kernel
theorem dX4_star_237 : decode cX4_star 237 = .ok (.aload_n 0, 1) := by decide +kernel
theorem dX4_star_238 : decode cX4_star 238 = .ok (.getfield 34, 3) := by decide +kernel
theorem dX4_star_241 : decode cX4_star 241 = .ok (.aload_n 0, 1) := by decide +kernel
theorem dX4_star_242 : decode cX4_star 242 = .ok (.getfield 101, 3) := by decide +kernel
theorem dX4_star_245 : decode cX4_star 245 = .ok (.iconst 3, 1) := by decide +kernel
theorem dX4_star_246 : decode cX4_star 246 = .ok (.aload_n 0, 1) := by decide +kernel
theorem dX4_star_247 : decode cX4_star 247 = .ok (.getfield 25, 3) := by decide +kernel
theorem dX4_star_250 : decode cX4_star 250 = .ok (.aload_n 0, 1) := by decide +kernel
theorem dX4_star_251 : decode cX4_star 251 = .ok (.getfield 101, 3) := by decide +kernel
theorem dX4_star_254 : decode cX4_star 254 = .ok (.iaload, 1) := by decide +kernel
theorem dX4_star_255 : decode cX4_star 255 = .ok (.imul, 1) := by decide +kernel
theorem dX4_star_256 : decode cX4_star 256 = .ok (.bipush 100, 2) := by decide +kernel
theorem dX4_star_258 : decode cX4_star 258 = .ok (.aload_n 0, 1) := by decide +kernel
theorem dX4_star_259 : decode cX4_star 259 = .ok (.getfield 13, 3) := by decide +kernel
theorem dX4_star_262 : decode cX4_star 262 = .ok (.iconst 0, 1) := by decide +kernel
theorem dX4_star_263 : decode cX4_star 263 = .ok (.iaload, 1) := by decide +kernel
theorem dX4_star_264 : decode cX4_star 264 = .ok (.imul, 1) := by decide +kernel
theorem dX4_star_265 : decode cX4_star 265 = .ok (.iadd, 1) := by decide +kernel
theorem dX4_star_266 : decode cX4_star 266 = .ok (.iastore, 1) := by decide +kernel
theorem dX4_star_267 : decode cX4_star 267 = .ok (.aload_n 0, 1) := by decide +kernel
theorem dX4_star_268 : decode cX4_star 268 = .ok (.iconst 0, 1) := by decide +kernel
theorem dX4_star_269 : decode cX4_star 269 = .ok (.putfield 111, 3) := by decide +kernel
theorem dX4_star_272 : decode cX4_star 272 = .ok (.aload_n 0, 1) := by decide +kernel
theorem dX4_star_273 : decode cX4_star 273 = .ok (.dup, 1) := by decide +kernel
theorem dX4_star_274 : decode cX4_star 274 = .ok (.getfield 101, 3) := by decide +kernel
theorem dX4_star_277 : decode cX4_star 277 = .ok (.iconst 1, 1) := by decide +kernel
theorem dX4_star_278 : decode cX4_star 278 = .ok (.iadd, 1) := by decide +kernel
theorem dX4_star_279 : decode cX4_star 279 = .ok (.putfield 101, 3) := by decide +kernel
theorem dX4_star_282 : decode cX4_star 282 = .ok (.aload_n 0, 1) := by decide +kernel
theorem dX4_star_283 : decode cX4_star 283 = .ok (.getfield 101, 3) := by decide +kernel
theorem dX4_star_286 : decode cX4_star 286 = .ok (.iconst 1, 1) := by decide +kernel
theorem dX4_star_287 : decode cX4_star 287 = .ok (.isub, 1) := by decide +kernel
theorem dX4_star_288 : decode cX4_star 288 = .ok (.ireturn, 1) := by decide +kernel
theorem dX4_toneOf_0 : decode cX4_toneOf 0 = .ok (.aload_n 0, 1) := by decide +kernel
theorem dX4_toneOf_1 : decode cX4_toneOf 1 = .ok (.getfield 25, 3) := by decide +kernel
theorem dX4_toneOf_4 : decode cX4_toneOf 4 = .ok (.iload_n 1, 1) := by decide +kernel
theorem dX4_toneOf_5 : decode cX4_toneOf 5 = .ok (.iaload, 1) := by decide +kernel
theorem dX4_toneOf_6 : decode cX4_toneOf 6 = .ok (.iconst 2, 1) := by decide +kernel
theorem dX4_toneOf_7 : decode cX4_toneOf 7 = .ok (.iload_n 2, 1) := by decide +kernel
theorem dX4_toneOf_8 : decode cX4_toneOf 8 = .ok (.imul, 1) := by decide +kernel
theorem dX4_toneOf_9 : decode cX4_toneOf 9 = .ok (.iload_n 3, 1) := by decide +kernel
theorem dX4_toneOf_10 : decode cX4_toneOf 10 = .ok (.iadd, 1) := by decide +kernel
theorem dX4_toneOf_11 : decode cX4_toneOf 11 = .ok (.iconst 3, 1) := by decide +kernel
theorem dX4_toneOf_12 : decode cX4_toneOf 12 = .ok (.iadd, 1) := by decide +kernel
theorem dX4_toneOf_13 : decode cX4_toneOf 13 = .ok (.imul, 1) := by decide +kernel
theorem dX4_toneOf_14 : decode cX4_toneOf 14 = .ok (.iconst 2, 1) := by decide +kernel
theorem dX4_toneOf_15 : decode cX4_toneOf 15 = .ok (.idiv, 1) := by decide +kernel
theorem dX4_toneOf_16 : decode cX4_toneOf 16 = .ok (.aload_n 0, 1) := by decide +kernel
theorem dX4_toneOf_17 : decode cX4_toneOf 17 = .ok (.getfield 28, 3) := by decide +kernel
theorem dX4_toneOf_20 : decode cX4_toneOf 20 = .ok (.iload_n 1, 1) := by decide +kernel
theorem dX4_toneOf_21 : decode cX4_toneOf 21 = .ok (.iaload, 1) := by decide +kernel
theorem dX4_toneOf_22 : decode cX4_toneOf 22 = .ok (.iload_n 3, 1) := by decide +kernel
theorem dX4_toneOf_23 : decode cX4_toneOf 23 = .ok (.imul, 1) := by decide +kernel
theorem dX4_toneOf_24 : decode cX4_toneOf 24 = .ok (.iload_n 3, 1) := by decide +kernel
theorem dX4_toneOf_25 : decode cX4_toneOf 25 = .ok (.iconst 1, 1) := by decide +kernel
theorem dX4_toneOf_26 : decode cX4_toneOf 26 = .ok (.iadd, 1) := by decide +kernel
theorem dX4_toneOf_27 : decode cX4_toneOf 27 = .ok (.imul, 1) := by decide +kernel
theorem dX4_toneOf_28 : decode cX4_toneOf 28 = .ok (.isub, 1) := by decide +kernel
theorem dX4_toneOf_29 : decode cX4_toneOf 29 = .ok (.istore 5, 2) := by decide +kernel
theorem dX4_toneOf_31 : decode cX4_toneOf 31 = .ok (.iload 5, 2) := by decide +kernel
theorem dX4_toneOf_33 : decode cX4_toneOf 33 = .ok (.aload_n 0, 1) := by decide +kernel
theorem dX4_toneOf_34 : decode cX4_toneOf 34 = .ok (.getfield 34, 3) := by decide +kernel
theorem dX4_toneOf_37 : decode cX4_toneOf 37 = .ok (.iload_n 1, 1) := by decide +kernel
theorem dX4_toneOf_38 : decode cX4_toneOf 38 = .ok (.iaload, 1) := by decide +kernel
theorem dX4_toneOf_39 : decode cX4_toneOf 39 = .ok (.isub, 1) := by decide +kernel
theorem dX4_toneOf_40 : decode cX4_toneOf 40 = .ok (.istore 6, 2) := by decide +kernel
theorem dX4_toneOf_42 : decode cX4_toneOf 42 = .ok (.sipush 500, 3) := by decide +kernel
theorem dX4_toneOf_45 : decode cX4_toneOf 45 = .ok (.iload 6, 2) := by decide +kernel
theorem dX4_toneOf_47 : decode cX4_toneOf 47 = .ok (.ifCond .ge 9, 3) := by decide +kernel
theorem dX4_toneOf_50 : decode cX4_toneOf 50 = .ok (.iload 6, 2) := by decide +kernel
theorem dX4_toneOf_52 : decode cX4_toneOf 52 = .ok (.ineg, 1) := by decide +kernel
theorem dX4_toneOf_53 : decode cX4_toneOf 53 = .ok (.goto 5, 3) := by decide +kernel
theorem dX4_toneOf_56 : decode cX4_toneOf 56 = .ok (.iload 6, 2) := by decide +kernel
theorem dX4_toneOf_58 : decode cX4_toneOf 58 = .ok (.isub, 1) := by decide +kernel
theorem dX4_toneOf_59 : decode cX4_toneOf 59 = .ok (.istore 7, 2) := by decide +kernel
theorem dX4_toneOf_61 : decode cX4_toneOf 61 = .ok (.iload_n 3, 1) := by decide +kernel
theorem dX4_toneOf_62 : decode cX4_toneOf 62 = .ok (.iconst 1, 1) := by decide +kernel
theorem dX4_toneOf_63 : decode cX4_toneOf 63 = .ok (.if_icmp .ne 30, 3) := by decide +kernel
theorem dX4_toneOf_66 : decode cX4_toneOf 66 = .ok (.iload 7, 2) := by decide +kernel
theorem dX4_toneOf_68 : decode cX4_toneOf 68 = .ok (.ifCond .le 25, 3) := by decide +kernel
theorem dX4_toneOf_71 : decode cX4_toneOf 71 = .ok (.iload 5, 2) := by decide +kernel
theorem dX4_toneOf_73 : decode cX4_toneOf 73 = .ok (.iload 6, 2) := by decide +kernel
theorem dX4_toneOf_75 : decode cX4_toneOf 75 = .ok (.ifCond .ge 11, 3) := by decide +kernel
theorem dX4_toneOf_78 : decode cX4_toneOf 78 = .ok (.iload 7, 2) := by decide +kernel
theorem dX4_toneOf_80 : decode cX4_toneOf 80 = .ok (.iconst 2, 1) := by decide +kernel
theorem dX4_toneOf_81 : decode cX4_toneOf 81 = .ok (.idiv, 1) := by decide +kernel
theorem dX4_toneOf_82 : decode cX4_toneOf 82 = .ok (.ineg, 1) := by decide +kernel
theorem dX4_toneOf_83 : decode cX4_toneOf 83 = .ok (.goto 7, 3) := by decide +kernel
theorem dX4_toneOf_86 : decode cX4_toneOf 86 = .ok (.iload 7, 2) := by decide +kernel
theorem dX4_toneOf_88 : decode cX4_toneOf 88 = .ok (.iconst 2, 1) := by decide +kernel
theorem dX4_toneOf_89 : decode cX4_toneOf 89 = .ok (.idiv, 1) := by decide +kernel
theorem dX4_toneOf_90 : decode cX4_toneOf 90 = .ok (.iadd, 1) := by decide +kernel
theorem dX4_toneOf_91 : decode cX4_toneOf 91 = .ok (.istore 5, 2) := by decide +kernel
theorem dX4_toneOf_93 : decode cX4_toneOf 93 = .ok (.iload 5, 2) := by decide +kernel
theorem dX4_toneOf_95 : decode cX4_toneOf 95 = .ok (.bipush 10, 2) := by decide +kernel
theorem dX4_toneOf_97 : decode cX4_toneOf 97 = .ok (.aload_n 0, 1) := by decide +kernel
theorem dX4_toneOf_98 : decode cX4_toneOf 98 = .ok (.getfield 31, 3) := by decide +kernel
theorem dX4_toneOf_101 : decode cX4_toneOf 101 = .ok (.iload_n 1, 1) := by decide +kernel
theorem dX4_toneOf_102 : decode cX4_toneOf 102 = .ok (.iaload, 1) := by decide +kernel
theorem dX4_toneOf_103 : decode cX4_toneOf 103 = .ok (.imul, 1) := by decide +kernel
theorem dX4_toneOf_104 : decode cX4_toneOf 104 = .ok (.iload 4, 2) := by decide +kernel
theorem dX4_toneOf_106 : decode cX4_toneOf 106 = .ok (.imul, 1) := by decide +kernel
theorem dX4_toneOf_107 : decode cX4_toneOf 107 = .ok (.iadd, 1) := by decide +kernel
theorem dX4_toneOf_108 : decode cX4_toneOf 108 = .ok (.ireturn, 1) := by decide +kernel
theorem dX4_ofStar_0 : decode cX4_ofStar 0 = .ok (.aload_n 0, 1) := by decide +kernel
theorem dX4_ofStar_1 : decode cX4_ofStar 1 = .ok (.aload_n 0, 1) := by decide +kernel
theorem dX4_ofStar_2 : decode cX4_ofStar 2 = .ok (.iload_n 1, 1) := by decide +kernel
theorem dX4_ofStar_3 : decode cX4_ofStar 3 = .ok (.invokevirtual 119, 3) := by decide +kernel
theorem dX4_ofStar_6 : decode cX4_ofStar 6 = .ok (.ifCond .ne 7, 3) := by decide +kernel
theorem dX4_ofStar_9 : decode cX4_ofStar 9 = .ok (.iconst 1, 1) := by decide +kernel
theorem dX4_ofStar_10 : decode cX4_ofStar 10 = .ok (.goto 17, 3) := by decide +kernel
theorem dX4_ofStar_13 : decode cX4_ofStar 13 = .ok (.iload_n 2, 1) := by decide +kernel
theorem dX4_ofStar_14 : decode cX4_ofStar 14 = .ok (.iconst 0, 1) := by decide +kernel
theorem dX4_ofStar_15 : decode cX4_ofStar 15 = .ok (.iconst 5, 1) := by decide +kernel
theorem dX4_ofStar_16 : decode cX4_ofStar 16 = .ok (.invokestatic 104, 3) := by decide +kernel
theorem dX4_ofStar_19 : decode cX4_ofStar 19 = .ok (.ifCond .eq 7, 3) := by decide +kernel
theorem dX4_ofStar_22 : decode cX4_ofStar 22 = .ok (.iconst 0, 1) := by decide +kernel
theorem dX4_ofStar_23 : decode cX4_ofStar 23 = .ok (.goto 4, 3) := by decide +kernel
theorem dX4_ofStar_26 : decode cX4_ofStar 26 = .ok (.iconst 2, 1) := by decide +kernel
theorem dX4_ofStar_27 : decode cX4_ofStar 27 = .ok (.invokevirtual 114, 3) := by decide +kernel
theorem dX4_ofStar_30 : decode cX4_ofStar 30 = .ok (.ifCond .ne 5, 3) := by decide +kernel
theorem dX4_ofStar_33 : decode cX4_ofStar 33 = .ok (.iconst 0, 1) := by decide +kernel
theorem dX4_ofStar_34 : decode cX4_ofStar 34 = .ok (.ireturn, 1) := by decide +kernel
theorem dX4_ofStar_35 : decode cX4_ofStar 35 = .ok (.iload_n 2, 1) := by decide +kernel
theorem dX4_ofStar_36 : decode cX4_ofStar 36 = .ok (.tableswitch 71 0 4 #[36, 43, 50, 57, 64], 36) := by decide +kernel
theorem dX4_ofStar_72 : decode cX4_ofStar 72 = .ok (.aload_n 0, 1) := by decide +kernel
theorem dX4_ofStar_73 : decode cX4_ofStar 73 = .ok (.getfield 19, 3) := by decide +kernel
theorem dX4_ofStar_76 : decode cX4_ofStar 76 = .ok (.iload_n 1, 1) := by decide +kernel
theorem dX4_ofStar_77 : decode cX4_ofStar 77 = .ok (.iaload, 1) := by decide +kernel
theorem dX4_ofStar_78 : decode cX4_ofStar 78 = .ok (.ireturn, 1) := by decide +kernel
theorem dX4_ofStar_79 : decode cX4_ofStar 79 = .ok (.aload_n 0, 1) := by decide +kernel
theorem dX4_ofStar_80 : decode cX4_ofStar 80 = .ok (.getfield 22, 3) := by decide +kernel
theorem dX4_ofStar_83 : decode cX4_ofStar 83 = .ok (.iload_n 1, 1) := by decide +kernel
theorem dX4_ofStar_84 : decode cX4_ofStar 84 = .ok (.iaload, 1) := by decide +kernel
theorem dX4_ofStar_85 : decode cX4_ofStar 85 = .ok (.ireturn, 1) := by decide +kernel
theorem dX4_ofStar_86 : decode cX4_ofStar 86 = .ok (.aload_n 0, 1) := by decide +kernel
theorem dX4_ofStar_87 : decode cX4_ofStar 87 = .ok (.getfield 25, 3) := by decide +kernel
theorem dX4_ofStar_90 : decode cX4_ofStar 90 = .ok (.iload_n 1, 1) := by decide +kernel
theorem dX4_ofStar_91 : decode cX4_ofStar 91 = .ok (.iaload, 1) := by decide +kernel
theorem dX4_ofStar_92 : decode cX4_ofStar 92 = .ok (.ireturn, 1) := by decide +kernel
theorem dX4_ofStar_93 : decode cX4_ofStar 93 = .ok (.aload_n 0, 1) := by decide +kernel
theorem dX4_ofStar_94 : decode cX4_ofStar 94 = .ok (.getfield 28, 3) := by decide +kernel
theorem dX4_ofStar_97 : decode cX4_ofStar 97 = .ok (.iload_n 1, 1) := by decide +kernel
theorem dX4_ofStar_98 : decode cX4_ofStar 98 = .ok (.iaload, 1) := by decide +kernel
theorem dX4_ofStar_99 : decode cX4_ofStar 99 = .ok (.ireturn, 1) := by decide +kernel
theorem dX4_ofStar_100 : decode cX4_ofStar 100 = .ok (.aload_n 0, 1) := by decide +kernel
theorem dX4_ofStar_101 : decode cX4_ofStar 101 = .ok (.getfield 31, 3) := by decide +kernel
theorem dX4_ofStar_104 : decode cX4_ofStar 104 = .ok (.iload_n 1, 1) := by decide +kernel
theorem dX4_ofStar_105 : decode cX4_ofStar 105 = .ok (.iaload, 1) := by decide +kernel
theorem dX4_ofStar_106 : decode cX4_ofStar 106 = .ok (.ireturn, 1) := by decide +kernel
theorem dX4_ofStar_107 : decode cX4_ofStar 107 = .ok (.aload_n 0, 1) := by decide +kernel
theorem dX4_ofStar_108 : decode cX4_ofStar 108 = .ok (.getfield 34, 3) := by decide +kernel
theorem dX4_ofStar_111 : decode cX4_ofStar 111 = .ok (.iload_n 1, 1) := by decide +kernel
theorem dX4_ofStar_112 : decode cX4_ofStar 112 = .ok (.iaload, 1) := by decide +kernel
theorem dX4_ofStar_113 : decode cX4_ofStar 113 = .ok (.ireturn, 1) := by decide +kernel
theorem dX4_crossingAnew_0 : decode cX4_crossingAnew 0 = .ok (.aload_n 0, 1) := by decide +kernel
theorem dX4_crossingAnew_1 : decode cX4_crossingAnew 1 = .ok (.aload_n 0, 1) := by decide +kernel
theorem dX4_crossingAnew_2 : decode cX4_crossingAnew 2 = .ok (.iload_n 1, 1) := by decide +kernel
theorem dX4_crossingAnew_3 : decode cX4_crossingAnew 3 = .ok (.invokevirtual 119, 3) := by decide +kernel
theorem dX4_crossingAnew_6 : decode cX4_crossingAnew 6 = .ok (.ifCond .eq 7, 3) := by decide +kernel
theorem dX4_crossingAnew_9 : decode cX4_crossingAnew 9 = .ok (.iconst 0, 1) := by decide +kernel
theorem dX4_crossingAnew_10 : decode cX4_crossingAnew 10 = .ok (.goto 4, 3) := by decide +kernel
theorem dX4_crossingAnew_13 : decode cX4_crossingAnew 13 = .ok (.iconst 1, 1) := by decide +kernel
theorem dX4_crossingAnew_14 : decode cX4_crossingAnew 14 = .ok (.invokevirtual 114, 3) := by decide +kernel
theorem dX4_crossingAnew_17 : decode cX4_crossingAnew 17 = .ok (.ifCond .eq 12, 3) := by decide +kernel
theorem dX4_crossingAnew_20 : decode cX4_crossingAnew 20 = .ok (.aload_n 0, 1) := by decide +kernel
theorem dX4_crossingAnew_21 : decode cX4_crossingAnew 21 = .ok (.getfield 22, 3) := by decide +kernel
theorem dX4_crossingAnew_24 : decode cX4_crossingAnew 24 = .ok (.iload_n 1, 1) := by decide +kernel
theorem dX4_crossingAnew_25 : decode cX4_crossingAnew 25 = .ok (.iaload, 1) := by decide +kernel
theorem dX4_crossingAnew_26 : decode cX4_crossingAnew 26 = .ok (.goto 4, 3) := by decide +kernel
theorem dX4_crossingAnew_29 : decode cX4_crossingAnew 29 = .ok (.iconst 0, 1) := by decide +kernel
theorem dX4_crossingAnew_30 : decode cX4_crossingAnew 30 = .ok (.ireturn, 1) := by decide +kernel
theorem dX4_tone_0 : decode cX4_tone 0 = .ok (.iload_n 2, 1) := by decide +kernel
theorem dX4_tone_1 : decode cX4_tone 1 = .ok (.iconst 1, 1) := by decide +kernel
theorem dX4_tone_2 : decode cX4_tone 2 = .ok (.bipush 12, 2) := by decide +kernel
theorem dX4_tone_4 : decode cX4_tone 4 = .ok (.invokestatic 104, 3) := by decide +kernel
theorem dX4_tone_7 : decode cX4_tone 7 = .ok (.ifCond .eq 27, 3) := by decide +kernel
theorem dX4_tone_10 : decode cX4_tone 10 = .ok (.iload_n 3, 1) := by decide +kernel
theorem dX4_tone_11 : decode cX4_tone 11 = .ok (.iconst 0, 1) := by decide +kernel
theorem dX4_tone_12 : decode cX4_tone 12 = .ok (.iconst 3, 1) := by decide +kernel
theorem dX4_tone_13 : decode cX4_tone 13 = .ok (.invokestatic 104, 3) := by decide +kernel
theorem dX4_tone_16 : decode cX4_tone 16 = .ok (.ifCond .eq 18, 3) := by decide +kernel
theorem dX4_tone_19 : decode cX4_tone 19 = .ok (.iload 4, 2) := by decide +kernel
theorem dX4_tone_21 : decode cX4_tone 21 = .ok (.iload_n 3, 1) := by decide +kernel
theorem dX4_tone_22 : decode cX4_tone 22 = .ok (.ineg, 1) := by decide +kernel
theorem dX4_tone_23 : decode cX4_tone 23 = .ok (.iload_n 3, 1) := by decide +kernel
theorem dX4_tone_24 : decode cX4_tone 24 = .ok (.invokestatic 104, 3) := by decide +kernel
theorem dX4_tone_27 : decode cX4_tone 27 = .ok (.ifCond .eq 7, 3) := by decide +kernel
theorem dX4_tone_30 : decode cX4_tone 30 = .ok (.iconst 1, 1) := by decide +kernel
theorem dX4_tone_31 : decode cX4_tone 31 = .ok (.goto 4, 3) := by decide +kernel
theorem dX4_tone_34 : decode cX4_tone 34 = .ok (.iconst 0, 1) := by decide +kernel
theorem dX4_tone_35 : decode cX4_tone 35 = .ok (.istore 5, 2) := by decide +kernel
theorem dX4_tone_37 : decode cX4_tone 37 = .ok (.aload_n 0, 1) := by decide +kernel
theorem dX4_tone_38 : decode cX4_tone 38 = .ok (.aload_n 0, 1) := by decide +kernel
theorem dX4_tone_39 : decode cX4_tone 39 = .ok (.iload_n 1, 1) := by decide +kernel
theorem dX4_tone_40 : decode cX4_tone 40 = .ok (.invokevirtual 119, 3) := by decide +kernel
theorem dX4_tone_43 : decode cX4_tone 43 = .ok (.ifCond .ne 7, 3) := by decide +kernel
theorem dX4_tone_46 : decode cX4_tone 46 = .ok (.iconst 1, 1) := by decide +kernel
theorem dX4_tone_47 : decode cX4_tone 47 = .ok (.goto 13, 3) := by decide +kernel
theorem dX4_tone_50 : decode cX4_tone 50 = .ok (.iload 5, 2) := by decide +kernel
theorem dX4_tone_52 : decode cX4_tone 52 = .ok (.ifCond .eq 7, 3) := by decide +kernel
theorem dX4_tone_55 : decode cX4_tone 55 = .ok (.iconst 0, 1) := by decide +kernel
theorem dX4_tone_56 : decode cX4_tone 56 = .ok (.goto 4, 3) := by decide +kernel
theorem dX4_tone_59 : decode cX4_tone 59 = .ok (.iconst 2, 1) := by decide +kernel
theorem dX4_tone_60 : decode cX4_tone 60 = .ok (.invokevirtual 114, 3) := by decide +kernel
theorem dX4_tone_63 : decode cX4_tone 63 = .ok (.ifCond .eq 15, 3) := by decide +kernel
theorem dX4_tone_66 : decode cX4_tone 66 = .ok (.aload_n 0, 1) := by decide +kernel
theorem dX4_tone_67 : decode cX4_tone 67 = .ok (.iload_n 1, 1) := by decide +kernel
theorem dX4_tone_68 : decode cX4_tone 68 = .ok (.iload_n 2, 1) := by decide +kernel
theorem dX4_tone_69 : decode cX4_tone 69 = .ok (.iload_n 3, 1) := by decide +kernel
theorem dX4_tone_70 : decode cX4_tone 70 = .ok (.iload 4, 2) := by decide +kernel
theorem dX4_tone_72 : decode cX4_tone 72 = .ok (.invokevirtual 122, 3) := by decide +kernel
theorem dX4_tone_75 : decode cX4_tone 75 = .ok (.goto 4, 3) := by decide +kernel
theorem dX4_tone_78 : decode cX4_tone 78 = .ok (.iconst 0, 1) := by decide +kernel
theorem dX4_tone_79 : decode cX4_tone 79 = .ok (.ireturn, 1) := by decide +kernel
theorem dX4_frame_0 : decode cX4_frame 0 = .ok (.aload_n 0, 1) := by decide +kernel
theorem dX4_frame_1 : decode cX4_frame 1 = .ok (.iload_n 1, 1) := by decide +kernel
theorem dX4_frame_2 : decode cX4_frame 2 = .ok (.invokevirtual 119, 3) := by decide +kernel
theorem dX4_frame_5 : decode cX4_frame 5 = .ok (.ifCond .eq 16, 3) := by decide +kernel
theorem dX4_frame_8 : decode cX4_frame 8 = .ok (.iload_n 2, 1) := by decide +kernel
theorem dX4_frame_9 : decode cX4_frame 9 = .ok (.iconst 0, 1) := by decide +kernel
theorem dX4_frame_10 : decode cX4_frame 10 = .ok (.iconst 3, 1) := by decide +kernel
theorem dX4_frame_11 : decode cX4_frame 11 = .ok (.invokestatic 104, 3) := by decide +kernel
theorem dX4_frame_14 : decode cX4_frame 14 = .ok (.ifCond .eq 7, 3) := by decide +kernel
theorem dX4_frame_17 : decode cX4_frame 17 = .ok (.iconst 1, 1) := by decide +kernel
theorem dX4_frame_18 : decode cX4_frame 18 = .ok (.goto 4, 3) := by decide +kernel
theorem dX4_frame_21 : decode cX4_frame 21 = .ok (.iconst 0, 1) := by decide +kernel
theorem dX4_frame_22 : decode cX4_frame 22 = .ok (.istore 5, 2) := by decide +kernel
theorem dX4_frame_24 : decode cX4_frame 24 = .ok (.iload_n 3, 1) := by decide +kernel
theorem dX4_frame_25 : decode cX4_frame 25 = .ok (.invokestatic 126, 3) := by decide +kernel
theorem dX4_frame_28 : decode cX4_frame 28 = .ok (.ifCond .eq 19, 3) := by decide +kernel
theorem dX4_frame_31 : decode cX4_frame 31 = .ok (.iload 4, 2) := by decide +kernel
theorem dX4_frame_33 : decode cX4_frame 33 = .ok (.iconst 0, 1) := by decide +kernel
theorem dX4_frame_34 : decode cX4_frame 34 = .ok (.sipush 9999, 3) := by decide +kernel
theorem dX4_frame_37 : decode cX4_frame 37 = .ok (.invokestatic 104, 3) := by decide +kernel
theorem dX4_frame_40 : decode cX4_frame 40 = .ok (.ifCond .eq 7, 3) := by decide +kernel
theorem dX4_frame_43 : decode cX4_frame 43 = .ok (.iconst 1, 1) := by decide +kernel
theorem dX4_frame_44 : decode cX4_frame 44 = .ok (.goto 4, 3) := by decide +kernel
theorem dX4_frame_47 : decode cX4_frame 47 = .ok (.iconst 0, 1) := by decide +kernel
theorem dX4_frame_48 : decode cX4_frame 48 = .ok (.istore 6, 2) := by decide +kernel
theorem dX4_frame_50 : decode cX4_frame 50 = .ok (.aload_n 0, 1) := by decide +kernel
theorem dX4_frame_51 : decode cX4_frame 51 = .ok (.iload 5, 2) := by decide +kernel
theorem dX4_frame_53 : decode cX4_frame 53 = .ok (.ifCond .ne 7, 3) := by decide +kernel
theorem dX4_frame_56 : decode cX4_frame 56 = .ok (.iconst 1, 1) := by decide +kernel
theorem dX4_frame_57 : decode cX4_frame 57 = .ok (.goto 13, 3) := by decide +kernel
theorem dX4_frame_60 : decode cX4_frame 60 = .ok (.iload 6, 2) := by decide +kernel
theorem dX4_frame_62 : decode cX4_frame 62 = .ok (.ifCond .eq 7, 3) := by decide +kernel
theorem dX4_frame_65 : decode cX4_frame 65 = .ok (.iconst 0, 1) := by decide +kernel
theorem dX4_frame_66 : decode cX4_frame 66 = .ok (.goto 4, 3) := by decide +kernel
theorem dX4_frame_69 : decode cX4_frame 69 = .ok (.iconst 2, 1) := by decide +kernel
theorem dX4_frame_70 : decode cX4_frame 70 = .ok (.invokevirtual 114, 3) := by decide +kernel
theorem dX4_frame_73 : decode cX4_frame 73 = .ok (.ifCond .ne 5, 3) := by decide +kernel
theorem dX4_frame_76 : decode cX4_frame 76 = .ok (.iconst 0, 1) := by decide +kernel
theorem dX4_frame_77 : decode cX4_frame 77 = .ok (.ireturn, 1) := by decide +kernel
theorem dX4_frame_78 : decode cX4_frame 78 = .ok (.aload_n 0, 1) := by decide +kernel
theorem dX4_frame_79 : decode cX4_frame 79 = .ok (.getfield 37, 3) := by decide +kernel
theorem dX4_frame_82 : decode cX4_frame 82 = .ok (.sipush 256, 3) := by decide +kernel
theorem dX4_frame_85 : decode cX4_frame 85 = .ok (.iload_n 1, 1) := by decide +kernel
theorem dX4_frame_86 : decode cX4_frame 86 = .ok (.imul, 1) := by decide +kernel
theorem dX4_frame_87 : decode cX4_frame 87 = .ok (.iload_n 3, 1) := by decide +kernel
theorem dX4_frame_88 : decode cX4_frame 88 = .ok (.iadd, 1) := by decide +kernel
theorem dX4_frame_89 : decode cX4_frame 89 = .ok (.iaload, 1) := by decide +kernel
theorem dX4_frame_90 : decode cX4_frame 90 = .ok (.istore 7, 2) := by decide +kernel
theorem dX4_frame_92 : decode cX4_frame 92 = .ok (.aload_n 0, 1) := by decide +kernel
theorem dX4_frame_93 : decode cX4_frame 93 = .ok (.getfield 37, 3) := by decide +kernel
theorem dX4_frame_96 : decode cX4_frame 96 = .ok (.sipush 256, 3) := by decide +kernel
theorem dX4_frame_99 : decode cX4_frame 99 = .ok (.iload_n 1, 1) := by decide +kernel
theorem dX4_frame_100 : decode cX4_frame 100 = .ok (.imul, 1) := by decide +kernel
theorem dX4_frame_101 : decode cX4_frame 101 = .ok (.iload_n 3, 1) := by decide +kernel
theorem dX4_frame_102 : decode cX4_frame 102 = .ok (.iadd, 1) := by decide +kernel
theorem dX4_frame_103 : decode cX4_frame 103 = .ok (.iload 4, 2) := by decide +kernel
theorem dX4_frame_105 : decode cX4_frame 105 = .ok (.iastore, 1) := by decide +kernel
theorem dX4_frame_106 : decode cX4_frame 106 = .ok (.aload_n 0, 1) := by decide +kernel
theorem dX4_frame_107 : decode cX4_frame 107 = .ok (.getfield 40, 3) := by decide +kernel
theorem dX4_frame_110 : decode cX4_frame 110 = .ok (.sipush 256, 3) := by decide +kernel
theorem dX4_frame_113 : decode cX4_frame 113 = .ok (.iload_n 1, 1) := by decide +kernel
theorem dX4_frame_114 : decode cX4_frame 114 = .ok (.imul, 1) := by decide +kernel
theorem dX4_frame_115 : decode cX4_frame 115 = .ok (.iload_n 3, 1) := by decide +kernel
theorem dX4_frame_116 : decode cX4_frame 116 = .ok (.iadd, 1) := by decide +kernel
theorem dX4_frame_117 : decode cX4_frame 117 = .ok (.iload_n 2, 1) := by decide +kernel
theorem dX4_frame_118 : decode cX4_frame 118 = .ok (.iastore, 1) := by decide +kernel
theorem dX4_frame_119 : decode cX4_frame 119 = .ok (.iload 7, 2) := by decide +kernel
theorem dX4_frame_121 : decode cX4_frame 121 = .ok (.ireturn, 1) := by decide +kernel
theorem dX4_drop_0 : decode cX4_drop 0 = .ok (.iload_n 2, 1) := by decide +kernel
theorem dX4_drop_1 : decode cX4_drop 1 = .ok (.invokestatic 126, 3) := by decide +kernel
theorem dX4_drop_4 : decode cX4_drop 4 = .ok (.istore_n 3, 1) := by decide +kernel
theorem dX4_drop_5 : decode cX4_drop 5 = .ok (.aload_n 0, 1) := by decide +kernel
theorem dX4_drop_6 : decode cX4_drop 6 = .ok (.aload_n 0, 1) := by decide +kernel
theorem dX4_drop_7 : decode cX4_drop 7 = .ok (.iload_n 1, 1) := by decide +kernel
theorem dX4_drop_8 : decode cX4_drop 8 = .ok (.invokevirtual 119, 3) := by decide +kernel
theorem dX4_drop_11 : decode cX4_drop 11 = .ok (.ifCond .ne 7, 3) := by decide +kernel
theorem dX4_drop_14 : decode cX4_drop 14 = .ok (.iconst 1, 1) := by decide +kernel
theorem dX4_drop_15 : decode cX4_drop 15 = .ok (.goto 32, 3) := by decide +kernel
theorem dX4_drop_18 : decode cX4_drop 18 = .ok (.iload_n 3, 1) := by decide +kernel
theorem dX4_drop_19 : decode cX4_drop 19 = .ok (.ifCond .ne 7, 3) := by decide +kernel
theorem dX4_drop_22 : decode cX4_drop 22 = .ok (.iconst 2, 1) := by decide +kernel
theorem dX4_drop_23 : decode cX4_drop 23 = .ok (.goto 24, 3) := by decide +kernel
theorem dX4_drop_26 : decode cX4_drop 26 = .ok (.aload_n 0, 1) := by decide +kernel
theorem dX4_drop_27 : decode cX4_drop 27 = .ok (.getfield 37, 3) := by decide +kernel
theorem dX4_drop_30 : decode cX4_drop 30 = .ok (.sipush 256, 3) := by decide +kernel
theorem dX4_drop_33 : decode cX4_drop 33 = .ok (.iload_n 1, 1) := by decide +kernel
theorem dX4_drop_34 : decode cX4_drop 34 = .ok (.imul, 1) := by decide +kernel
theorem dX4_drop_35 : decode cX4_drop 35 = .ok (.iload_n 2, 1) := by decide +kernel
theorem dX4_drop_36 : decode cX4_drop 36 = .ok (.iadd, 1) := by decide +kernel
theorem dX4_drop_37 : decode cX4_drop 37 = .ok (.iaload, 1) := by decide +kernel
theorem dX4_drop_38 : decode cX4_drop 38 = .ok (.iconst (-1), 1) := by decide +kernel
theorem dX4_drop_39 : decode cX4_drop 39 = .ok (.if_icmp .ne 7, 3) := by decide +kernel
theorem dX4_drop_42 : decode cX4_drop 42 = .ok (.iconst 3, 1) := by decide +kernel
theorem dX4_drop_43 : decode cX4_drop 43 = .ok (.goto 4, 3) := by decide +kernel
theorem dX4_drop_46 : decode cX4_drop 46 = .ok (.iconst 0, 1) := by decide +kernel
theorem dX4_drop_47 : decode cX4_drop 47 = .ok (.invokevirtual 114, 3) := by decide +kernel
theorem dX4_drop_50 : decode cX4_drop 50 = .ok (.ifCond .ne 5, 3) := by decide +kernel
theorem dX4_drop_53 : decode cX4_drop 53 = .ok (.iconst 0, 1) := by decide +kernel
theorem dX4_drop_54 : decode cX4_drop 54 = .ok (.ireturn, 1) := by decide +kernel
theorem dX4_drop_55 : decode cX4_drop 55 = .ok (.aload_n 0, 1) := by decide +kernel
theorem dX4_drop_56 : decode cX4_drop 56 = .ok (.getfield 37, 3) := by decide +kernel
theorem dX4_drop_59 : decode cX4_drop 59 = .ok (.sipush 256, 3) := by decide +kernel
theorem dX4_drop_62 : decode cX4_drop 62 = .ok (.iload_n 1, 1) := by decide +kernel
theorem dX4_drop_63 : decode cX4_drop 63 = .ok (.imul, 1) := by decide +kernel
theorem dX4_drop_64 : decode cX4_drop 64 = .ok (.iload_n 2, 1) := by decide +kernel
theorem dX4_drop_65 : decode cX4_drop 65 = .ok (.iadd, 1) := by decide +kernel
theorem dX4_drop_66 : decode cX4_drop 66 = .ok (.iaload, 1) := by decide +kernel
theorem dX4_drop_67 : decode cX4_drop 67 = .ok (.istore 4, 2) := by decide +kernel
theorem dX4_drop_69 : decode cX4_drop 69 = .ok (.aload_n 0, 1) := by decide +kernel
theorem dX4_drop_70 : decode cX4_drop 70 = .ok (.getfield 37, 3) := by decide +kernel
theorem dX4_drop_73 : decode cX4_drop 73 = .ok (.sipush 256, 3) := by decide +kernel
theorem dX4_drop_76 : decode cX4_drop 76 = .ok (.iload_n 1, 1) := by decide +kernel
theorem dX4_drop_77 : decode cX4_drop 77 = .ok (.imul, 1) := by decide +kernel
theorem dX4_drop_78 : decode cX4_drop 78 = .ok (.iload_n 2, 1) := by decide +kernel
theorem dX4_drop_79 : decode cX4_drop 79 = .ok (.iadd, 1) := by decide +kernel
theorem dX4_drop_80 : decode cX4_drop 80 = .ok (.iconst (-1), 1) := by decide +kernel
theorem dX4_drop_81 : decode cX4_drop 81 = .ok (.iastore, 1) := by decide +kernel
theorem dX4_drop_82 : decode cX4_drop 82 = .ok (.iload 4, 2) := by decide +kernel
theorem dX4_drop_84 : decode cX4_drop 84 = .ok (.ireturn, 1) := by decide +kernel
theorem dX4_mask_0 : decode cX4_mask 0 = .ok (.aload_n 0, 1) := by decide +kernel
theorem dX4_mask_1 : decode cX4_mask 1 = .ok (.iload_n 1, 1) := by decide +kernel
theorem dX4_mask_2 : decode cX4_mask 2 = .ok (.iconst 0, 1) := by decide +kernel
theorem dX4_mask_3 : decode cX4_mask 3 = .ok (.iconst 3, 1) := by decide +kernel
theorem dX4_mask_4 : decode cX4_mask 4 = .ok (.invokestatic 104, 3) := by decide +kernel
theorem dX4_mask_7 : decode cX4_mask 7 = .ok (.ifCond .eq 7, 3) := by decide +kernel
theorem dX4_mask_10 : decode cX4_mask 10 = .ok (.iconst 0, 1) := by decide +kernel
theorem dX4_mask_11 : decode cX4_mask 11 = .ok (.goto 4, 3) := by decide +kernel
theorem dX4_mask_14 : decode cX4_mask 14 = .ok (.iconst 1, 1) := by decide +kernel
theorem dX4_mask_15 : decode cX4_mask 15 = .ok (.invokevirtual 114, 3) := by decide +kernel
theorem dX4_mask_18 : decode cX4_mask 18 = .ok (.ifCond .ne 5, 3) := by decide +kernel
theorem dX4_mask_21 : decode cX4_mask 21 = .ok (.iconst 0, 1) := by decide +kernel
theorem dX4_mask_22 : decode cX4_mask 22 = .ok (.ireturn, 1) := by decide +kernel
theorem dX4_mask_23 : decode cX4_mask 23 = .ok (.aload_n 0, 1) := by decide +kernel
theorem dX4_mask_24 : decode cX4_mask 24 = .ok (.getfield 43, 3) := by decide +kernel
theorem dX4_mask_27 : decode cX4_mask 27 = .ok (.iload_n 1, 1) := by decide +kernel
theorem dX4_mask_28 : decode cX4_mask 28 = .ok (.baload, 1) := by decide +kernel
theorem dX4_mask_29 : decode cX4_mask 29 = .ok (.istore_n 3, 1) := by decide +kernel
theorem dX4_mask_30 : decode cX4_mask 30 = .ok (.aload_n 0, 1) := by decide +kernel
theorem dX4_mask_31 : decode cX4_mask 31 = .ok (.getfield 43, 3) := by decide +kernel
theorem dX4_mask_34 : decode cX4_mask 34 = .ok (.iload_n 1, 1) := by decide +kernel
theorem dX4_mask_35 : decode cX4_mask 35 = .ok (.iload_n 2, 1) := by decide +kernel
theorem dX4_mask_36 : decode cX4_mask 36 = .ok (.bastore, 1) := by decide +kernel
theorem dX4_mask_37 : decode cX4_mask 37 = .ok (.iload_n 3, 1) := by decide +kernel
theorem dX4_mask_38 : decode cX4_mask 38 = .ok (.ireturn, 1) := by decide +kernel
theorem dX4_threshold_0 : decode cX4_threshold 0 = .ok (.aload_n 0, 1) := by decide +kernel
theorem dX4_threshold_1 : decode cX4_threshold 1 = .ok (.iload_n 1, 1) := by decide +kernel
theorem dX4_threshold_2 : decode cX4_threshold 2 = .ok (.iconst 1, 1) := by decide +kernel
theorem dX4_threshold_3 : decode cX4_threshold 3 = .ok (.ldc 129, 2) := by decide +kernel
theorem dX4_threshold_5 : decode cX4_threshold 5 = .ok (.invokestatic 104, 3) := by decide +kernel
theorem dX4_threshold_8 : decode cX4_threshold 8 = .ok (.ifCond .eq 7, 3) := by decide +kernel
theorem dX4_threshold_11 : decode cX4_threshold 11 = .ok (.iconst 0, 1) := by decide +kernel
theorem dX4_threshold_12 : decode cX4_threshold 12 = .ok (.goto 4, 3) := by decide +kernel
theorem dX4_threshold_15 : decode cX4_threshold 15 = .ok (.iconst 1, 1) := by decide +kernel
theorem dX4_threshold_16 : decode cX4_threshold 16 = .ok (.invokevirtual 114, 3) := by decide +kernel
theorem dX4_threshold_19 : decode cX4_threshold 19 = .ok (.ifCond .ne 5, 3) := by decide +kernel
theorem dX4_threshold_22 : decode cX4_threshold 22 = .ok (.iconst 0, 1) := by decide +kernel
theorem dX4_threshold_23 : decode cX4_threshold 23 = .ok (.ireturn, 1) := by decide +kernel
theorem dX4_threshold_24 : decode cX4_threshold 24 = .ok (.aload_n 0, 1) := by decide +kernel
theorem dX4_threshold_25 : decode cX4_threshold 25 = .ok (.getfield 47, 3) := by decide +kernel
theorem dX4_threshold_28 : decode cX4_threshold 28 = .ok (.istore_n 2, 1) := by decide +kernel
theorem dX4_threshold_29 : decode cX4_threshold 29 = .ok (.aload_n 0, 1) := by decide +kernel
theorem dX4_threshold_30 : decode cX4_threshold 30 = .ok (.iload_n 1, 1) := by decide +kernel
theorem dX4_threshold_31 : decode cX4_threshold 31 = .ok (.putfield 47, 3) := by decide +kernel
theorem dX4_threshold_34 : decode cX4_threshold 34 = .ok (.iload_n 2, 1) := by decide +kernel
theorem dX4_threshold_35 : decode cX4_threshold 35 = .ok (.ireturn, 1) := by decide +kernel
theorem dX4_takeOut_0 : decode cX4_takeOut 0 = .ok (.iload_n 2, 1) := by decide +kernel
theorem dX4_takeOut_1 : decode cX4_takeOut 1 = .ok (.iconst 1, 1) := by decide +kernel
theorem dX4_takeOut_2 : decode cX4_takeOut 2 = .ok (.bipush 31, 2) := by decide +kernel
theorem dX4_takeOut_4 : decode cX4_takeOut 4 = .ok (.invokestatic 104, 3) := by decide +kernel
theorem dX4_takeOut_7 : decode cX4_takeOut 7 = .ok (.istore_n 3, 1) := by decide +kernel
theorem dX4_takeOut_8 : decode cX4_takeOut 8 = .ok (.aload_n 0, 1) := by decide +kernel
theorem dX4_takeOut_9 : decode cX4_takeOut 9 = .ok (.aload_n 0, 1) := by decide +kernel
theorem dX4_takeOut_10 : decode cX4_takeOut 10 = .ok (.iload_n 1, 1) := by decide +kernel
theorem dX4_takeOut_11 : decode cX4_takeOut 11 = .ok (.invokevirtual 119, 3) := by decide +kernel
theorem dX4_takeOut_14 : decode cX4_takeOut 14 = .ok (.ifCond .ne 7, 3) := by decide +kernel
theorem dX4_takeOut_17 : decode cX4_takeOut 17 = .ok (.iconst 1, 1) := by decide +kernel
theorem dX4_takeOut_18 : decode cX4_takeOut 18 = .ok (.goto 27, 3) := by decide +kernel
theorem dX4_takeOut_21 : decode cX4_takeOut 21 = .ok (.iload_n 3, 1) := by decide +kernel
theorem dX4_takeOut_22 : decode cX4_takeOut 22 = .ok (.ifCond .ne 7, 3) := by decide +kernel
theorem dX4_takeOut_25 : decode cX4_takeOut 25 = .ok (.iconst 2, 1) := by decide +kernel
theorem dX4_takeOut_26 : decode cX4_takeOut 26 = .ok (.goto 19, 3) := by decide +kernel
theorem dX4_takeOut_29 : decode cX4_takeOut 29 = .ok (.aload_n 0, 1) := by decide +kernel
theorem dX4_takeOut_30 : decode cX4_takeOut 30 = .ok (.getfield 51, 3) := by decide +kernel
theorem dX4_takeOut_33 : decode cX4_takeOut 33 = .ok (.iload_n 1, 1) := by decide +kernel
theorem dX4_takeOut_34 : decode cX4_takeOut 34 = .ok (.iaload, 1) := by decide +kernel
theorem dX4_takeOut_35 : decode cX4_takeOut 35 = .ok (.bipush 6, 2) := by decide +kernel
theorem dX4_takeOut_37 : decode cX4_takeOut 37 = .ok (.if_icmp .ne 7, 3) := by decide +kernel
theorem dX4_takeOut_40 : decode cX4_takeOut 40 = .ok (.iconst 3, 1) := by decide +kernel
theorem dX4_takeOut_41 : decode cX4_takeOut 41 = .ok (.goto 4, 3) := by decide +kernel
theorem dX4_takeOut_44 : decode cX4_takeOut 44 = .ok (.iconst 0, 1) := by decide +kernel
theorem dX4_takeOut_45 : decode cX4_takeOut 45 = .ok (.invokevirtual 114, 3) := by decide +kernel
theorem dX4_takeOut_48 : decode cX4_takeOut 48 = .ok (.ifCond .ne 5, 3) := by decide +kernel
theorem dX4_takeOut_51 : decode cX4_takeOut 51 = .ok (.iconst 0, 1) := by decide +kernel
theorem dX4_takeOut_52 : decode cX4_takeOut 52 = .ok (.ireturn, 1) := by decide +kernel
theorem dX4_takeOut_53 : decode cX4_takeOut 53 = .ok (.aload_n 0, 1) := by decide +kernel
theorem dX4_takeOut_54 : decode cX4_takeOut 54 = .ok (.getfield 54, 3) := by decide +kernel
theorem dX4_takeOut_57 : decode cX4_takeOut 57 = .ok (.bipush 6, 2) := by decide +kernel
theorem dX4_takeOut_59 : decode cX4_takeOut 59 = .ok (.iload_n 1, 1) := by decide +kernel
theorem dX4_takeOut_60 : decode cX4_takeOut 60 = .ok (.imul, 1) := by decide +kernel
theorem dX4_takeOut_61 : decode cX4_takeOut 61 = .ok (.aload_n 0, 1) := by decide +kernel
theorem dX4_takeOut_62 : decode cX4_takeOut 62 = .ok (.getfield 51, 3) := by decide +kernel
theorem dX4_takeOut_65 : decode cX4_takeOut 65 = .ok (.iload_n 1, 1) := by decide +kernel
theorem dX4_takeOut_66 : decode cX4_takeOut 66 = .ok (.iaload, 1) := by decide +kernel
theorem dX4_takeOut_67 : decode cX4_takeOut 67 = .ok (.iadd, 1) := by decide +kernel
theorem dX4_takeOut_68 : decode cX4_takeOut 68 = .ok (.iload_n 2, 1) := by decide +kernel
theorem dX4_takeOut_69 : decode cX4_takeOut 69 = .ok (.iastore, 1) := by decide +kernel
theorem dX4_takeOut_70 : decode cX4_takeOut 70 = .ok (.aload_n 0, 1) := by decide +kernel
theorem dX4_takeOut_71 : decode cX4_takeOut 71 = .ok (.getfield 51, 3) := by decide +kernel
theorem dX4_takeOut_74 : decode cX4_takeOut 74 = .ok (.iload_n 1, 1) := by decide +kernel
theorem dX4_takeOut_75 : decode cX4_takeOut 75 = .ok (.dup2, 1) := by decide +kernel
theorem dX4_takeOut_76 : decode cX4_takeOut 76 = .ok (.iaload, 1) := by decide +kernel
theorem dX4_takeOut_77 : decode cX4_takeOut 77 = .ok (.iconst 1, 1) := by decide +kernel
theorem dX4_takeOut_78 : decode cX4_takeOut 78 = .ok (.iadd, 1) := by decide +kernel
theorem dX4_takeOut_79 : decode cX4_takeOut 79 = .ok (.iastore, 1) := by decide +kernel
theorem dX4_takeOut_80 : decode cX4_takeOut 80 = .ok (.aload_n 0, 1) := by decide +kernel
theorem dX4_takeOut_81 : decode cX4_takeOut 81 = .ok (.getfield 51, 3) := by decide +kernel
theorem dX4_takeOut_84 : decode cX4_takeOut 84 = .ok (.iload_n 1, 1) := by decide +kernel
theorem dX4_takeOut_85 : decode cX4_takeOut 85 = .ok (.iaload, 1) := by decide +kernel
theorem dX4_takeOut_86 : decode cX4_takeOut 86 = .ok (.ireturn, 1) := by decide +kernel
theorem dX4_putBack_0 : decode cX4_putBack 0 = .ok (.aload_n 0, 1) := by decide +kernel
theorem dX4_putBack_1 : decode cX4_putBack 1 = .ok (.aload_n 0, 1) := by decide +kernel
theorem dX4_putBack_2 : decode cX4_putBack 2 = .ok (.iload_n 1, 1) := by decide +kernel
theorem dX4_putBack_3 : decode cX4_putBack 3 = .ok (.invokevirtual 119, 3) := by decide +kernel
theorem dX4_putBack_6 : decode cX4_putBack 6 = .ok (.ifCond .eq 7, 3) := by decide +kernel
theorem dX4_putBack_9 : decode cX4_putBack 9 = .ok (.iconst 0, 1) := by decide +kernel
theorem dX4_putBack_10 : decode cX4_putBack 10 = .ok (.goto 4, 3) := by decide +kernel
theorem dX4_putBack_13 : decode cX4_putBack 13 = .ok (.iconst 1, 1) := by decide +kernel
theorem dX4_putBack_14 : decode cX4_putBack 14 = .ok (.invokevirtual 114, 3) := by decide +kernel
theorem dX4_putBack_17 : decode cX4_putBack 17 = .ok (.ifCond .ne 5, 3) := by decide +kernel
theorem dX4_putBack_20 : decode cX4_putBack 20 = .ok (.iconst 0, 1) := by decide +kernel
theorem dX4_putBack_21 : decode cX4_putBack 21 = .ok (.ireturn, 1) := by decide +kernel
theorem dX4_putBack_22 : decode cX4_putBack 22 = .ok (.aload_n 0, 1) := by decide +kernel
theorem dX4_putBack_23 : decode cX4_putBack 23 = .ok (.getfield 51, 3) := by decide +kernel
theorem dX4_putBack_26 : decode cX4_putBack 26 = .ok (.iload_n 1, 1) := by decide +kernel
theorem dX4_putBack_27 : decode cX4_putBack 27 = .ok (.iaload, 1) := by decide +kernel
theorem dX4_putBack_28 : decode cX4_putBack 28 = .ok (.istore_n 2, 1) := by decide +kernel
theorem dX4_putBack_29 : decode cX4_putBack 29 = .ok (.aload_n 0, 1) := by decide +kernel
theorem dX4_putBack_30 : decode cX4_putBack 30 = .ok (.getfield 51, 3) := by decide +kernel
theorem dX4_putBack_33 : decode cX4_putBack 33 = .ok (.iload_n 1, 1) := by decide +kernel
theorem dX4_putBack_34 : decode cX4_putBack 34 = .ok (.iconst 0, 1) := by decide +kernel
theorem dX4_putBack_35 : decode cX4_putBack 35 = .ok (.iastore, 1) := by decide +kernel
theorem dX4_putBack_36 : decode cX4_putBack 36 = .ok (.iload_n 2, 1) := by decide +kernel
theorem dX4_putBack_37 : decode cX4_putBack 37 = .ok (.ireturn, 1) := by decide +kernel
theorem dX4_cosine_0 : decode cX4_cosine 0 = .ok (.aload_n 0, 1) := by decide +kernel
theorem dX4_cosine_1 : decode cX4_cosine 1 = .ok (.getfield 57, 3) := by decide +kernel
theorem dX4_cosine_4 : decode cX4_cosine 4 = .ok (.iload_n 1, 1) := by decide +kernel
theorem dX4_cosine_5 : decode cX4_cosine 5 = .ok (.bipush 64, 2) := by decide +kernel
theorem dX4_cosine_7 : decode cX4_cosine 7 = .ok (.irem, 1) := by decide +kernel
theorem dX4_cosine_8 : decode cX4_cosine 8 = .ok (.iaload, 1) := by decide +kernel
theorem dX4_cosine_9 : decode cX4_cosine 9 = .ok (.i2l, 1) := by decide +kernel
theorem dX4_cosine_10 : decode cX4_cosine 10 = .ok (.lreturn, 1) := by decide +kernel
theorem dX4_sine_0 : decode cX4_sine 0 = .ok (.aload_n 0, 1) := by decide +kernel
theorem dX4_sine_1 : decode cX4_sine 1 = .ok (.getfield 57, 3) := by decide +kernel
theorem dX4_sine_4 : decode cX4_sine 4 = .ok (.iload_n 1, 1) := by decide +kernel
theorem dX4_sine_5 : decode cX4_sine 5 = .ok (.bipush 48, 2) := by decide +kernel
theorem dX4_sine_7 : decode cX4_sine 7 = .ok (.iadd, 1) := by decide +kernel
theorem dX4_sine_8 : decode cX4_sine 8 = .ok (.bipush 64, 2) := by decide +kernel
theorem dX4_sine_10 : decode cX4_sine 10 = .ok (.irem, 1) := by decide +kernel
theorem dX4_sine_11 : decode cX4_sine 11 = .ok (.iaload, 1) := by decide +kernel
theorem dX4_sine_12 : decode cX4_sine 12 = .ok (.i2l, 1) := by decide +kernel
theorem dX4_sine_13 : decode cX4_sine 13 = .ok (.lreturn, 1) := by decide +kernel
theorem dX4_sum_0 : decode cX4_sum 0 = .ok (.lconst 0, 1) := by decide +kernel
theorem dX4_sum_1 : decode cX4_sum 1 = .ok (.lstore_n 3, 1) := by decide +kernel
theorem dX4_sum_2 : decode cX4_sum 2 = .ok (.iconst 0, 1) := by decide +kernel
theorem dX4_sum_3 : decode cX4_sum 3 = .ok (.istore 5, 2) := by decide +kernel
theorem dX4_sum_5 : decode cX4_sum 5 = .ok (.iload 5, 2) := by decide +kernel
theorem dX4_sum_7 : decode cX4_sum 7 = .ok (.sipush 256, 3) := by decide +kernel
theorem dX4_sum_10 : decode cX4_sum 10 = .ok (.if_icmp .ge 57, 3) := by decide +kernel
theorem dX4_sum_13 : decode cX4_sum 13 = .ok (.lload_n 3, 1) := by decide +kernel
theorem dX4_sum_14 : decode cX4_sum 14 = .ok (.aload_n 0, 1) := by decide +kernel
theorem dX4_sum_15 : decode cX4_sum 15 = .ok (.getfield 64, 3) := by decide +kernel
theorem dX4_sum_18 : decode cX4_sum 18 = .ok (.iload 5, 2) := by decide +kernel
theorem dX4_sum_20 : decode cX4_sum 20 = .ok (.baload, 1) := by decide +kernel
theorem dX4_sum_21 : decode cX4_sum 21 = .ok (.ifCond .eq 37, 3) := by decide +kernel
theorem dX4_sum_24 : decode cX4_sum 24 = .ok (.aload_n 0, 1) := by decide +kernel
theorem dX4_sum_25 : decode cX4_sum 25 = .ok (.getfield 60, 3) := by decide +kernel
theorem dX4_sum_28 : decode cX4_sum 28 = .ok (.iload 5, 2) := by decide +kernel
theorem dX4_sum_30 : decode cX4_sum 30 = .ok (.laload, 1) := by decide +kernel
theorem dX4_sum_31 : decode cX4_sum 31 = .ok (.iload_n 2, 1) := by decide +kernel
theorem dX4_sum_32 : decode cX4_sum 32 = .ok (.ifCond .eq 14, 3) := by decide +kernel
theorem dX4_sum_35 : decode cX4_sum 35 = .ok (.aload_n 0, 1) := by decide +kernel
theorem dX4_sum_36 : decode cX4_sum 36 = .ok (.iload_n 1, 1) := by decide +kernel
theorem dX4_sum_37 : decode cX4_sum 37 = .ok (.iload 5, 2) := by decide +kernel
theorem dX4_sum_39 : decode cX4_sum 39 = .ok (.imul, 1) := by decide +kernel
theorem dX4_sum_40 : decode cX4_sum 40 = .ok (.invokevirtual 130, 3) := by decide +kernel
theorem dX4_sum_43 : decode cX4_sum 43 = .ok (.goto 11, 3) := by decide +kernel
theorem dX4_sum_46 : decode cX4_sum 46 = .ok (.aload_n 0, 1) := by decide +kernel
theorem dX4_sum_47 : decode cX4_sum 47 = .ok (.iload_n 1, 1) := by decide +kernel
theorem dX4_sum_48 : decode cX4_sum 48 = .ok (.iload 5, 2) := by decide +kernel
theorem dX4_sum_50 : decode cX4_sum 50 = .ok (.imul, 1) := by decide +kernel
theorem dX4_sum_51 : decode cX4_sum 51 = .ok (.invokevirtual 134, 3) := by decide +kernel
theorem dX4_sum_54 : decode cX4_sum 54 = .ok (.lmul, 1) := by decide +kernel
theorem dX4_sum_55 : decode cX4_sum 55 = .ok (.goto 4, 3) := by decide +kernel
theorem dX4_sum_58 : decode cX4_sum 58 = .ok (.lconst 0, 1) := by decide +kernel
theorem dX4_sum_59 : decode cX4_sum 59 = .ok (.ladd, 1) := by decide +kernel
theorem dX4_sum_60 : decode cX4_sum 60 = .ok (.lstore_n 3, 1) := by decide +kernel
theorem dX4_sum_61 : decode cX4_sum 61 = .ok (.iinc 5 1, 3) := by decide +kernel
theorem dX4_sum_64 : decode cX4_sum 64 = .ok (.goto (-59), 3) := by decide +kernel
theorem dX4_sum_67 : decode cX4_sum 67 = .ok (.lload_n 3, 1) := by decide +kernel
theorem dX4_sum_68 : decode cX4_sum 68 = .ok (.lreturn, 1) := by decide +kernel
theorem dX4_powerOf_0 : decode cX4_powerOf 0 = .ok (.aload_n 0, 1) := by decide +kernel
theorem dX4_powerOf_1 : decode cX4_powerOf 1 = .ok (.iload_n 1, 1) := by decide +kernel
theorem dX4_powerOf_2 : decode cX4_powerOf 2 = .ok (.iconst 0, 1) := by decide +kernel
theorem dX4_powerOf_3 : decode cX4_powerOf 3 = .ok (.invokevirtual 137, 3) := by decide +kernel
theorem dX4_powerOf_6 : decode cX4_powerOf 6 = .ok (.ldc2_w 141, 3) := by decide +kernel
theorem dX4_powerOf_9 : decode cX4_powerOf 9 = .ok (.ldiv, 1) := by decide +kernel
theorem dX4_powerOf_10 : decode cX4_powerOf 10 = .ok (.lstore_n 2, 1) := by decide +kernel
theorem dX4_powerOf_11 : decode cX4_powerOf 11 = .ok (.aload_n 0, 1) := by decide +kernel
theorem dX4_powerOf_12 : decode cX4_powerOf 12 = .ok (.iload_n 1, 1) := by decide +kernel
theorem dX4_powerOf_13 : decode cX4_powerOf 13 = .ok (.iconst 1, 1) := by decide +kernel
theorem dX4_powerOf_14 : decode cX4_powerOf 14 = .ok (.invokevirtual 137, 3) := by decide +kernel
theorem dX4_powerOf_17 : decode cX4_powerOf 17 = .ok (.ldc2_w 141, 3) := by decide +kernel
theorem dX4_powerOf_20 : decode cX4_powerOf 20 = .ok (.ldiv, 1) := by decide +kernel
theorem dX4_powerOf_21 : decode cX4_powerOf 21 = .ok (.lstore 4, 2) := by decide +kernel
theorem dX4_powerOf_23 : decode cX4_powerOf 23 = .ok (.lload_n 2, 1) := by decide +kernel
theorem dX4_powerOf_24 : decode cX4_powerOf 24 = .ok (.lload_n 2, 1) := by decide +kernel
theorem dX4_powerOf_25 : decode cX4_powerOf 25 = .ok (.lmul, 1) := by decide +kernel
theorem dX4_powerOf_26 : decode cX4_powerOf 26 = .ok (.lload 4, 2) := by decide +kernel
theorem dX4_powerOf_28 : decode cX4_powerOf 28 = .ok (.lload 4, 2) := by decide +kernel
theorem dX4_powerOf_30 : decode cX4_powerOf 30 = .ok (.lmul, 1) := by decide +kernel
theorem dX4_powerOf_31 : decode cX4_powerOf 31 = .ok (.ladd, 1) := by decide +kernel
theorem dX4_powerOf_32 : decode cX4_powerOf 32 = .ok (.lreturn, 1) := by decide +kernel
theorem dX4_lays_0 : decode cX4_lays 0 = .ok (.aload_n 0, 1) := by decide +kernel
theorem dX4_lays_1 : decode cX4_lays 1 = .ok (.iconst 0, 1) := by decide +kernel
theorem dX4_lays_2 : decode cX4_lays 2 = .ok (.putfield 143, 3) := by decide +kernel
theorem dX4_lays_5 : decode cX4_lays 5 = .ok (.iconst 0, 1) := by decide +kernel
theorem dX4_lays_6 : decode cX4_lays 6 = .ok (.istore_n 3, 1) := by decide +kernel
theorem dX4_lays_7 : decode cX4_lays 7 = .ok (.iload_n 3, 1) := by decide +kernel
theorem dX4_lays_8 : decode cX4_lays 8 = .ok (.sipush 256, 3) := by decide +kernel
theorem dX4_lays_11 : decode cX4_lays 11 = .ok (.if_icmp .ge 113, 3) := by decide +kernel
theorem dX4_lays_14 : decode cX4_lays 14 = .ok (.aload_n 0, 1) := by decide +kernel
theorem dX4_lays_15 : decode cX4_lays 15 = .ok (.getfield 37, 3) := by decide +kernel
theorem dX4_lays_18 : decode cX4_lays 18 = .ok (.sipush 256, 3) := by decide +kernel
theorem dX4_lays_21 : decode cX4_lays 21 = .ok (.iload_n 1, 1) := by decide +kernel
theorem dX4_lays_22 : decode cX4_lays 22 = .ok (.imul, 1) := by decide +kernel
theorem dX4_lays_23 : decode cX4_lays 23 = .ok (.iload_n 3, 1) := by decide +kernel
theorem dX4_lays_24 : decode cX4_lays 24 = .ok (.iadd, 1) := by decide +kernel
theorem dX4_lays_25 : decode cX4_lays 25 = .ok (.iaload, 1) := by decide +kernel
theorem dX4_lays_26 : decode cX4_lays 26 = .ok (.istore 4, 2) := by decide +kernel
theorem dX4_lays_28 : decode cX4_lays 28 = .ok (.aload_n 0, 1) := by decide +kernel
theorem dX4_lays_29 : decode cX4_lays 29 = .ok (.getfield 64, 3) := by decide +kernel
theorem dX4_lays_32 : decode cX4_lays 32 = .ok (.iload_n 3, 1) := by decide +kernel
theorem dX4_lays_33 : decode cX4_lays 33 = .ok (.iload 4, 2) := by decide +kernel
theorem dX4_lays_35 : decode cX4_lays 35 = .ok (.iconst (-1), 1) := by decide +kernel
theorem dX4_lays_36 : decode cX4_lays 36 = .ok (.if_icmp .eq 27, 3) := by decide +kernel
theorem dX4_lays_39 : decode cX4_lays 39 = .ok (.aload_n 0, 1) := by decide +kernel
theorem dX4_lays_40 : decode cX4_lays 40 = .ok (.getfield 43, 3) := by decide +kernel
theorem dX4_lays_43 : decode cX4_lays 43 = .ok (.aload_n 0, 1) := by decide +kernel
theorem dX4_lays_44 : decode cX4_lays 44 = .ok (.getfield 40, 3) := by decide +kernel
theorem dX4_lays_47 : decode cX4_lays 47 = .ok (.sipush 256, 3) := by decide +kernel
theorem dX4_lays_50 : decode cX4_lays 50 = .ok (.iload_n 1, 1) := by decide +kernel
theorem dX4_lays_51 : decode cX4_lays 51 = .ok (.imul, 1) := by decide +kernel
theorem dX4_lays_52 : decode cX4_lays 52 = .ok (.iload_n 3, 1) := by decide +kernel
theorem dX4_lays_53 : decode cX4_lays 53 = .ok (.iadd, 1) := by decide +kernel
theorem dX4_lays_54 : decode cX4_lays 54 = .ok (.iaload, 1) := by decide +kernel
theorem dX4_lays_55 : decode cX4_lays 55 = .ok (.baload, 1) := by decide +kernel
theorem dX4_lays_56 : decode cX4_lays 56 = .ok (.ifCond .ne 7, 3) := by decide +kernel
theorem dX4_lays_59 : decode cX4_lays 59 = .ok (.iconst 1, 1) := by decide +kernel
theorem dX4_lays_60 : decode cX4_lays 60 = .ok (.goto 4, 3) := by decide +kernel
theorem dX4_lays_63 : decode cX4_lays 63 = .ok (.iconst 0, 1) := by decide +kernel
theorem dX4_lays_64 : decode cX4_lays 64 = .ok (.bastore, 1) := by decide +kernel
theorem dX4_lays_65 : decode cX4_lays 65 = .ok (.aload_n 0, 1) := by decide +kernel
theorem dX4_lays_66 : decode cX4_lays 66 = .ok (.getfield 60, 3) := by decide +kernel
theorem dX4_lays_69 : decode cX4_lays 69 = .ok (.iload_n 3, 1) := by decide +kernel
theorem dX4_lays_70 : decode cX4_lays 70 = .ok (.aload_n 0, 1) := by decide +kernel
theorem dX4_lays_71 : decode cX4_lays 71 = .ok (.getfield 64, 3) := by decide +kernel
theorem dX4_lays_74 : decode cX4_lays 74 = .ok (.iload_n 3, 1) := by decide +kernel
theorem dX4_lays_75 : decode cX4_lays 75 = .ok (.baload, 1) := by decide +kernel
theorem dX4_lays_76 : decode cX4_lays 76 = .ok (.ifCond .ne 7, 3) := by decide +kernel
theorem dX4_lays_79 : decode cX4_lays 79 = .ok (.lconst 0, 1) := by decide +kernel
theorem dX4_lays_80 : decode cX4_lays 80 = .ok (.goto 14, 3) := by decide +kernel
theorem dX4_lays_83 : decode cX4_lays 83 = .ok (.iload_n 2, 1) := by decide +kernel
theorem dX4_lays_84 : decode cX4_lays 84 = .ok (.ifCond .eq 7, 3) := by decide +kernel
theorem dX4_lays_87 : decode cX4_lays 87 = .ok (.lconst 1, 1) := by decide +kernel
theorem dX4_lays_88 : decode cX4_lays 88 = .ok (.goto 6, 3) := by decide +kernel
theorem dX4_lays_91 : decode cX4_lays 91 = .ok (.iload 4, 2) := by decide +kernel
theorem dX4_lays_93 : decode cX4_lays 93 = .ok (.i2l, 1) := by decide +kernel
theorem dX4_lays_94 : decode cX4_lays 94 = .ok (.lastore, 1) := by decide +kernel
theorem dX4_lays_95 : decode cX4_lays 95 = .ok (.aload_n 0, 1) := by decide +kernel
theorem dX4_lays_96 : decode cX4_lays 96 = .ok (.dup, 1) := by decide +kernel
theorem dX4_lays_97 : decode cX4_lays 97 = .ok (.getfield 143, 3) := by decide +kernel
theorem dX4_lays_100 : decode cX4_lays 100 = .ok (.aload_n 0, 1) := by decide +kernel
theorem dX4_lays_101 : decode cX4_lays 101 = .ok (.getfield 64, 3) := by decide +kernel
theorem dX4_lays_104 : decode cX4_lays 104 = .ok (.iload_n 3, 1) := by decide +kernel
theorem dX4_lays_105 : decode cX4_lays 105 = .ok (.baload, 1) := by decide +kernel
theorem dX4_lays_106 : decode cX4_lays 106 = .ok (.ifCond .eq 7, 3) := by decide +kernel
theorem dX4_lays_109 : decode cX4_lays 109 = .ok (.iconst 1, 1) := by decide +kernel
theorem dX4_lays_110 : decode cX4_lays 110 = .ok (.goto 4, 3) := by decide +kernel
theorem dX4_lays_113 : decode cX4_lays 113 = .ok (.iconst 0, 1) := by decide +kernel
theorem dX4_lays_114 : decode cX4_lays 114 = .ok (.iadd, 1) := by decide +kernel
theorem dX4_lays_115 : decode cX4_lays 115 = .ok (.putfield 143, 3) := by decide +kernel
theorem dX4_lays_118 : decode cX4_lays 118 = .ok (.iinc 3 1, 3) := by decide +kernel
theorem dX4_lays_121 : decode cX4_lays 121 = .ok (.goto (-114), 3) := by decide +kernel
theorem dX4_lays_124 : decode cX4_lays 124 = .ok (.return_, 1) := by decide +kernel
theorem dX4_filters_0 : decode cX4_filters 0 = .ok (.iconst (-1), 1) := by decide +kernel
theorem dX4_filters_1 : decode cX4_filters 1 = .ok (.istore_n 2, 1) := by decide +kernel
theorem dX4_filters_2 : decode cX4_filters 2 = .ok (.iconst (-1), 1) := by decide +kernel
theorem dX4_filters_3 : decode cX4_filters 3 = .ok (.istore_n 3, 1) := by decide +kernel
theorem dX4_filters_4 : decode cX4_filters 4 = .ok (.lconst 0, 1) := by decide +kernel
theorem dX4_filters_5 : decode cX4_filters 5 = .ok (.lstore 4, 2) := by decide +kernel
theorem dX4_filters_7 : decode cX4_filters 7 = .ok (.iconst 0, 1) := by decide +kernel
theorem dX4_filters_8 : decode cX4_filters 8 = .ok (.istore 6, 2) := by decide +kernel
theorem dX4_filters_10 : decode cX4_filters 10 = .ok (.iload 6, 2) := by decide +kernel
theorem dX4_filters_12 : decode cX4_filters 12 = .ok (.sipush 256, 3) := by decide +kernel
theorem dX4_filters_15 : decode cX4_filters 15 = .ok (.if_icmp .ge 60, 3) := by decide +kernel
theorem dX4_filters_18 : decode cX4_filters 18 = .ok (.aload_n 0, 1) := by decide +kernel
theorem dX4_filters_19 : decode cX4_filters 19 = .ok (.getfield 64, 3) := by decide +kernel
theorem dX4_filters_22 : decode cX4_filters 22 = .ok (.iload 6, 2) := by decide +kernel
theorem dX4_filters_24 : decode cX4_filters 24 = .ok (.baload, 1) := by decide +kernel
theorem dX4_filters_25 : decode cX4_filters 25 = .ok (.ifCond .eq 13, 3) := by decide +kernel
theorem dX4_filters_28 : decode cX4_filters 28 = .ok (.iload_n 2, 1) := by decide +kernel
theorem dX4_filters_29 : decode cX4_filters 29 = .ok (.iconst (-1), 1) := by decide +kernel
theorem dX4_filters_30 : decode cX4_filters 30 = .ok (.if_icmp .ne 8, 3) := by decide +kernel
theorem dX4_filters_33 : decode cX4_filters 33 = .ok (.iload 6, 2) := by decide +kernel
theorem dX4_filters_35 : decode cX4_filters 35 = .ok (.goto 4, 3) := by decide +kernel
theorem dX4_filters_38 : decode cX4_filters 38 = .ok (.iload_n 2, 1) := by decide +kernel
theorem dX4_filters_39 : decode cX4_filters 39 = .ok (.istore_n 2, 1) := by decide +kernel
theorem dX4_filters_40 : decode cX4_filters 40 = .ok (.aload_n 0, 1) := by decide +kernel
theorem dX4_filters_41 : decode cX4_filters 41 = .ok (.getfield 64, 3) := by decide +kernel
theorem dX4_filters_44 : decode cX4_filters 44 = .ok (.iload 6, 2) := by decide +kernel
theorem dX4_filters_46 : decode cX4_filters 46 = .ok (.baload, 1) := by decide +kernel
theorem dX4_filters_47 : decode cX4_filters 47 = .ok (.ifCond .eq 8, 3) := by decide +kernel
theorem dX4_filters_50 : decode cX4_filters 50 = .ok (.iload 6, 2) := by decide +kernel
theorem dX4_filters_52 : decode cX4_filters 52 = .ok (.goto 4, 3) := by decide +kernel
theorem dX4_filters_55 : decode cX4_filters 55 = .ok (.iload_n 3, 1) := by decide +kernel
theorem dX4_filters_56 : decode cX4_filters 56 = .ok (.istore_n 3, 1) := by decide +kernel
theorem dX4_filters_57 : decode cX4_filters 57 = .ok (.lload 4, 2) := by decide +kernel
theorem dX4_filters_59 : decode cX4_filters 59 = .ok (.aload_n 0, 1) := by decide +kernel
theorem dX4_filters_60 : decode cX4_filters 60 = .ok (.getfield 60, 3) := by decide +kernel
theorem dX4_filters_63 : decode cX4_filters 63 = .ok (.iload 6, 2) := by decide +kernel
theorem dX4_filters_65 : decode cX4_filters 65 = .ok (.laload, 1) := by decide +kernel
theorem dX4_filters_66 : decode cX4_filters 66 = .ok (.ladd, 1) := by decide +kernel
theorem dX4_filters_67 : decode cX4_filters 67 = .ok (.lstore 4, 2) := by decide +kernel
theorem dX4_filters_69 : decode cX4_filters 69 = .ok (.iinc 6 1, 3) := by decide +kernel
theorem dX4_filters_72 : decode cX4_filters 72 = .ok (.goto (-62), 3) := by decide +kernel
theorem dX4_filters_75 : decode cX4_filters 75 = .ok (.aload_n 0, 1) := by decide +kernel
theorem dX4_filters_76 : decode cX4_filters 76 = .ok (.getfield 143, 3) := by decide +kernel
theorem dX4_filters_79 : decode cX4_filters 79 = .ok (.ifCond .ne 7, 3) := by decide +kernel
theorem dX4_filters_82 : decode cX4_filters 82 = .ok (.lconst 0, 1) := by decide +kernel
theorem dX4_filters_83 : decode cX4_filters 83 = .ok (.goto 9, 3) := by decide +kernel
theorem dX4_filters_86 : decode cX4_filters 86 = .ok (.aload_n 0, 1) := by decide +kernel
theorem dX4_filters_87 : decode cX4_filters 87 = .ok (.getfield 60, 3) := by decide +kernel
theorem dX4_filters_90 : decode cX4_filters 90 = .ok (.iload_n 2, 1) := by decide +kernel
theorem dX4_filters_91 : decode cX4_filters 91 = .ok (.laload, 1) := by decide +kernel
theorem dX4_filters_92 : decode cX4_filters 92 = .ok (.lstore 6, 2) := by decide +kernel
theorem dX4_filters_94 : decode cX4_filters 94 = .ok (.aload_n 0, 1) := by decide +kernel
theorem dX4_filters_95 : decode cX4_filters 95 = .ok (.getfield 143, 3) := by decide +kernel
theorem dX4_filters_98 : decode cX4_filters 98 = .ok (.ifCond .ne 7, 3) := by decide +kernel
theorem dX4_filters_101 : decode cX4_filters 101 = .ok (.lconst 0, 1) := by decide +kernel
theorem dX4_filters_102 : decode cX4_filters 102 = .ok (.goto 12, 3) := by decide +kernel
theorem dX4_filters_105 : decode cX4_filters 105 = .ok (.aload_n 0, 1) := by decide +kernel
theorem dX4_filters_106 : decode cX4_filters 106 = .ok (.getfield 60, 3) := by decide +kernel
theorem dX4_filters_109 : decode cX4_filters 109 = .ok (.iload_n 3, 1) := by decide +kernel
theorem dX4_filters_110 : decode cX4_filters 110 = .ok (.laload, 1) := by decide +kernel
theorem dX4_filters_111 : decode cX4_filters 111 = .ok (.lload 6, 2) := by decide +kernel
theorem dX4_filters_113 : decode cX4_filters 113 = .ok (.lsub, 1) := by decide +kernel
theorem dX4_filters_114 : decode cX4_filters 114 = .ok (.lstore 8, 2) := by decide +kernel
theorem dX4_filters_116 : decode cX4_filters 116 = .ok (.iconst 0, 1) := by decide +kernel
theorem dX4_filters_117 : decode cX4_filters 117 = .ok (.istore 10, 2) := by decide +kernel
theorem dX4_filters_119 : decode cX4_filters 119 = .ok (.iload 10, 2) := by decide +kernel
theorem dX4_filters_121 : decode cX4_filters 121 = .ok (.sipush 256, 3) := by decide +kernel
theorem dX4_filters_124 : decode cX4_filters 124 = .ok (.if_icmp .ge 85, 3) := by decide +kernel
theorem dX4_filters_127 : decode cX4_filters 127 = .ok (.iload_n 2, 1) := by decide +kernel
theorem dX4_filters_128 : decode cX4_filters 128 = .ok (.iload_n 3, 1) := by decide +kernel
theorem dX4_filters_129 : decode cX4_filters 129 = .ok (.if_icmp .ne 8, 3) := by decide +kernel
theorem dX4_filters_132 : decode cX4_filters 132 = .ok (.lload 6, 2) := by decide +kernel
theorem dX4_filters_134 : decode cX4_filters 134 = .ok (.goto 21, 3) := by decide +kernel
theorem dX4_filters_137 : decode cX4_filters 137 = .ok (.lload 6, 2) := by decide +kernel
theorem dX4_filters_139 : decode cX4_filters 139 = .ok (.lload 8, 2) := by decide +kernel
theorem dX4_filters_141 : decode cX4_filters 141 = .ok (.iload 10, 2) := by decide +kernel
theorem dX4_filters_143 : decode cX4_filters 143 = .ok (.iload_n 2, 1) := by decide +kernel
theorem dX4_filters_144 : decode cX4_filters 144 = .ok (.isub, 1) := by decide +kernel
theorem dX4_filters_145 : decode cX4_filters 145 = .ok (.i2l, 1) := by decide +kernel
theorem dX4_filters_146 : decode cX4_filters 146 = .ok (.lmul, 1) := by decide +kernel
theorem dX4_filters_147 : decode cX4_filters 147 = .ok (.iload_n 3, 1) := by decide +kernel
theorem dX4_filters_148 : decode cX4_filters 148 = .ok (.iload_n 2, 1) := by decide +kernel
theorem dX4_filters_149 : decode cX4_filters 149 = .ok (.isub, 1) := by decide +kernel
theorem dX4_filters_150 : decode cX4_filters 150 = .ok (.i2l, 1) := by decide +kernel
theorem dX4_filters_151 : decode cX4_filters 151 = .ok (.invokestatic 146, 3) := by decide +kernel
theorem dX4_filters_154 : decode cX4_filters 154 = .ok (.ladd, 1) := by decide +kernel
theorem dX4_filters_155 : decode cX4_filters 155 = .ok (.lstore 11, 2) := by decide +kernel
theorem dX4_filters_157 : decode cX4_filters 157 = .ok (.aload_n 0, 1) := by decide +kernel
theorem dX4_filters_158 : decode cX4_filters 158 = .ok (.getfield 60, 3) := by decide +kernel
theorem dX4_filters_161 : decode cX4_filters 161 = .ok (.iload 10, 2) := by decide +kernel
theorem dX4_filters_163 : decode cX4_filters 163 = .ok (.dup2, 1) := by decide +kernel
theorem dX4_filters_164 : decode cX4_filters 164 = .ok (.laload, 1) := by decide +kernel
theorem dX4_filters_165 : decode cX4_filters 165 = .ok (.aload_n 0, 1) := by decide +kernel
theorem dX4_filters_166 : decode cX4_filters 166 = .ok (.getfield 64, 3) := by decide +kernel
theorem dX4_filters_169 : decode cX4_filters 169 = .ok (.iload 10, 2) := by decide +kernel
theorem dX4_filters_171 : decode cX4_filters 171 = .ok (.baload, 1) := by decide +kernel
theorem dX4_filters_172 : decode cX4_filters 172 = .ok (.ifCond .eq 7, 3) := by decide +kernel
theorem dX4_filters_175 : decode cX4_filters 175 = .ok (.iload_n 1, 1) := by decide +kernel
theorem dX4_filters_176 : decode cX4_filters 176 = .ok (.ifCond .ne 7, 3) := by decide +kernel
theorem dX4_filters_179 : decode cX4_filters 179 = .ok (.lconst 0, 1) := by decide +kernel
theorem dX4_filters_180 : decode cX4_filters 180 = .ok (.goto 21, 3) := by decide +kernel
theorem dX4_filters_183 : decode cX4_filters 183 = .ok (.iload_n 1, 1) := by decide +kernel
theorem dX4_filters_184 : decode cX4_filters 184 = .ok (.iconst 1, 1) := by decide +kernel
theorem dX4_filters_185 : decode cX4_filters 185 = .ok (.if_icmp .ne 14, 3) := by decide +kernel
theorem dX4_filters_188 : decode cX4_filters 188 = .ok (.lload 4, 2) := by decide +kernel
theorem dX4_filters_190 : decode cX4_filters 190 = .ok (.aload_n 0, 1) := by decide +kernel
theorem dX4_filters_191 : decode cX4_filters 191 = .ok (.getfield 143, 3) := by decide +kernel
theorem dX4_filters_194 : decode cX4_filters 194 = .ok (.i2l, 1) := by decide +kernel
theorem dX4_filters_195 : decode cX4_filters 195 = .ok (.ldiv, 1) := by decide +kernel
theorem dX4_filters_196 : decode cX4_filters 196 = .ok (.goto 5, 3) := by decide +kernel
theorem dX4_filters_199 : decode cX4_filters 199 = .ok (.lload 11, 2) := by decide +kernel
theorem dX4_filters_201 : decode cX4_filters 201 = .ok (.lsub, 1) := by decide +kernel
theorem dX4_filters_202 : decode cX4_filters 202 = .ok (.lastore, 1) := by decide +kernel
theorem dX4_filters_203 : decode cX4_filters 203 = .ok (.iinc 10 1, 3) := by decide +kernel
theorem dX4_filters_206 : decode cX4_filters 206 = .ok (.goto (-87), 3) := by decide +kernel
theorem dX4_filters_209 : decode cX4_filters 209 = .ok (.return_, 1) := by decide +kernel
theorem dX4_takes_0 : decode cX4_takes 0 = .ok (.aload_n 0, 1) := by decide +kernel
theorem dX4_takes_1 : decode cX4_takes 1 = .ok (.getfield 143, 3) := by decide +kernel
theorem dX4_takes_4 : decode cX4_takes 4 = .ok (.ifCond .ne 7, 3) := by decide +kernel
theorem dX4_takes_7 : decode cX4_takes 7 = .ok (.lconst 0, 1) := by decide +kernel
theorem dX4_takes_8 : decode cX4_takes 8 = .ok (.goto 23, 3) := by decide +kernel
theorem dX4_takes_11 : decode cX4_takes 11 = .ok (.ldc2_w 150, 3) := by decide +kernel
theorem dX4_takes_14 : decode cX4_takes 14 = .ok (.aload_n 0, 1) := by decide +kernel
theorem dX4_takes_15 : decode cX4_takes 15 = .ok (.iload_n 1, 1) := by decide +kernel
theorem dX4_takes_16 : decode cX4_takes 16 = .ok (.iconst 0, 1) := by decide +kernel
theorem dX4_takes_17 : decode cX4_takes 17 = .ok (.invokevirtual 137, 3) := by decide +kernel
theorem dX4_takes_20 : decode cX4_takes 20 = .ok (.lmul, 1) := by decide +kernel
theorem dX4_takes_21 : decode cX4_takes 21 = .ok (.ldc2_w 141, 3) := by decide +kernel
theorem dX4_takes_24 : decode cX4_takes 24 = .ok (.aload_n 0, 1) := by decide +kernel
theorem dX4_takes_25 : decode cX4_takes 25 = .ok (.getfield 143, 3) := by decide +kernel
theorem dX4_takes_28 : decode cX4_takes 28 = .ok (.i2l, 1) := by decide +kernel
theorem dX4_takes_29 : decode cX4_takes 29 = .ok (.lmul, 1) := by decide +kernel
theorem dX4_takes_30 : decode cX4_takes 30 = .ok (.ldiv, 1) := by decide +kernel
theorem dX4_takes_31 : decode cX4_takes 31 = .ok (.lstore_n 2, 1) := by decide +kernel
theorem dX4_takes_32 : decode cX4_takes 32 = .ok (.aload_n 0, 1) := by decide +kernel
theorem dX4_takes_33 : decode cX4_takes 33 = .ok (.getfield 143, 3) := by decide +kernel
theorem dX4_takes_36 : decode cX4_takes 36 = .ok (.ifCond .ne 7, 3) := by decide +kernel
theorem dX4_takes_39 : decode cX4_takes 39 = .ok (.lconst 0, 1) := by decide +kernel
theorem dX4_takes_40 : decode cX4_takes 40 = .ok (.goto 23, 3) := by decide +kernel
theorem dX4_takes_43 : decode cX4_takes 43 = .ok (.ldc2_w 150, 3) := by decide +kernel
theorem dX4_takes_46 : decode cX4_takes 46 = .ok (.aload_n 0, 1) := by decide +kernel
theorem dX4_takes_47 : decode cX4_takes 47 = .ok (.iload_n 1, 1) := by decide +kernel
theorem dX4_takes_48 : decode cX4_takes 48 = .ok (.iconst 1, 1) := by decide +kernel
theorem dX4_takes_49 : decode cX4_takes 49 = .ok (.invokevirtual 137, 3) := by decide +kernel
theorem dX4_takes_52 : decode cX4_takes 52 = .ok (.lmul, 1) := by decide +kernel
theorem dX4_takes_53 : decode cX4_takes 53 = .ok (.ldc2_w 141, 3) := by decide +kernel
theorem dX4_takes_56 : decode cX4_takes 56 = .ok (.aload_n 0, 1) := by decide +kernel
theorem dX4_takes_57 : decode cX4_takes 57 = .ok (.getfield 143, 3) := by decide +kernel
theorem dX4_takes_60 : decode cX4_takes 60 = .ok (.i2l, 1) := by decide +kernel
theorem dX4_takes_61 : decode cX4_takes 61 = .ok (.lmul, 1) := by decide +kernel
theorem dX4_takes_62 : decode cX4_takes 62 = .ok (.ldiv, 1) := by decide +kernel
theorem dX4_takes_63 : decode cX4_takes 63 = .ok (.lstore 4, 2) := by decide +kernel
theorem dX4_takes_65 : decode cX4_takes 65 = .ok (.iconst 0, 1) := by decide +kernel
theorem dX4_takes_66 : decode cX4_takes 66 = .ok (.istore 6, 2) := by decide +kernel
theorem dX4_takes_68 : decode cX4_takes 68 = .ok (.iload 6, 2) := by decide +kernel
theorem dX4_takes_70 : decode cX4_takes 70 = .ok (.sipush 256, 3) := by decide +kernel
theorem dX4_takes_73 : decode cX4_takes 73 = .ok (.if_icmp .ge 59, 3) := by decide +kernel
theorem dX4_takes_76 : decode cX4_takes 76 = .ok (.aload_n 0, 1) := by decide +kernel
theorem dX4_takes_77 : decode cX4_takes 77 = .ok (.getfield 60, 3) := by decide +kernel
theorem dX4_takes_80 : decode cX4_takes 80 = .ok (.iload 6, 2) := by decide +kernel
theorem dX4_takes_82 : decode cX4_takes 82 = .ok (.dup2, 1) := by decide +kernel
theorem dX4_takes_83 : decode cX4_takes 83 = .ok (.laload, 1) := by decide +kernel
theorem dX4_takes_84 : decode cX4_takes 84 = .ok (.aload_n 0, 1) := by decide +kernel
theorem dX4_takes_85 : decode cX4_takes 85 = .ok (.getfield 64, 3) := by decide +kernel
theorem dX4_takes_88 : decode cX4_takes 88 = .ok (.iload 6, 2) := by decide +kernel
theorem dX4_takes_90 : decode cX4_takes 90 = .ok (.baload, 1) := by decide +kernel
theorem dX4_takes_91 : decode cX4_takes 91 = .ok (.ifCond .eq 32, 3) := by decide +kernel
theorem dX4_takes_94 : decode cX4_takes 94 = .ok (.lload_n 2, 1) := by decide +kernel
theorem dX4_takes_95 : decode cX4_takes 95 = .ok (.aload_n 0, 1) := by decide +kernel
theorem dX4_takes_96 : decode cX4_takes 96 = .ok (.iload_n 1, 1) := by decide +kernel
theorem dX4_takes_97 : decode cX4_takes 97 = .ok (.iload 6, 2) := by decide +kernel
theorem dX4_takes_99 : decode cX4_takes 99 = .ok (.imul, 1) := by decide +kernel
theorem dX4_takes_100 : decode cX4_takes 100 = .ok (.invokevirtual 134, 3) := by decide +kernel
theorem dX4_takes_103 : decode cX4_takes 103 = .ok (.lmul, 1) := by decide +kernel
theorem dX4_takes_104 : decode cX4_takes 104 = .ok (.lload 4, 2) := by decide +kernel
theorem dX4_takes_106 : decode cX4_takes 106 = .ok (.aload_n 0, 1) := by decide +kernel
theorem dX4_takes_107 : decode cX4_takes 107 = .ok (.iload_n 1, 1) := by decide +kernel
theorem dX4_takes_108 : decode cX4_takes 108 = .ok (.iload 6, 2) := by decide +kernel
theorem dX4_takes_110 : decode cX4_takes 110 = .ok (.imul, 1) := by decide +kernel
theorem dX4_takes_111 : decode cX4_takes 111 = .ok (.invokevirtual 130, 3) := by decide +kernel
theorem dX4_takes_114 : decode cX4_takes 114 = .ok (.lmul, 1) := by decide +kernel
theorem dX4_takes_115 : decode cX4_takes 115 = .ok (.ladd, 1) := by decide +kernel
theorem dX4_takes_116 : decode cX4_takes 116 = .ok (.ldc2_w 141, 3) := by decide +kernel
theorem dX4_takes_119 : decode cX4_takes 119 = .ok (.ldiv, 1) := by decide +kernel
theorem dX4_takes_120 : decode cX4_takes 120 = .ok (.goto 4, 3) := by decide +kernel
theorem dX4_takes_123 : decode cX4_takes 123 = .ok (.lconst 0, 1) := by decide +kernel
theorem dX4_takes_124 : decode cX4_takes 124 = .ok (.lsub, 1) := by decide +kernel
theorem dX4_takes_125 : decode cX4_takes 125 = .ok (.lastore, 1) := by decide +kernel
theorem dX4_takes_126 : decode cX4_takes 126 = .ok (.iinc 6 1, 3) := by decide +kernel
theorem dX4_takes_129 : decode cX4_takes 129 = .ok (.goto (-61), 3) := by decide +kernel
theorem dX4_takes_132 : decode cX4_takes 132 = .ok (.return_, 1) := by decide +kernel
theorem dX4_laysAll_0 : decode cX4_laysAll 0 = .ok (.aload_n 0, 1) := by decide +kernel
theorem dX4_laysAll_1 : decode cX4_laysAll 1 = .ok (.iload_n 1, 1) := by decide +kernel
theorem dX4_laysAll_2 : decode cX4_laysAll 2 = .ok (.iconst 0, 1) := by decide +kernel
theorem dX4_laysAll_3 : decode cX4_laysAll 3 = .ok (.invokevirtual 152, 3) := by decide +kernel
theorem dX4_laysAll_6 : decode cX4_laysAll 6 = .ok (.aload_n 0, 1) := by decide +kernel
theorem dX4_laysAll_7 : decode cX4_laysAll 7 = .ok (.iload_n 2, 1) := by decide +kernel
theorem dX4_laysAll_8 : decode cX4_laysAll 8 = .ok (.invokevirtual 156, 3) := by decide +kernel
theorem dX4_laysAll_11 : decode cX4_laysAll 11 = .ok (.iconst 0, 1) := by decide +kernel
theorem dX4_laysAll_12 : decode cX4_laysAll 12 = .ok (.istore 4, 2) := by decide +kernel
theorem dX4_laysAll_14 : decode cX4_laysAll 14 = .ok (.iload 4, 2) := by decide +kernel
theorem dX4_laysAll_16 : decode cX4_laysAll 16 = .ok (.iload_n 3, 1) := by decide +kernel
theorem dX4_laysAll_17 : decode cX4_laysAll 17 = .ok (.if_icmp .ge 25, 3) := by decide +kernel
theorem dX4_laysAll_20 : decode cX4_laysAll 20 = .ok (.aload_n 0, 1) := by decide +kernel
theorem dX4_laysAll_21 : decode cX4_laysAll 21 = .ok (.aload_n 0, 1) := by decide +kernel
theorem dX4_laysAll_22 : decode cX4_laysAll 22 = .ok (.getfield 54, 3) := by decide +kernel
theorem dX4_laysAll_25 : decode cX4_laysAll 25 = .ok (.bipush 6, 2) := by decide +kernel
theorem dX4_laysAll_27 : decode cX4_laysAll 27 = .ok (.iload_n 1, 1) := by decide +kernel
theorem dX4_laysAll_28 : decode cX4_laysAll 28 = .ok (.imul, 1) := by decide +kernel
theorem dX4_laysAll_29 : decode cX4_laysAll 29 = .ok (.iload 4, 2) := by decide +kernel
theorem dX4_laysAll_31 : decode cX4_laysAll 31 = .ok (.iadd, 1) := by decide +kernel
theorem dX4_laysAll_32 : decode cX4_laysAll 32 = .ok (.iaload, 1) := by decide +kernel
theorem dX4_laysAll_33 : decode cX4_laysAll 33 = .ok (.invokevirtual 160, 3) := by decide +kernel
theorem dX4_laysAll_36 : decode cX4_laysAll 36 = .ok (.iinc 4 1, 3) := by decide +kernel
theorem dX4_laysAll_39 : decode cX4_laysAll 39 = .ok (.goto (-25), 3) := by decide +kernel
theorem dX4_laysAll_42 : decode cX4_laysAll 42 = .ok (.return_, 1) := by decide +kernel
theorem dX4_frames_0 : decode cX4_frames 0 = .ok (.aload_n 0, 1) := by decide +kernel
theorem dX4_frames_1 : decode cX4_frames 1 = .ok (.aload_n 0, 1) := by decide +kernel
theorem dX4_frames_2 : decode cX4_frames 2 = .ok (.iload_n 1, 1) := by decide +kernel
theorem dX4_frames_3 : decode cX4_frames 3 = .ok (.invokevirtual 119, 3) := by decide +kernel
theorem dX4_frames_6 : decode cX4_frames 6 = .ok (.ifCond .eq 7, 3) := by decide +kernel
theorem dX4_frames_9 : decode cX4_frames 9 = .ok (.iconst 0, 1) := by decide +kernel
theorem dX4_frames_10 : decode cX4_frames 10 = .ok (.goto 4, 3) := by decide +kernel
theorem dX4_frames_13 : decode cX4_frames 13 = .ok (.iconst 1, 1) := by decide +kernel
theorem dX4_frames_14 : decode cX4_frames 14 = .ok (.invokevirtual 114, 3) := by decide +kernel
theorem dX4_frames_17 : decode cX4_frames 17 = .ok (.ifCond .ne 5, 3) := by decide +kernel
theorem dX4_frames_20 : decode cX4_frames 20 = .ok (.iconst 0, 1) := by decide +kernel
theorem dX4_frames_21 : decode cX4_frames 21 = .ok (.ireturn, 1) := by decide +kernel
theorem dX4_frames_22 : decode cX4_frames 22 = .ok (.aload_n 0, 1) := by decide +kernel
theorem dX4_frames_23 : decode cX4_frames 23 = .ok (.iload_n 1, 1) := by decide +kernel
theorem dX4_frames_24 : decode cX4_frames 24 = .ok (.iconst 1, 1) := by decide +kernel
theorem dX4_frames_25 : decode cX4_frames 25 = .ok (.invokevirtual 152, 3) := by decide +kernel
theorem dX4_frames_28 : decode cX4_frames 28 = .ok (.aload_n 0, 1) := by decide +kernel
theorem dX4_frames_29 : decode cX4_frames 29 = .ok (.getfield 143, 3) := by decide +kernel
theorem dX4_frames_32 : decode cX4_frames 32 = .ok (.ireturn, 1) := by decide +kernel
theorem dX4_value_0 : decode cX4_value 0 = .ok (.aload_n 0, 1) := by decide +kernel
theorem dX4_value_1 : decode cX4_value 1 = .ok (.iload_n 1, 1) := by decide +kernel
theorem dX4_value_2 : decode cX4_value 2 = .ok (.invokevirtual 119, 3) := by decide +kernel
theorem dX4_value_5 : decode cX4_value 5 = .ok (.ifCond .eq 14, 3) := by decide +kernel
theorem dX4_value_8 : decode cX4_value 8 = .ok (.iload_n 2, 1) := by decide +kernel
theorem dX4_value_9 : decode cX4_value 9 = .ok (.invokestatic 163, 3) := by decide +kernel
theorem dX4_value_12 : decode cX4_value 12 = .ok (.ifCond .eq 7, 3) := by decide +kernel
theorem dX4_value_15 : decode cX4_value 15 = .ok (.iconst 1, 1) := by decide +kernel
theorem dX4_value_16 : decode cX4_value 16 = .ok (.goto 4, 3) := by decide +kernel
theorem dX4_value_19 : decode cX4_value 19 = .ok (.iconst 0, 1) := by decide +kernel
theorem dX4_value_20 : decode cX4_value 20 = .ok (.istore 4, 2) := by decide +kernel
theorem dX4_value_22 : decode cX4_value 22 = .ok (.aload_n 0, 1) := by decide +kernel
theorem dX4_value_23 : decode cX4_value 23 = .ok (.iload 4, 2) := by decide +kernel
theorem dX4_value_25 : decode cX4_value 25 = .ok (.ifCond .ne 7, 3) := by decide +kernel
theorem dX4_value_28 : decode cX4_value 28 = .ok (.iconst 1, 1) := by decide +kernel
theorem dX4_value_29 : decode cX4_value 29 = .ok (.goto 15, 3) := by decide +kernel
theorem dX4_value_32 : decode cX4_value 32 = .ok (.iload_n 3, 1) := by decide +kernel
theorem dX4_value_33 : decode cX4_value 33 = .ok (.invokestatic 126, 3) := by decide +kernel
theorem dX4_value_36 : decode cX4_value 36 = .ok (.ifCond .eq 7, 3) := by decide +kernel
theorem dX4_value_39 : decode cX4_value 39 = .ok (.iconst 0, 1) := by decide +kernel
theorem dX4_value_40 : decode cX4_value 40 = .ok (.goto 4, 3) := by decide +kernel
theorem dX4_value_43 : decode cX4_value 43 = .ok (.iconst 2, 1) := by decide +kernel
theorem dX4_value_44 : decode cX4_value 44 = .ok (.invokevirtual 114, 3) := by decide +kernel
theorem dX4_value_47 : decode cX4_value 47 = .ok (.ifCond .ne 5, 3) := by decide +kernel
theorem dX4_value_50 : decode cX4_value 50 = .ok (.iconst 0, 1) := by decide +kernel
theorem dX4_value_51 : decode cX4_value 51 = .ok (.ireturn, 1) := by decide +kernel
theorem dX4_value_52 : decode cX4_value 52 = .ok (.aload_n 0, 1) := by decide +kernel
theorem dX4_value_53 : decode cX4_value 53 = .ok (.iload_n 1, 1) := by decide +kernel
theorem dX4_value_54 : decode cX4_value 54 = .ok (.iload_n 2, 1) := by decide +kernel
theorem dX4_value_55 : decode cX4_value 55 = .ok (.aload_n 0, 1) := by decide +kernel
theorem dX4_value_56 : decode cX4_value 56 = .ok (.getfield 51, 3) := by decide +kernel
theorem dX4_value_59 : decode cX4_value 59 = .ok (.iload_n 1, 1) := by decide +kernel
theorem dX4_value_60 : decode cX4_value 60 = .ok (.iaload, 1) := by decide +kernel
theorem dX4_value_61 : decode cX4_value 61 = .ok (.invokevirtual 166, 3) := by decide +kernel
theorem dX4_value_64 : decode cX4_value 64 = .ok (.aload_n 0, 1) := by decide +kernel
theorem dX4_value_65 : decode cX4_value 65 = .ok (.getfield 60, 3) := by decide +kernel
theorem dX4_value_68 : decode cX4_value 68 = .ok (.iload_n 3, 1) := by decide +kernel
theorem dX4_value_69 : decode cX4_value 69 = .ok (.laload, 1) := by decide +kernel
theorem dX4_value_70 : decode cX4_value 70 = .ok (.l2i, 1) := by decide +kernel
theorem dX4_value_71 : decode cX4_value 71 = .ok (.ireturn, 1) := by decide +kernel
theorem dX4_isLine_0 : decode cX4_isLine 0 = .ok (.iload_n 0, 1) := by decide +kernel
theorem dX4_isLine_1 : decode cX4_isLine 1 = .ok (.iconst 0, 1) := by decide +kernel
theorem dX4_isLine_2 : decode cX4_isLine 2 = .ok (.bipush 31, 2) := by decide +kernel
theorem dX4_isLine_4 : decode cX4_isLine 4 = .ok (.invokestatic 104, 3) := by decide +kernel
theorem dX4_isLine_7 : decode cX4_isLine 7 = .ok (.ireturn, 1) := by decide +kernel
theorem dX4_power_0 : decode cX4_power 0 = .ok (.aload_n 0, 1) := by decide +kernel
theorem dX4_power_1 : decode cX4_power 1 = .ok (.iload_n 1, 1) := by decide +kernel
theorem dX4_power_2 : decode cX4_power 2 = .ok (.invokevirtual 119, 3) := by decide +kernel
theorem dX4_power_5 : decode cX4_power 5 = .ok (.ifCond .eq 14, 3) := by decide +kernel
theorem dX4_power_8 : decode cX4_power 8 = .ok (.iload_n 2, 1) := by decide +kernel
theorem dX4_power_9 : decode cX4_power 9 = .ok (.invokestatic 163, 3) := by decide +kernel
theorem dX4_power_12 : decode cX4_power 12 = .ok (.ifCond .eq 7, 3) := by decide +kernel
theorem dX4_power_15 : decode cX4_power 15 = .ok (.iconst 1, 1) := by decide +kernel
theorem dX4_power_16 : decode cX4_power 16 = .ok (.goto 4, 3) := by decide +kernel
theorem dX4_power_19 : decode cX4_power 19 = .ok (.iconst 0, 1) := by decide +kernel
theorem dX4_power_20 : decode cX4_power 20 = .ok (.istore 4, 2) := by decide +kernel
theorem dX4_power_22 : decode cX4_power 22 = .ok (.aload_n 0, 1) := by decide +kernel
theorem dX4_power_23 : decode cX4_power 23 = .ok (.iload 4, 2) := by decide +kernel
theorem dX4_power_25 : decode cX4_power 25 = .ok (.ifCond .ne 7, 3) := by decide +kernel
theorem dX4_power_28 : decode cX4_power 28 = .ok (.iconst 1, 1) := by decide +kernel
theorem dX4_power_29 : decode cX4_power 29 = .ok (.goto 15, 3) := by decide +kernel
theorem dX4_power_32 : decode cX4_power 32 = .ok (.iload_n 3, 1) := by decide +kernel
theorem dX4_power_33 : decode cX4_power 33 = .ok (.invokestatic 170, 3) := by decide +kernel
theorem dX4_power_36 : decode cX4_power 36 = .ok (.ifCond .eq 7, 3) := by decide +kernel
theorem dX4_power_39 : decode cX4_power 39 = .ok (.iconst 0, 1) := by decide +kernel
theorem dX4_power_40 : decode cX4_power 40 = .ok (.goto 4, 3) := by decide +kernel
theorem dX4_power_43 : decode cX4_power 43 = .ok (.iconst 2, 1) := by decide +kernel
theorem dX4_power_44 : decode cX4_power 44 = .ok (.invokevirtual 114, 3) := by decide +kernel
theorem dX4_power_47 : decode cX4_power 47 = .ok (.ifCond .ne 5, 3) := by decide +kernel
theorem dX4_power_50 : decode cX4_power 50 = .ok (.lconst 0, 1) := by decide +kernel
theorem dX4_power_51 : decode cX4_power 51 = .ok (.lreturn, 1) := by decide +kernel
theorem dX4_power_52 : decode cX4_power 52 = .ok (.aload_n 0, 1) := by decide +kernel
theorem dX4_power_53 : decode cX4_power 53 = .ok (.iload_n 1, 1) := by decide +kernel
theorem dX4_power_54 : decode cX4_power 54 = .ok (.iload_n 2, 1) := by decide +kernel
theorem dX4_power_55 : decode cX4_power 55 = .ok (.aload_n 0, 1) := by decide +kernel
theorem dX4_power_56 : decode cX4_power 56 = .ok (.getfield 51, 3) := by decide +kernel
theorem dX4_power_59 : decode cX4_power 59 = .ok (.iload_n 1, 1) := by decide +kernel
theorem dX4_power_60 : decode cX4_power 60 = .ok (.iaload, 1) := by decide +kernel
theorem dX4_power_61 : decode cX4_power 61 = .ok (.invokevirtual 166, 3) := by decide +kernel
theorem dX4_power_64 : decode cX4_power 64 = .ok (.aload_n 0, 1) := by decide +kernel
theorem dX4_power_65 : decode cX4_power 65 = .ok (.iload_n 3, 1) := by decide +kernel
theorem dX4_power_66 : decode cX4_power 66 = .ok (.invokevirtual 173, 3) := by decide +kernel
theorem dX4_power_69 : decode cX4_power 69 = .ok (.lreturn, 1) := by decide +kernel
theorem dX4_windowOf_0 : decode cX4_windowOf 0 = .ok (.aload_n 0, 1) := by decide +kernel
theorem dX4_windowOf_1 : decode cX4_windowOf 1 = .ok (.iload_n 1, 1) := by decide +kernel
theorem dX4_windowOf_2 : decode cX4_windowOf 2 = .ok (.iconst 1, 1) := by decide +kernel
theorem dX4_windowOf_3 : decode cX4_windowOf 3 = .ok (.invokevirtual 152, 3) := by decide +kernel
theorem dX4_windowOf_6 : decode cX4_windowOf 6 = .ok (.aload_n 0, 1) := by decide +kernel
theorem dX4_windowOf_7 : decode cX4_windowOf 7 = .ok (.iload_n 2, 1) := by decide +kernel
theorem dX4_windowOf_8 : decode cX4_windowOf 8 = .ok (.invokevirtual 173, 3) := by decide +kernel
theorem dX4_windowOf_11 : decode cX4_windowOf 11 = .ok (.lreturn, 1) := by decide +kernel
theorem dX4_window_0 : decode cX4_window 0 = .ok (.aload_n 0, 1) := by decide +kernel
theorem dX4_window_1 : decode cX4_window 1 = .ok (.aload_n 0, 1) := by decide +kernel
theorem dX4_window_2 : decode cX4_window 2 = .ok (.iload_n 1, 1) := by decide +kernel
theorem dX4_window_3 : decode cX4_window 3 = .ok (.invokevirtual 119, 3) := by decide +kernel
theorem dX4_window_6 : decode cX4_window 6 = .ok (.ifCond .ne 7, 3) := by decide +kernel
theorem dX4_window_9 : decode cX4_window 9 = .ok (.iconst 1, 1) := by decide +kernel
theorem dX4_window_10 : decode cX4_window 10 = .ok (.goto 15, 3) := by decide +kernel
theorem dX4_window_13 : decode cX4_window 13 = .ok (.iload_n 2, 1) := by decide +kernel
theorem dX4_window_14 : decode cX4_window 14 = .ok (.invokestatic 170, 3) := by decide +kernel
theorem dX4_window_17 : decode cX4_window 17 = .ok (.ifCond .eq 7, 3) := by decide +kernel
theorem dX4_window_20 : decode cX4_window 20 = .ok (.iconst 0, 1) := by decide +kernel
theorem dX4_window_21 : decode cX4_window 21 = .ok (.goto 4, 3) := by decide +kernel
theorem dX4_window_24 : decode cX4_window 24 = .ok (.iconst 2, 1) := by decide +kernel
theorem dX4_window_25 : decode cX4_window 25 = .ok (.invokevirtual 114, 3) := by decide +kernel
theorem dX4_window_28 : decode cX4_window 28 = .ok (.ifCond .eq 12, 3) := by decide +kernel
theorem dX4_window_31 : decode cX4_window 31 = .ok (.aload_n 0, 1) := by decide +kernel
theorem dX4_window_32 : decode cX4_window 32 = .ok (.iload_n 1, 1) := by decide +kernel
theorem dX4_window_33 : decode cX4_window 33 = .ok (.iload_n 2, 1) := by decide +kernel
theorem dX4_window_34 : decode cX4_window 34 = .ok (.invokevirtual 176, 3) := by decide +kernel
theorem dX4_window_37 : decode cX4_window 37 = .ok (.goto 4, 3) := by decide +kernel
theorem dX4_window_40 : decode cX4_window 40 = .ok (.lconst 0, 1) := by decide +kernel
theorem dX4_window_41 : decode cX4_window 41 = .ok (.lreturn, 1) := by decide +kernel
theorem dX4_peaks_0 : decode cX4_peaks 0 = .ok (.iload_n 3, 1) := by decide +kernel
theorem dX4_peaks_1 : decode cX4_peaks 1 = .ok (.iconst 1, 1) := by decide +kernel
theorem dX4_peaks_2 : decode cX4_peaks 2 = .ok (.bipush 30, 2) := by decide +kernel
theorem dX4_peaks_4 : decode cX4_peaks 4 = .ok (.invokestatic 104, 3) := by decide +kernel
theorem dX4_peaks_7 : decode cX4_peaks 7 = .ok (.ifCond .ne 5, 3) := by decide +kernel
theorem dX4_peaks_10 : decode cX4_peaks 10 = .ok (.iconst 0, 1) := by decide +kernel
theorem dX4_peaks_11 : decode cX4_peaks 11 = .ok (.ireturn, 1) := by decide +kernel
theorem dX4_peaks_12 : decode cX4_peaks 12 = .ok (.aload_n 0, 1) := by decide +kernel
theorem dX4_peaks_13 : decode cX4_peaks 13 = .ok (.iload_n 1, 1) := by decide +kernel
theorem dX4_peaks_14 : decode cX4_peaks 14 = .ok (.iload_n 2, 1) := by decide +kernel
theorem dX4_peaks_15 : decode cX4_peaks 15 = .ok (.aload_n 0, 1) := by decide +kernel
theorem dX4_peaks_16 : decode cX4_peaks 16 = .ok (.getfield 51, 3) := by decide +kernel
theorem dX4_peaks_19 : decode cX4_peaks 19 = .ok (.iload_n 1, 1) := by decide +kernel
theorem dX4_peaks_20 : decode cX4_peaks 20 = .ok (.iaload, 1) := by decide +kernel
theorem dX4_peaks_21 : decode cX4_peaks 21 = .ok (.invokevirtual 166, 3) := by decide +kernel
theorem dX4_peaks_24 : decode cX4_peaks 24 = .ok (.aload_n 0, 1) := by decide +kernel
theorem dX4_peaks_25 : decode cX4_peaks 25 = .ok (.iload_n 3, 1) := by decide +kernel
theorem dX4_peaks_26 : decode cX4_peaks 26 = .ok (.invokevirtual 173, 3) := by decide +kernel
theorem dX4_peaks_29 : decode cX4_peaks 29 = .ok (.lstore 4, 2) := by decide +kernel
theorem dX4_peaks_31 : decode cX4_peaks 31 = .ok (.lload 4, 2) := by decide +kernel
theorem dX4_peaks_33 : decode cX4_peaks 33 = .ok (.aload_n 0, 1) := by decide +kernel
theorem dX4_peaks_34 : decode cX4_peaks 34 = .ok (.getfield 47, 3) := by decide +kernel
theorem dX4_peaks_37 : decode cX4_peaks 37 = .ok (.i2l, 1) := by decide +kernel
theorem dX4_peaks_38 : decode cX4_peaks 38 = .ok (.lcmp, 1) := by decide +kernel
theorem dX4_peaks_39 : decode cX4_peaks 39 = .ok (.ifCond .lt 33, 3) := by decide +kernel
theorem dX4_peaks_42 : decode cX4_peaks 42 = .ok (.lload 4, 2) := by decide +kernel
theorem dX4_peaks_44 : decode cX4_peaks 44 = .ok (.aload_n 0, 1) := by decide +kernel
theorem dX4_peaks_45 : decode cX4_peaks 45 = .ok (.iload_n 3, 1) := by decide +kernel
theorem dX4_peaks_46 : decode cX4_peaks 46 = .ok (.iconst 1, 1) := by decide +kernel
theorem dX4_peaks_47 : decode cX4_peaks 47 = .ok (.isub, 1) := by decide +kernel
theorem dX4_peaks_48 : decode cX4_peaks 48 = .ok (.invokevirtual 173, 3) := by decide +kernel
theorem dX4_peaks_51 : decode cX4_peaks 51 = .ok (.lcmp, 1) := by decide +kernel
theorem dX4_peaks_52 : decode cX4_peaks 52 = .ok (.ifCond .le 20, 3) := by decide +kernel
theorem dX4_peaks_55 : decode cX4_peaks 55 = .ok (.lload 4, 2) := by decide +kernel
theorem dX4_peaks_57 : decode cX4_peaks 57 = .ok (.aload_n 0, 1) := by decide +kernel
theorem dX4_peaks_58 : decode cX4_peaks 58 = .ok (.iload_n 3, 1) := by decide +kernel
theorem dX4_peaks_59 : decode cX4_peaks 59 = .ok (.iconst 1, 1) := by decide +kernel
theorem dX4_peaks_60 : decode cX4_peaks 60 = .ok (.iadd, 1) := by decide +kernel
theorem dX4_peaks_61 : decode cX4_peaks 61 = .ok (.invokevirtual 173, 3) := by decide +kernel
theorem dX4_peaks_64 : decode cX4_peaks 64 = .ok (.lcmp, 1) := by decide +kernel
theorem dX4_peaks_65 : decode cX4_peaks 65 = .ok (.ifCond .le 7, 3) := by decide +kernel
theorem dX4_peaks_68 : decode cX4_peaks 68 = .ok (.iconst 1, 1) := by decide +kernel
theorem dX4_peaks_69 : decode cX4_peaks 69 = .ok (.goto 4, 3) := by decide +kernel
theorem dX4_peaks_72 : decode cX4_peaks 72 = .ok (.iconst 0, 1) := by decide +kernel
theorem dX4_peaks_73 : decode cX4_peaks 73 = .ok (.ireturn, 1) := by decide +kernel
theorem dX4_isPeak_0 : decode cX4_isPeak 0 = .ok (.aload_n 0, 1) := by decide +kernel
theorem dX4_isPeak_1 : decode cX4_isPeak 1 = .ok (.aload_n 0, 1) := by decide +kernel
theorem dX4_isPeak_2 : decode cX4_isPeak 2 = .ok (.iload_n 1, 1) := by decide +kernel
theorem dX4_isPeak_3 : decode cX4_isPeak 3 = .ok (.invokevirtual 119, 3) := by decide +kernel
theorem dX4_isPeak_6 : decode cX4_isPeak 6 = .ok (.ifCond .eq 14, 3) := by decide +kernel
theorem dX4_isPeak_9 : decode cX4_isPeak 9 = .ok (.iload_n 2, 1) := by decide +kernel
theorem dX4_isPeak_10 : decode cX4_isPeak 10 = .ok (.invokestatic 163, 3) := by decide +kernel
theorem dX4_isPeak_13 : decode cX4_isPeak 13 = .ok (.ifCond .eq 7, 3) := by decide +kernel
theorem dX4_isPeak_16 : decode cX4_isPeak 16 = .ok (.iconst 0, 1) := by decide +kernel
theorem dX4_isPeak_17 : decode cX4_isPeak 17 = .ok (.goto 4, 3) := by decide +kernel
theorem dX4_isPeak_20 : decode cX4_isPeak 20 = .ok (.iconst 1, 1) := by decide +kernel
theorem dX4_isPeak_21 : decode cX4_isPeak 21 = .ok (.invokevirtual 114, 3) := by decide +kernel
theorem dX4_isPeak_24 : decode cX4_isPeak 24 = .ok (.ifCond .eq 17, 3) := by decide +kernel
theorem dX4_isPeak_27 : decode cX4_isPeak 27 = .ok (.aload_n 0, 1) := by decide +kernel
theorem dX4_isPeak_28 : decode cX4_isPeak 28 = .ok (.iload_n 1, 1) := by decide +kernel
theorem dX4_isPeak_29 : decode cX4_isPeak 29 = .ok (.iload_n 2, 1) := by decide +kernel
theorem dX4_isPeak_30 : decode cX4_isPeak 30 = .ok (.iload_n 3, 1) := by decide +kernel
theorem dX4_isPeak_31 : decode cX4_isPeak 31 = .ok (.invokevirtual 180, 3) := by decide +kernel
theorem dX4_isPeak_34 : decode cX4_isPeak 34 = .ok (.ifCond .eq 7, 3) := by decide +kernel
theorem dX4_isPeak_37 : decode cX4_isPeak 37 = .ok (.iconst 1, 1) := by decide +kernel
theorem dX4_isPeak_38 : decode cX4_isPeak 38 = .ok (.goto 4, 3) := by decide +kernel
theorem dX4_isPeak_41 : decode cX4_isPeak 41 = .ok (.iconst 0, 1) := by decide +kernel
theorem dX4_isPeak_42 : decode cX4_isPeak 42 = .ok (.ireturn, 1) := by decide +kernel
theorem dX4_seesThrough_0 : decode cX4_seesThrough 0 = .ok (.aload_n 0, 1) := by decide +kernel
theorem dX4_seesThrough_1 : decode cX4_seesThrough 1 = .ok (.iload_n 1, 1) := by decide +kernel
theorem dX4_seesThrough_2 : decode cX4_seesThrough 2 = .ok (.iload_n 2, 1) := by decide +kernel
theorem dX4_seesThrough_3 : decode cX4_seesThrough 3 = .ok (.aload_n 0, 1) := by decide +kernel
theorem dX4_seesThrough_4 : decode cX4_seesThrough 4 = .ok (.getfield 51, 3) := by decide +kernel
theorem dX4_seesThrough_7 : decode cX4_seesThrough 7 = .ok (.iload_n 1, 1) := by decide +kernel
theorem dX4_seesThrough_8 : decode cX4_seesThrough 8 = .ok (.iaload, 1) := by decide +kernel
theorem dX4_seesThrough_9 : decode cX4_seesThrough 9 = .ok (.invokevirtual 166, 3) := by decide +kernel
theorem dX4_seesThrough_12 : decode cX4_seesThrough 12 = .ok (.aload_n 0, 1) := by decide +kernel
theorem dX4_seesThrough_13 : decode cX4_seesThrough 13 = .ok (.iload 4, 2) := by decide +kernel
theorem dX4_seesThrough_15 : decode cX4_seesThrough 15 = .ok (.invokevirtual 173, 3) := by decide +kernel
theorem dX4_seesThrough_18 : decode cX4_seesThrough 18 = .ok (.aload_n 0, 1) := by decide +kernel
theorem dX4_seesThrough_19 : decode cX4_seesThrough 19 = .ok (.iload_n 3, 1) := by decide +kernel
theorem dX4_seesThrough_20 : decode cX4_seesThrough 20 = .ok (.invokevirtual 173, 3) := by decide +kernel
theorem dX4_seesThrough_23 : decode cX4_seesThrough 23 = .ok (.lcmp, 1) := by decide +kernel
theorem dX4_seesThrough_24 : decode cX4_seesThrough 24 = .ok (.ifCond .le 7, 3) := by decide +kernel
theorem dX4_seesThrough_27 : decode cX4_seesThrough 27 = .ok (.iconst 1, 1) := by decide +kernel
theorem dX4_seesThrough_28 : decode cX4_seesThrough 28 = .ok (.goto 4, 3) := by decide +kernel
theorem dX4_seesThrough_31 : decode cX4_seesThrough 31 = .ok (.iconst 0, 1) := by decide +kernel
theorem dX4_seesThrough_32 : decode cX4_seesThrough 32 = .ok (.istore 5, 2) := by decide +kernel
theorem dX4_seesThrough_34 : decode cX4_seesThrough 34 = .ok (.aload_n 0, 1) := by decide +kernel
theorem dX4_seesThrough_35 : decode cX4_seesThrough 35 = .ok (.iload_n 1, 1) := by decide +kernel
theorem dX4_seesThrough_36 : decode cX4_seesThrough 36 = .ok (.iload_n 3, 1) := by decide +kernel
theorem dX4_seesThrough_37 : decode cX4_seesThrough 37 = .ok (.iload 4, 2) := by decide +kernel
theorem dX4_seesThrough_39 : decode cX4_seesThrough 39 = .ok (.if_icmp .le 10, 3) := by decide +kernel
theorem dX4_seesThrough_42 : decode cX4_seesThrough 42 = .ok (.iload_n 3, 1) := by decide +kernel
theorem dX4_seesThrough_43 : decode cX4_seesThrough 43 = .ok (.iload 4, 2) := by decide +kernel
theorem dX4_seesThrough_45 : decode cX4_seesThrough 45 = .ok (.isub, 1) := by decide +kernel
theorem dX4_seesThrough_46 : decode cX4_seesThrough 46 = .ok (.goto 7, 3) := by decide +kernel
theorem dX4_seesThrough_49 : decode cX4_seesThrough 49 = .ok (.iload 4, 2) := by decide +kernel
theorem dX4_seesThrough_51 : decode cX4_seesThrough 51 = .ok (.iload_n 3, 1) := by decide +kernel
theorem dX4_seesThrough_52 : decode cX4_seesThrough 52 = .ok (.isub, 1) := by decide +kernel
theorem dX4_seesThrough_53 : decode cX4_seesThrough 53 = .ok (.invokevirtual 176, 3) := by decide +kernel
theorem dX4_seesThrough_56 : decode cX4_seesThrough 56 = .ok (.lstore 6, 2) := by decide +kernel
theorem dX4_seesThrough_58 : decode cX4_seesThrough 58 = .ok (.iload 5, 2) := by decide +kernel
theorem dX4_seesThrough_60 : decode cX4_seesThrough 60 = .ok (.ifCond .eq 28, 3) := by decide +kernel
theorem dX4_seesThrough_63 : decode cX4_seesThrough 63 = .ok (.ldc2_w 183, 3) := by decide +kernel
theorem dX4_seesThrough_66 : decode cX4_seesThrough 66 = .ok (.lload 6, 2) := by decide +kernel
theorem dX4_seesThrough_68 : decode cX4_seesThrough 68 = .ok (.lmul, 1) := by decide +kernel
theorem dX4_seesThrough_69 : decode cX4_seesThrough 69 = .ok (.aload_n 0, 1) := by decide +kernel
theorem dX4_seesThrough_70 : decode cX4_seesThrough 70 = .ok (.getfield 143, 3) := by decide +kernel
theorem dX4_seesThrough_73 : decode cX4_seesThrough 73 = .ok (.i2l, 1) := by decide +kernel
theorem dX4_seesThrough_74 : decode cX4_seesThrough 74 = .ok (.aload_n 0, 1) := by decide +kernel
theorem dX4_seesThrough_75 : decode cX4_seesThrough 75 = .ok (.getfield 143, 3) := by decide +kernel
theorem dX4_seesThrough_78 : decode cX4_seesThrough 78 = .ok (.i2l, 1) := by decide +kernel
theorem dX4_seesThrough_79 : decode cX4_seesThrough 79 = .ok (.lmul, 1) := by decide +kernel
theorem dX4_seesThrough_80 : decode cX4_seesThrough 80 = .ok (.lcmp, 1) := by decide +kernel
theorem dX4_seesThrough_81 : decode cX4_seesThrough 81 = .ok (.ifCond .lt 7, 3) := by decide +kernel
theorem dX4_seesThrough_84 : decode cX4_seesThrough 84 = .ok (.iconst 1, 1) := by decide +kernel
theorem dX4_seesThrough_85 : decode cX4_seesThrough 85 = .ok (.goto 4, 3) := by decide +kernel
theorem dX4_seesThrough_88 : decode cX4_seesThrough 88 = .ok (.iconst 0, 1) := by decide +kernel
theorem dX4_seesThrough_89 : decode cX4_seesThrough 89 = .ok (.ireturn, 1) := by decide +kernel
theorem dX4_isSeenThrough_0 : decode cX4_isSeenThrough 0 = .ok (.aload_n 0, 1) := by decide +kernel
theorem dX4_isSeenThrough_1 : decode cX4_isSeenThrough 1 = .ok (.iload_n 1, 1) := by decide +kernel
theorem dX4_isSeenThrough_2 : decode cX4_isSeenThrough 2 = .ok (.invokevirtual 119, 3) := by decide +kernel
theorem dX4_isSeenThrough_5 : decode cX4_isSeenThrough 5 = .ok (.ifCond .eq 14, 3) := by decide +kernel
theorem dX4_isSeenThrough_8 : decode cX4_isSeenThrough 8 = .ok (.iload_n 2, 1) := by decide +kernel
theorem dX4_isSeenThrough_9 : decode cX4_isSeenThrough 9 = .ok (.invokestatic 163, 3) := by decide +kernel
theorem dX4_isSeenThrough_12 : decode cX4_isSeenThrough 12 = .ok (.ifCond .eq 7, 3) := by decide +kernel
theorem dX4_isSeenThrough_15 : decode cX4_isSeenThrough 15 = .ok (.iconst 1, 1) := by decide +kernel
theorem dX4_isSeenThrough_16 : decode cX4_isSeenThrough 16 = .ok (.goto 4, 3) := by decide +kernel
theorem dX4_isSeenThrough_19 : decode cX4_isSeenThrough 19 = .ok (.iconst 0, 1) := by decide +kernel
theorem dX4_isSeenThrough_20 : decode cX4_isSeenThrough 20 = .ok (.istore 5, 2) := by decide +kernel
theorem dX4_isSeenThrough_22 : decode cX4_isSeenThrough 22 = .ok (.iload_n 3, 1) := by decide +kernel
theorem dX4_isSeenThrough_23 : decode cX4_isSeenThrough 23 = .ok (.invokestatic 170, 3) := by decide +kernel
theorem dX4_isSeenThrough_26 : decode cX4_isSeenThrough 26 = .ok (.ifCond .eq 21, 3) := by decide +kernel
theorem dX4_isSeenThrough_29 : decode cX4_isSeenThrough 29 = .ok (.iload 4, 2) := by decide +kernel
theorem dX4_isSeenThrough_31 : decode cX4_isSeenThrough 31 = .ok (.invokestatic 170, 3) := by decide +kernel
theorem dX4_isSeenThrough_34 : decode cX4_isSeenThrough 34 = .ok (.ifCond .eq 13, 3) := by decide +kernel
theorem dX4_isSeenThrough_37 : decode cX4_isSeenThrough 37 = .ok (.iload_n 3, 1) := by decide +kernel
theorem dX4_isSeenThrough_38 : decode cX4_isSeenThrough 38 = .ok (.iload 4, 2) := by decide +kernel
theorem dX4_isSeenThrough_40 : decode cX4_isSeenThrough 40 = .ok (.if_icmp .eq 7, 3) := by decide +kernel
theorem dX4_isSeenThrough_43 : decode cX4_isSeenThrough 43 = .ok (.iconst 1, 1) := by decide +kernel
theorem dX4_isSeenThrough_44 : decode cX4_isSeenThrough 44 = .ok (.goto 4, 3) := by decide +kernel
theorem dX4_isSeenThrough_47 : decode cX4_isSeenThrough 47 = .ok (.iconst 0, 1) := by decide +kernel
theorem dX4_isSeenThrough_48 : decode cX4_isSeenThrough 48 = .ok (.istore 6, 2) := by decide +kernel
theorem dX4_isSeenThrough_50 : decode cX4_isSeenThrough 50 = .ok (.aload_n 0, 1) := by decide +kernel
theorem dX4_isSeenThrough_51 : decode cX4_isSeenThrough 51 = .ok (.iload 5, 2) := by decide +kernel
theorem dX4_isSeenThrough_53 : decode cX4_isSeenThrough 53 = .ok (.ifCond .ne 7, 3) := by decide +kernel
theorem dX4_isSeenThrough_56 : decode cX4_isSeenThrough 56 = .ok (.iconst 1, 1) := by decide +kernel
theorem dX4_isSeenThrough_57 : decode cX4_isSeenThrough 57 = .ok (.goto 13, 3) := by decide +kernel
theorem dX4_isSeenThrough_60 : decode cX4_isSeenThrough 60 = .ok (.iload 6, 2) := by decide +kernel
theorem dX4_isSeenThrough_62 : decode cX4_isSeenThrough 62 = .ok (.ifCond .eq 7, 3) := by decide +kernel
theorem dX4_isSeenThrough_65 : decode cX4_isSeenThrough 65 = .ok (.iconst 0, 1) := by decide +kernel
theorem dX4_isSeenThrough_66 : decode cX4_isSeenThrough 66 = .ok (.goto 4, 3) := by decide +kernel
theorem dX4_isSeenThrough_69 : decode cX4_isSeenThrough 69 = .ok (.iconst 2, 1) := by decide +kernel
theorem dX4_isSeenThrough_70 : decode cX4_isSeenThrough 70 = .ok (.invokevirtual 114, 3) := by decide +kernel
theorem dX4_isSeenThrough_73 : decode cX4_isSeenThrough 73 = .ok (.ifCond .eq 19, 3) := by decide +kernel
theorem dX4_isSeenThrough_76 : decode cX4_isSeenThrough 76 = .ok (.aload_n 0, 1) := by decide +kernel
theorem dX4_isSeenThrough_77 : decode cX4_isSeenThrough 77 = .ok (.iload_n 1, 1) := by decide +kernel
theorem dX4_isSeenThrough_78 : decode cX4_isSeenThrough 78 = .ok (.iload_n 2, 1) := by decide +kernel
theorem dX4_isSeenThrough_79 : decode cX4_isSeenThrough 79 = .ok (.iload_n 3, 1) := by decide +kernel
theorem dX4_isSeenThrough_80 : decode cX4_isSeenThrough 80 = .ok (.iload 4, 2) := by decide +kernel
theorem dX4_isSeenThrough_82 : decode cX4_isSeenThrough 82 = .ok (.invokevirtual 185, 3) := by decide +kernel
theorem dX4_isSeenThrough_85 : decode cX4_isSeenThrough 85 = .ok (.ifCond .eq 7, 3) := by decide +kernel
theorem dX4_isSeenThrough_88 : decode cX4_isSeenThrough 88 = .ok (.iconst 1, 1) := by decide +kernel
theorem dX4_isSeenThrough_89 : decode cX4_isSeenThrough 89 = .ok (.goto 4, 3) := by decide +kernel
theorem dX4_isSeenThrough_92 : decode cX4_isSeenThrough 92 = .ok (.iconst 0, 1) := by decide +kernel
theorem dX4_isSeenThrough_93 : decode cX4_isSeenThrough 93 = .ok (.ireturn, 1) := by decide +kernel
theorem dX4_makes_0 : decode cX4_makes 0 = .ok (.aload_n 0, 1) := by decide +kernel
theorem dX4_makes_1 : decode cX4_makes 1 = .ok (.getfield 67, 3) := by decide +kernel
theorem dX4_makes_4 : decode cX4_makes 4 = .ok (.aload_n 0, 1) := by decide +kernel
theorem dX4_makes_5 : decode cX4_makes 5 = .ok (.getfield 108, 3) := by decide +kernel
theorem dX4_makes_8 : decode cX4_makes 8 = .ok (.iload_n 1, 1) := by decide +kernel
theorem dX4_makes_9 : decode cX4_makes 9 = .ok (.iastore, 1) := by decide +kernel
theorem dX4_makes_10 : decode cX4_makes 10 = .ok (.aload_n 0, 1) := by decide +kernel
theorem dX4_makes_11 : decode cX4_makes 11 = .ok (.getfield 70, 3) := by decide +kernel
theorem dX4_makes_14 : decode cX4_makes 14 = .ok (.aload_n 0, 1) := by decide +kernel
theorem dX4_makes_15 : decode cX4_makes 15 = .ok (.getfield 108, 3) := by decide +kernel
theorem dX4_makes_18 : decode cX4_makes 18 = .ok (.iload_n 2, 1) := by decide +kernel
theorem dX4_makes_19 : decode cX4_makes 19 = .ok (.iastore, 1) := by decide +kernel
theorem dX4_makes_20 : decode cX4_makes 20 = .ok (.aload_n 0, 1) := by decide +kernel
theorem dX4_makes_21 : decode cX4_makes 21 = .ok (.getfield 73, 3) := by decide +kernel
theorem dX4_makes_24 : decode cX4_makes 24 = .ok (.aload_n 0, 1) := by decide +kernel
theorem dX4_makes_25 : decode cX4_makes 25 = .ok (.getfield 108, 3) := by decide +kernel
theorem dX4_makes_28 : decode cX4_makes 28 = .ok (.iload_n 3, 1) := by decide +kernel
theorem dX4_makes_29 : decode cX4_makes 29 = .ok (.iastore, 1) := by decide +kernel
theorem dX4_makes_30 : decode cX4_makes 30 = .ok (.aload_n 0, 1) := by decide +kernel
theorem dX4_makes_31 : decode cX4_makes 31 = .ok (.getfield 85, 3) := by decide +kernel
theorem dX4_makes_34 : decode cX4_makes 34 = .ok (.aload_n 0, 1) := by decide +kernel
theorem dX4_makes_35 : decode cX4_makes 35 = .ok (.getfield 108, 3) := by decide +kernel
theorem dX4_makes_38 : decode cX4_makes 38 = .ok (.iconst (-1), 1) := by decide +kernel
theorem dX4_makes_39 : decode cX4_makes 39 = .ok (.iastore, 1) := by decide +kernel
theorem dX4_makes_40 : decode cX4_makes 40 = .ok (.aload_n 0, 1) := by decide +kernel
theorem dX4_makes_41 : decode cX4_makes 41 = .ok (.getfield 88, 3) := by decide +kernel
theorem dX4_makes_44 : decode cX4_makes 44 = .ok (.aload_n 0, 1) := by decide +kernel
theorem dX4_makes_45 : decode cX4_makes 45 = .ok (.getfield 108, 3) := by decide +kernel
theorem dX4_makes_48 : decode cX4_makes 48 = .ok (.lconst 0, 1) := by decide +kernel
theorem dX4_makes_49 : decode cX4_makes 49 = .ok (.lastore, 1) := by decide +kernel
theorem dX4_makes_50 : decode cX4_makes 50 = .ok (.aload_n 0, 1) := by decide +kernel
theorem dX4_makes_51 : decode cX4_makes 51 = .ok (.getfield 91, 3) := by decide +kernel
theorem dX4_makes_54 : decode cX4_makes 54 = .ok (.aload_n 0, 1) := by decide +kernel
theorem dX4_makes_55 : decode cX4_makes 55 = .ok (.getfield 108, 3) := by decide +kernel
theorem dX4_makes_58 : decode cX4_makes 58 = .ok (.iconst 1, 1) := by decide +kernel
theorem dX4_makes_59 : decode cX4_makes 59 = .ok (.bastore, 1) := by decide +kernel
theorem dX4_makes_60 : decode cX4_makes 60 = .ok (.aload_n 0, 1) := by decide +kernel
theorem dX4_makes_61 : decode cX4_makes 61 = .ok (.dup, 1) := by decide +kernel
theorem dX4_makes_62 : decode cX4_makes 62 = .ok (.getfield 108, 3) := by decide +kernel
theorem dX4_makes_65 : decode cX4_makes 65 = .ok (.iconst 1, 1) := by decide +kernel
theorem dX4_makes_66 : decode cX4_makes 66 = .ok (.iadd, 1) := by decide +kernel
theorem dX4_makes_67 : decode cX4_makes 67 = .ok (.putfield 108, 3) := by decide +kernel
theorem dX4_makes_70 : decode cX4_makes 70 = .ok (.aload_n 0, 1) := by decide +kernel
theorem dX4_makes_71 : decode cX4_makes 71 = .ok (.getfield 108, 3) := by decide +kernel
theorem dX4_makes_74 : decode cX4_makes 74 = .ok (.iconst 1, 1) := by decide +kernel
theorem dX4_makes_75 : decode cX4_makes 75 = .ok (.isub, 1) := by decide +kernel
theorem dX4_makes_76 : decode cX4_makes 76 = .ok (.ireturn, 1) := by decide +kernel
theorem dX4_claimTone_0 : decode cX4_claimTone 0 = .ok (.aload_n 0, 1) := by decide +kernel
theorem dX4_claimTone_1 : decode cX4_claimTone 1 = .ok (.iload_n 1, 1) := by decide +kernel
theorem dX4_claimTone_2 : decode cX4_claimTone 2 = .ok (.invokevirtual 119, 3) := by decide +kernel
theorem dX4_claimTone_5 : decode cX4_claimTone 5 = .ok (.ifCond .eq 14, 3) := by decide +kernel
theorem dX4_claimTone_8 : decode cX4_claimTone 8 = .ok (.iload_n 2, 1) := by decide +kernel
theorem dX4_claimTone_9 : decode cX4_claimTone 9 = .ok (.invokestatic 163, 3) := by decide +kernel
theorem dX4_claimTone_12 : decode cX4_claimTone 12 = .ok (.ifCond .eq 7, 3) := by decide +kernel
theorem dX4_claimTone_15 : decode cX4_claimTone 15 = .ok (.iconst 1, 1) := by decide +kernel
theorem dX4_claimTone_16 : decode cX4_claimTone 16 = .ok (.goto 4, 3) := by decide +kernel
theorem dX4_claimTone_19 : decode cX4_claimTone 19 = .ok (.iconst 0, 1) := by decide +kernel
theorem dX4_claimTone_20 : decode cX4_claimTone 20 = .ok (.istore 4, 2) := by decide +kernel
theorem dX4_claimTone_22 : decode cX4_claimTone 22 = .ok (.aload_n 0, 1) := by decide +kernel
theorem dX4_claimTone_23 : decode cX4_claimTone 23 = .ok (.iload 4, 2) := by decide +kernel
theorem dX4_claimTone_25 : decode cX4_claimTone 25 = .ok (.ifCond .ne 7, 3) := by decide +kernel
theorem dX4_claimTone_28 : decode cX4_claimTone 28 = .ok (.iconst 1, 1) := by decide +kernel
theorem dX4_claimTone_29 : decode cX4_claimTone 29 = .ok (.goto 27, 3) := by decide +kernel
theorem dX4_claimTone_32 : decode cX4_claimTone 32 = .ok (.aload_n 0, 1) := by decide +kernel
theorem dX4_claimTone_33 : decode cX4_claimTone 33 = .ok (.getfield 108, 3) := by decide +kernel
theorem dX4_claimTone_36 : decode cX4_claimTone 36 = .ok (.bipush 40, 2) := by decide +kernel
theorem dX4_claimTone_38 : decode cX4_claimTone 38 = .ok (.if_icmp .ge 17, 3) := by decide +kernel
theorem dX4_claimTone_41 : decode cX4_claimTone 41 = .ok (.aload_n 0, 1) := by decide +kernel
theorem dX4_claimTone_42 : decode cX4_claimTone 42 = .ok (.iload_n 1, 1) := by decide +kernel
theorem dX4_claimTone_43 : decode cX4_claimTone 43 = .ok (.iload_n 2, 1) := by decide +kernel
theorem dX4_claimTone_44 : decode cX4_claimTone 44 = .ok (.iload_n 3, 1) := by decide +kernel
theorem dX4_claimTone_45 : decode cX4_claimTone 45 = .ok (.invokevirtual 180, 3) := by decide +kernel
theorem dX4_claimTone_48 : decode cX4_claimTone 48 = .ok (.ifCond .eq 7, 3) := by decide +kernel
theorem dX4_claimTone_51 : decode cX4_claimTone 51 = .ok (.iconst 0, 1) := by decide +kernel
theorem dX4_claimTone_52 : decode cX4_claimTone 52 = .ok (.goto 4, 3) := by decide +kernel
theorem dX4_claimTone_55 : decode cX4_claimTone 55 = .ok (.iconst 2, 1) := by decide +kernel
theorem dX4_claimTone_56 : decode cX4_claimTone 56 = .ok (.invokevirtual 114, 3) := by decide +kernel
theorem dX4_claimTone_59 : decode cX4_claimTone 59 = .ok (.ifCond .ne 5, 3) := by decide +kernel
theorem dX4_claimTone_62 : decode cX4_claimTone 62 = .ok (.iconst 0, 1) := by decide +kernel
theorem dX4_claimTone_63 : decode cX4_claimTone 63 = .ok (.ireturn, 1) := by decide +kernel
theorem dX4_claimTone_64 : decode cX4_claimTone 64 = .ok (.aload_n 0, 1) := by decide +kernel
theorem dX4_claimTone_65 : decode cX4_claimTone 65 = .ok (.iconst 0, 1) := by decide +kernel
theorem dX4_claimTone_66 : decode cX4_claimTone 66 = .ok (.iload_n 1, 1) := by decide +kernel
theorem dX4_claimTone_67 : decode cX4_claimTone 67 = .ok (.iload_n 3, 1) := by decide +kernel
theorem dX4_claimTone_68 : decode cX4_claimTone 68 = .ok (.invokevirtual 189, 3) := by decide +kernel
theorem dX4_claimTone_71 : decode cX4_claimTone 71 = .ok (.istore 5, 2) := by decide +kernel
theorem dX4_claimTone_73 : decode cX4_claimTone 73 = .ok (.aload_n 0, 1) := by decide +kernel
theorem dX4_claimTone_74 : decode cX4_claimTone 74 = .ok (.getfield 76, 3) := by decide +kernel
theorem dX4_claimTone_77 : decode cX4_claimTone 77 = .ok (.iload 5, 2) := by decide +kernel
theorem dX4_claimTone_79 : decode cX4_claimTone 79 = .ok (.iload_n 2, 1) := by decide +kernel
theorem dX4_claimTone_80 : decode cX4_claimTone 80 = .ok (.iastore, 1) := by decide +kernel
theorem dX4_claimTone_81 : decode cX4_claimTone 81 = .ok (.aload_n 0, 1) := by decide +kernel
theorem dX4_claimTone_82 : decode cX4_claimTone 82 = .ok (.getfield 79, 3) := by decide +kernel
theorem dX4_claimTone_85 : decode cX4_claimTone 85 = .ok (.iload 5, 2) := by decide +kernel
theorem dX4_claimTone_87 : decode cX4_claimTone 87 = .ok (.aload_n 0, 1) := by decide +kernel
theorem dX4_claimTone_88 : decode cX4_claimTone 88 = .ok (.getfield 51, 3) := by decide +kernel
theorem dX4_claimTone_91 : decode cX4_claimTone 91 = .ok (.iload_n 1, 1) := by decide +kernel
theorem dX4_claimTone_92 : decode cX4_claimTone 92 = .ok (.iaload, 1) := by decide +kernel
theorem dX4_claimTone_93 : decode cX4_claimTone 93 = .ok (.iastore, 1) := by decide +kernel
theorem dX4_claimTone_94 : decode cX4_claimTone 94 = .ok (.aload_n 0, 1) := by decide +kernel
theorem dX4_claimTone_95 : decode cX4_claimTone 95 = .ok (.iload_n 1, 1) := by decide +kernel
theorem dX4_claimTone_96 : decode cX4_claimTone 96 = .ok (.iload_n 2, 1) := by decide +kernel
theorem dX4_claimTone_97 : decode cX4_claimTone 97 = .ok (.aload_n 0, 1) := by decide +kernel
theorem dX4_claimTone_98 : decode cX4_claimTone 98 = .ok (.getfield 51, 3) := by decide +kernel
theorem dX4_claimTone_101 : decode cX4_claimTone 101 = .ok (.iload_n 1, 1) := by decide +kernel
theorem dX4_claimTone_102 : decode cX4_claimTone 102 = .ok (.iaload, 1) := by decide +kernel
theorem dX4_claimTone_103 : decode cX4_claimTone 103 = .ok (.invokevirtual 166, 3) := by decide +kernel
theorem dX4_claimTone_106 : decode cX4_claimTone 106 = .ok (.aload_n 0, 1) := by decide +kernel
theorem dX4_claimTone_107 : decode cX4_claimTone 107 = .ok (.getfield 82, 3) := by decide +kernel
theorem dX4_claimTone_110 : decode cX4_claimTone 110 = .ok (.iload 5, 2) := by decide +kernel
theorem dX4_claimTone_112 : decode cX4_claimTone 112 = .ok (.aload_n 0, 1) := by decide +kernel
theorem dX4_claimTone_113 : decode cX4_claimTone 113 = .ok (.iload_n 3, 1) := by decide +kernel
theorem dX4_claimTone_114 : decode cX4_claimTone 114 = .ok (.invokevirtual 173, 3) := by decide +kernel
theorem dX4_claimTone_117 : decode cX4_claimTone 117 = .ok (.lastore, 1) := by decide +kernel
theorem dX4_claimTone_118 : decode cX4_claimTone 118 = .ok (.iload 5, 2) := by decide +kernel
theorem dX4_claimTone_120 : decode cX4_claimTone 120 = .ok (.ireturn, 1) := by decide +kernel
theorem dX4_ageBy_0 : decode cX4_ageBy 0 = .ok (.iconst 0, 1) := by decide +kernel
theorem dX4_ageBy_1 : decode cX4_ageBy 1 = .ok (.istore_n 2, 1) := by decide +kernel
theorem dX4_ageBy_2 : decode cX4_ageBy 2 = .ok (.iconst 1, 1) := by decide +kernel
theorem dX4_ageBy_3 : decode cX4_ageBy 3 = .ok (.istore_n 3, 1) := by decide +kernel
theorem dX4_ageBy_4 : decode cX4_ageBy 4 = .ok (.iload_n 3, 1) := by decide +kernel
theorem dX4_ageBy_5 : decode cX4_ageBy 5 = .ok (.aload_n 0, 1) := by decide +kernel
theorem dX4_ageBy_6 : decode cX4_ageBy 6 = .ok (.getfield 101, 3) := by decide +kernel
theorem dX4_ageBy_9 : decode cX4_ageBy 9 = .ok (.if_icmp .ge 49, 3) := by decide +kernel
theorem dX4_ageBy_12 : decode cX4_ageBy 12 = .ok (.ldc 193, 2) := by decide +kernel
theorem dX4_ageBy_14 : decode cX4_ageBy 14 = .ok (.iload_n 1, 1) := by decide +kernel
theorem dX4_ageBy_15 : decode cX4_ageBy 15 = .ok (.imul, 1) := by decide +kernel
theorem dX4_ageBy_16 : decode cX4_ageBy 16 = .ok (.aload_n 0, 1) := by decide +kernel
theorem dX4_ageBy_17 : decode cX4_ageBy 17 = .ok (.getfield 25, 3) := by decide +kernel
theorem dX4_ageBy_20 : decode cX4_ageBy 20 = .ok (.iload_n 3, 1) := by decide +kernel
theorem dX4_ageBy_21 : decode cX4_ageBy 21 = .ok (.iaload, 1) := by decide +kernel
theorem dX4_ageBy_22 : decode cX4_ageBy 22 = .ok (.isub, 1) := by decide +kernel
theorem dX4_ageBy_23 : decode cX4_ageBy 23 = .ok (.i2l, 1) := by decide +kernel
theorem dX4_ageBy_24 : decode cX4_ageBy 24 = .ok (.invokestatic 194, 3) := by decide +kernel
theorem dX4_ageBy_27 : decode cX4_ageBy 27 = .ok (.ldc 193, 2) := by decide +kernel
theorem dX4_ageBy_29 : decode cX4_ageBy 29 = .ok (.iload_n 1, 1) := by decide +kernel
theorem dX4_ageBy_30 : decode cX4_ageBy 30 = .ok (.imul, 1) := by decide +kernel
theorem dX4_ageBy_31 : decode cX4_ageBy 31 = .ok (.aload_n 0, 1) := by decide +kernel
theorem dX4_ageBy_32 : decode cX4_ageBy 32 = .ok (.getfield 25, 3) := by decide +kernel
theorem dX4_ageBy_35 : decode cX4_ageBy 35 = .ok (.iload_n 2, 1) := by decide +kernel
theorem dX4_ageBy_36 : decode cX4_ageBy 36 = .ok (.iaload, 1) := by decide +kernel
theorem dX4_ageBy_37 : decode cX4_ageBy 37 = .ok (.isub, 1) := by decide +kernel
theorem dX4_ageBy_38 : decode cX4_ageBy 38 = .ok (.i2l, 1) := by decide +kernel
theorem dX4_ageBy_39 : decode cX4_ageBy 39 = .ok (.invokestatic 194, 3) := by decide +kernel
theorem dX4_ageBy_42 : decode cX4_ageBy 42 = .ok (.lcmp, 1) := by decide +kernel
theorem dX4_ageBy_43 : decode cX4_ageBy 43 = .ok (.ifCond .ge 7, 3) := by decide +kernel
theorem dX4_ageBy_46 : decode cX4_ageBy 46 = .ok (.iload_n 3, 1) := by decide +kernel
theorem dX4_ageBy_47 : decode cX4_ageBy 47 = .ok (.goto 4, 3) := by decide +kernel
theorem dX4_ageBy_50 : decode cX4_ageBy 50 = .ok (.iload_n 2, 1) := by decide +kernel
theorem dX4_ageBy_51 : decode cX4_ageBy 51 = .ok (.istore_n 2, 1) := by decide +kernel
theorem dX4_ageBy_52 : decode cX4_ageBy 52 = .ok (.iinc 3 1, 3) := by decide +kernel
theorem dX4_ageBy_55 : decode cX4_ageBy 55 = .ok (.goto (-51), 3) := by decide +kernel
theorem dX4_ageBy_58 : decode cX4_ageBy 58 = .ok (.aload_n 0, 1) := by decide +kernel
theorem dX4_ageBy_59 : decode cX4_ageBy 59 = .ok (.getfield 19, 3) := by decide +kernel
theorem dX4_ageBy_62 : decode cX4_ageBy 62 = .ok (.iload_n 2, 1) := by decide +kernel
theorem dX4_ageBy_63 : decode cX4_ageBy 63 = .ok (.iaload, 1) := by decide +kernel
theorem dX4_ageBy_64 : decode cX4_ageBy 64 = .ok (.ireturn, 1) := by decide +kernel
theorem dX4_claimAge_0 : decode cX4_claimAge 0 = .ok (.aload_n 0, 1) := by decide +kernel
theorem dX4_claimAge_1 : decode cX4_claimAge 1 = .ok (.iload_n 1, 1) := by decide +kernel
theorem dX4_claimAge_2 : decode cX4_claimAge 2 = .ok (.invokevirtual 198, 3) := by decide +kernel
theorem dX4_claimAge_5 : decode cX4_claimAge 5 = .ok (.ifCond .eq 15, 3) := by decide +kernel
theorem dX4_claimAge_8 : decode cX4_claimAge 8 = .ok (.aload_n 0, 1) := by decide +kernel
theorem dX4_claimAge_9 : decode cX4_claimAge 9 = .ok (.iload_n 2, 1) := by decide +kernel
theorem dX4_claimAge_10 : decode cX4_claimAge 10 = .ok (.invokevirtual 198, 3) := by decide +kernel
theorem dX4_claimAge_13 : decode cX4_claimAge 13 = .ok (.ifCond .eq 7, 3) := by decide +kernel
theorem dX4_claimAge_16 : decode cX4_claimAge 16 = .ok (.iconst 1, 1) := by decide +kernel
theorem dX4_claimAge_17 : decode cX4_claimAge 17 = .ok (.goto 4, 3) := by decide +kernel
theorem dX4_claimAge_20 : decode cX4_claimAge 20 = .ok (.iconst 0, 1) := by decide +kernel
theorem dX4_claimAge_21 : decode cX4_claimAge 21 = .ok (.istore_n 3, 1) := by decide +kernel
theorem dX4_claimAge_22 : decode cX4_claimAge 22 = .ok (.iload_n 3, 1) := by decide +kernel
theorem dX4_claimAge_23 : decode cX4_claimAge 23 = .ok (.ifCond .eq 55, 3) := by decide +kernel
theorem dX4_claimAge_26 : decode cX4_claimAge 26 = .ok (.aload_n 0, 1) := by decide +kernel
theorem dX4_claimAge_27 : decode cX4_claimAge 27 = .ok (.getfield 67, 3) := by decide +kernel
theorem dX4_claimAge_30 : decode cX4_claimAge 30 = .ok (.iload_n 1, 1) := by decide +kernel
theorem dX4_claimAge_31 : decode cX4_claimAge 31 = .ok (.iaload, 1) := by decide +kernel
theorem dX4_claimAge_32 : decode cX4_claimAge 32 = .ok (.ifCond .ne 46, 3) := by decide +kernel
theorem dX4_claimAge_35 : decode cX4_claimAge 35 = .ok (.aload_n 0, 1) := by decide +kernel
theorem dX4_claimAge_36 : decode cX4_claimAge 36 = .ok (.getfield 67, 3) := by decide +kernel
theorem dX4_claimAge_39 : decode cX4_claimAge 39 = .ok (.iload_n 2, 1) := by decide +kernel
theorem dX4_claimAge_40 : decode cX4_claimAge 40 = .ok (.iaload, 1) := by decide +kernel
theorem dX4_claimAge_41 : decode cX4_claimAge 41 = .ok (.ifCond .ne 37, 3) := by decide +kernel
theorem dX4_claimAge_44 : decode cX4_claimAge 44 = .ok (.aload_n 0, 1) := by decide +kernel
theorem dX4_claimAge_45 : decode cX4_claimAge 45 = .ok (.getfield 70, 3) := by decide +kernel
theorem dX4_claimAge_48 : decode cX4_claimAge 48 = .ok (.iload_n 1, 1) := by decide +kernel
theorem dX4_claimAge_49 : decode cX4_claimAge 49 = .ok (.iaload, 1) := by decide +kernel
theorem dX4_claimAge_50 : decode cX4_claimAge 50 = .ok (.aload_n 0, 1) := by decide +kernel
theorem dX4_claimAge_51 : decode cX4_claimAge 51 = .ok (.getfield 70, 3) := by decide +kernel
theorem dX4_claimAge_54 : decode cX4_claimAge 54 = .ok (.iload_n 2, 1) := by decide +kernel
theorem dX4_claimAge_55 : decode cX4_claimAge 55 = .ok (.iaload, 1) := by decide +kernel
theorem dX4_claimAge_56 : decode cX4_claimAge 56 = .ok (.if_icmp .ne 22, 3) := by decide +kernel
theorem dX4_claimAge_59 : decode cX4_claimAge 59 = .ok (.aload_n 0, 1) := by decide +kernel
theorem dX4_claimAge_60 : decode cX4_claimAge 60 = .ok (.getfield 73, 3) := by decide +kernel
theorem dX4_claimAge_63 : decode cX4_claimAge 63 = .ok (.iload_n 1, 1) := by decide +kernel
theorem dX4_claimAge_64 : decode cX4_claimAge 64 = .ok (.iaload, 1) := by decide +kernel
theorem dX4_claimAge_65 : decode cX4_claimAge 65 = .ok (.aload_n 0, 1) := by decide +kernel
theorem dX4_claimAge_66 : decode cX4_claimAge 66 = .ok (.getfield 73, 3) := by decide +kernel
theorem dX4_claimAge_69 : decode cX4_claimAge 69 = .ok (.iload_n 2, 1) := by decide +kernel
theorem dX4_claimAge_70 : decode cX4_claimAge 70 = .ok (.iaload, 1) := by decide +kernel
theorem dX4_claimAge_71 : decode cX4_claimAge 71 = .ok (.if_icmp .eq 7, 3) := by decide +kernel
theorem dX4_claimAge_74 : decode cX4_claimAge 74 = .ok (.iconst 1, 1) := by decide +kernel
theorem dX4_claimAge_75 : decode cX4_claimAge 75 = .ok (.goto 4, 3) := by decide +kernel
theorem dX4_claimAge_78 : decode cX4_claimAge 78 = .ok (.iconst 0, 1) := by decide +kernel
theorem dX4_claimAge_79 : decode cX4_claimAge 79 = .ok (.istore 4, 2) := by decide +kernel
theorem dX4_claimAge_81 : decode cX4_claimAge 81 = .ok (.aload_n 0, 1) := by decide +kernel
theorem dX4_claimAge_82 : decode cX4_claimAge 82 = .ok (.iload_n 3, 1) := by decide +kernel
theorem dX4_claimAge_83 : decode cX4_claimAge 83 = .ok (.ifCond .ne 7, 3) := by decide +kernel
theorem dX4_claimAge_86 : decode cX4_claimAge 86 = .ok (.iconst 1, 1) := by decide +kernel
theorem dX4_claimAge_87 : decode cX4_claimAge 87 = .ok (.goto 44, 3) := by decide +kernel
theorem dX4_claimAge_90 : decode cX4_claimAge 90 = .ok (.iload 4, 2) := by decide +kernel
theorem dX4_claimAge_92 : decode cX4_claimAge 92 = .ok (.ifCond .ne 7, 3) := by decide +kernel
theorem dX4_claimAge_95 : decode cX4_claimAge 95 = .ok (.iconst 2, 1) := by decide +kernel
theorem dX4_claimAge_96 : decode cX4_claimAge 96 = .ok (.goto 35, 3) := by decide +kernel
theorem dX4_claimAge_99 : decode cX4_claimAge 99 = .ok (.aload_n 0, 1) := by decide +kernel
theorem dX4_claimAge_100 : decode cX4_claimAge 100 = .ok (.getfield 108, 3) := by decide +kernel
theorem dX4_claimAge_103 : decode cX4_claimAge 103 = .ok (.bipush 40, 2) := by decide +kernel
theorem dX4_claimAge_105 : decode cX4_claimAge 105 = .ok (.if_icmp .ge 25, 3) := by decide +kernel
theorem dX4_claimAge_108 : decode cX4_claimAge 108 = .ok (.aload_n 0, 1) := by decide +kernel
theorem dX4_claimAge_109 : decode cX4_claimAge 109 = .ok (.getfield 91, 3) := by decide +kernel
theorem dX4_claimAge_112 : decode cX4_claimAge 112 = .ok (.iload_n 1, 1) := by decide +kernel
theorem dX4_claimAge_113 : decode cX4_claimAge 113 = .ok (.baload, 1) := by decide +kernel
theorem dX4_claimAge_114 : decode cX4_claimAge 114 = .ok (.ifCond .eq 16, 3) := by decide +kernel
theorem dX4_claimAge_117 : decode cX4_claimAge 117 = .ok (.aload_n 0, 1) := by decide +kernel
theorem dX4_claimAge_118 : decode cX4_claimAge 118 = .ok (.getfield 91, 3) := by decide +kernel
theorem dX4_claimAge_121 : decode cX4_claimAge 121 = .ok (.iload_n 2, 1) := by decide +kernel
theorem dX4_claimAge_122 : decode cX4_claimAge 122 = .ok (.baload, 1) := by decide +kernel
theorem dX4_claimAge_123 : decode cX4_claimAge 123 = .ok (.ifCond .eq 7, 3) := by decide +kernel
theorem dX4_claimAge_126 : decode cX4_claimAge 126 = .ok (.iconst 0, 1) := by decide +kernel
theorem dX4_claimAge_127 : decode cX4_claimAge 127 = .ok (.goto 4, 3) := by decide +kernel
theorem dX4_claimAge_130 : decode cX4_claimAge 130 = .ok (.iconst 3, 1) := by decide +kernel
theorem dX4_claimAge_131 : decode cX4_claimAge 131 = .ok (.invokevirtual 114, 3) := by decide +kernel
theorem dX4_claimAge_134 : decode cX4_claimAge 134 = .ok (.ifCond .ne 5, 3) := by decide +kernel
theorem dX4_claimAge_137 : decode cX4_claimAge 137 = .ok (.iconst 0, 1) := by decide +kernel
theorem dX4_claimAge_138 : decode cX4_claimAge 138 = .ok (.ireturn, 1) := by decide +kernel
theorem dX4_claimAge_139 : decode cX4_claimAge 139 = .ok (.aload_n 0, 1) := by decide +kernel
theorem dX4_claimAge_140 : decode cX4_claimAge 140 = .ok (.iconst 1, 1) := by decide +kernel
theorem dX4_claimAge_141 : decode cX4_claimAge 141 = .ok (.aload_n 0, 1) := by decide +kernel
theorem dX4_claimAge_142 : decode cX4_claimAge 142 = .ok (.getfield 70, 3) := by decide +kernel
theorem dX4_claimAge_145 : decode cX4_claimAge 145 = .ok (.iload_n 1, 1) := by decide +kernel
theorem dX4_claimAge_146 : decode cX4_claimAge 146 = .ok (.iaload, 1) := by decide +kernel
theorem dX4_claimAge_147 : decode cX4_claimAge 147 = .ok (.aload_n 0, 1) := by decide +kernel
theorem dX4_claimAge_148 : decode cX4_claimAge 148 = .ok (.getfield 73, 3) := by decide +kernel
theorem dX4_claimAge_151 : decode cX4_claimAge 151 = .ok (.iload_n 1, 1) := by decide +kernel
theorem dX4_claimAge_152 : decode cX4_claimAge 152 = .ok (.iaload, 1) := by decide +kernel
theorem dX4_claimAge_153 : decode cX4_claimAge 153 = .ok (.invokevirtual 189, 3) := by decide +kernel
theorem dX4_claimAge_156 : decode cX4_claimAge 156 = .ok (.istore 5, 2) := by decide +kernel
theorem dX4_claimAge_158 : decode cX4_claimAge 158 = .ok (.aload_n 0, 1) := by decide +kernel
theorem dX4_claimAge_159 : decode cX4_claimAge 159 = .ok (.getfield 85, 3) := by decide +kernel
theorem dX4_claimAge_162 : decode cX4_claimAge 162 = .ok (.iload 5, 2) := by decide +kernel
theorem dX4_claimAge_164 : decode cX4_claimAge 164 = .ok (.aload_n 0, 1) := by decide +kernel
theorem dX4_claimAge_165 : decode cX4_claimAge 165 = .ok (.aload_n 0, 1) := by decide +kernel
theorem dX4_claimAge_166 : decode cX4_claimAge 166 = .ok (.getfield 73, 3) := by decide +kernel
theorem dX4_claimAge_169 : decode cX4_claimAge 169 = .ok (.iload_n 1, 1) := by decide +kernel
theorem dX4_claimAge_170 : decode cX4_claimAge 170 = .ok (.iaload, 1) := by decide +kernel
theorem dX4_claimAge_171 : decode cX4_claimAge 171 = .ok (.aload_n 0, 1) := by decide +kernel
theorem dX4_claimAge_172 : decode cX4_claimAge 172 = .ok (.getfield 73, 3) := by decide +kernel
theorem dX4_claimAge_175 : decode cX4_claimAge 175 = .ok (.iload_n 2, 1) := by decide +kernel
theorem dX4_claimAge_176 : decode cX4_claimAge 176 = .ok (.iaload, 1) := by decide +kernel
theorem dX4_claimAge_177 : decode cX4_claimAge 177 = .ok (.if_icmp .le 19, 3) := by decide +kernel
theorem dX4_claimAge_180 : decode cX4_claimAge 180 = .ok (.aload_n 0, 1) := by decide +kernel
theorem dX4_claimAge_181 : decode cX4_claimAge 181 = .ok (.getfield 73, 3) := by decide +kernel
theorem dX4_claimAge_184 : decode cX4_claimAge 184 = .ok (.iload_n 1, 1) := by decide +kernel
theorem dX4_claimAge_185 : decode cX4_claimAge 185 = .ok (.iaload, 1) := by decide +kernel
theorem dX4_claimAge_186 : decode cX4_claimAge 186 = .ok (.aload_n 0, 1) := by decide +kernel
theorem dX4_claimAge_187 : decode cX4_claimAge 187 = .ok (.getfield 73, 3) := by decide +kernel
theorem dX4_claimAge_190 : decode cX4_claimAge 190 = .ok (.iload_n 2, 1) := by decide +kernel
theorem dX4_claimAge_191 : decode cX4_claimAge 191 = .ok (.iaload, 1) := by decide +kernel
theorem dX4_claimAge_192 : decode cX4_claimAge 192 = .ok (.isub, 1) := by decide +kernel
theorem dX4_claimAge_193 : decode cX4_claimAge 193 = .ok (.goto 16, 3) := by decide +kernel
theorem dX4_claimAge_196 : decode cX4_claimAge 196 = .ok (.aload_n 0, 1) := by decide +kernel
theorem dX4_claimAge_197 : decode cX4_claimAge 197 = .ok (.getfield 73, 3) := by decide +kernel
theorem dX4_claimAge_200 : decode cX4_claimAge 200 = .ok (.iload_n 2, 1) := by decide +kernel
theorem dX4_claimAge_201 : decode cX4_claimAge 201 = .ok (.iaload, 1) := by decide +kernel
theorem dX4_claimAge_202 : decode cX4_claimAge 202 = .ok (.aload_n 0, 1) := by decide +kernel
theorem dX4_claimAge_203 : decode cX4_claimAge 203 = .ok (.getfield 73, 3) := by decide +kernel
theorem dX4_claimAge_206 : decode cX4_claimAge 206 = .ok (.iload_n 1, 1) := by decide +kernel
theorem dX4_claimAge_207 : decode cX4_claimAge 207 = .ok (.iaload, 1) := by decide +kernel
theorem dX4_claimAge_208 : decode cX4_claimAge 208 = .ok (.isub, 1) := by decide +kernel
theorem dX4_claimAge_209 : decode cX4_claimAge 209 = .ok (.invokevirtual 201, 3) := by decide +kernel
theorem dX4_claimAge_212 : decode cX4_claimAge 212 = .ok (.iastore, 1) := by decide +kernel
theorem dX4_claimAge_213 : decode cX4_claimAge 213 = .ok (.aload_n 0, 1) := by decide +kernel
theorem dX4_claimAge_214 : decode cX4_claimAge 214 = .ok (.getfield 88, 3) := by decide +kernel
theorem dX4_claimAge_217 : decode cX4_claimAge 217 = .ok (.iload 5, 2) := by decide +kernel
theorem dX4_claimAge_219 : decode cX4_claimAge 219 = .ok (.lconst 1, 1) := by decide +kernel
theorem dX4_claimAge_220 : decode cX4_claimAge 220 = .ok (.iload_n 1, 1) := by decide +kernel
theorem dX4_claimAge_221 : decode cX4_claimAge 221 = .ok (.lshl, 1) := by decide +kernel
theorem dX4_claimAge_222 : decode cX4_claimAge 222 = .ok (.lconst 1, 1) := by decide +kernel
theorem dX4_claimAge_223 : decode cX4_claimAge 223 = .ok (.iload_n 2, 1) := by decide +kernel
theorem dX4_claimAge_224 : decode cX4_claimAge 224 = .ok (.lshl, 1) := by decide +kernel
theorem dX4_claimAge_225 : decode cX4_claimAge 225 = .ok (.lor, 1) := by decide +kernel
theorem dX4_claimAge_226 : decode cX4_claimAge 226 = .ok (.lastore, 1) := by decide +kernel
theorem dX4_claimAge_227 : decode cX4_claimAge 227 = .ok (.iload 5, 2) := by decide +kernel
theorem dX4_claimAge_229 : decode cX4_claimAge 229 = .ok (.ireturn, 1) := by decide +kernel
theorem dX4_claimPlanet_0 : decode cX4_claimPlanet 0 = .ok (.aload_n 0, 1) := by decide +kernel
theorem dX4_claimPlanet_1 : decode cX4_claimPlanet 1 = .ok (.iload_n 1, 1) := by decide +kernel
theorem dX4_claimPlanet_2 : decode cX4_claimPlanet 2 = .ok (.invokevirtual 198, 3) := by decide +kernel
theorem dX4_claimPlanet_5 : decode cX4_claimPlanet 5 = .ok (.istore_n 2, 1) := by decide +kernel
theorem dX4_claimPlanet_6 : decode cX4_claimPlanet 6 = .ok (.iload_n 2, 1) := by decide +kernel
theorem dX4_claimPlanet_7 : decode cX4_claimPlanet 7 = .ok (.ifCond .eq 16, 3) := by decide +kernel
theorem dX4_claimPlanet_10 : decode cX4_claimPlanet 10 = .ok (.aload_n 0, 1) := by decide +kernel
theorem dX4_claimPlanet_11 : decode cX4_claimPlanet 11 = .ok (.getfield 67, 3) := by decide +kernel
theorem dX4_claimPlanet_14 : decode cX4_claimPlanet 14 = .ok (.iload_n 1, 1) := by decide +kernel
theorem dX4_claimPlanet_15 : decode cX4_claimPlanet 15 = .ok (.iaload, 1) := by decide +kernel
theorem dX4_claimPlanet_16 : decode cX4_claimPlanet 16 = .ok (.ifCond .ne 7, 3) := by decide +kernel
theorem dX4_claimPlanet_19 : decode cX4_claimPlanet 19 = .ok (.iconst 1, 1) := by decide +kernel
theorem dX4_claimPlanet_20 : decode cX4_claimPlanet 20 = .ok (.goto 4, 3) := by decide +kernel
theorem dX4_claimPlanet_23 : decode cX4_claimPlanet 23 = .ok (.iconst 0, 1) := by decide +kernel
theorem dX4_claimPlanet_24 : decode cX4_claimPlanet 24 = .ok (.istore_n 3, 1) := by decide +kernel
theorem dX4_claimPlanet_25 : decode cX4_claimPlanet 25 = .ok (.aload_n 0, 1) := by decide +kernel
theorem dX4_claimPlanet_26 : decode cX4_claimPlanet 26 = .ok (.iload_n 2, 1) := by decide +kernel
theorem dX4_claimPlanet_27 : decode cX4_claimPlanet 27 = .ok (.ifCond .ne 7, 3) := by decide +kernel
theorem dX4_claimPlanet_30 : decode cX4_claimPlanet 30 = .ok (.iconst 1, 1) := by decide +kernel
theorem dX4_claimPlanet_31 : decode cX4_claimPlanet 31 = .ok (.goto 34, 3) := by decide +kernel
theorem dX4_claimPlanet_34 : decode cX4_claimPlanet 34 = .ok (.iload_n 3, 1) := by decide +kernel
theorem dX4_claimPlanet_35 : decode cX4_claimPlanet 35 = .ok (.ifCond .ne 7, 3) := by decide +kernel
theorem dX4_claimPlanet_38 : decode cX4_claimPlanet 38 = .ok (.iconst 2, 1) := by decide +kernel
theorem dX4_claimPlanet_39 : decode cX4_claimPlanet 39 = .ok (.goto 26, 3) := by decide +kernel
theorem dX4_claimPlanet_42 : decode cX4_claimPlanet 42 = .ok (.aload_n 0, 1) := by decide +kernel
theorem dX4_claimPlanet_43 : decode cX4_claimPlanet 43 = .ok (.getfield 108, 3) := by decide +kernel
theorem dX4_claimPlanet_46 : decode cX4_claimPlanet 46 = .ok (.bipush 40, 2) := by decide +kernel
theorem dX4_claimPlanet_48 : decode cX4_claimPlanet 48 = .ok (.if_icmp .ge 16, 3) := by decide +kernel
theorem dX4_claimPlanet_51 : decode cX4_claimPlanet 51 = .ok (.aload_n 0, 1) := by decide +kernel
theorem dX4_claimPlanet_52 : decode cX4_claimPlanet 52 = .ok (.getfield 91, 3) := by decide +kernel
theorem dX4_claimPlanet_55 : decode cX4_claimPlanet 55 = .ok (.iload_n 1, 1) := by decide +kernel
theorem dX4_claimPlanet_56 : decode cX4_claimPlanet 56 = .ok (.baload, 1) := by decide +kernel
theorem dX4_claimPlanet_57 : decode cX4_claimPlanet 57 = .ok (.ifCond .eq 7, 3) := by decide +kernel
theorem dX4_claimPlanet_60 : decode cX4_claimPlanet 60 = .ok (.iconst 0, 1) := by decide +kernel
theorem dX4_claimPlanet_61 : decode cX4_claimPlanet 61 = .ok (.goto 4, 3) := by decide +kernel
theorem dX4_claimPlanet_64 : decode cX4_claimPlanet 64 = .ok (.iconst 3, 1) := by decide +kernel
theorem dX4_claimPlanet_65 : decode cX4_claimPlanet 65 = .ok (.invokevirtual 114, 3) := by decide +kernel
theorem dX4_claimPlanet_68 : decode cX4_claimPlanet 68 = .ok (.ifCond .ne 5, 3) := by decide +kernel
theorem dX4_claimPlanet_71 : decode cX4_claimPlanet 71 = .ok (.iconst 0, 1) := by decide +kernel
theorem dX4_claimPlanet_72 : decode cX4_claimPlanet 72 = .ok (.ireturn, 1) := by decide +kernel
theorem dX4_claimPlanet_73 : decode cX4_claimPlanet 73 = .ok (.aload_n 0, 1) := by decide +kernel
theorem dX4_claimPlanet_74 : decode cX4_claimPlanet 74 = .ok (.iconst 2, 1) := by decide +kernel
theorem dX4_claimPlanet_75 : decode cX4_claimPlanet 75 = .ok (.aload_n 0, 1) := by decide +kernel
theorem dX4_claimPlanet_76 : decode cX4_claimPlanet 76 = .ok (.getfield 70, 3) := by decide +kernel
theorem dX4_claimPlanet_79 : decode cX4_claimPlanet 79 = .ok (.iload_n 1, 1) := by decide +kernel
theorem dX4_claimPlanet_80 : decode cX4_claimPlanet 80 = .ok (.iaload, 1) := by decide +kernel
theorem dX4_claimPlanet_81 : decode cX4_claimPlanet 81 = .ok (.aload_n 0, 1) := by decide +kernel
theorem dX4_claimPlanet_82 : decode cX4_claimPlanet 82 = .ok (.getfield 73, 3) := by decide +kernel
theorem dX4_claimPlanet_85 : decode cX4_claimPlanet 85 = .ok (.iload_n 1, 1) := by decide +kernel
theorem dX4_claimPlanet_86 : decode cX4_claimPlanet 86 = .ok (.iaload, 1) := by decide +kernel
theorem dX4_claimPlanet_87 : decode cX4_claimPlanet 87 = .ok (.invokevirtual 189, 3) := by decide +kernel
theorem dX4_claimPlanet_90 : decode cX4_claimPlanet 90 = .ok (.istore 4, 2) := by decide +kernel
theorem dX4_claimPlanet_92 : decode cX4_claimPlanet 92 = .ok (.aload_n 0, 1) := by decide +kernel
theorem dX4_claimPlanet_93 : decode cX4_claimPlanet 93 = .ok (.getfield 88, 3) := by decide +kernel
theorem dX4_claimPlanet_96 : decode cX4_claimPlanet 96 = .ok (.iload 4, 2) := by decide +kernel
theorem dX4_claimPlanet_98 : decode cX4_claimPlanet 98 = .ok (.lconst 1, 1) := by decide +kernel
theorem dX4_claimPlanet_99 : decode cX4_claimPlanet 99 = .ok (.iload_n 1, 1) := by decide +kernel
theorem dX4_claimPlanet_100 : decode cX4_claimPlanet 100 = .ok (.lshl, 1) := by decide +kernel
theorem dX4_claimPlanet_101 : decode cX4_claimPlanet 101 = .ok (.lastore, 1) := by decide +kernel
theorem dX4_claimPlanet_102 : decode cX4_claimPlanet 102 = .ok (.iload 4, 2) := by decide +kernel
theorem dX4_claimPlanet_104 : decode cX4_claimPlanet 104 = .ok (.ireturn, 1) := by decide +kernel
theorem dX4_citesOf_0 : decode cX4_citesOf 0 = .ok (.iconst 0, 1) := by decide +kernel
theorem dX4_citesOf_1 : decode cX4_citesOf 1 = .ok (.istore_n 2, 1) := by decide +kernel
theorem dX4_citesOf_2 : decode cX4_citesOf 2 = .ok (.iconst 0, 1) := by decide +kernel
theorem dX4_citesOf_3 : decode cX4_citesOf 3 = .ok (.istore_n 3, 1) := by decide +kernel
theorem dX4_citesOf_4 : decode cX4_citesOf 4 = .ok (.iload_n 3, 1) := by decide +kernel
theorem dX4_citesOf_5 : decode cX4_citesOf 5 = .ok (.aload_n 0, 1) := by decide +kernel
theorem dX4_citesOf_6 : decode cX4_citesOf 6 = .ok (.getfield 108, 3) := by decide +kernel
theorem dX4_citesOf_9 : decode cX4_citesOf 9 = .ok (.if_icmp .ge 32, 3) := by decide +kernel
theorem dX4_citesOf_12 : decode cX4_citesOf 12 = .ok (.iload_n 2, 1) := by decide +kernel
theorem dX4_citesOf_13 : decode cX4_citesOf 13 = .ok (.aload_n 0, 1) := by decide +kernel
theorem dX4_citesOf_14 : decode cX4_citesOf 14 = .ok (.getfield 88, 3) := by decide +kernel
theorem dX4_citesOf_17 : decode cX4_citesOf 17 = .ok (.iload_n 1, 1) := by decide +kernel
theorem dX4_citesOf_18 : decode cX4_citesOf 18 = .ok (.laload, 1) := by decide +kernel
theorem dX4_citesOf_19 : decode cX4_citesOf 19 = .ok (.iload_n 3, 1) := by decide +kernel
theorem dX4_citesOf_20 : decode cX4_citesOf 20 = .ok (.lshr, 1) := by decide +kernel
theorem dX4_citesOf_21 : decode cX4_citesOf 21 = .ok (.lconst 1, 1) := by decide +kernel
theorem dX4_citesOf_22 : decode cX4_citesOf 22 = .ok (.land, 1) := by decide +kernel
theorem dX4_citesOf_23 : decode cX4_citesOf 23 = .ok (.lconst 1, 1) := by decide +kernel
theorem dX4_citesOf_24 : decode cX4_citesOf 24 = .ok (.lcmp, 1) := by decide +kernel
theorem dX4_citesOf_25 : decode cX4_citesOf 25 = .ok (.ifCond .ne 7, 3) := by decide +kernel
theorem dX4_citesOf_28 : decode cX4_citesOf 28 = .ok (.iconst 1, 1) := by decide +kernel
theorem dX4_citesOf_29 : decode cX4_citesOf 29 = .ok (.goto 4, 3) := by decide +kernel
theorem dX4_citesOf_32 : decode cX4_citesOf 32 = .ok (.iconst 0, 1) := by decide +kernel
theorem dX4_citesOf_33 : decode cX4_citesOf 33 = .ok (.iadd, 1) := by decide +kernel
theorem dX4_citesOf_34 : decode cX4_citesOf 34 = .ok (.istore_n 2, 1) := by decide +kernel
theorem dX4_citesOf_35 : decode cX4_citesOf 35 = .ok (.iinc 3 1, 3) := by decide +kernel
theorem dX4_citesOf_38 : decode cX4_citesOf 38 = .ok (.goto (-34), 3) := by decide +kernel
theorem dX4_citesOf_41 : decode cX4_citesOf 41 = .ok (.iload_n 2, 1) := by decide +kernel
theorem dX4_citesOf_42 : decode cX4_citesOf 42 = .ok (.ireturn, 1) := by decide +kernel
theorem dX4_cite_0 : decode cX4_cite 0 = .ok (.aload_n 0, 1) := by decide +kernel
theorem dX4_cite_1 : decode cX4_cite 1 = .ok (.iload_n 1, 1) := by decide +kernel
theorem dX4_cite_2 : decode cX4_cite 2 = .ok (.invokevirtual 198, 3) := by decide +kernel
theorem dX4_cite_5 : decode cX4_cite 5 = .ok (.ifCond .eq 15, 3) := by decide +kernel
theorem dX4_cite_8 : decode cX4_cite 8 = .ok (.aload_n 0, 1) := by decide +kernel
theorem dX4_cite_9 : decode cX4_cite 9 = .ok (.iload_n 2, 1) := by decide +kernel
theorem dX4_cite_10 : decode cX4_cite 10 = .ok (.invokevirtual 198, 3) := by decide +kernel
theorem dX4_cite_13 : decode cX4_cite 13 = .ok (.ifCond .eq 7, 3) := by decide +kernel
theorem dX4_cite_16 : decode cX4_cite 16 = .ok (.iconst 1, 1) := by decide +kernel
theorem dX4_cite_17 : decode cX4_cite 17 = .ok (.goto 4, 3) := by decide +kernel
theorem dX4_cite_20 : decode cX4_cite 20 = .ok (.iconst 0, 1) := by decide +kernel
theorem dX4_cite_21 : decode cX4_cite 21 = .ok (.istore_n 3, 1) := by decide +kernel
theorem dX4_cite_22 : decode cX4_cite 22 = .ok (.iload_n 3, 1) := by decide +kernel
theorem dX4_cite_23 : decode cX4_cite 23 = .ok (.ifCond .eq 12, 3) := by decide +kernel
theorem dX4_cite_26 : decode cX4_cite 26 = .ok (.iload_n 2, 1) := by decide +kernel
theorem dX4_cite_27 : decode cX4_cite 27 = .ok (.iload_n 1, 1) := by decide +kernel
theorem dX4_cite_28 : decode cX4_cite 28 = .ok (.if_icmp .ge 7, 3) := by decide +kernel
theorem dX4_cite_31 : decode cX4_cite 31 = .ok (.iconst 1, 1) := by decide +kernel
theorem dX4_cite_32 : decode cX4_cite 32 = .ok (.goto 4, 3) := by decide +kernel
theorem dX4_cite_35 : decode cX4_cite 35 = .ok (.iconst 0, 1) := by decide +kernel
theorem dX4_cite_36 : decode cX4_cite 36 = .ok (.istore 4, 2) := by decide +kernel
theorem dX4_cite_38 : decode cX4_cite 38 = .ok (.iload 4, 2) := by decide +kernel
theorem dX4_cite_40 : decode cX4_cite 40 = .ok (.ifCond .eq 40, 3) := by decide +kernel
theorem dX4_cite_43 : decode cX4_cite 43 = .ok (.aload_n 0, 1) := by decide +kernel
theorem dX4_cite_44 : decode cX4_cite 44 = .ok (.getfield 91, 3) := by decide +kernel
theorem dX4_cite_47 : decode cX4_cite 47 = .ok (.iload_n 1, 1) := by decide +kernel
theorem dX4_cite_48 : decode cX4_cite 48 = .ok (.baload, 1) := by decide +kernel
theorem dX4_cite_49 : decode cX4_cite 49 = .ok (.ifCond .eq 31, 3) := by decide +kernel
theorem dX4_cite_52 : decode cX4_cite 52 = .ok (.aload_n 0, 1) := by decide +kernel
theorem dX4_cite_53 : decode cX4_cite 53 = .ok (.getfield 91, 3) := by decide +kernel
theorem dX4_cite_56 : decode cX4_cite 56 = .ok (.iload_n 2, 1) := by decide +kernel
theorem dX4_cite_57 : decode cX4_cite 57 = .ok (.baload, 1) := by decide +kernel
theorem dX4_cite_58 : decode cX4_cite 58 = .ok (.ifCond .eq 22, 3) := by decide +kernel
theorem dX4_cite_61 : decode cX4_cite 61 = .ok (.aload_n 0, 1) := by decide +kernel
theorem dX4_cite_62 : decode cX4_cite 62 = .ok (.getfield 88, 3) := by decide +kernel
theorem dX4_cite_65 : decode cX4_cite 65 = .ok (.iload_n 1, 1) := by decide +kernel
theorem dX4_cite_66 : decode cX4_cite 66 = .ok (.laload, 1) := by decide +kernel
theorem dX4_cite_67 : decode cX4_cite 67 = .ok (.iload_n 2, 1) := by decide +kernel
theorem dX4_cite_68 : decode cX4_cite 68 = .ok (.lshr, 1) := by decide +kernel
theorem dX4_cite_69 : decode cX4_cite 69 = .ok (.lconst 1, 1) := by decide +kernel
theorem dX4_cite_70 : decode cX4_cite 70 = .ok (.land, 1) := by decide +kernel
theorem dX4_cite_71 : decode cX4_cite 71 = .ok (.lconst 0, 1) := by decide +kernel
theorem dX4_cite_72 : decode cX4_cite 72 = .ok (.lcmp, 1) := by decide +kernel
theorem dX4_cite_73 : decode cX4_cite 73 = .ok (.ifCond .ne 7, 3) := by decide +kernel
theorem dX4_cite_76 : decode cX4_cite 76 = .ok (.iconst 1, 1) := by decide +kernel
theorem dX4_cite_77 : decode cX4_cite 77 = .ok (.goto 4, 3) := by decide +kernel
theorem dX4_cite_80 : decode cX4_cite 80 = .ok (.iconst 0, 1) := by decide +kernel
theorem dX4_cite_81 : decode cX4_cite 81 = .ok (.istore 5, 2) := by decide +kernel
theorem dX4_cite_83 : decode cX4_cite 83 = .ok (.aload_n 0, 1) := by decide +kernel
theorem dX4_cite_84 : decode cX4_cite 84 = .ok (.iload_n 3, 1) := by decide +kernel
theorem dX4_cite_85 : decode cX4_cite 85 = .ok (.ifCond .ne 7, 3) := by decide +kernel
theorem dX4_cite_88 : decode cX4_cite 88 = .ok (.iconst 1, 1) := by decide +kernel
theorem dX4_cite_89 : decode cX4_cite 89 = .ok (.goto 22, 3) := by decide +kernel
theorem dX4_cite_92 : decode cX4_cite 92 = .ok (.iload 4, 2) := by decide +kernel
theorem dX4_cite_94 : decode cX4_cite 94 = .ok (.ifCond .ne 7, 3) := by decide +kernel
theorem dX4_cite_97 : decode cX4_cite 97 = .ok (.iconst 2, 1) := by decide +kernel
theorem dX4_cite_98 : decode cX4_cite 98 = .ok (.goto 13, 3) := by decide +kernel
theorem dX4_cite_101 : decode cX4_cite 101 = .ok (.iload 5, 2) := by decide +kernel
theorem dX4_cite_103 : decode cX4_cite 103 = .ok (.ifCond .eq 7, 3) := by decide +kernel
theorem dX4_cite_106 : decode cX4_cite 106 = .ok (.iconst 0, 1) := by decide +kernel
theorem dX4_cite_107 : decode cX4_cite 107 = .ok (.goto 4, 3) := by decide +kernel
theorem dX4_cite_110 : decode cX4_cite 110 = .ok (.iconst 3, 1) := by decide +kernel
theorem dX4_cite_111 : decode cX4_cite 111 = .ok (.invokevirtual 114, 3) := by decide +kernel
theorem dX4_cite_114 : decode cX4_cite 114 = .ok (.ifCond .ne 5, 3) := by decide +kernel
theorem dX4_cite_117 : decode cX4_cite 117 = .ok (.iconst 0, 1) := by decide +kernel
theorem dX4_cite_118 : decode cX4_cite 118 = .ok (.ireturn, 1) := by decide +kernel
theorem dX4_cite_119 : decode cX4_cite 119 = .ok (.aload_n 0, 1) := by decide +kernel
theorem dX4_cite_120 : decode cX4_cite 120 = .ok (.getfield 88, 3) := by decide +kernel
theorem dX4_cite_123 : decode cX4_cite 123 = .ok (.iload_n 1, 1) := by decide +kernel
theorem dX4_cite_124 : decode cX4_cite 124 = .ok (.dup2, 1) := by decide +kernel
theorem dX4_cite_125 : decode cX4_cite 125 = .ok (.laload, 1) := by decide +kernel
theorem dX4_cite_126 : decode cX4_cite 126 = .ok (.lconst 1, 1) := by decide +kernel
theorem dX4_cite_127 : decode cX4_cite 127 = .ok (.iload_n 2, 1) := by decide +kernel
theorem dX4_cite_128 : decode cX4_cite 128 = .ok (.lshl, 1) := by decide +kernel
theorem dX4_cite_129 : decode cX4_cite 129 = .ok (.lor, 1) := by decide +kernel
theorem dX4_cite_130 : decode cX4_cite 130 = .ok (.lastore, 1) := by decide +kernel
theorem dX4_cite_131 : decode cX4_cite 131 = .ok (.aload_n 0, 1) := by decide +kernel
theorem dX4_cite_132 : decode cX4_cite 132 = .ok (.iload_n 1, 1) := by decide +kernel
theorem dX4_cite_133 : decode cX4_cite 133 = .ok (.invokevirtual 205, 3) := by decide +kernel
theorem dX4_cite_136 : decode cX4_cite 136 = .ok (.ireturn, 1) := by decide +kernel
theorem dX4_follows_0 : decode cX4_follows 0 = .ok (.iconst 0, 1) := by decide +kernel
theorem dX4_follows_1 : decode cX4_follows 1 = .ok (.istore_n 1, 1) := by decide +kernel
theorem dX4_follows_2 : decode cX4_follows 2 = .ok (.iconst 0, 1) := by decide +kernel
theorem dX4_follows_3 : decode cX4_follows 3 = .ok (.istore_n 2, 1) := by decide +kernel
theorem dX4_follows_4 : decode cX4_follows 4 = .ok (.iload_n 2, 1) := by decide +kernel
theorem dX4_follows_5 : decode cX4_follows 5 = .ok (.aload_n 0, 1) := by decide +kernel
theorem dX4_follows_6 : decode cX4_follows 6 = .ok (.getfield 108, 3) := by decide +kernel
theorem dX4_follows_9 : decode cX4_follows 9 = .ok (.if_icmp .ge 107, 3) := by decide +kernel
theorem dX4_follows_12 : decode cX4_follows 12 = .ok (.iconst 0, 1) := by decide +kernel
theorem dX4_follows_13 : decode cX4_follows 13 = .ok (.istore_n 3, 1) := by decide +kernel
theorem dX4_follows_14 : decode cX4_follows 14 = .ok (.iconst 0, 1) := by decide +kernel
theorem dX4_follows_15 : decode cX4_follows 15 = .ok (.istore 4, 2) := by decide +kernel
theorem dX4_follows_17 : decode cX4_follows 17 = .ok (.iload 4, 2) := by decide +kernel
theorem dX4_follows_19 : decode cX4_follows 19 = .ok (.iload_n 2, 1) := by decide +kernel
theorem dX4_follows_20 : decode cX4_follows 20 = .ok (.if_icmp .ge 45, 3) := by decide +kernel
theorem dX4_follows_23 : decode cX4_follows 23 = .ok (.iload_n 3, 1) := by decide +kernel
theorem dX4_follows_24 : decode cX4_follows 24 = .ok (.ifCond .ne 29, 3) := by decide +kernel
theorem dX4_follows_27 : decode cX4_follows 27 = .ok (.aload_n 0, 1) := by decide +kernel
theorem dX4_follows_28 : decode cX4_follows 28 = .ok (.getfield 88, 3) := by decide +kernel
theorem dX4_follows_31 : decode cX4_follows 31 = .ok (.iload_n 2, 1) := by decide +kernel
theorem dX4_follows_32 : decode cX4_follows 32 = .ok (.laload, 1) := by decide +kernel
theorem dX4_follows_33 : decode cX4_follows 33 = .ok (.iload 4, 2) := by decide +kernel
theorem dX4_follows_35 : decode cX4_follows 35 = .ok (.lshr, 1) := by decide +kernel
theorem dX4_follows_36 : decode cX4_follows 36 = .ok (.lconst 1, 1) := by decide +kernel
theorem dX4_follows_37 : decode cX4_follows 37 = .ok (.land, 1) := by decide +kernel
theorem dX4_follows_38 : decode cX4_follows 38 = .ok (.lconst 1, 1) := by decide +kernel
theorem dX4_follows_39 : decode cX4_follows 39 = .ok (.lcmp, 1) := by decide +kernel
theorem dX4_follows_40 : decode cX4_follows 40 = .ok (.ifCond .ne 17, 3) := by decide +kernel
theorem dX4_follows_43 : decode cX4_follows 43 = .ok (.aload_n 0, 1) := by decide +kernel
theorem dX4_follows_44 : decode cX4_follows 44 = .ok (.getfield 91, 3) := by decide +kernel
theorem dX4_follows_47 : decode cX4_follows 47 = .ok (.iload 4, 2) := by decide +kernel
theorem dX4_follows_49 : decode cX4_follows 49 = .ok (.baload, 1) := by decide +kernel
theorem dX4_follows_50 : decode cX4_follows 50 = .ok (.ifCond .ne 7, 3) := by decide +kernel
theorem dX4_follows_53 : decode cX4_follows 53 = .ok (.iconst 1, 1) := by decide +kernel
theorem dX4_follows_54 : decode cX4_follows 54 = .ok (.goto 4, 3) := by decide +kernel
theorem dX4_follows_57 : decode cX4_follows 57 = .ok (.iconst 0, 1) := by decide +kernel
theorem dX4_follows_58 : decode cX4_follows 58 = .ok (.istore_n 3, 1) := by decide +kernel
theorem dX4_follows_59 : decode cX4_follows 59 = .ok (.iinc 4 1, 3) := by decide +kernel
theorem dX4_follows_62 : decode cX4_follows 62 = .ok (.goto (-45), 3) := by decide +kernel
theorem dX4_follows_65 : decode cX4_follows 65 = .ok (.iload_n 1, 1) := by decide +kernel
theorem dX4_follows_66 : decode cX4_follows 66 = .ok (.iload_n 3, 1) := by decide +kernel
theorem dX4_follows_67 : decode cX4_follows 67 = .ok (.ifCond .eq 16, 3) := by decide +kernel
theorem dX4_follows_70 : decode cX4_follows 70 = .ok (.aload_n 0, 1) := by decide +kernel
theorem dX4_follows_71 : decode cX4_follows 71 = .ok (.getfield 91, 3) := by decide +kernel
theorem dX4_follows_74 : decode cX4_follows 74 = .ok (.iload_n 2, 1) := by decide +kernel
theorem dX4_follows_75 : decode cX4_follows 75 = .ok (.baload, 1) := by decide +kernel
theorem dX4_follows_76 : decode cX4_follows 76 = .ok (.ifCond .eq 7, 3) := by decide +kernel
theorem dX4_follows_79 : decode cX4_follows 79 = .ok (.iconst 1, 1) := by decide +kernel
theorem dX4_follows_80 : decode cX4_follows 80 = .ok (.goto 4, 3) := by decide +kernel
theorem dX4_follows_83 : decode cX4_follows 83 = .ok (.iconst 0, 1) := by decide +kernel
theorem dX4_follows_84 : decode cX4_follows 84 = .ok (.iadd, 1) := by decide +kernel
theorem dX4_follows_85 : decode cX4_follows 85 = .ok (.istore_n 1, 1) := by decide +kernel
theorem dX4_follows_86 : decode cX4_follows 86 = .ok (.aload_n 0, 1) := by decide +kernel
theorem dX4_follows_87 : decode cX4_follows 87 = .ok (.getfield 91, 3) := by decide +kernel
theorem dX4_follows_90 : decode cX4_follows 90 = .ok (.iload_n 2, 1) := by decide +kernel
theorem dX4_follows_91 : decode cX4_follows 91 = .ok (.aload_n 0, 1) := by decide +kernel
theorem dX4_follows_92 : decode cX4_follows 92 = .ok (.getfield 91, 3) := by decide +kernel
theorem dX4_follows_95 : decode cX4_follows 95 = .ok (.iload_n 2, 1) := by decide +kernel
theorem dX4_follows_96 : decode cX4_follows 96 = .ok (.baload, 1) := by decide +kernel
theorem dX4_follows_97 : decode cX4_follows 97 = .ok (.ifCond .eq 11, 3) := by decide +kernel
theorem dX4_follows_100 : decode cX4_follows 100 = .ok (.iload_n 3, 1) := by decide +kernel
theorem dX4_follows_101 : decode cX4_follows 101 = .ok (.ifCond .ne 7, 3) := by decide +kernel
theorem dX4_follows_104 : decode cX4_follows 104 = .ok (.iconst 1, 1) := by decide +kernel
theorem dX4_follows_105 : decode cX4_follows 105 = .ok (.goto 4, 3) := by decide +kernel
theorem dX4_follows_108 : decode cX4_follows 108 = .ok (.iconst 0, 1) := by decide +kernel
theorem dX4_follows_109 : decode cX4_follows 109 = .ok (.bastore, 1) := by decide +kernel
theorem dX4_follows_110 : decode cX4_follows 110 = .ok (.iinc 2 1, 3) := by decide +kernel
theorem dX4_follows_113 : decode cX4_follows 113 = .ok (.goto (-109), 3) := by decide +kernel
theorem dX4_follows_116 : decode cX4_follows 116 = .ok (.iload_n 1, 1) := by decide +kernel
theorem dX4_follows_117 : decode cX4_follows 117 = .ok (.ireturn, 1) := by decide +kernel
theorem dX4_withdraw_0 : decode cX4_withdraw 0 = .ok (.aload_n 0, 1) := by decide +kernel
theorem dX4_withdraw_1 : decode cX4_withdraw 1 = .ok (.iload_n 1, 1) := by decide +kernel
theorem dX4_withdraw_2 : decode cX4_withdraw 2 = .ok (.invokevirtual 198, 3) := by decide +kernel
theorem dX4_withdraw_5 : decode cX4_withdraw 5 = .ok (.istore_n 2, 1) := by decide +kernel
theorem dX4_withdraw_6 : decode cX4_withdraw 6 = .ok (.aload_n 0, 1) := by decide +kernel
theorem dX4_withdraw_7 : decode cX4_withdraw 7 = .ok (.iload_n 2, 1) := by decide +kernel
theorem dX4_withdraw_8 : decode cX4_withdraw 8 = .ok (.ifCond .ne 7, 3) := by decide +kernel
theorem dX4_withdraw_11 : decode cX4_withdraw 11 = .ok (.iconst 1, 1) := by decide +kernel
theorem dX4_withdraw_12 : decode cX4_withdraw 12 = .ok (.goto 17, 3) := by decide +kernel
theorem dX4_withdraw_15 : decode cX4_withdraw 15 = .ok (.aload_n 0, 1) := by decide +kernel
theorem dX4_withdraw_16 : decode cX4_withdraw 16 = .ok (.getfield 91, 3) := by decide +kernel
theorem dX4_withdraw_19 : decode cX4_withdraw 19 = .ok (.iload_n 1, 1) := by decide +kernel
theorem dX4_withdraw_20 : decode cX4_withdraw 20 = .ok (.baload, 1) := by decide +kernel
theorem dX4_withdraw_21 : decode cX4_withdraw 21 = .ok (.ifCond .eq 7, 3) := by decide +kernel
theorem dX4_withdraw_24 : decode cX4_withdraw 24 = .ok (.iconst 0, 1) := by decide +kernel
theorem dX4_withdraw_25 : decode cX4_withdraw 25 = .ok (.goto 4, 3) := by decide +kernel
theorem dX4_withdraw_28 : decode cX4_withdraw 28 = .ok (.iconst 2, 1) := by decide +kernel
theorem dX4_withdraw_29 : decode cX4_withdraw 29 = .ok (.invokevirtual 114, 3) := by decide +kernel
theorem dX4_withdraw_32 : decode cX4_withdraw 32 = .ok (.ifCond .ne 5, 3) := by decide +kernel
theorem dX4_withdraw_35 : decode cX4_withdraw 35 = .ok (.iconst 0, 1) := by decide +kernel
theorem dX4_withdraw_36 : decode cX4_withdraw 36 = .ok (.ireturn, 1) := by decide +kernel
theorem dX4_withdraw_37 : decode cX4_withdraw 37 = .ok (.aload_n 0, 1) := by decide +kernel
theorem dX4_withdraw_38 : decode cX4_withdraw 38 = .ok (.getfield 91, 3) := by decide +kernel
theorem dX4_withdraw_41 : decode cX4_withdraw 41 = .ok (.iload_n 1, 1) := by decide +kernel
theorem dX4_withdraw_42 : decode cX4_withdraw 42 = .ok (.iconst 0, 1) := by decide +kernel
theorem dX4_withdraw_43 : decode cX4_withdraw 43 = .ok (.bastore, 1) := by decide +kernel
theorem dX4_withdraw_44 : decode cX4_withdraw 44 = .ok (.iconst 1, 1) := by decide +kernel
theorem dX4_withdraw_45 : decode cX4_withdraw 45 = .ok (.aload_n 0, 1) := by decide +kernel
theorem dX4_withdraw_46 : decode cX4_withdraw 46 = .ok (.invokevirtual 208, 3) := by decide +kernel
theorem dX4_withdraw_49 : decode cX4_withdraw 49 = .ok (.iadd, 1) := by decide +kernel
theorem dX4_withdraw_50 : decode cX4_withdraw 50 = .ok (.ireturn, 1) := by decide +kernel
theorem dX4_replays_0 : decode cX4_replays 0 = .ok (.aload_n 0, 1) := by decide +kernel
theorem dX4_replays_1 : decode cX4_replays 1 = .ok (.getfield 70, 3) := by decide +kernel
theorem dX4_replays_4 : decode cX4_replays 4 = .ok (.iload_n 1, 1) := by decide +kernel
theorem dX4_replays_5 : decode cX4_replays 5 = .ok (.iaload, 1) := by decide +kernel
theorem dX4_replays_6 : decode cX4_replays 6 = .ok (.istore_n 2, 1) := by decide +kernel
theorem dX4_replays_7 : decode cX4_replays 7 = .ok (.aload_n 0, 1) := by decide +kernel
theorem dX4_replays_8 : decode cX4_replays 8 = .ok (.iload_n 2, 1) := by decide +kernel
theorem dX4_replays_9 : decode cX4_replays 9 = .ok (.aload_n 0, 1) := by decide +kernel
theorem dX4_replays_10 : decode cX4_replays 10 = .ok (.getfield 76, 3) := by decide +kernel
theorem dX4_replays_13 : decode cX4_replays 13 = .ok (.iload_n 1, 1) := by decide +kernel
theorem dX4_replays_14 : decode cX4_replays 14 = .ok (.iaload, 1) := by decide +kernel
theorem dX4_replays_15 : decode cX4_replays 15 = .ok (.aload_n 0, 1) := by decide +kernel
theorem dX4_replays_16 : decode cX4_replays 16 = .ok (.getfield 79, 3) := by decide +kernel
theorem dX4_replays_19 : decode cX4_replays 19 = .ok (.iload_n 1, 1) := by decide +kernel
theorem dX4_replays_20 : decode cX4_replays 20 = .ok (.iaload, 1) := by decide +kernel
theorem dX4_replays_21 : decode cX4_replays 21 = .ok (.aload_n 0, 1) := by decide +kernel
theorem dX4_replays_22 : decode cX4_replays 22 = .ok (.getfield 51, 3) := by decide +kernel
theorem dX4_replays_25 : decode cX4_replays 25 = .ok (.iload_n 2, 1) := by decide +kernel
theorem dX4_replays_26 : decode cX4_replays 26 = .ok (.iaload, 1) := by decide +kernel
theorem dX4_replays_27 : decode cX4_replays 27 = .ok (.if_icmp .ge 12, 3) := by decide +kernel
theorem dX4_replays_30 : decode cX4_replays 30 = .ok (.aload_n 0, 1) := by decide +kernel
theorem dX4_replays_31 : decode cX4_replays 31 = .ok (.getfield 79, 3) := by decide +kernel
theorem dX4_replays_34 : decode cX4_replays 34 = .ok (.iload_n 1, 1) := by decide +kernel
theorem dX4_replays_35 : decode cX4_replays 35 = .ok (.iaload, 1) := by decide +kernel
theorem dX4_replays_36 : decode cX4_replays 36 = .ok (.goto 9, 3) := by decide +kernel
theorem dX4_replays_39 : decode cX4_replays 39 = .ok (.aload_n 0, 1) := by decide +kernel
theorem dX4_replays_40 : decode cX4_replays 40 = .ok (.getfield 51, 3) := by decide +kernel
theorem dX4_replays_43 : decode cX4_replays 43 = .ok (.iload_n 2, 1) := by decide +kernel
theorem dX4_replays_44 : decode cX4_replays 44 = .ok (.iaload, 1) := by decide +kernel
theorem dX4_replays_45 : decode cX4_replays 45 = .ok (.invokevirtual 166, 3) := by decide +kernel
theorem dX4_replays_48 : decode cX4_replays 48 = .ok (.aload_n 0, 1) := by decide +kernel
theorem dX4_replays_49 : decode cX4_replays 49 = .ok (.aload_n 0, 1) := by decide +kernel
theorem dX4_replays_50 : decode cX4_replays 50 = .ok (.getfield 73, 3) := by decide +kernel
theorem dX4_replays_53 : decode cX4_replays 53 = .ok (.iload_n 1, 1) := by decide +kernel
theorem dX4_replays_54 : decode cX4_replays 54 = .ok (.iaload, 1) := by decide +kernel
theorem dX4_replays_55 : decode cX4_replays 55 = .ok (.invokevirtual 173, 3) := by decide +kernel
theorem dX4_replays_58 : decode cX4_replays 58 = .ok (.aload_n 0, 1) := by decide +kernel
theorem dX4_replays_59 : decode cX4_replays 59 = .ok (.getfield 82, 3) := by decide +kernel
theorem dX4_replays_62 : decode cX4_replays 62 = .ok (.iload_n 1, 1) := by decide +kernel
theorem dX4_replays_63 : decode cX4_replays 63 = .ok (.laload, 1) := by decide +kernel
theorem dX4_replays_64 : decode cX4_replays 64 = .ok (.lcmp, 1) := by decide +kernel
theorem dX4_replays_65 : decode cX4_replays 65 = .ok (.ifCond .ne 7, 3) := by decide +kernel
theorem dX4_replays_68 : decode cX4_replays 68 = .ok (.iconst 1, 1) := by decide +kernel
theorem dX4_replays_69 : decode cX4_replays 69 = .ok (.goto 4, 3) := by decide +kernel
theorem dX4_replays_72 : decode cX4_replays 72 = .ok (.iconst 0, 1) := by decide +kernel
theorem dX4_replays_73 : decode cX4_replays 73 = .ok (.ireturn, 1) := by decide +kernel
theorem dX4_isTone_0 : decode cX4_isTone 0 = .ok (.iconst 0, 1) := by decide +kernel
theorem dX4_isTone_1 : decode cX4_isTone 1 = .ok (.istore_n 3, 1) := by decide +kernel
theorem dX4_isTone_2 : decode cX4_isTone 2 = .ok (.iconst 1, 1) := by decide +kernel
theorem dX4_isTone_3 : decode cX4_isTone 3 = .ok (.istore 4, 2) := by decide +kernel
theorem dX4_isTone_5 : decode cX4_isTone 5 = .ok (.iload 4, 2) := by decide +kernel
theorem dX4_isTone_7 : decode cX4_isTone 7 = .ok (.bipush 12, 2) := by decide +kernel
theorem dX4_isTone_9 : decode cX4_isTone 9 = .ok (.if_icmp .gt 57, 3) := by decide +kernel
theorem dX4_isTone_12 : decode cX4_isTone 12 = .ok (.iconst 0, 1) := by decide +kernel
theorem dX4_isTone_13 : decode cX4_isTone 13 = .ok (.istore 5, 2) := by decide +kernel
theorem dX4_isTone_15 : decode cX4_isTone 15 = .ok (.iload 5, 2) := by decide +kernel
theorem dX4_isTone_17 : decode cX4_isTone 17 = .ok (.iconst 3, 1) := by decide +kernel
theorem dX4_isTone_18 : decode cX4_isTone 18 = .ok (.if_icmp .ge 42, 3) := by decide +kernel
theorem dX4_isTone_21 : decode cX4_isTone 21 = .ok (.iload_n 3, 1) := by decide +kernel
theorem dX4_isTone_22 : decode cX4_isTone 22 = .ok (.ifCond .ne 26, 3) := by decide +kernel
theorem dX4_isTone_25 : decode cX4_isTone 25 = .ok (.aload_n 0, 1) := by decide +kernel
theorem dX4_isTone_26 : decode cX4_isTone 26 = .ok (.iload_n 1, 1) := by decide +kernel
theorem dX4_isTone_27 : decode cX4_isTone 27 = .ok (.iload 4, 2) := by decide +kernel
theorem dX4_isTone_29 : decode cX4_isTone 29 = .ok (.iload 5, 2) := by decide +kernel
theorem dX4_isTone_31 : decode cX4_isTone 31 = .ok (.iconst 0, 1) := by decide +kernel
theorem dX4_isTone_32 : decode cX4_isTone 32 = .ok (.invokevirtual 122, 3) := by decide +kernel
theorem dX4_isTone_35 : decode cX4_isTone 35 = .ok (.iload_n 2, 1) := by decide +kernel
theorem dX4_isTone_36 : decode cX4_isTone 36 = .ok (.isub, 1) := by decide +kernel
theorem dX4_isTone_37 : decode cX4_isTone 37 = .ok (.i2l, 1) := by decide +kernel
theorem dX4_isTone_38 : decode cX4_isTone 38 = .ok (.invokestatic 194, 3) := by decide +kernel
theorem dX4_isTone_41 : decode cX4_isTone 41 = .ok (.ldc2_w 212, 3) := by decide +kernel
theorem dX4_isTone_44 : decode cX4_isTone 44 = .ok (.lcmp, 1) := by decide +kernel
theorem dX4_isTone_45 : decode cX4_isTone 45 = .ok (.ifCond .ge 7, 3) := by decide +kernel
theorem dX4_isTone_48 : decode cX4_isTone 48 = .ok (.iconst 1, 1) := by decide +kernel
theorem dX4_isTone_49 : decode cX4_isTone 49 = .ok (.goto 4, 3) := by decide +kernel
theorem dX4_isTone_52 : decode cX4_isTone 52 = .ok (.iconst 0, 1) := by decide +kernel
theorem dX4_isTone_53 : decode cX4_isTone 53 = .ok (.istore_n 3, 1) := by decide +kernel
theorem dX4_isTone_54 : decode cX4_isTone 54 = .ok (.iinc 5 1, 3) := by decide +kernel
theorem dX4_isTone_57 : decode cX4_isTone 57 = .ok (.goto (-42), 3) := by decide +kernel
theorem dX4_isTone_60 : decode cX4_isTone 60 = .ok (.iinc 4 1, 3) := by decide +kernel
theorem dX4_isTone_63 : decode cX4_isTone 63 = .ok (.goto (-58), 3) := by decide +kernel
theorem dX4_isTone_66 : decode cX4_isTone 66 = .ok (.iload_n 3, 1) := by decide +kernel
theorem dX4_isTone_67 : decode cX4_isTone 67 = .ok (.ireturn, 1) := by decide +kernel
theorem dX4_sound_0 : decode cX4_sound 0 = .ok (.aload_n 0, 1) := by decide +kernel
theorem dX4_sound_1 : decode cX4_sound 1 = .ok (.getfield 67, 3) := by decide +kernel
theorem dX4_sound_4 : decode cX4_sound 4 = .ok (.iload_n 1, 1) := by decide +kernel
theorem dX4_sound_5 : decode cX4_sound 5 = .ok (.iaload, 1) := by decide +kernel
theorem dX4_sound_6 : decode cX4_sound 6 = .ok (.ifCond .ne 11, 3) := by decide +kernel
theorem dX4_sound_9 : decode cX4_sound 9 = .ok (.aload_n 0, 1) := by decide +kernel
theorem dX4_sound_10 : decode cX4_sound 10 = .ok (.iload_n 1, 1) := by decide +kernel
theorem dX4_sound_11 : decode cX4_sound 11 = .ok (.invokevirtual 214, 3) := by decide +kernel
theorem dX4_sound_14 : decode cX4_sound 14 = .ok (.goto 40, 3) := by decide +kernel
theorem dX4_sound_17 : decode cX4_sound 17 = .ok (.aload_n 0, 1) := by decide +kernel
theorem dX4_sound_18 : decode cX4_sound 18 = .ok (.getfield 67, 3) := by decide +kernel
theorem dX4_sound_21 : decode cX4_sound 21 = .ok (.iload_n 1, 1) := by decide +kernel
theorem dX4_sound_22 : decode cX4_sound 22 = .ok (.iaload, 1) := by decide +kernel
theorem dX4_sound_23 : decode cX4_sound 23 = .ok (.iconst 1, 1) := by decide +kernel
theorem dX4_sound_24 : decode cX4_sound 24 = .ok (.if_icmp .eq 25, 3) := by decide +kernel
theorem dX4_sound_27 : decode cX4_sound 27 = .ok (.aload_n 0, 1) := by decide +kernel
theorem dX4_sound_28 : decode cX4_sound 28 = .ok (.aload_n 0, 1) := by decide +kernel
theorem dX4_sound_29 : decode cX4_sound 29 = .ok (.getfield 70, 3) := by decide +kernel
theorem dX4_sound_32 : decode cX4_sound 32 = .ok (.iload_n 1, 1) := by decide +kernel
theorem dX4_sound_33 : decode cX4_sound 33 = .ok (.iaload, 1) := by decide +kernel
theorem dX4_sound_34 : decode cX4_sound 34 = .ok (.ldc 193, 2) := by decide +kernel
theorem dX4_sound_36 : decode cX4_sound 36 = .ok (.aload_n 0, 1) := by decide +kernel
theorem dX4_sound_37 : decode cX4_sound 37 = .ok (.getfield 73, 3) := by decide +kernel
theorem dX4_sound_40 : decode cX4_sound 40 = .ok (.iload_n 1, 1) := by decide +kernel
theorem dX4_sound_41 : decode cX4_sound 41 = .ok (.iaload, 1) := by decide +kernel
theorem dX4_sound_42 : decode cX4_sound 42 = .ok (.imul, 1) := by decide +kernel
theorem dX4_sound_43 : decode cX4_sound 43 = .ok (.invokevirtual 217, 3) := by decide +kernel
theorem dX4_sound_46 : decode cX4_sound 46 = .ok (.ifCond .ne 7, 3) := by decide +kernel
theorem dX4_sound_49 : decode cX4_sound 49 = .ok (.iconst 1, 1) := by decide +kernel
theorem dX4_sound_50 : decode cX4_sound 50 = .ok (.goto 4, 3) := by decide +kernel
theorem dX4_sound_53 : decode cX4_sound 53 = .ok (.iconst 0, 1) := by decide +kernel
theorem dX4_sound_54 : decode cX4_sound 54 = .ok (.ireturn, 1) := by decide +kernel
theorem dX4_audit_0 : decode cX4_audit 0 = .ok (.aload_n 0, 1) := by decide +kernel
theorem dX4_audit_1 : decode cX4_audit 1 = .ok (.iconst 0, 1) := by decide +kernel
theorem dX4_audit_2 : decode cX4_audit 2 = .ok (.putfield 98, 3) := by decide +kernel
theorem dX4_audit_5 : decode cX4_audit 5 = .ok (.iconst 0, 1) := by decide +kernel
theorem dX4_audit_6 : decode cX4_audit 6 = .ok (.istore_n 1, 1) := by decide +kernel
theorem dX4_audit_7 : decode cX4_audit 7 = .ok (.iconst 0, 1) := by decide +kernel
theorem dX4_audit_8 : decode cX4_audit 8 = .ok (.istore_n 2, 1) := by decide +kernel
theorem dX4_audit_9 : decode cX4_audit 9 = .ok (.iload_n 2, 1) := by decide +kernel
theorem dX4_audit_10 : decode cX4_audit 10 = .ok (.aload_n 0, 1) := by decide +kernel
theorem dX4_audit_11 : decode cX4_audit 11 = .ok (.getfield 108, 3) := by decide +kernel
theorem dX4_audit_14 : decode cX4_audit 14 = .ok (.if_icmp .ge 68, 3) := by decide +kernel
theorem dX4_audit_17 : decode cX4_audit 17 = .ok (.aload_n 0, 1) := by decide +kernel
theorem dX4_audit_18 : decode cX4_audit 18 = .ok (.getfield 91, 3) := by decide +kernel
theorem dX4_audit_21 : decode cX4_audit 21 = .ok (.iload_n 2, 1) := by decide +kernel
theorem dX4_audit_22 : decode cX4_audit 22 = .ok (.baload, 1) := by decide +kernel
theorem dX4_audit_23 : decode cX4_audit 23 = .ok (.ifCond .eq 15, 3) := by decide +kernel
theorem dX4_audit_26 : decode cX4_audit 26 = .ok (.aload_n 0, 1) := by decide +kernel
theorem dX4_audit_27 : decode cX4_audit 27 = .ok (.iload_n 2, 1) := by decide +kernel
theorem dX4_audit_28 : decode cX4_audit 28 = .ok (.invokevirtual 221, 3) := by decide +kernel
theorem dX4_audit_31 : decode cX4_audit 31 = .ok (.ifCond .ne 7, 3) := by decide +kernel
theorem dX4_audit_34 : decode cX4_audit 34 = .ok (.iconst 1, 1) := by decide +kernel
theorem dX4_audit_35 : decode cX4_audit 35 = .ok (.goto 4, 3) := by decide +kernel
theorem dX4_audit_38 : decode cX4_audit 38 = .ok (.iconst 0, 1) := by decide +kernel
theorem dX4_audit_39 : decode cX4_audit 39 = .ok (.istore_n 3, 1) := by decide +kernel
theorem dX4_audit_40 : decode cX4_audit 40 = .ok (.iload_n 1, 1) := by decide +kernel
theorem dX4_audit_41 : decode cX4_audit 41 = .ok (.iload_n 3, 1) := by decide +kernel
theorem dX4_audit_42 : decode cX4_audit 42 = .ok (.ifCond .eq 7, 3) := by decide +kernel
theorem dX4_audit_45 : decode cX4_audit 45 = .ok (.iconst 1, 1) := by decide +kernel
theorem dX4_audit_46 : decode cX4_audit 46 = .ok (.goto 4, 3) := by decide +kernel
theorem dX4_audit_49 : decode cX4_audit 49 = .ok (.iconst 0, 1) := by decide +kernel
theorem dX4_audit_50 : decode cX4_audit 50 = .ok (.iadd, 1) := by decide +kernel
theorem dX4_audit_51 : decode cX4_audit 51 = .ok (.istore_n 1, 1) := by decide +kernel
theorem dX4_audit_52 : decode cX4_audit 52 = .ok (.aload_n 0, 1) := by decide +kernel
theorem dX4_audit_53 : decode cX4_audit 53 = .ok (.getfield 91, 3) := by decide +kernel
theorem dX4_audit_56 : decode cX4_audit 56 = .ok (.iload_n 2, 1) := by decide +kernel
theorem dX4_audit_57 : decode cX4_audit 57 = .ok (.aload_n 0, 1) := by decide +kernel
theorem dX4_audit_58 : decode cX4_audit 58 = .ok (.getfield 91, 3) := by decide +kernel
theorem dX4_audit_61 : decode cX4_audit 61 = .ok (.iload_n 2, 1) := by decide +kernel
theorem dX4_audit_62 : decode cX4_audit 62 = .ok (.baload, 1) := by decide +kernel
theorem dX4_audit_63 : decode cX4_audit 63 = .ok (.ifCond .eq 11, 3) := by decide +kernel
theorem dX4_audit_66 : decode cX4_audit 66 = .ok (.iload_n 3, 1) := by decide +kernel
theorem dX4_audit_67 : decode cX4_audit 67 = .ok (.ifCond .ne 7, 3) := by decide +kernel
theorem dX4_audit_70 : decode cX4_audit 70 = .ok (.iconst 1, 1) := by decide +kernel
theorem dX4_audit_71 : decode cX4_audit 71 = .ok (.goto 4, 3) := by decide +kernel
theorem dX4_audit_74 : decode cX4_audit 74 = .ok (.iconst 0, 1) := by decide +kernel
theorem dX4_audit_75 : decode cX4_audit 75 = .ok (.bastore, 1) := by decide +kernel
theorem dX4_audit_76 : decode cX4_audit 76 = .ok (.iinc 2 1, 3) := by decide +kernel
theorem dX4_audit_79 : decode cX4_audit 79 = .ok (.goto (-70), 3) := by decide +kernel
theorem dX4_audit_82 : decode cX4_audit 82 = .ok (.iload_n 1, 1) := by decide +kernel
theorem dX4_audit_83 : decode cX4_audit 83 = .ok (.aload_n 0, 1) := by decide +kernel
theorem dX4_audit_84 : decode cX4_audit 84 = .ok (.invokevirtual 208, 3) := by decide +kernel
theorem dX4_audit_87 : decode cX4_audit 87 = .ok (.iadd, 1) := by decide +kernel
theorem dX4_audit_88 : decode cX4_audit 88 = .ok (.ireturn, 1) := by decide +kernel
theorem dX4_ofClaim_0 : decode cX4_ofClaim 0 = .ok (.aload_n 0, 1) := by decide +kernel
theorem dX4_ofClaim_1 : decode cX4_ofClaim 1 = .ok (.aload_n 0, 1) := by decide +kernel
theorem dX4_ofClaim_2 : decode cX4_ofClaim 2 = .ok (.iload_n 1, 1) := by decide +kernel
theorem dX4_ofClaim_3 : decode cX4_ofClaim 3 = .ok (.invokevirtual 198, 3) := by decide +kernel
theorem dX4_ofClaim_6 : decode cX4_ofClaim 6 = .ok (.ifCond .ne 7, 3) := by decide +kernel
theorem dX4_ofClaim_9 : decode cX4_ofClaim 9 = .ok (.iconst 1, 1) := by decide +kernel
theorem dX4_ofClaim_10 : decode cX4_ofClaim 10 = .ok (.goto 17, 3) := by decide +kernel
theorem dX4_ofClaim_13 : decode cX4_ofClaim 13 = .ok (.iload_n 2, 1) := by decide +kernel
theorem dX4_ofClaim_14 : decode cX4_ofClaim 14 = .ok (.iconst 0, 1) := by decide +kernel
theorem dX4_ofClaim_15 : decode cX4_ofClaim 15 = .ok (.iconst 5, 1) := by decide +kernel
theorem dX4_ofClaim_16 : decode cX4_ofClaim 16 = .ok (.invokestatic 104, 3) := by decide +kernel
theorem dX4_ofClaim_19 : decode cX4_ofClaim 19 = .ok (.ifCond .eq 7, 3) := by decide +kernel
theorem dX4_ofClaim_22 : decode cX4_ofClaim 22 = .ok (.iconst 0, 1) := by decide +kernel
theorem dX4_ofClaim_23 : decode cX4_ofClaim 23 = .ok (.goto 4, 3) := by decide +kernel
theorem dX4_ofClaim_26 : decode cX4_ofClaim 26 = .ok (.iconst 2, 1) := by decide +kernel
theorem dX4_ofClaim_27 : decode cX4_ofClaim 27 = .ok (.invokevirtual 114, 3) := by decide +kernel
theorem dX4_ofClaim_30 : decode cX4_ofClaim 30 = .ok (.ifCond .ne 5, 3) := by decide +kernel
theorem dX4_ofClaim_33 : decode cX4_ofClaim 33 = .ok (.iconst 0, 1) := by decide +kernel
theorem dX4_ofClaim_34 : decode cX4_ofClaim 34 = .ok (.ireturn, 1) := by decide +kernel
theorem dX4_ofClaim_35 : decode cX4_ofClaim 35 = .ok (.iload_n 2, 1) := by decide +kernel
theorem dX4_ofClaim_36 : decode cX4_ofClaim 36 = .ok (.tableswitch 79 0 4 #[36, 43, 50, 57, 64], 36) := by decide +kernel
theorem dX4_ofClaim_72 : decode cX4_ofClaim 72 = .ok (.aload_n 0, 1) := by decide +kernel
theorem dX4_ofClaim_73 : decode cX4_ofClaim 73 = .ok (.getfield 67, 3) := by decide +kernel
theorem dX4_ofClaim_76 : decode cX4_ofClaim 76 = .ok (.iload_n 1, 1) := by decide +kernel
theorem dX4_ofClaim_77 : decode cX4_ofClaim 77 = .ok (.iaload, 1) := by decide +kernel
theorem dX4_ofClaim_78 : decode cX4_ofClaim 78 = .ok (.ireturn, 1) := by decide +kernel
theorem dX4_ofClaim_79 : decode cX4_ofClaim 79 = .ok (.aload_n 0, 1) := by decide +kernel
theorem dX4_ofClaim_80 : decode cX4_ofClaim 80 = .ok (.getfield 70, 3) := by decide +kernel
theorem dX4_ofClaim_83 : decode cX4_ofClaim 83 = .ok (.iload_n 1, 1) := by decide +kernel
theorem dX4_ofClaim_84 : decode cX4_ofClaim 84 = .ok (.iaload, 1) := by decide +kernel
theorem dX4_ofClaim_85 : decode cX4_ofClaim 85 = .ok (.ireturn, 1) := by decide +kernel
theorem dX4_ofClaim_86 : decode cX4_ofClaim 86 = .ok (.aload_n 0, 1) := by decide +kernel
theorem dX4_ofClaim_87 : decode cX4_ofClaim 87 = .ok (.getfield 73, 3) := by decide +kernel
theorem dX4_ofClaim_90 : decode cX4_ofClaim 90 = .ok (.iload_n 1, 1) := by decide +kernel
theorem dX4_ofClaim_91 : decode cX4_ofClaim 91 = .ok (.iaload, 1) := by decide +kernel
theorem dX4_ofClaim_92 : decode cX4_ofClaim 92 = .ok (.ireturn, 1) := by decide +kernel
theorem dX4_ofClaim_93 : decode cX4_ofClaim 93 = .ok (.aload_n 0, 1) := by decide +kernel
theorem dX4_ofClaim_94 : decode cX4_ofClaim 94 = .ok (.getfield 85, 3) := by decide +kernel
theorem dX4_ofClaim_97 : decode cX4_ofClaim 97 = .ok (.iload_n 1, 1) := by decide +kernel
theorem dX4_ofClaim_98 : decode cX4_ofClaim 98 = .ok (.iaload, 1) := by decide +kernel
theorem dX4_ofClaim_99 : decode cX4_ofClaim 99 = .ok (.ireturn, 1) := by decide +kernel
theorem dX4_ofClaim_100 : decode cX4_ofClaim 100 = .ok (.aload_n 0, 1) := by decide +kernel
theorem dX4_ofClaim_101 : decode cX4_ofClaim 101 = .ok (.getfield 91, 3) := by decide +kernel
theorem dX4_ofClaim_104 : decode cX4_ofClaim 104 = .ok (.iload_n 1, 1) := by decide +kernel
theorem dX4_ofClaim_105 : decode cX4_ofClaim 105 = .ok (.baload, 1) := by decide +kernel
theorem dX4_ofClaim_106 : decode cX4_ofClaim 106 = .ok (.ifCond .eq 7, 3) := by decide +kernel
theorem dX4_ofClaim_109 : decode cX4_ofClaim 109 = .ok (.iconst 1, 1) := by decide +kernel
theorem dX4_ofClaim_110 : decode cX4_ofClaim 110 = .ok (.goto 4, 3) := by decide +kernel
theorem dX4_ofClaim_113 : decode cX4_ofClaim 113 = .ok (.iconst 0, 1) := by decide +kernel
theorem dX4_ofClaim_114 : decode cX4_ofClaim 114 = .ok (.ireturn, 1) := by decide +kernel
theorem dX4_ofClaim_115 : decode cX4_ofClaim 115 = .ok (.aload_n 0, 1) := by decide +kernel
theorem dX4_ofClaim_116 : decode cX4_ofClaim 116 = .ok (.iload_n 1, 1) := by decide +kernel
theorem dX4_ofClaim_117 : decode cX4_ofClaim 117 = .ok (.invokevirtual 205, 3) := by decide +kernel
theorem dX4_ofClaim_120 : decode cX4_ofClaim 120 = .ok (.ireturn, 1) := by decide +kernel
theorem dX4_isSound_0 : decode cX4_isSound 0 = .ok (.aload_n 0, 1) := by decide +kernel
theorem dX4_isSound_1 : decode cX4_isSound 1 = .ok (.aload_n 0, 1) := by decide +kernel
theorem dX4_isSound_2 : decode cX4_isSound 2 = .ok (.iload_n 1, 1) := by decide +kernel
theorem dX4_isSound_3 : decode cX4_isSound 3 = .ok (.invokevirtual 198, 3) := by decide +kernel
theorem dX4_isSound_6 : decode cX4_isSound 6 = .ok (.ifCond .eq 7, 3) := by decide +kernel
theorem dX4_isSound_9 : decode cX4_isSound 9 = .ok (.iconst 0, 1) := by decide +kernel
theorem dX4_isSound_10 : decode cX4_isSound 10 = .ok (.goto 4, 3) := by decide +kernel
theorem dX4_isSound_13 : decode cX4_isSound 13 = .ok (.iconst 1, 1) := by decide +kernel
theorem dX4_isSound_14 : decode cX4_isSound 14 = .ok (.invokevirtual 114, 3) := by decide +kernel
theorem dX4_isSound_17 : decode cX4_isSound 17 = .ok (.ifCond .eq 15, 3) := by decide +kernel
theorem dX4_isSound_20 : decode cX4_isSound 20 = .ok (.aload_n 0, 1) := by decide +kernel
theorem dX4_isSound_21 : decode cX4_isSound 21 = .ok (.iload_n 1, 1) := by decide +kernel
theorem dX4_isSound_22 : decode cX4_isSound 22 = .ok (.invokevirtual 221, 3) := by decide +kernel
theorem dX4_isSound_25 : decode cX4_isSound 25 = .ok (.ifCond .eq 7, 3) := by decide +kernel
theorem dX4_isSound_28 : decode cX4_isSound 28 = .ok (.iconst 1, 1) := by decide +kernel
theorem dX4_isSound_29 : decode cX4_isSound 29 = .ok (.goto 4, 3) := by decide +kernel
theorem dX4_isSound_32 : decode cX4_isSound 32 = .ok (.iconst 0, 1) := by decide +kernel
theorem dX4_isSound_33 : decode cX4_isSound 33 = .ok (.ireturn, 1) := by decide +kernel
theorem dJ13_bitCount_95d88_0 : decode cJ13_bitCount_95d88 0 = .ok (.lload_n 0, 1) := by decide +kernel
theorem dJ13_bitCount_95d88_1 : decode cJ13_bitCount_95d88 1 = .ok (.lload_n 0, 1) := by decide +kernel
theorem dJ13_bitCount_95d88_2 : decode cJ13_bitCount_95d88 2 = .ok (.iconst 1, 1) := by decide +kernel
theorem dJ13_bitCount_95d88_3 : decode cJ13_bitCount_95d88 3 = .ok (.lushr, 1) := by decide +kernel
theorem dJ13_bitCount_95d88_4 : decode cJ13_bitCount_95d88 4 = .ok (.ldc2_w 314, 3) := by decide +kernel
theorem dJ13_bitCount_95d88_7 : decode cJ13_bitCount_95d88 7 = .ok (.land, 1) := by decide +kernel
theorem dJ13_bitCount_95d88_8 : decode cJ13_bitCount_95d88 8 = .ok (.lsub, 1) := by decide +kernel
theorem dJ13_bitCount_95d88_9 : decode cJ13_bitCount_95d88 9 = .ok (.lstore_n 0, 1) := by decide +kernel
theorem dJ13_bitCount_95d88_10 : decode cJ13_bitCount_95d88 10 = .ok (.lload_n 0, 1) := by decide +kernel
theorem dJ13_bitCount_95d88_11 : decode cJ13_bitCount_95d88 11 = .ok (.ldc2_w 316, 3) := by decide +kernel
theorem dJ13_bitCount_95d88_14 : decode cJ13_bitCount_95d88 14 = .ok (.land, 1) := by decide +kernel
theorem dJ13_bitCount_95d88_15 : decode cJ13_bitCount_95d88 15 = .ok (.lload_n 0, 1) := by decide +kernel
theorem dJ13_bitCount_95d88_16 : decode cJ13_bitCount_95d88 16 = .ok (.iconst 2, 1) := by decide +kernel
theorem dJ13_bitCount_95d88_17 : decode cJ13_bitCount_95d88 17 = .ok (.lushr, 1) := by decide +kernel
theorem dJ13_bitCount_95d88_18 : decode cJ13_bitCount_95d88 18 = .ok (.ldc2_w 316, 3) := by decide +kernel
theorem dJ13_bitCount_95d88_21 : decode cJ13_bitCount_95d88 21 = .ok (.land, 1) := by decide +kernel
theorem dJ13_bitCount_95d88_22 : decode cJ13_bitCount_95d88 22 = .ok (.ladd, 1) := by decide +kernel
theorem dJ13_bitCount_95d88_23 : decode cJ13_bitCount_95d88 23 = .ok (.lstore_n 0, 1) := by decide +kernel
theorem dJ13_bitCount_95d88_24 : decode cJ13_bitCount_95d88 24 = .ok (.lload_n 0, 1) := by decide +kernel
theorem dJ13_bitCount_95d88_25 : decode cJ13_bitCount_95d88 25 = .ok (.lload_n 0, 1) := by decide +kernel
theorem dJ13_bitCount_95d88_26 : decode cJ13_bitCount_95d88 26 = .ok (.iconst 4, 1) := by decide +kernel
theorem dJ13_bitCount_95d88_27 : decode cJ13_bitCount_95d88 27 = .ok (.lushr, 1) := by decide +kernel
theorem dJ13_bitCount_95d88_28 : decode cJ13_bitCount_95d88 28 = .ok (.ladd, 1) := by decide +kernel
theorem dJ13_bitCount_95d88_29 : decode cJ13_bitCount_95d88 29 = .ok (.ldc2_w 318, 3) := by decide +kernel
theorem dJ13_bitCount_95d88_32 : decode cJ13_bitCount_95d88 32 = .ok (.land, 1) := by decide +kernel
theorem dJ13_bitCount_95d88_33 : decode cJ13_bitCount_95d88 33 = .ok (.lstore_n 0, 1) := by decide +kernel
theorem dJ13_bitCount_95d88_34 : decode cJ13_bitCount_95d88 34 = .ok (.lload_n 0, 1) := by decide +kernel
theorem dJ13_bitCount_95d88_35 : decode cJ13_bitCount_95d88 35 = .ok (.lload_n 0, 1) := by decide +kernel
theorem dJ13_bitCount_95d88_36 : decode cJ13_bitCount_95d88 36 = .ok (.bipush 8, 2) := by decide +kernel
theorem dJ13_bitCount_95d88_38 : decode cJ13_bitCount_95d88 38 = .ok (.lushr, 1) := by decide +kernel
theorem dJ13_bitCount_95d88_39 : decode cJ13_bitCount_95d88 39 = .ok (.ladd, 1) := by decide +kernel
theorem dJ13_bitCount_95d88_40 : decode cJ13_bitCount_95d88 40 = .ok (.lstore_n 0, 1) := by decide +kernel
theorem dJ13_bitCount_95d88_41 : decode cJ13_bitCount_95d88 41 = .ok (.lload_n 0, 1) := by decide +kernel
theorem dJ13_bitCount_95d88_42 : decode cJ13_bitCount_95d88 42 = .ok (.lload_n 0, 1) := by decide +kernel
theorem dJ13_bitCount_95d88_43 : decode cJ13_bitCount_95d88 43 = .ok (.bipush 16, 2) := by decide +kernel
theorem dJ13_bitCount_95d88_45 : decode cJ13_bitCount_95d88 45 = .ok (.lushr, 1) := by decide +kernel
theorem dJ13_bitCount_95d88_46 : decode cJ13_bitCount_95d88 46 = .ok (.ladd, 1) := by decide +kernel
theorem dJ13_bitCount_95d88_47 : decode cJ13_bitCount_95d88 47 = .ok (.lstore_n 0, 1) := by decide +kernel
theorem dJ13_bitCount_95d88_48 : decode cJ13_bitCount_95d88 48 = .ok (.lload_n 0, 1) := by decide +kernel
theorem dJ13_bitCount_95d88_49 : decode cJ13_bitCount_95d88 49 = .ok (.lload_n 0, 1) := by decide +kernel
theorem dJ13_bitCount_95d88_50 : decode cJ13_bitCount_95d88 50 = .ok (.bipush 32, 2) := by decide +kernel
theorem dJ13_bitCount_95d88_52 : decode cJ13_bitCount_95d88 52 = .ok (.lushr, 1) := by decide +kernel
theorem dJ13_bitCount_95d88_53 : decode cJ13_bitCount_95d88 53 = .ok (.ladd, 1) := by decide +kernel
theorem dJ13_bitCount_95d88_54 : decode cJ13_bitCount_95d88 54 = .ok (.lstore_n 0, 1) := by decide +kernel
theorem dJ13_bitCount_95d88_55 : decode cJ13_bitCount_95d88 55 = .ok (.lload_n 0, 1) := by decide +kernel
theorem dJ13_bitCount_95d88_56 : decode cJ13_bitCount_95d88 56 = .ok (.l2i, 1) := by decide +kernel
theorem dJ13_bitCount_95d88_57 : decode cJ13_bitCount_95d88 57 = .ok (.bipush 127, 2) := by decide +kernel
theorem dJ13_bitCount_95d88_59 : decode cJ13_bitCount_95d88 59 = .ok (.iand, 1) := by decide +kernel
theorem dJ13_bitCount_95d88_60 : decode cJ13_bitCount_95d88 60 = .ok (.ireturn, 1) := by decide +kernel
theorem dJ9_floorDiv_7cf53_0 : decode cJ9_floorDiv_7cf53 0 = .ok (.iload_n 0, 1) := by decide +kernel
theorem dJ9_floorDiv_7cf53_1 : decode cJ9_floorDiv_7cf53 1 = .ok (.iload_n 1, 1) := by decide +kernel
theorem dJ9_floorDiv_7cf53_2 : decode cJ9_floorDiv_7cf53 2 = .ok (.idiv, 1) := by decide +kernel
theorem dJ9_floorDiv_7cf53_3 : decode cJ9_floorDiv_7cf53 3 = .ok (.istore_n 2, 1) := by decide +kernel
theorem dJ9_floorDiv_7cf53_4 : decode cJ9_floorDiv_7cf53 4 = .ok (.iload_n 0, 1) := by decide +kernel
theorem dJ9_floorDiv_7cf53_5 : decode cJ9_floorDiv_7cf53 5 = .ok (.iload_n 1, 1) := by decide +kernel
theorem dJ9_floorDiv_7cf53_6 : decode cJ9_floorDiv_7cf53 6 = .ok (.ixor, 1) := by decide +kernel
theorem dJ9_floorDiv_7cf53_7 : decode cJ9_floorDiv_7cf53 7 = .ok (.ifCond .ge 14, 3) := by decide +kernel
theorem dJ9_floorDiv_7cf53_10 : decode cJ9_floorDiv_7cf53 10 = .ok (.iload_n 2, 1) := by decide +kernel
theorem dJ9_floorDiv_7cf53_11 : decode cJ9_floorDiv_7cf53 11 = .ok (.iload_n 1, 1) := by decide +kernel
theorem dJ9_floorDiv_7cf53_12 : decode cJ9_floorDiv_7cf53 12 = .ok (.imul, 1) := by decide +kernel
theorem dJ9_floorDiv_7cf53_13 : decode cJ9_floorDiv_7cf53 13 = .ok (.iload_n 0, 1) := by decide +kernel
theorem dJ9_floorDiv_7cf53_14 : decode cJ9_floorDiv_7cf53 14 = .ok (.if_icmp .eq 7, 3) := by decide +kernel
theorem dJ9_floorDiv_7cf53_17 : decode cJ9_floorDiv_7cf53 17 = .ok (.iload_n 2, 1) := by decide +kernel
theorem dJ9_floorDiv_7cf53_18 : decode cJ9_floorDiv_7cf53 18 = .ok (.iconst 1, 1) := by decide +kernel
theorem dJ9_floorDiv_7cf53_19 : decode cJ9_floorDiv_7cf53 19 = .ok (.isub, 1) := by decide +kernel
theorem dJ9_floorDiv_7cf53_20 : decode cJ9_floorDiv_7cf53 20 = .ok (.ireturn, 1) := by decide +kernel
theorem dJ9_floorDiv_7cf53_21 : decode cJ9_floorDiv_7cf53 21 = .ok (.iload_n 2, 1) := by decide +kernel
theorem dJ9_floorDiv_7cf53_22 : decode cJ9_floorDiv_7cf53 22 = .ok (.ireturn, 1) := by decide +kernel
theorem dJ9_floorDiv_f86c9_0 : decode cJ9_floorDiv_f86c9 0 = .ok (.lload_n 0, 1) := by decide +kernel
theorem dJ9_floorDiv_f86c9_1 : decode cJ9_floorDiv_f86c9 1 = .ok (.lload_n 2, 1) := by decide +kernel
theorem dJ9_floorDiv_f86c9_2 : decode cJ9_floorDiv_f86c9 2 = .ok (.ldiv, 1) := by decide +kernel
theorem dJ9_floorDiv_f86c9_3 : decode cJ9_floorDiv_f86c9 3 = .ok (.lstore 4, 2) := by decide +kernel
theorem dJ9_floorDiv_f86c9_5 : decode cJ9_floorDiv_f86c9 5 = .ok (.lload_n 0, 1) := by decide +kernel
theorem dJ9_floorDiv_f86c9_6 : decode cJ9_floorDiv_f86c9 6 = .ok (.lload_n 2, 1) := by decide +kernel
theorem dJ9_floorDiv_f86c9_7 : decode cJ9_floorDiv_f86c9 7 = .ok (.lxor, 1) := by decide +kernel
theorem dJ9_floorDiv_f86c9_8 : decode cJ9_floorDiv_f86c9 8 = .ok (.lconst 0, 1) := by decide +kernel
theorem dJ9_floorDiv_f86c9_9 : decode cJ9_floorDiv_f86c9 9 = .ok (.lcmp, 1) := by decide +kernel
theorem dJ9_floorDiv_f86c9_10 : decode cJ9_floorDiv_f86c9 10 = .ok (.ifCond .ge 17, 3) := by decide +kernel
theorem dJ9_floorDiv_f86c9_13 : decode cJ9_floorDiv_f86c9 13 = .ok (.lload 4, 2) := by decide +kernel
theorem dJ9_floorDiv_f86c9_15 : decode cJ9_floorDiv_f86c9 15 = .ok (.lload_n 2, 1) := by decide +kernel
theorem dJ9_floorDiv_f86c9_16 : decode cJ9_floorDiv_f86c9 16 = .ok (.lmul, 1) := by decide +kernel
theorem dJ9_floorDiv_f86c9_17 : decode cJ9_floorDiv_f86c9 17 = .ok (.lload_n 0, 1) := by decide +kernel
theorem dJ9_floorDiv_f86c9_18 : decode cJ9_floorDiv_f86c9 18 = .ok (.lcmp, 1) := by decide +kernel
theorem dJ9_floorDiv_f86c9_19 : decode cJ9_floorDiv_f86c9 19 = .ok (.ifCond .eq 8, 3) := by decide +kernel
theorem dJ9_floorDiv_f86c9_22 : decode cJ9_floorDiv_f86c9 22 = .ok (.lload 4, 2) := by decide +kernel
theorem dJ9_floorDiv_f86c9_24 : decode cJ9_floorDiv_f86c9 24 = .ok (.lconst 1, 1) := by decide +kernel
theorem dJ9_floorDiv_f86c9_25 : decode cJ9_floorDiv_f86c9 25 = .ok (.lsub, 1) := by decide +kernel
theorem dJ9_floorDiv_f86c9_26 : decode cJ9_floorDiv_f86c9 26 = .ok (.lreturn, 1) := by decide +kernel
theorem dJ9_floorDiv_f86c9_27 : decode cJ9_floorDiv_f86c9 27 = .ok (.lload 4, 2) := by decide +kernel
theorem dJ9_floorDiv_f86c9_29 : decode cJ9_floorDiv_f86c9 29 = .ok (.lreturn, 1) := by decide +kernel
theorem dJ9_abs_0f7a4_0 : decode cJ9_abs_0f7a4 0 = .ok (.iload_n 0, 1) := by decide +kernel
theorem dJ9_abs_0f7a4_1 : decode cJ9_abs_0f7a4 1 = .ok (.ifCond .ge 8, 3) := by decide +kernel
theorem dJ9_abs_0f7a4_4 : decode cJ9_abs_0f7a4 4 = .ok (.iload_n 0, 1) := by decide +kernel
theorem dJ9_abs_0f7a4_5 : decode cJ9_abs_0f7a4 5 = .ok (.ineg, 1) := by decide +kernel
theorem dJ9_abs_0f7a4_6 : decode cJ9_abs_0f7a4 6 = .ok (.goto 4, 3) := by decide +kernel
theorem dJ9_abs_0f7a4_9 : decode cJ9_abs_0f7a4 9 = .ok (.iload_n 0, 1) := by decide +kernel
theorem dJ9_abs_0f7a4_10 : decode cJ9_abs_0f7a4 10 = .ok (.ireturn, 1) := by decide +kernel
theorem dJ9_max_7cf53_0 : decode cJ9_max_7cf53 0 = .ok (.iload_n 0, 1) := by decide +kernel
theorem dJ9_max_7cf53_1 : decode cJ9_max_7cf53 1 = .ok (.iload_n 1, 1) := by decide +kernel
theorem dJ9_max_7cf53_2 : decode cJ9_max_7cf53 2 = .ok (.if_icmp .lt 7, 3) := by decide +kernel
theorem dJ9_max_7cf53_5 : decode cJ9_max_7cf53 5 = .ok (.iload_n 0, 1) := by decide +kernel
theorem dJ9_max_7cf53_6 : decode cJ9_max_7cf53 6 = .ok (.goto 4, 3) := by decide +kernel
theorem dJ9_max_7cf53_9 : decode cJ9_max_7cf53 9 = .ok (.iload_n 1, 1) := by decide +kernel
theorem dJ9_max_7cf53_10 : decode cJ9_max_7cf53 10 = .ok (.ireturn, 1) := by decide +kernel
theorem dJ9_min_7cf53_0 : decode cJ9_min_7cf53 0 = .ok (.iload_n 0, 1) := by decide +kernel
theorem dJ9_min_7cf53_1 : decode cJ9_min_7cf53 1 = .ok (.iload_n 1, 1) := by decide +kernel
theorem dJ9_min_7cf53_2 : decode cJ9_min_7cf53 2 = .ok (.if_icmp .gt 7, 3) := by decide +kernel
theorem dJ9_min_7cf53_5 : decode cJ9_min_7cf53 5 = .ok (.iload_n 0, 1) := by decide +kernel
theorem dJ9_min_7cf53_6 : decode cJ9_min_7cf53 6 = .ok (.goto 4, 3) := by decide +kernel
theorem dJ9_min_7cf53_9 : decode cJ9_min_7cf53 9 = .ok (.iload_n 1, 1) := by decide +kernel
theorem dJ9_min_7cf53_10 : decode cJ9_min_7cf53 10 = .ok (.ireturn, 1) := by decide +kernel
theorem dJ7_fill_d0a16_0 : decode cJ7_fill_d0a16 0 = .ok (.iconst 0, 1) := by decide +kernel
theorem dJ7_fill_d0a16_1 : decode cJ7_fill_d0a16 1 = .ok (.istore_n 3, 1) := by decide +kernel
theorem dJ7_fill_d0a16_2 : decode cJ7_fill_d0a16 2 = .ok (.aload_n 0, 1) := by decide +kernel
theorem dJ7_fill_d0a16_3 : decode cJ7_fill_d0a16 3 = .ok (.arraylength, 1) := by decide +kernel
theorem dJ7_fill_d0a16_4 : decode cJ7_fill_d0a16 4 = .ok (.istore 4, 2) := by decide +kernel
theorem dJ7_fill_d0a16_6 : decode cJ7_fill_d0a16 6 = .ok (.iload_n 3, 1) := by decide +kernel
theorem dJ7_fill_d0a16_7 : decode cJ7_fill_d0a16 7 = .ok (.iload 4, 2) := by decide +kernel
theorem dJ7_fill_d0a16_9 : decode cJ7_fill_d0a16 9 = .ok (.if_icmp .ge 13, 3) := by decide +kernel
theorem dJ7_fill_d0a16_12 : decode cJ7_fill_d0a16 12 = .ok (.aload_n 0, 1) := by decide +kernel
theorem dJ7_fill_d0a16_13 : decode cJ7_fill_d0a16 13 = .ok (.iload_n 3, 1) := by decide +kernel
theorem dJ7_fill_d0a16_14 : decode cJ7_fill_d0a16 14 = .ok (.lload_n 1, 1) := by decide +kernel
theorem dJ7_fill_d0a16_15 : decode cJ7_fill_d0a16 15 = .ok (.lastore, 1) := by decide +kernel
theorem dJ7_fill_d0a16_16 : decode cJ7_fill_d0a16 16 = .ok (.iinc 3 1, 3) := by decide +kernel
theorem dJ7_fill_d0a16_19 : decode cJ7_fill_d0a16 19 = .ok (.goto (-13), 3) := by decide +kernel
theorem dJ7_fill_d0a16_22 : decode cJ7_fill_d0a16 22 = .ok (.return_, 1) := by decide +kernel
theorem dJ7_fill_53178_0 : decode cJ7_fill_53178 0 = .ok (.iconst 0, 1) := by decide +kernel
theorem dJ7_fill_53178_1 : decode cJ7_fill_53178 1 = .ok (.istore_n 2, 1) := by decide +kernel
theorem dJ7_fill_53178_2 : decode cJ7_fill_53178 2 = .ok (.aload_n 0, 1) := by decide +kernel
theorem dJ7_fill_53178_3 : decode cJ7_fill_53178 3 = .ok (.arraylength, 1) := by decide +kernel
theorem dJ7_fill_53178_4 : decode cJ7_fill_53178 4 = .ok (.istore_n 3, 1) := by decide +kernel
theorem dJ7_fill_53178_5 : decode cJ7_fill_53178 5 = .ok (.iload_n 2, 1) := by decide +kernel
theorem dJ7_fill_53178_6 : decode cJ7_fill_53178 6 = .ok (.iload_n 3, 1) := by decide +kernel
theorem dJ7_fill_53178_7 : decode cJ7_fill_53178 7 = .ok (.if_icmp .ge 13, 3) := by decide +kernel
theorem dJ7_fill_53178_10 : decode cJ7_fill_53178 10 = .ok (.aload_n 0, 1) := by decide +kernel
theorem dJ7_fill_53178_11 : decode cJ7_fill_53178 11 = .ok (.iload_n 2, 1) := by decide +kernel
theorem dJ7_fill_53178_12 : decode cJ7_fill_53178 12 = .ok (.iload_n 1, 1) := by decide +kernel
theorem dJ7_fill_53178_13 : decode cJ7_fill_53178 13 = .ok (.iastore, 1) := by decide +kernel
theorem dJ7_fill_53178_14 : decode cJ7_fill_53178 14 = .ok (.iinc 2 1, 3) := by decide +kernel
theorem dJ7_fill_53178_17 : decode cJ7_fill_53178 17 = .ok (.goto (-12), 3) := by decide +kernel
theorem dJ7_fill_53178_20 : decode cJ7_fill_53178 20 = .ok (.return_, 1) := by decide +kernel
theorem dL_shell_0 : decode cL_shell 0 = .ok (.aload 4, 2) := by decide +kernel
theorem dL_shell_2 : decode cL_shell 2 = .ok (.iconst 0, 1) := by decide +kernel
theorem dL_shell_3 : decode cL_shell 3 = .ok (.aload_n 0, 1) := by decide +kernel
theorem dL_shell_4 : decode cL_shell 4 = .ok (.iload_n 1, 1) := by decide +kernel
theorem dL_shell_5 : decode cL_shell 5 = .ok (.iload_n 2, 1) := by decide +kernel
theorem dL_shell_6 : decode cL_shell 6 = .ok (.iload_n 3, 1) := by decide +kernel
theorem dL_shell_7 : decode cL_shell 7 = .ok (.invokevirtual 7, 3) := by decide +kernel
theorem dL_shell_10 : decode cL_shell 10 = .ok (.i2l, 1) := by decide +kernel
theorem dL_shell_11 : decode cL_shell 11 = .ok (.lastore, 1) := by decide +kernel
theorem dL_shell_12 : decode cL_shell 12 = .ok (.goto 11, 3) := by decide +kernel
theorem dL_shell_15 : decode cL_shell 15 = .ok (.astore 5, 2) := by decide +kernel
theorem dL_shell_17 : decode cL_shell 17 = .ok (.iconst 1, 1) := by decide +kernel
theorem dL_shell_18 : decode cL_shell 18 = .ok (.ireturn, 1) := by decide +kernel
theorem dL_shell_19 : decode cL_shell 19 = .ok (.astore 5, 2) := by decide +kernel
theorem dL_shell_21 : decode cL_shell 21 = .ok (.iconst 2, 1) := by decide +kernel
theorem dL_shell_22 : decode cL_shell 22 = .ok (.ireturn, 1) := by decide +kernel
theorem dL_shell_23 : decode cL_shell 23 = .ok (.iconst 0, 1) := by decide +kernel
theorem dL_shell_24 : decode cL_shell 24 = .ok (.ireturn, 1) := by decide +kernel
theorem dL_star_0 : decode cL_star 0 = .ok (.aload_n 2, 1) := by decide +kernel
theorem dL_star_1 : decode cL_star 1 = .ok (.iconst 0, 1) := by decide +kernel
theorem dL_star_2 : decode cL_star 2 = .ok (.aload_n 0, 1) := by decide +kernel
theorem dL_star_3 : decode cL_star 3 = .ok (.iload_n 1, 1) := by decide +kernel
theorem dL_star_4 : decode cL_star 4 = .ok (.invokevirtual 17, 3) := by decide +kernel
theorem dL_star_7 : decode cL_star 7 = .ok (.i2l, 1) := by decide +kernel
theorem dL_star_8 : decode cL_star 8 = .ok (.lastore, 1) := by decide +kernel
theorem dL_star_9 : decode cL_star 9 = .ok (.goto 9, 3) := by decide +kernel
theorem dL_star_12 : decode cL_star 12 = .ok (.astore_n 3, 1) := by decide +kernel
theorem dL_star_13 : decode cL_star 13 = .ok (.iconst 1, 1) := by decide +kernel
theorem dL_star_14 : decode cL_star 14 = .ok (.ireturn, 1) := by decide +kernel
theorem dL_star_15 : decode cL_star 15 = .ok (.astore_n 3, 1) := by decide +kernel
theorem dL_star_16 : decode cL_star 16 = .ok (.iconst 2, 1) := by decide +kernel
theorem dL_star_17 : decode cL_star 17 = .ok (.ireturn, 1) := by decide +kernel
theorem dL_star_18 : decode cL_star 18 = .ok (.iconst 0, 1) := by decide +kernel
theorem dL_star_19 : decode cL_star 19 = .ok (.ireturn, 1) := by decide +kernel
theorem dL_frame_0 : decode cL_frame 0 = .ok (.aload 5, 2) := by decide +kernel
theorem dL_frame_2 : decode cL_frame 2 = .ok (.iconst 0, 1) := by decide +kernel
theorem dL_frame_3 : decode cL_frame 3 = .ok (.aload_n 0, 1) := by decide +kernel
theorem dL_frame_4 : decode cL_frame 4 = .ok (.iload_n 1, 1) := by decide +kernel
theorem dL_frame_5 : decode cL_frame 5 = .ok (.iload_n 2, 1) := by decide +kernel
theorem dL_frame_6 : decode cL_frame 6 = .ok (.iload_n 3, 1) := by decide +kernel
theorem dL_frame_7 : decode cL_frame 7 = .ok (.iload 4, 2) := by decide +kernel
theorem dL_frame_9 : decode cL_frame 9 = .ok (.invokevirtual 21, 3) := by decide +kernel
theorem dL_frame_12 : decode cL_frame 12 = .ok (.i2l, 1) := by decide +kernel
theorem dL_frame_13 : decode cL_frame 13 = .ok (.lastore, 1) := by decide +kernel
theorem dL_frame_14 : decode cL_frame 14 = .ok (.goto 11, 3) := by decide +kernel
theorem dL_frame_17 : decode cL_frame 17 = .ok (.astore 6, 2) := by decide +kernel
theorem dL_frame_19 : decode cL_frame 19 = .ok (.iconst 1, 1) := by decide +kernel
theorem dL_frame_20 : decode cL_frame 20 = .ok (.ireturn, 1) := by decide +kernel
theorem dL_frame_21 : decode cL_frame 21 = .ok (.astore 6, 2) := by decide +kernel
theorem dL_frame_23 : decode cL_frame 23 = .ok (.iconst 2, 1) := by decide +kernel
theorem dL_frame_24 : decode cL_frame 24 = .ok (.ireturn, 1) := by decide +kernel
theorem dL_frame_25 : decode cL_frame 25 = .ok (.iconst 0, 1) := by decide +kernel
theorem dL_frame_26 : decode cL_frame 26 = .ok (.ireturn, 1) := by decide +kernel
theorem dL_drop_0 : decode cL_drop 0 = .ok (.aload_n 3, 1) := by decide +kernel
theorem dL_drop_1 : decode cL_drop 1 = .ok (.iconst 0, 1) := by decide +kernel
theorem dL_drop_2 : decode cL_drop 2 = .ok (.aload_n 0, 1) := by decide +kernel
theorem dL_drop_3 : decode cL_drop 3 = .ok (.iload_n 1, 1) := by decide +kernel
theorem dL_drop_4 : decode cL_drop 4 = .ok (.iload_n 2, 1) := by decide +kernel
theorem dL_drop_5 : decode cL_drop 5 = .ok (.invokevirtual 27, 3) := by decide +kernel
theorem dL_drop_8 : decode cL_drop 8 = .ok (.i2l, 1) := by decide +kernel
theorem dL_drop_9 : decode cL_drop 9 = .ok (.lastore, 1) := by decide +kernel
theorem dL_drop_10 : decode cL_drop 10 = .ok (.goto 15, 3) := by decide +kernel
theorem dL_drop_13 : decode cL_drop 13 = .ok (.astore 4, 2) := by decide +kernel
theorem dL_drop_15 : decode cL_drop 15 = .ok (.iconst 1, 1) := by decide +kernel
theorem dL_drop_16 : decode cL_drop 16 = .ok (.ireturn, 1) := by decide +kernel
theorem dL_drop_17 : decode cL_drop 17 = .ok (.astore 4, 2) := by decide +kernel
theorem dL_drop_19 : decode cL_drop 19 = .ok (.iconst 2, 1) := by decide +kernel
theorem dL_drop_20 : decode cL_drop 20 = .ok (.ireturn, 1) := by decide +kernel
theorem dL_drop_21 : decode cL_drop 21 = .ok (.astore 4, 2) := by decide +kernel
theorem dL_drop_23 : decode cL_drop 23 = .ok (.iconst 3, 1) := by decide +kernel
theorem dL_drop_24 : decode cL_drop 24 = .ok (.ireturn, 1) := by decide +kernel
theorem dL_drop_25 : decode cL_drop 25 = .ok (.iconst 0, 1) := by decide +kernel
theorem dL_drop_26 : decode cL_drop 26 = .ok (.ireturn, 1) := by decide +kernel
theorem dL_mask_0 : decode cL_mask 0 = .ok (.aload_n 3, 1) := by decide +kernel
theorem dL_mask_1 : decode cL_mask 1 = .ok (.iconst 0, 1) := by decide +kernel
theorem dL_mask_2 : decode cL_mask 2 = .ok (.aload_n 0, 1) := by decide +kernel
theorem dL_mask_3 : decode cL_mask 3 = .ok (.iload_n 1, 1) := by decide +kernel
theorem dL_mask_4 : decode cL_mask 4 = .ok (.iload_n 2, 1) := by decide +kernel
theorem dL_mask_5 : decode cL_mask 5 = .ok (.invokevirtual 31, 3) := by decide +kernel
theorem dL_mask_8 : decode cL_mask 8 = .ok (.ifCond .eq 7, 3) := by decide +kernel
theorem dL_mask_11 : decode cL_mask 11 = .ok (.lconst 1, 1) := by decide +kernel
theorem dL_mask_12 : decode cL_mask 12 = .ok (.goto 4, 3) := by decide +kernel
theorem dL_mask_15 : decode cL_mask 15 = .ok (.lconst 0, 1) := by decide +kernel
theorem dL_mask_16 : decode cL_mask 16 = .ok (.lastore, 1) := by decide +kernel
theorem dL_mask_17 : decode cL_mask 17 = .ok (.goto 7, 3) := by decide +kernel
theorem dL_mask_20 : decode cL_mask 20 = .ok (.astore 4, 2) := by decide +kernel
theorem dL_mask_22 : decode cL_mask 22 = .ok (.iconst 1, 1) := by decide +kernel
theorem dL_mask_23 : decode cL_mask 23 = .ok (.ireturn, 1) := by decide +kernel
theorem dL_mask_24 : decode cL_mask 24 = .ok (.iconst 0, 1) := by decide +kernel
theorem dL_mask_25 : decode cL_mask 25 = .ok (.ireturn, 1) := by decide +kernel
theorem dL_threshold_0 : decode cL_threshold 0 = .ok (.aload_n 2, 1) := by decide +kernel
theorem dL_threshold_1 : decode cL_threshold 1 = .ok (.iconst 0, 1) := by decide +kernel
theorem dL_threshold_2 : decode cL_threshold 2 = .ok (.aload_n 0, 1) := by decide +kernel
theorem dL_threshold_3 : decode cL_threshold 3 = .ok (.iload_n 1, 1) := by decide +kernel
theorem dL_threshold_4 : decode cL_threshold 4 = .ok (.invokevirtual 35, 3) := by decide +kernel
theorem dL_threshold_7 : decode cL_threshold 7 = .ok (.i2l, 1) := by decide +kernel
theorem dL_threshold_8 : decode cL_threshold 8 = .ok (.lastore, 1) := by decide +kernel
theorem dL_threshold_9 : decode cL_threshold 9 = .ok (.goto 6, 3) := by decide +kernel
theorem dL_threshold_12 : decode cL_threshold 12 = .ok (.astore_n 3, 1) := by decide +kernel
theorem dL_threshold_13 : decode cL_threshold 13 = .ok (.iconst 1, 1) := by decide +kernel
theorem dL_threshold_14 : decode cL_threshold 14 = .ok (.ireturn, 1) := by decide +kernel
theorem dL_threshold_15 : decode cL_threshold 15 = .ok (.iconst 0, 1) := by decide +kernel
theorem dL_threshold_16 : decode cL_threshold 16 = .ok (.ireturn, 1) := by decide +kernel
theorem dL_takeOut_0 : decode cL_takeOut 0 = .ok (.aload_n 3, 1) := by decide +kernel
theorem dL_takeOut_1 : decode cL_takeOut 1 = .ok (.iconst 0, 1) := by decide +kernel
theorem dL_takeOut_2 : decode cL_takeOut 2 = .ok (.aload_n 0, 1) := by decide +kernel
theorem dL_takeOut_3 : decode cL_takeOut 3 = .ok (.iload_n 1, 1) := by decide +kernel
theorem dL_takeOut_4 : decode cL_takeOut 4 = .ok (.iload_n 2, 1) := by decide +kernel
theorem dL_takeOut_5 : decode cL_takeOut 5 = .ok (.invokevirtual 38, 3) := by decide +kernel
theorem dL_takeOut_8 : decode cL_takeOut 8 = .ok (.i2l, 1) := by decide +kernel
theorem dL_takeOut_9 : decode cL_takeOut 9 = .ok (.lastore, 1) := by decide +kernel
theorem dL_takeOut_10 : decode cL_takeOut 10 = .ok (.goto 15, 3) := by decide +kernel
theorem dL_takeOut_13 : decode cL_takeOut 13 = .ok (.astore 4, 2) := by decide +kernel
theorem dL_takeOut_15 : decode cL_takeOut 15 = .ok (.iconst 1, 1) := by decide +kernel
theorem dL_takeOut_16 : decode cL_takeOut 16 = .ok (.ireturn, 1) := by decide +kernel
theorem dL_takeOut_17 : decode cL_takeOut 17 = .ok (.astore 4, 2) := by decide +kernel
theorem dL_takeOut_19 : decode cL_takeOut 19 = .ok (.iconst 2, 1) := by decide +kernel
theorem dL_takeOut_20 : decode cL_takeOut 20 = .ok (.ireturn, 1) := by decide +kernel
theorem dL_takeOut_21 : decode cL_takeOut 21 = .ok (.astore 4, 2) := by decide +kernel
theorem dL_takeOut_23 : decode cL_takeOut 23 = .ok (.iconst 3, 1) := by decide +kernel
theorem dL_takeOut_24 : decode cL_takeOut 24 = .ok (.ireturn, 1) := by decide +kernel
theorem dL_takeOut_25 : decode cL_takeOut 25 = .ok (.iconst 0, 1) := by decide +kernel
theorem dL_takeOut_26 : decode cL_takeOut 26 = .ok (.ireturn, 1) := by decide +kernel
theorem dL_putBack_0 : decode cL_putBack 0 = .ok (.aload_n 2, 1) := by decide +kernel
theorem dL_putBack_1 : decode cL_putBack 1 = .ok (.iconst 0, 1) := by decide +kernel
theorem dL_putBack_2 : decode cL_putBack 2 = .ok (.aload_n 0, 1) := by decide +kernel
theorem dL_putBack_3 : decode cL_putBack 3 = .ok (.iload_n 1, 1) := by decide +kernel
theorem dL_putBack_4 : decode cL_putBack 4 = .ok (.invokevirtual 41, 3) := by decide +kernel
theorem dL_putBack_7 : decode cL_putBack 7 = .ok (.i2l, 1) := by decide +kernel
theorem dL_putBack_8 : decode cL_putBack 8 = .ok (.lastore, 1) := by decide +kernel
theorem dL_putBack_9 : decode cL_putBack 9 = .ok (.goto 6, 3) := by decide +kernel
theorem dL_putBack_12 : decode cL_putBack 12 = .ok (.astore_n 3, 1) := by decide +kernel
theorem dL_putBack_13 : decode cL_putBack 13 = .ok (.iconst 1, 1) := by decide +kernel
theorem dL_putBack_14 : decode cL_putBack 14 = .ok (.ireturn, 1) := by decide +kernel
theorem dL_putBack_15 : decode cL_putBack 15 = .ok (.iconst 0, 1) := by decide +kernel
theorem dL_putBack_16 : decode cL_putBack 16 = .ok (.ireturn, 1) := by decide +kernel
theorem dL_claimTone_0 : decode cL_claimTone 0 = .ok (.aload 4, 2) := by decide +kernel
theorem dL_claimTone_2 : decode cL_claimTone 2 = .ok (.iconst 0, 1) := by decide +kernel
theorem dL_claimTone_3 : decode cL_claimTone 3 = .ok (.aload_n 0, 1) := by decide +kernel
theorem dL_claimTone_4 : decode cL_claimTone 4 = .ok (.iload_n 1, 1) := by decide +kernel
theorem dL_claimTone_5 : decode cL_claimTone 5 = .ok (.iload_n 2, 1) := by decide +kernel
theorem dL_claimTone_6 : decode cL_claimTone 6 = .ok (.iload_n 3, 1) := by decide +kernel
theorem dL_claimTone_7 : decode cL_claimTone 7 = .ok (.invokevirtual 44, 3) := by decide +kernel
theorem dL_claimTone_10 : decode cL_claimTone 10 = .ok (.i2l, 1) := by decide +kernel
theorem dL_claimTone_11 : decode cL_claimTone 11 = .ok (.lastore, 1) := by decide +kernel
theorem dL_claimTone_12 : decode cL_claimTone 12 = .ok (.goto 11, 3) := by decide +kernel
theorem dL_claimTone_15 : decode cL_claimTone 15 = .ok (.astore 5, 2) := by decide +kernel
theorem dL_claimTone_17 : decode cL_claimTone 17 = .ok (.iconst 1, 1) := by decide +kernel
theorem dL_claimTone_18 : decode cL_claimTone 18 = .ok (.ireturn, 1) := by decide +kernel
theorem dL_claimTone_19 : decode cL_claimTone 19 = .ok (.astore 5, 2) := by decide +kernel
theorem dL_claimTone_21 : decode cL_claimTone 21 = .ok (.iconst 2, 1) := by decide +kernel
theorem dL_claimTone_22 : decode cL_claimTone 22 = .ok (.ireturn, 1) := by decide +kernel
theorem dL_claimTone_23 : decode cL_claimTone 23 = .ok (.iconst 0, 1) := by decide +kernel
theorem dL_claimTone_24 : decode cL_claimTone 24 = .ok (.ireturn, 1) := by decide +kernel
theorem dL_claimAge_0 : decode cL_claimAge 0 = .ok (.aload_n 3, 1) := by decide +kernel
theorem dL_claimAge_1 : decode cL_claimAge 1 = .ok (.iconst 0, 1) := by decide +kernel
theorem dL_claimAge_2 : decode cL_claimAge 2 = .ok (.aload_n 0, 1) := by decide +kernel
theorem dL_claimAge_3 : decode cL_claimAge 3 = .ok (.iload_n 1, 1) := by decide +kernel
theorem dL_claimAge_4 : decode cL_claimAge 4 = .ok (.iload_n 2, 1) := by decide +kernel
theorem dL_claimAge_5 : decode cL_claimAge 5 = .ok (.invokevirtual 47, 3) := by decide +kernel
theorem dL_claimAge_8 : decode cL_claimAge 8 = .ok (.i2l, 1) := by decide +kernel
theorem dL_claimAge_9 : decode cL_claimAge 9 = .ok (.lastore, 1) := by decide +kernel
theorem dL_claimAge_10 : decode cL_claimAge 10 = .ok (.goto 15, 3) := by decide +kernel
theorem dL_claimAge_13 : decode cL_claimAge 13 = .ok (.astore 4, 2) := by decide +kernel
theorem dL_claimAge_15 : decode cL_claimAge 15 = .ok (.iconst 1, 1) := by decide +kernel
theorem dL_claimAge_16 : decode cL_claimAge 16 = .ok (.ireturn, 1) := by decide +kernel
theorem dL_claimAge_17 : decode cL_claimAge 17 = .ok (.astore 4, 2) := by decide +kernel
theorem dL_claimAge_19 : decode cL_claimAge 19 = .ok (.iconst 2, 1) := by decide +kernel
theorem dL_claimAge_20 : decode cL_claimAge 20 = .ok (.ireturn, 1) := by decide +kernel
theorem dL_claimAge_21 : decode cL_claimAge 21 = .ok (.astore 4, 2) := by decide +kernel
theorem dL_claimAge_23 : decode cL_claimAge 23 = .ok (.iconst 3, 1) := by decide +kernel
theorem dL_claimAge_24 : decode cL_claimAge 24 = .ok (.ireturn, 1) := by decide +kernel
theorem dL_claimAge_25 : decode cL_claimAge 25 = .ok (.iconst 0, 1) := by decide +kernel
theorem dL_claimAge_26 : decode cL_claimAge 26 = .ok (.ireturn, 1) := by decide +kernel
theorem dL_claimPlanet_0 : decode cL_claimPlanet 0 = .ok (.aload_n 2, 1) := by decide +kernel
theorem dL_claimPlanet_1 : decode cL_claimPlanet 1 = .ok (.iconst 0, 1) := by decide +kernel
theorem dL_claimPlanet_2 : decode cL_claimPlanet 2 = .ok (.aload_n 0, 1) := by decide +kernel
theorem dL_claimPlanet_3 : decode cL_claimPlanet 3 = .ok (.iload_n 1, 1) := by decide +kernel
theorem dL_claimPlanet_4 : decode cL_claimPlanet 4 = .ok (.invokevirtual 50, 3) := by decide +kernel
theorem dL_claimPlanet_7 : decode cL_claimPlanet 7 = .ok (.i2l, 1) := by decide +kernel
theorem dL_claimPlanet_8 : decode cL_claimPlanet 8 = .ok (.lastore, 1) := by decide +kernel
theorem dL_claimPlanet_9 : decode cL_claimPlanet 9 = .ok (.goto 12, 3) := by decide +kernel
theorem dL_claimPlanet_12 : decode cL_claimPlanet 12 = .ok (.astore_n 3, 1) := by decide +kernel
theorem dL_claimPlanet_13 : decode cL_claimPlanet 13 = .ok (.iconst 1, 1) := by decide +kernel
theorem dL_claimPlanet_14 : decode cL_claimPlanet 14 = .ok (.ireturn, 1) := by decide +kernel
theorem dL_claimPlanet_15 : decode cL_claimPlanet 15 = .ok (.astore_n 3, 1) := by decide +kernel
theorem dL_claimPlanet_16 : decode cL_claimPlanet 16 = .ok (.iconst 2, 1) := by decide +kernel
theorem dL_claimPlanet_17 : decode cL_claimPlanet 17 = .ok (.ireturn, 1) := by decide +kernel
theorem dL_claimPlanet_18 : decode cL_claimPlanet 18 = .ok (.astore_n 3, 1) := by decide +kernel
theorem dL_claimPlanet_19 : decode cL_claimPlanet 19 = .ok (.iconst 3, 1) := by decide +kernel
theorem dL_claimPlanet_20 : decode cL_claimPlanet 20 = .ok (.ireturn, 1) := by decide +kernel
theorem dL_claimPlanet_21 : decode cL_claimPlanet 21 = .ok (.iconst 0, 1) := by decide +kernel
theorem dL_claimPlanet_22 : decode cL_claimPlanet 22 = .ok (.ireturn, 1) := by decide +kernel
theorem dL_cite_0 : decode cL_cite 0 = .ok (.aload_n 3, 1) := by decide +kernel
theorem dL_cite_1 : decode cL_cite 1 = .ok (.iconst 0, 1) := by decide +kernel
theorem dL_cite_2 : decode cL_cite 2 = .ok (.aload_n 0, 1) := by decide +kernel
theorem dL_cite_3 : decode cL_cite 3 = .ok (.iload_n 1, 1) := by decide +kernel
theorem dL_cite_4 : decode cL_cite 4 = .ok (.iload_n 2, 1) := by decide +kernel
theorem dL_cite_5 : decode cL_cite 5 = .ok (.invokevirtual 53, 3) := by decide +kernel
theorem dL_cite_8 : decode cL_cite 8 = .ok (.i2l, 1) := by decide +kernel
theorem dL_cite_9 : decode cL_cite 9 = .ok (.lastore, 1) := by decide +kernel
theorem dL_cite_10 : decode cL_cite 10 = .ok (.goto 15, 3) := by decide +kernel
theorem dL_cite_13 : decode cL_cite 13 = .ok (.astore 4, 2) := by decide +kernel
theorem dL_cite_15 : decode cL_cite 15 = .ok (.iconst 1, 1) := by decide +kernel
theorem dL_cite_16 : decode cL_cite 16 = .ok (.ireturn, 1) := by decide +kernel
theorem dL_cite_17 : decode cL_cite 17 = .ok (.astore 4, 2) := by decide +kernel
theorem dL_cite_19 : decode cL_cite 19 = .ok (.iconst 2, 1) := by decide +kernel
theorem dL_cite_20 : decode cL_cite 20 = .ok (.ireturn, 1) := by decide +kernel
theorem dL_cite_21 : decode cL_cite 21 = .ok (.astore 4, 2) := by decide +kernel
theorem dL_cite_23 : decode cL_cite 23 = .ok (.iconst 3, 1) := by decide +kernel
theorem dL_cite_24 : decode cL_cite 24 = .ok (.ireturn, 1) := by decide +kernel
theorem dL_cite_25 : decode cL_cite 25 = .ok (.iconst 0, 1) := by decide +kernel
theorem dL_cite_26 : decode cL_cite 26 = .ok (.ireturn, 1) := by decide +kernel
theorem dL_withdraw_0 : decode cL_withdraw 0 = .ok (.aload_n 2, 1) := by decide +kernel
theorem dL_withdraw_1 : decode cL_withdraw 1 = .ok (.iconst 0, 1) := by decide +kernel
theorem dL_withdraw_2 : decode cL_withdraw 2 = .ok (.aload_n 0, 1) := by decide +kernel
theorem dL_withdraw_3 : decode cL_withdraw 3 = .ok (.iload_n 1, 1) := by decide +kernel
theorem dL_withdraw_4 : decode cL_withdraw 4 = .ok (.invokevirtual 56, 3) := by decide +kernel
theorem dL_withdraw_7 : decode cL_withdraw 7 = .ok (.i2l, 1) := by decide +kernel
theorem dL_withdraw_8 : decode cL_withdraw 8 = .ok (.lastore, 1) := by decide +kernel
theorem dL_withdraw_9 : decode cL_withdraw 9 = .ok (.goto 9, 3) := by decide +kernel
theorem dL_withdraw_12 : decode cL_withdraw 12 = .ok (.astore_n 3, 1) := by decide +kernel
theorem dL_withdraw_13 : decode cL_withdraw 13 = .ok (.iconst 1, 1) := by decide +kernel
theorem dL_withdraw_14 : decode cL_withdraw 14 = .ok (.ireturn, 1) := by decide +kernel
theorem dL_withdraw_15 : decode cL_withdraw 15 = .ok (.astore_n 3, 1) := by decide +kernel
theorem dL_withdraw_16 : decode cL_withdraw 16 = .ok (.iconst 2, 1) := by decide +kernel
theorem dL_withdraw_17 : decode cL_withdraw 17 = .ok (.ireturn, 1) := by decide +kernel
theorem dL_withdraw_18 : decode cL_withdraw 18 = .ok (.iconst 0, 1) := by decide +kernel
theorem dL_withdraw_19 : decode cL_withdraw 19 = .ok (.ireturn, 1) := by decide +kernel
theorem dL_ofStar_0 : decode cL_ofStar 0 = .ok (.aload_n 3, 1) := by decide +kernel
theorem dL_ofStar_1 : decode cL_ofStar 1 = .ok (.iconst 0, 1) := by decide +kernel
theorem dL_ofStar_2 : decode cL_ofStar 2 = .ok (.aload_n 0, 1) := by decide +kernel
theorem dL_ofStar_3 : decode cL_ofStar 3 = .ok (.iload_n 1, 1) := by decide +kernel
theorem dL_ofStar_4 : decode cL_ofStar 4 = .ok (.iload_n 2, 1) := by decide +kernel
theorem dL_ofStar_5 : decode cL_ofStar 5 = .ok (.invokevirtual 59, 3) := by decide +kernel
theorem dL_ofStar_8 : decode cL_ofStar 8 = .ok (.i2l, 1) := by decide +kernel
theorem dL_ofStar_9 : decode cL_ofStar 9 = .ok (.lastore, 1) := by decide +kernel
theorem dL_ofStar_10 : decode cL_ofStar 10 = .ok (.goto 11, 3) := by decide +kernel
theorem dL_ofStar_13 : decode cL_ofStar 13 = .ok (.astore 4, 2) := by decide +kernel
theorem dL_ofStar_15 : decode cL_ofStar 15 = .ok (.iconst 1, 1) := by decide +kernel
theorem dL_ofStar_16 : decode cL_ofStar 16 = .ok (.ireturn, 1) := by decide +kernel
theorem dL_ofStar_17 : decode cL_ofStar 17 = .ok (.astore 4, 2) := by decide +kernel
theorem dL_ofStar_19 : decode cL_ofStar 19 = .ok (.iconst 2, 1) := by decide +kernel
theorem dL_ofStar_20 : decode cL_ofStar 20 = .ok (.ireturn, 1) := by decide +kernel
theorem dL_ofStar_21 : decode cL_ofStar 21 = .ok (.iconst 0, 1) := by decide +kernel
theorem dL_ofStar_22 : decode cL_ofStar 22 = .ok (.ireturn, 1) := by decide +kernel
theorem dL_crossingAnew_0 : decode cL_crossingAnew 0 = .ok (.aload_n 2, 1) := by decide +kernel
theorem dL_crossingAnew_1 : decode cL_crossingAnew 1 = .ok (.iconst 0, 1) := by decide +kernel
theorem dL_crossingAnew_2 : decode cL_crossingAnew 2 = .ok (.aload_n 0, 1) := by decide +kernel
theorem dL_crossingAnew_3 : decode cL_crossingAnew 3 = .ok (.iload_n 1, 1) := by decide +kernel
theorem dL_crossingAnew_4 : decode cL_crossingAnew 4 = .ok (.invokevirtual 62, 3) := by decide +kernel
theorem dL_crossingAnew_7 : decode cL_crossingAnew 7 = .ok (.i2l, 1) := by decide +kernel
theorem dL_crossingAnew_8 : decode cL_crossingAnew 8 = .ok (.lastore, 1) := by decide +kernel
theorem dL_crossingAnew_9 : decode cL_crossingAnew 9 = .ok (.goto 6, 3) := by decide +kernel
theorem dL_crossingAnew_12 : decode cL_crossingAnew 12 = .ok (.astore_n 3, 1) := by decide +kernel
theorem dL_crossingAnew_13 : decode cL_crossingAnew 13 = .ok (.iconst 1, 1) := by decide +kernel
theorem dL_crossingAnew_14 : decode cL_crossingAnew 14 = .ok (.ireturn, 1) := by decide +kernel
theorem dL_crossingAnew_15 : decode cL_crossingAnew 15 = .ok (.iconst 0, 1) := by decide +kernel
theorem dL_crossingAnew_16 : decode cL_crossingAnew 16 = .ok (.ireturn, 1) := by decide +kernel
theorem dL_tone_0 : decode cL_tone 0 = .ok (.aload 5, 2) := by decide +kernel
theorem dL_tone_2 : decode cL_tone 2 = .ok (.iconst 0, 1) := by decide +kernel
theorem dL_tone_3 : decode cL_tone 3 = .ok (.aload_n 0, 1) := by decide +kernel
theorem dL_tone_4 : decode cL_tone 4 = .ok (.iload_n 1, 1) := by decide +kernel
theorem dL_tone_5 : decode cL_tone 5 = .ok (.iload_n 2, 1) := by decide +kernel
theorem dL_tone_6 : decode cL_tone 6 = .ok (.iload_n 3, 1) := by decide +kernel
theorem dL_tone_7 : decode cL_tone 7 = .ok (.iload 4, 2) := by decide +kernel
theorem dL_tone_9 : decode cL_tone 9 = .ok (.invokevirtual 65, 3) := by decide +kernel
theorem dL_tone_12 : decode cL_tone 12 = .ok (.i2l, 1) := by decide +kernel
theorem dL_tone_13 : decode cL_tone 13 = .ok (.lastore, 1) := by decide +kernel
theorem dL_tone_14 : decode cL_tone 14 = .ok (.goto 11, 3) := by decide +kernel
theorem dL_tone_17 : decode cL_tone 17 = .ok (.astore 6, 2) := by decide +kernel
theorem dL_tone_19 : decode cL_tone 19 = .ok (.iconst 1, 1) := by decide +kernel
theorem dL_tone_20 : decode cL_tone 20 = .ok (.ireturn, 1) := by decide +kernel
theorem dL_tone_21 : decode cL_tone 21 = .ok (.astore 6, 2) := by decide +kernel
theorem dL_tone_23 : decode cL_tone 23 = .ok (.iconst 2, 1) := by decide +kernel
theorem dL_tone_24 : decode cL_tone 24 = .ok (.ireturn, 1) := by decide +kernel
theorem dL_tone_25 : decode cL_tone 25 = .ok (.iconst 0, 1) := by decide +kernel
theorem dL_tone_26 : decode cL_tone 26 = .ok (.ireturn, 1) := by decide +kernel
theorem dL_frames_0 : decode cL_frames 0 = .ok (.aload_n 2, 1) := by decide +kernel
theorem dL_frames_1 : decode cL_frames 1 = .ok (.iconst 0, 1) := by decide +kernel
theorem dL_frames_2 : decode cL_frames 2 = .ok (.aload_n 0, 1) := by decide +kernel
theorem dL_frames_3 : decode cL_frames 3 = .ok (.iload_n 1, 1) := by decide +kernel
theorem dL_frames_4 : decode cL_frames 4 = .ok (.invokevirtual 68, 3) := by decide +kernel
theorem dL_frames_7 : decode cL_frames 7 = .ok (.i2l, 1) := by decide +kernel
theorem dL_frames_8 : decode cL_frames 8 = .ok (.lastore, 1) := by decide +kernel
theorem dL_frames_9 : decode cL_frames 9 = .ok (.goto 6, 3) := by decide +kernel
theorem dL_frames_12 : decode cL_frames 12 = .ok (.astore_n 3, 1) := by decide +kernel
theorem dL_frames_13 : decode cL_frames 13 = .ok (.iconst 1, 1) := by decide +kernel
theorem dL_frames_14 : decode cL_frames 14 = .ok (.ireturn, 1) := by decide +kernel
theorem dL_frames_15 : decode cL_frames 15 = .ok (.iconst 0, 1) := by decide +kernel
theorem dL_frames_16 : decode cL_frames 16 = .ok (.ireturn, 1) := by decide +kernel
theorem dL_value_0 : decode cL_value 0 = .ok (.aload 4, 2) := by decide +kernel
theorem dL_value_2 : decode cL_value 2 = .ok (.iconst 0, 1) := by decide +kernel
theorem dL_value_3 : decode cL_value 3 = .ok (.aload_n 0, 1) := by decide +kernel
theorem dL_value_4 : decode cL_value 4 = .ok (.iload_n 1, 1) := by decide +kernel
theorem dL_value_5 : decode cL_value 5 = .ok (.iload_n 2, 1) := by decide +kernel
theorem dL_value_6 : decode cL_value 6 = .ok (.iload_n 3, 1) := by decide +kernel
theorem dL_value_7 : decode cL_value 7 = .ok (.invokevirtual 71, 3) := by decide +kernel
theorem dL_value_10 : decode cL_value 10 = .ok (.i2l, 1) := by decide +kernel
theorem dL_value_11 : decode cL_value 11 = .ok (.lastore, 1) := by decide +kernel
theorem dL_value_12 : decode cL_value 12 = .ok (.goto 11, 3) := by decide +kernel
theorem dL_value_15 : decode cL_value 15 = .ok (.astore 5, 2) := by decide +kernel
theorem dL_value_17 : decode cL_value 17 = .ok (.iconst 1, 1) := by decide +kernel
theorem dL_value_18 : decode cL_value 18 = .ok (.ireturn, 1) := by decide +kernel
theorem dL_value_19 : decode cL_value 19 = .ok (.astore 5, 2) := by decide +kernel
theorem dL_value_21 : decode cL_value 21 = .ok (.iconst 2, 1) := by decide +kernel
theorem dL_value_22 : decode cL_value 22 = .ok (.ireturn, 1) := by decide +kernel
theorem dL_value_23 : decode cL_value 23 = .ok (.iconst 0, 1) := by decide +kernel
theorem dL_value_24 : decode cL_value 24 = .ok (.ireturn, 1) := by decide +kernel
theorem dL_power_0 : decode cL_power 0 = .ok (.aload 4, 2) := by decide +kernel
theorem dL_power_2 : decode cL_power 2 = .ok (.iconst 0, 1) := by decide +kernel
theorem dL_power_3 : decode cL_power 3 = .ok (.aload_n 0, 1) := by decide +kernel
theorem dL_power_4 : decode cL_power 4 = .ok (.iload_n 1, 1) := by decide +kernel
theorem dL_power_5 : decode cL_power 5 = .ok (.iload_n 2, 1) := by decide +kernel
theorem dL_power_6 : decode cL_power 6 = .ok (.iload_n 3, 1) := by decide +kernel
theorem dL_power_7 : decode cL_power 7 = .ok (.invokevirtual 74, 3) := by decide +kernel
theorem dL_power_10 : decode cL_power 10 = .ok (.lastore, 1) := by decide +kernel
theorem dL_power_11 : decode cL_power 11 = .ok (.goto 11, 3) := by decide +kernel
theorem dL_power_14 : decode cL_power 14 = .ok (.astore 5, 2) := by decide +kernel
theorem dL_power_16 : decode cL_power 16 = .ok (.iconst 1, 1) := by decide +kernel
theorem dL_power_17 : decode cL_power 17 = .ok (.ireturn, 1) := by decide +kernel
theorem dL_power_18 : decode cL_power 18 = .ok (.astore 5, 2) := by decide +kernel
theorem dL_power_20 : decode cL_power 20 = .ok (.iconst 2, 1) := by decide +kernel
theorem dL_power_21 : decode cL_power 21 = .ok (.ireturn, 1) := by decide +kernel
theorem dL_power_22 : decode cL_power 22 = .ok (.iconst 0, 1) := by decide +kernel
theorem dL_power_23 : decode cL_power 23 = .ok (.ireturn, 1) := by decide +kernel
theorem dL_window_0 : decode cL_window 0 = .ok (.aload_n 3, 1) := by decide +kernel
theorem dL_window_1 : decode cL_window 1 = .ok (.iconst 0, 1) := by decide +kernel
theorem dL_window_2 : decode cL_window 2 = .ok (.aload_n 0, 1) := by decide +kernel
theorem dL_window_3 : decode cL_window 3 = .ok (.iload_n 1, 1) := by decide +kernel
theorem dL_window_4 : decode cL_window 4 = .ok (.iload_n 2, 1) := by decide +kernel
theorem dL_window_5 : decode cL_window 5 = .ok (.invokevirtual 78, 3) := by decide +kernel
theorem dL_window_8 : decode cL_window 8 = .ok (.lastore, 1) := by decide +kernel
theorem dL_window_9 : decode cL_window 9 = .ok (.goto 11, 3) := by decide +kernel
theorem dL_window_12 : decode cL_window 12 = .ok (.astore 4, 2) := by decide +kernel
theorem dL_window_14 : decode cL_window 14 = .ok (.iconst 1, 1) := by decide +kernel
theorem dL_window_15 : decode cL_window 15 = .ok (.ireturn, 1) := by decide +kernel
theorem dL_window_16 : decode cL_window 16 = .ok (.astore 4, 2) := by decide +kernel
theorem dL_window_18 : decode cL_window 18 = .ok (.iconst 2, 1) := by decide +kernel
theorem dL_window_19 : decode cL_window 19 = .ok (.ireturn, 1) := by decide +kernel
theorem dL_window_20 : decode cL_window 20 = .ok (.iconst 0, 1) := by decide +kernel
theorem dL_window_21 : decode cL_window 21 = .ok (.ireturn, 1) := by decide +kernel
theorem dL_isPeak_0 : decode cL_isPeak 0 = .ok (.aload 4, 2) := by decide +kernel
theorem dL_isPeak_2 : decode cL_isPeak 2 = .ok (.iconst 0, 1) := by decide +kernel
theorem dL_isPeak_3 : decode cL_isPeak 3 = .ok (.aload_n 0, 1) := by decide +kernel
theorem dL_isPeak_4 : decode cL_isPeak 4 = .ok (.iload_n 1, 1) := by decide +kernel
theorem dL_isPeak_5 : decode cL_isPeak 5 = .ok (.iload_n 2, 1) := by decide +kernel
theorem dL_isPeak_6 : decode cL_isPeak 6 = .ok (.iload_n 3, 1) := by decide +kernel
theorem dL_isPeak_7 : decode cL_isPeak 7 = .ok (.invokevirtual 82, 3) := by decide +kernel
theorem dL_isPeak_10 : decode cL_isPeak 10 = .ok (.ifCond .eq 7, 3) := by decide +kernel
theorem dL_isPeak_13 : decode cL_isPeak 13 = .ok (.lconst 1, 1) := by decide +kernel
theorem dL_isPeak_14 : decode cL_isPeak 14 = .ok (.goto 4, 3) := by decide +kernel
theorem dL_isPeak_17 : decode cL_isPeak 17 = .ok (.lconst 0, 1) := by decide +kernel
theorem dL_isPeak_18 : decode cL_isPeak 18 = .ok (.lastore, 1) := by decide +kernel
theorem dL_isPeak_19 : decode cL_isPeak 19 = .ok (.goto 7, 3) := by decide +kernel
theorem dL_isPeak_22 : decode cL_isPeak 22 = .ok (.astore 5, 2) := by decide +kernel
theorem dL_isPeak_24 : decode cL_isPeak 24 = .ok (.iconst 1, 1) := by decide +kernel
theorem dL_isPeak_25 : decode cL_isPeak 25 = .ok (.ireturn, 1) := by decide +kernel
theorem dL_isPeak_26 : decode cL_isPeak 26 = .ok (.iconst 0, 1) := by decide +kernel
theorem dL_isPeak_27 : decode cL_isPeak 27 = .ok (.ireturn, 1) := by decide +kernel
theorem dL_isSeenThrough_0 : decode cL_isSeenThrough 0 = .ok (.aload 5, 2) := by decide +kernel
theorem dL_isSeenThrough_2 : decode cL_isSeenThrough 2 = .ok (.iconst 0, 1) := by decide +kernel
theorem dL_isSeenThrough_3 : decode cL_isSeenThrough 3 = .ok (.aload_n 0, 1) := by decide +kernel
theorem dL_isSeenThrough_4 : decode cL_isSeenThrough 4 = .ok (.iload_n 1, 1) := by decide +kernel
theorem dL_isSeenThrough_5 : decode cL_isSeenThrough 5 = .ok (.iload_n 2, 1) := by decide +kernel
theorem dL_isSeenThrough_6 : decode cL_isSeenThrough 6 = .ok (.iload_n 3, 1) := by decide +kernel
theorem dL_isSeenThrough_7 : decode cL_isSeenThrough 7 = .ok (.iload 4, 2) := by decide +kernel
theorem dL_isSeenThrough_9 : decode cL_isSeenThrough 9 = .ok (.invokevirtual 86, 3) := by decide +kernel
theorem dL_isSeenThrough_12 : decode cL_isSeenThrough 12 = .ok (.ifCond .eq 7, 3) := by decide +kernel
theorem dL_isSeenThrough_15 : decode cL_isSeenThrough 15 = .ok (.lconst 1, 1) := by decide +kernel
theorem dL_isSeenThrough_16 : decode cL_isSeenThrough 16 = .ok (.goto 4, 3) := by decide +kernel
theorem dL_isSeenThrough_19 : decode cL_isSeenThrough 19 = .ok (.lconst 0, 1) := by decide +kernel
theorem dL_isSeenThrough_20 : decode cL_isSeenThrough 20 = .ok (.lastore, 1) := by decide +kernel
theorem dL_isSeenThrough_21 : decode cL_isSeenThrough 21 = .ok (.goto 11, 3) := by decide +kernel
theorem dL_isSeenThrough_24 : decode cL_isSeenThrough 24 = .ok (.astore 6, 2) := by decide +kernel
theorem dL_isSeenThrough_26 : decode cL_isSeenThrough 26 = .ok (.iconst 1, 1) := by decide +kernel
theorem dL_isSeenThrough_27 : decode cL_isSeenThrough 27 = .ok (.ireturn, 1) := by decide +kernel
theorem dL_isSeenThrough_28 : decode cL_isSeenThrough 28 = .ok (.astore 6, 2) := by decide +kernel
theorem dL_isSeenThrough_30 : decode cL_isSeenThrough 30 = .ok (.iconst 2, 1) := by decide +kernel
theorem dL_isSeenThrough_31 : decode cL_isSeenThrough 31 = .ok (.ireturn, 1) := by decide +kernel
theorem dL_isSeenThrough_32 : decode cL_isSeenThrough 32 = .ok (.iconst 0, 1) := by decide +kernel
theorem dL_isSeenThrough_33 : decode cL_isSeenThrough 33 = .ok (.ireturn, 1) := by decide +kernel
theorem dL_ofClaim_0 : decode cL_ofClaim 0 = .ok (.aload_n 3, 1) := by decide +kernel
theorem dL_ofClaim_1 : decode cL_ofClaim 1 = .ok (.iconst 0, 1) := by decide +kernel
theorem dL_ofClaim_2 : decode cL_ofClaim 2 = .ok (.aload_n 0, 1) := by decide +kernel
theorem dL_ofClaim_3 : decode cL_ofClaim 3 = .ok (.iload_n 1, 1) := by decide +kernel
theorem dL_ofClaim_4 : decode cL_ofClaim 4 = .ok (.iload_n 2, 1) := by decide +kernel
theorem dL_ofClaim_5 : decode cL_ofClaim 5 = .ok (.invokevirtual 90, 3) := by decide +kernel
theorem dL_ofClaim_8 : decode cL_ofClaim 8 = .ok (.i2l, 1) := by decide +kernel
theorem dL_ofClaim_9 : decode cL_ofClaim 9 = .ok (.lastore, 1) := by decide +kernel
theorem dL_ofClaim_10 : decode cL_ofClaim 10 = .ok (.goto 11, 3) := by decide +kernel
theorem dL_ofClaim_13 : decode cL_ofClaim 13 = .ok (.astore 4, 2) := by decide +kernel
theorem dL_ofClaim_15 : decode cL_ofClaim 15 = .ok (.iconst 1, 1) := by decide +kernel
theorem dL_ofClaim_16 : decode cL_ofClaim 16 = .ok (.ireturn, 1) := by decide +kernel
theorem dL_ofClaim_17 : decode cL_ofClaim 17 = .ok (.astore 4, 2) := by decide +kernel
theorem dL_ofClaim_19 : decode cL_ofClaim 19 = .ok (.iconst 2, 1) := by decide +kernel
theorem dL_ofClaim_20 : decode cL_ofClaim 20 = .ok (.ireturn, 1) := by decide +kernel
theorem dL_ofClaim_21 : decode cL_ofClaim 21 = .ok (.iconst 0, 1) := by decide +kernel
theorem dL_ofClaim_22 : decode cL_ofClaim 22 = .ok (.ireturn, 1) := by decide +kernel
theorem dL_isSound_0 : decode cL_isSound 0 = .ok (.aload_n 2, 1) := by decide +kernel
theorem dL_isSound_1 : decode cL_isSound 1 = .ok (.iconst 0, 1) := by decide +kernel
theorem dL_isSound_2 : decode cL_isSound 2 = .ok (.aload_n 0, 1) := by decide +kernel
theorem dL_isSound_3 : decode cL_isSound 3 = .ok (.iload_n 1, 1) := by decide +kernel
theorem dL_isSound_4 : decode cL_isSound 4 = .ok (.invokevirtual 93, 3) := by decide +kernel
theorem dL_isSound_7 : decode cL_isSound 7 = .ok (.ifCond .eq 7, 3) := by decide +kernel
theorem dL_isSound_10 : decode cL_isSound 10 = .ok (.lconst 1, 1) := by decide +kernel
theorem dL_isSound_11 : decode cL_isSound 11 = .ok (.goto 4, 3) := by decide +kernel
theorem dL_isSound_14 : decode cL_isSound 14 = .ok (.lconst 0, 1) := by decide +kernel
theorem dL_isSound_15 : decode cL_isSound 15 = .ok (.lastore, 1) := by decide +kernel
theorem dL_isSound_16 : decode cL_isSound 16 = .ok (.goto 6, 3) := by decide +kernel
theorem dL_isSound_19 : decode cL_isSound 19 = .ok (.astore_n 3, 1) := by decide +kernel
theorem dL_isSound_20 : decode cL_isSound 20 = .ok (.iconst 1, 1) := by decide +kernel
theorem dL_isSound_21 : decode cL_isSound 21 = .ok (.ireturn, 1) := by decide +kernel
theorem dL_isSound_22 : decode cL_isSound 22 = .ok (.iconst 0, 1) := by decide +kernel
theorem dL_isSound_23 : decode cL_isSound 23 = .ok (.ireturn, 1) := by decide +kernel
theorem dL_law_0 : decode cL_law 0 = .ok (.new 8, 3) := by decide +kernel
theorem dL_law_3 : decode cL_law 3 = .ok (.dup, 1) := by decide +kernel
theorem dL_law_4 : decode cL_law 4 = .ok (.invokespecial 97, 3) := by decide +kernel
theorem dL_law_7 : decode cL_law 7 = .ok (.astore_n 1, 1) := by decide +kernel
theorem dL_law_8 : decode cL_law 8 = .ok (.new 98, 3) := by decide +kernel
theorem dL_law_11 : decode cL_law 11 = .ok (.dup, 1) := by decide +kernel
theorem dL_law_12 : decode cL_law 12 = .ok (.invokespecial 100, 3) := by decide +kernel
theorem dL_law_15 : decode cL_law 15 = .ok (.astore_n 2, 1) := by decide +kernel
theorem dL_law_16 : decode cL_law 16 = .ok (.iconst 1, 1) := by decide +kernel
theorem dL_law_17 : decode cL_law 17 = .ok (.newarray .long, 2) := by decide +kernel
theorem dL_law_19 : decode cL_law 19 = .ok (.astore_n 3, 1) := by decide +kernel
theorem dL_law_20 : decode cL_law 20 = .ok (.iconst 0, 1) := by decide +kernel
theorem dL_law_21 : decode cL_law 21 = .ok (.istore 4, 2) := by decide +kernel
theorem dL_law_23 : decode cL_law 23 = .ok (.iload 4, 2) := by decide +kernel
theorem dL_law_25 : decode cL_law 25 = .ok (.aload_n 0, 1) := by decide +kernel
theorem dL_law_26 : decode cL_law 26 = .ok (.arraylength, 1) := by decide +kernel
theorem dL_law_27 : decode cL_law 27 = .ok (.iconst 5, 1) := by decide +kernel
theorem dL_law_28 : decode cL_law 28 = .ok (.isub, 1) := by decide +kernel
theorem dL_law_29 : decode cL_law 29 = .ok (.if_icmp .gt 1852, 3) := by decide +kernel
theorem dL_law_32 : decode cL_law 32 = .ok (.aload_n 0, 1) := by decide +kernel
theorem dL_law_33 : decode cL_law 33 = .ok (.iload 4, 2) := by decide +kernel
theorem dL_law_35 : decode cL_law 35 = .ok (.iaload, 1) := by decide +kernel
theorem dL_law_36 : decode cL_law 36 = .ok (.bipush 31, 2) := by decide +kernel
theorem dL_law_38 : decode cL_law 38 = .ok (.iand, 1) := by decide +kernel
theorem dL_law_39 : decode cL_law 39 = .ok (.tableswitch 1836 0 24 #[113, 193, 249, 341, 409, 500, 556, 624, 680, 760, 828, 884, 952, 1008, 1021, 1089, 1145, 1237, 1293, 1373, 1452, 1519, 1606, 1705, 1773], 113) := by decide +kernel
theorem dL_law_152 : decode cL_law 152 = .ok (.aload_n 1, 1) := by decide +kernel
theorem dL_law_153 : decode cL_law 153 = .ok (.aload_n 0, 1) := by decide +kernel
theorem dL_law_154 : decode cL_law 154 = .ok (.iload 4, 2) := by decide +kernel
theorem dL_law_156 : decode cL_law 156 = .ok (.iconst 1, 1) := by decide +kernel
theorem dL_law_157 : decode cL_law 157 = .ok (.iadd, 1) := by decide +kernel
theorem dL_law_158 : decode cL_law 158 = .ok (.iaload, 1) := by decide +kernel
theorem dL_law_159 : decode cL_law 159 = .ok (.aload_n 0, 1) := by decide +kernel
theorem dL_law_160 : decode cL_law 160 = .ok (.iload 4, 2) := by decide +kernel
theorem dL_law_162 : decode cL_law 162 = .ok (.iconst 2, 1) := by decide +kernel
theorem dL_law_163 : decode cL_law 163 = .ok (.iadd, 1) := by decide +kernel
theorem dL_law_164 : decode cL_law 164 = .ok (.iaload, 1) := by decide +kernel
theorem dL_law_165 : decode cL_law 165 = .ok (.aload_n 0, 1) := by decide +kernel
theorem dL_law_166 : decode cL_law 166 = .ok (.iload 4, 2) := by decide +kernel
theorem dL_law_168 : decode cL_law 168 = .ok (.iconst 3, 1) := by decide +kernel
theorem dL_law_169 : decode cL_law 169 = .ok (.iadd, 1) := by decide +kernel
theorem dL_law_170 : decode cL_law 170 = .ok (.iaload, 1) := by decide +kernel
theorem dL_law_171 : decode cL_law 171 = .ok (.aload_n 3, 1) := by decide +kernel
theorem dL_law_172 : decode cL_law 172 = .ok (.invokestatic 101, 3) := by decide +kernel
theorem dL_law_175 : decode cL_law 175 = .ok (.istore 5, 2) := by decide +kernel
theorem dL_law_177 : decode cL_law 177 = .ok (.aload_n 2, 1) := by decide +kernel
theorem dL_law_178 : decode cL_law 178 = .ok (.aload_n 0, 1) := by decide +kernel
theorem dL_law_179 : decode cL_law 179 = .ok (.iload 4, 2) := by decide +kernel
theorem dL_law_181 : decode cL_law 181 = .ok (.iconst 1, 1) := by decide +kernel
theorem dL_law_182 : decode cL_law 182 = .ok (.iadd, 1) := by decide +kernel
theorem dL_law_183 : decode cL_law 183 = .ok (.iaload, 1) := by decide +kernel
theorem dL_law_184 : decode cL_law 184 = .ok (.aload_n 0, 1) := by decide +kernel
theorem dL_law_185 : decode cL_law 185 = .ok (.iload 4, 2) := by decide +kernel
theorem dL_law_187 : decode cL_law 187 = .ok (.iconst 2, 1) := by decide +kernel
theorem dL_law_188 : decode cL_law 188 = .ok (.iadd, 1) := by decide +kernel
theorem dL_law_189 : decode cL_law 189 = .ok (.iaload, 1) := by decide +kernel
theorem dL_law_190 : decode cL_law 190 = .ok (.aload_n 0, 1) := by decide +kernel
theorem dL_law_191 : decode cL_law 191 = .ok (.iload 4, 2) := by decide +kernel
theorem dL_law_193 : decode cL_law 193 = .ok (.iconst 3, 1) := by decide +kernel
theorem dL_law_194 : decode cL_law 194 = .ok (.iadd, 1) := by decide +kernel
theorem dL_law_195 : decode cL_law 195 = .ok (.iaload, 1) := by decide +kernel
theorem dL_law_196 : decode cL_law 196 = .ok (.invokevirtual 106, 3) := by decide +kernel
theorem dL_law_199 : decode cL_law 199 = .ok (.istore 6, 2) := by decide +kernel
theorem dL_law_201 : decode cL_law 201 = .ok (.aload_n 2, 1) := by decide +kernel
theorem dL_law_202 : decode cL_law 202 = .ok (.invokevirtual 107, 3) := by decide +kernel
theorem dL_law_205 : decode cL_law 205 = .ok (.iload 5, 2) := by decide +kernel
theorem dL_law_207 : decode cL_law 207 = .ok (.if_icmp .eq 5, 3) := by decide +kernel
theorem dL_law_210 : decode cL_law 210 = .ok (.iconst 0, 1) := by decide +kernel
theorem dL_law_211 : decode cL_law 211 = .ok (.ireturn, 1) := by decide +kernel
theorem dL_law_212 : decode cL_law 212 = .ok (.iload 5, 2) := by decide +kernel
theorem dL_law_214 : decode cL_law 214 = .ok (.ifCond .ne 15, 3) := by decide +kernel
theorem dL_law_217 : decode cL_law 217 = .ok (.aload_n 3, 1) := by decide +kernel
theorem dL_law_218 : decode cL_law 218 = .ok (.iconst 0, 1) := by decide +kernel
theorem dL_law_219 : decode cL_law 219 = .ok (.laload, 1) := by decide +kernel
theorem dL_law_220 : decode cL_law 220 = .ok (.iload 6, 2) := by decide +kernel
theorem dL_law_222 : decode cL_law 222 = .ok (.i2l, 1) := by decide +kernel
theorem dL_law_223 : decode cL_law 223 = .ok (.lcmp, 1) := by decide +kernel
theorem dL_law_224 : decode cL_law 224 = .ok (.ifCond .eq 5, 3) := by decide +kernel
theorem dL_law_227 : decode cL_law 227 = .ok (.iconst 0, 1) := by decide +kernel
theorem dL_law_228 : decode cL_law 228 = .ok (.ireturn, 1) := by decide +kernel
theorem dL_law_229 : decode cL_law 229 = .ok (.goto 1646, 3) := by decide +kernel
theorem dL_law_232 : decode cL_law 232 = .ok (.aload_n 1, 1) := by decide +kernel
theorem dL_law_233 : decode cL_law 233 = .ok (.aload_n 0, 1) := by decide +kernel
theorem dL_law_234 : decode cL_law 234 = .ok (.iload 4, 2) := by decide +kernel
theorem dL_law_236 : decode cL_law 236 = .ok (.iconst 1, 1) := by decide +kernel
theorem dL_law_237 : decode cL_law 237 = .ok (.iadd, 1) := by decide +kernel
theorem dL_law_238 : decode cL_law 238 = .ok (.iaload, 1) := by decide +kernel
theorem dL_law_239 : decode cL_law 239 = .ok (.aload_n 3, 1) := by decide +kernel
theorem dL_law_240 : decode cL_law 240 = .ok (.invokestatic 111, 3) := by decide +kernel
theorem dL_law_243 : decode cL_law 243 = .ok (.istore 5, 2) := by decide +kernel
theorem dL_law_245 : decode cL_law 245 = .ok (.aload_n 2, 1) := by decide +kernel
theorem dL_law_246 : decode cL_law 246 = .ok (.aload_n 0, 1) := by decide +kernel
theorem dL_law_247 : decode cL_law 247 = .ok (.iload 4, 2) := by decide +kernel
theorem dL_law_249 : decode cL_law 249 = .ok (.iconst 1, 1) := by decide +kernel
theorem dL_law_250 : decode cL_law 250 = .ok (.iadd, 1) := by decide +kernel
theorem dL_law_251 : decode cL_law 251 = .ok (.iaload, 1) := by decide +kernel
theorem dL_law_252 : decode cL_law 252 = .ok (.invokevirtual 114, 3) := by decide +kernel
theorem dL_law_255 : decode cL_law 255 = .ok (.istore 6, 2) := by decide +kernel
theorem dL_law_257 : decode cL_law 257 = .ok (.aload_n 2, 1) := by decide +kernel
theorem dL_law_258 : decode cL_law 258 = .ok (.invokevirtual 107, 3) := by decide +kernel
theorem dL_law_261 : decode cL_law 261 = .ok (.iload 5, 2) := by decide +kernel
theorem dL_law_263 : decode cL_law 263 = .ok (.if_icmp .eq 5, 3) := by decide +kernel
theorem dL_law_266 : decode cL_law 266 = .ok (.iconst 0, 1) := by decide +kernel
theorem dL_law_267 : decode cL_law 267 = .ok (.ireturn, 1) := by decide +kernel
theorem dL_law_268 : decode cL_law 268 = .ok (.iload 5, 2) := by decide +kernel
theorem dL_law_270 : decode cL_law 270 = .ok (.ifCond .ne 15, 3) := by decide +kernel
theorem dL_law_273 : decode cL_law 273 = .ok (.aload_n 3, 1) := by decide +kernel
theorem dL_law_274 : decode cL_law 274 = .ok (.iconst 0, 1) := by decide +kernel
theorem dL_law_275 : decode cL_law 275 = .ok (.laload, 1) := by decide +kernel
theorem dL_law_276 : decode cL_law 276 = .ok (.iload 6, 2) := by decide +kernel
theorem dL_law_278 : decode cL_law 278 = .ok (.i2l, 1) := by decide +kernel
theorem dL_law_279 : decode cL_law 279 = .ok (.lcmp, 1) := by decide +kernel
theorem dL_law_280 : decode cL_law 280 = .ok (.ifCond .eq 5, 3) := by decide +kernel
theorem dL_law_283 : decode cL_law 283 = .ok (.iconst 0, 1) := by decide +kernel
theorem dL_law_284 : decode cL_law 284 = .ok (.ireturn, 1) := by decide +kernel
theorem dL_law_285 : decode cL_law 285 = .ok (.goto 1590, 3) := by decide +kernel
theorem dL_law_288 : decode cL_law 288 = .ok (.aload_n 1, 1) := by decide +kernel
theorem dL_law_289 : decode cL_law 289 = .ok (.aload_n 0, 1) := by decide +kernel
theorem dL_law_290 : decode cL_law 290 = .ok (.iload 4, 2) := by decide +kernel
theorem dL_law_292 : decode cL_law 292 = .ok (.iconst 1, 1) := by decide +kernel
theorem dL_law_293 : decode cL_law 293 = .ok (.iadd, 1) := by decide +kernel
theorem dL_law_294 : decode cL_law 294 = .ok (.iaload, 1) := by decide +kernel
theorem dL_law_295 : decode cL_law 295 = .ok (.aload_n 0, 1) := by decide +kernel
theorem dL_law_296 : decode cL_law 296 = .ok (.iload 4, 2) := by decide +kernel
theorem dL_law_298 : decode cL_law 298 = .ok (.iconst 2, 1) := by decide +kernel
theorem dL_law_299 : decode cL_law 299 = .ok (.iadd, 1) := by decide +kernel
theorem dL_law_300 : decode cL_law 300 = .ok (.iaload, 1) := by decide +kernel
theorem dL_law_301 : decode cL_law 301 = .ok (.aload_n 0, 1) := by decide +kernel
theorem dL_law_302 : decode cL_law 302 = .ok (.iload 4, 2) := by decide +kernel
theorem dL_law_304 : decode cL_law 304 = .ok (.iconst 3, 1) := by decide +kernel
theorem dL_law_305 : decode cL_law 305 = .ok (.iadd, 1) := by decide +kernel
theorem dL_law_306 : decode cL_law 306 = .ok (.iaload, 1) := by decide +kernel
theorem dL_law_307 : decode cL_law 307 = .ok (.aload_n 0, 1) := by decide +kernel
theorem dL_law_308 : decode cL_law 308 = .ok (.iload 4, 2) := by decide +kernel
theorem dL_law_310 : decode cL_law 310 = .ok (.iconst 4, 1) := by decide +kernel
theorem dL_law_311 : decode cL_law 311 = .ok (.iadd, 1) := by decide +kernel
theorem dL_law_312 : decode cL_law 312 = .ok (.iaload, 1) := by decide +kernel
theorem dL_law_313 : decode cL_law 313 = .ok (.aload_n 3, 1) := by decide +kernel
theorem dL_law_314 : decode cL_law 314 = .ok (.invokestatic 115, 3) := by decide +kernel
theorem dL_law_317 : decode cL_law 317 = .ok (.istore 5, 2) := by decide +kernel
theorem dL_law_319 : decode cL_law 319 = .ok (.aload_n 2, 1) := by decide +kernel
theorem dL_law_320 : decode cL_law 320 = .ok (.aload_n 0, 1) := by decide +kernel
theorem dL_law_321 : decode cL_law 321 = .ok (.iload 4, 2) := by decide +kernel
theorem dL_law_323 : decode cL_law 323 = .ok (.iconst 1, 1) := by decide +kernel
theorem dL_law_324 : decode cL_law 324 = .ok (.iadd, 1) := by decide +kernel
theorem dL_law_325 : decode cL_law 325 = .ok (.iaload, 1) := by decide +kernel
theorem dL_law_326 : decode cL_law 326 = .ok (.aload_n 0, 1) := by decide +kernel
theorem dL_law_327 : decode cL_law 327 = .ok (.iload 4, 2) := by decide +kernel
theorem dL_law_329 : decode cL_law 329 = .ok (.iconst 2, 1) := by decide +kernel
theorem dL_law_330 : decode cL_law 330 = .ok (.iadd, 1) := by decide +kernel
theorem dL_law_331 : decode cL_law 331 = .ok (.iaload, 1) := by decide +kernel
theorem dL_law_332 : decode cL_law 332 = .ok (.aload_n 0, 1) := by decide +kernel
theorem dL_law_333 : decode cL_law 333 = .ok (.iload 4, 2) := by decide +kernel
theorem dL_law_335 : decode cL_law 335 = .ok (.iconst 3, 1) := by decide +kernel
theorem dL_law_336 : decode cL_law 336 = .ok (.iadd, 1) := by decide +kernel
theorem dL_law_337 : decode cL_law 337 = .ok (.iaload, 1) := by decide +kernel
theorem dL_law_338 : decode cL_law 338 = .ok (.aload_n 0, 1) := by decide +kernel
theorem dL_law_339 : decode cL_law 339 = .ok (.iload 4, 2) := by decide +kernel
theorem dL_law_341 : decode cL_law 341 = .ok (.iconst 4, 1) := by decide +kernel
theorem dL_law_342 : decode cL_law 342 = .ok (.iadd, 1) := by decide +kernel
theorem dL_law_343 : decode cL_law 343 = .ok (.iaload, 1) := by decide +kernel
theorem dL_law_344 : decode cL_law 344 = .ok (.invokevirtual 118, 3) := by decide +kernel
theorem dL_law_347 : decode cL_law 347 = .ok (.istore 6, 2) := by decide +kernel
theorem dL_law_349 : decode cL_law 349 = .ok (.aload_n 2, 1) := by decide +kernel
theorem dL_law_350 : decode cL_law 350 = .ok (.invokevirtual 107, 3) := by decide +kernel
theorem dL_law_353 : decode cL_law 353 = .ok (.iload 5, 2) := by decide +kernel
theorem dL_law_355 : decode cL_law 355 = .ok (.if_icmp .eq 5, 3) := by decide +kernel
theorem dL_law_358 : decode cL_law 358 = .ok (.iconst 0, 1) := by decide +kernel
theorem dL_law_359 : decode cL_law 359 = .ok (.ireturn, 1) := by decide +kernel
theorem dL_law_360 : decode cL_law 360 = .ok (.iload 5, 2) := by decide +kernel
theorem dL_law_362 : decode cL_law 362 = .ok (.ifCond .ne 15, 3) := by decide +kernel
theorem dL_law_365 : decode cL_law 365 = .ok (.aload_n 3, 1) := by decide +kernel
theorem dL_law_366 : decode cL_law 366 = .ok (.iconst 0, 1) := by decide +kernel
theorem dL_law_367 : decode cL_law 367 = .ok (.laload, 1) := by decide +kernel
theorem dL_law_368 : decode cL_law 368 = .ok (.iload 6, 2) := by decide +kernel
theorem dL_law_370 : decode cL_law 370 = .ok (.i2l, 1) := by decide +kernel
theorem dL_law_371 : decode cL_law 371 = .ok (.lcmp, 1) := by decide +kernel
theorem dL_law_372 : decode cL_law 372 = .ok (.ifCond .eq 5, 3) := by decide +kernel
theorem dL_law_375 : decode cL_law 375 = .ok (.iconst 0, 1) := by decide +kernel
theorem dL_law_376 : decode cL_law 376 = .ok (.ireturn, 1) := by decide +kernel
theorem dL_law_377 : decode cL_law 377 = .ok (.goto 1498, 3) := by decide +kernel
theorem dL_law_380 : decode cL_law 380 = .ok (.aload_n 1, 1) := by decide +kernel
theorem dL_law_381 : decode cL_law 381 = .ok (.aload_n 0, 1) := by decide +kernel
theorem dL_law_382 : decode cL_law 382 = .ok (.iload 4, 2) := by decide +kernel
theorem dL_law_384 : decode cL_law 384 = .ok (.iconst 1, 1) := by decide +kernel
theorem dL_law_385 : decode cL_law 385 = .ok (.iadd, 1) := by decide +kernel
theorem dL_law_386 : decode cL_law 386 = .ok (.iaload, 1) := by decide +kernel
theorem dL_law_387 : decode cL_law 387 = .ok (.aload_n 0, 1) := by decide +kernel
theorem dL_law_388 : decode cL_law 388 = .ok (.iload 4, 2) := by decide +kernel
theorem dL_law_390 : decode cL_law 390 = .ok (.iconst 2, 1) := by decide +kernel
theorem dL_law_391 : decode cL_law 391 = .ok (.iadd, 1) := by decide +kernel
theorem dL_law_392 : decode cL_law 392 = .ok (.iaload, 1) := by decide +kernel
theorem dL_law_393 : decode cL_law 393 = .ok (.aload_n 3, 1) := by decide +kernel
theorem dL_law_394 : decode cL_law 394 = .ok (.invokestatic 119, 3) := by decide +kernel
theorem dL_law_397 : decode cL_law 397 = .ok (.istore 5, 2) := by decide +kernel
theorem dL_law_399 : decode cL_law 399 = .ok (.aload_n 2, 1) := by decide +kernel
theorem dL_law_400 : decode cL_law 400 = .ok (.aload_n 0, 1) := by decide +kernel
theorem dL_law_401 : decode cL_law 401 = .ok (.iload 4, 2) := by decide +kernel
theorem dL_law_403 : decode cL_law 403 = .ok (.iconst 1, 1) := by decide +kernel
theorem dL_law_404 : decode cL_law 404 = .ok (.iadd, 1) := by decide +kernel
theorem dL_law_405 : decode cL_law 405 = .ok (.iaload, 1) := by decide +kernel
theorem dL_law_406 : decode cL_law 406 = .ok (.aload_n 0, 1) := by decide +kernel
theorem dL_law_407 : decode cL_law 407 = .ok (.iload 4, 2) := by decide +kernel
theorem dL_law_409 : decode cL_law 409 = .ok (.iconst 2, 1) := by decide +kernel
theorem dL_law_410 : decode cL_law 410 = .ok (.iadd, 1) := by decide +kernel
theorem dL_law_411 : decode cL_law 411 = .ok (.iaload, 1) := by decide +kernel
theorem dL_law_412 : decode cL_law 412 = .ok (.invokevirtual 122, 3) := by decide +kernel
theorem dL_law_415 : decode cL_law 415 = .ok (.istore 6, 2) := by decide +kernel
theorem dL_law_417 : decode cL_law 417 = .ok (.aload_n 2, 1) := by decide +kernel
theorem dL_law_418 : decode cL_law 418 = .ok (.invokevirtual 107, 3) := by decide +kernel
theorem dL_law_421 : decode cL_law 421 = .ok (.iload 5, 2) := by decide +kernel
theorem dL_law_423 : decode cL_law 423 = .ok (.if_icmp .eq 5, 3) := by decide +kernel
theorem dL_law_426 : decode cL_law 426 = .ok (.iconst 0, 1) := by decide +kernel
theorem dL_law_427 : decode cL_law 427 = .ok (.ireturn, 1) := by decide +kernel
theorem dL_law_428 : decode cL_law 428 = .ok (.iload 5, 2) := by decide +kernel
theorem dL_law_430 : decode cL_law 430 = .ok (.ifCond .ne 15, 3) := by decide +kernel
theorem dL_law_433 : decode cL_law 433 = .ok (.aload_n 3, 1) := by decide +kernel
theorem dL_law_434 : decode cL_law 434 = .ok (.iconst 0, 1) := by decide +kernel
theorem dL_law_435 : decode cL_law 435 = .ok (.laload, 1) := by decide +kernel
theorem dL_law_436 : decode cL_law 436 = .ok (.iload 6, 2) := by decide +kernel
theorem dL_law_438 : decode cL_law 438 = .ok (.i2l, 1) := by decide +kernel
theorem dL_law_439 : decode cL_law 439 = .ok (.lcmp, 1) := by decide +kernel
theorem dL_law_440 : decode cL_law 440 = .ok (.ifCond .eq 5, 3) := by decide +kernel
theorem dL_law_443 : decode cL_law 443 = .ok (.iconst 0, 1) := by decide +kernel
theorem dL_law_444 : decode cL_law 444 = .ok (.ireturn, 1) := by decide +kernel
theorem dL_law_445 : decode cL_law 445 = .ok (.goto 1430, 3) := by decide +kernel
theorem dL_law_448 : decode cL_law 448 = .ok (.aload_n 1, 1) := by decide +kernel
theorem dL_law_449 : decode cL_law 449 = .ok (.aload_n 0, 1) := by decide +kernel
theorem dL_law_450 : decode cL_law 450 = .ok (.iload 4, 2) := by decide +kernel
theorem dL_law_452 : decode cL_law 452 = .ok (.iconst 1, 1) := by decide +kernel
theorem dL_law_453 : decode cL_law 453 = .ok (.iadd, 1) := by decide +kernel
theorem dL_law_454 : decode cL_law 454 = .ok (.iaload, 1) := by decide +kernel
theorem dL_law_455 : decode cL_law 455 = .ok (.aload_n 0, 1) := by decide +kernel
theorem dL_law_456 : decode cL_law 456 = .ok (.iload 4, 2) := by decide +kernel
theorem dL_law_458 : decode cL_law 458 = .ok (.iconst 2, 1) := by decide +kernel
theorem dL_law_459 : decode cL_law 459 = .ok (.iadd, 1) := by decide +kernel
theorem dL_law_460 : decode cL_law 460 = .ok (.iaload, 1) := by decide +kernel
theorem dL_law_461 : decode cL_law 461 = .ok (.ifCond .eq 7, 3) := by decide +kernel
theorem dL_law_464 : decode cL_law 464 = .ok (.iconst 1, 1) := by decide +kernel
theorem dL_law_465 : decode cL_law 465 = .ok (.goto 4, 3) := by decide +kernel
theorem dL_law_468 : decode cL_law 468 = .ok (.iconst 0, 1) := by decide +kernel
theorem dL_law_469 : decode cL_law 469 = .ok (.aload_n 3, 1) := by decide +kernel
theorem dL_law_470 : decode cL_law 470 = .ok (.invokestatic 123, 3) := by decide +kernel
theorem dL_law_473 : decode cL_law 473 = .ok (.istore 5, 2) := by decide +kernel
theorem dL_law_475 : decode cL_law 475 = .ok (.aload_n 2, 1) := by decide +kernel
theorem dL_law_476 : decode cL_law 476 = .ok (.aload_n 0, 1) := by decide +kernel
theorem dL_law_477 : decode cL_law 477 = .ok (.iload 4, 2) := by decide +kernel
theorem dL_law_479 : decode cL_law 479 = .ok (.iconst 1, 1) := by decide +kernel
theorem dL_law_480 : decode cL_law 480 = .ok (.iadd, 1) := by decide +kernel
theorem dL_law_481 : decode cL_law 481 = .ok (.iaload, 1) := by decide +kernel
theorem dL_law_482 : decode cL_law 482 = .ok (.aload_n 0, 1) := by decide +kernel
theorem dL_law_483 : decode cL_law 483 = .ok (.iload 4, 2) := by decide +kernel
theorem dL_law_485 : decode cL_law 485 = .ok (.iconst 2, 1) := by decide +kernel
theorem dL_law_486 : decode cL_law 486 = .ok (.iadd, 1) := by decide +kernel
theorem dL_law_487 : decode cL_law 487 = .ok (.iaload, 1) := by decide +kernel
theorem dL_law_488 : decode cL_law 488 = .ok (.ifCond .eq 7, 3) := by decide +kernel
theorem dL_law_491 : decode cL_law 491 = .ok (.iconst 1, 1) := by decide +kernel
theorem dL_law_492 : decode cL_law 492 = .ok (.goto 4, 3) := by decide +kernel
theorem dL_law_495 : decode cL_law 495 = .ok (.iconst 0, 1) := by decide +kernel
theorem dL_law_496 : decode cL_law 496 = .ok (.invokevirtual 126, 3) := by decide +kernel
theorem dL_law_499 : decode cL_law 499 = .ok (.istore 6, 2) := by decide +kernel
theorem dL_law_501 : decode cL_law 501 = .ok (.aload_n 2, 1) := by decide +kernel
theorem dL_law_502 : decode cL_law 502 = .ok (.invokevirtual 107, 3) := by decide +kernel
theorem dL_law_505 : decode cL_law 505 = .ok (.iload 5, 2) := by decide +kernel
theorem dL_law_507 : decode cL_law 507 = .ok (.if_icmp .eq 5, 3) := by decide +kernel
theorem dL_law_510 : decode cL_law 510 = .ok (.iconst 0, 1) := by decide +kernel
theorem dL_law_511 : decode cL_law 511 = .ok (.ireturn, 1) := by decide +kernel
theorem dL_law_512 : decode cL_law 512 = .ok (.iload 5, 2) := by decide +kernel
theorem dL_law_514 : decode cL_law 514 = .ok (.ifCond .ne 22, 3) := by decide +kernel
theorem dL_law_517 : decode cL_law 517 = .ok (.aload_n 3, 1) := by decide +kernel
theorem dL_law_518 : decode cL_law 518 = .ok (.iconst 0, 1) := by decide +kernel
theorem dL_law_519 : decode cL_law 519 = .ok (.laload, 1) := by decide +kernel
theorem dL_law_520 : decode cL_law 520 = .ok (.iload 6, 2) := by decide +kernel
theorem dL_law_522 : decode cL_law 522 = .ok (.ifCond .eq 7, 3) := by decide +kernel
theorem dL_law_525 : decode cL_law 525 = .ok (.lconst 1, 1) := by decide +kernel
theorem dL_law_526 : decode cL_law 526 = .ok (.goto 4, 3) := by decide +kernel
theorem dL_law_529 : decode cL_law 529 = .ok (.lconst 0, 1) := by decide +kernel
theorem dL_law_530 : decode cL_law 530 = .ok (.lcmp, 1) := by decide +kernel
theorem dL_law_531 : decode cL_law 531 = .ok (.ifCond .eq 5, 3) := by decide +kernel
theorem dL_law_534 : decode cL_law 534 = .ok (.iconst 0, 1) := by decide +kernel
theorem dL_law_535 : decode cL_law 535 = .ok (.ireturn, 1) := by decide +kernel
theorem dL_law_536 : decode cL_law 536 = .ok (.goto 1339, 3) := by decide +kernel
theorem dL_law_539 : decode cL_law 539 = .ok (.aload_n 1, 1) := by decide +kernel
theorem dL_law_540 : decode cL_law 540 = .ok (.aload_n 0, 1) := by decide +kernel
theorem dL_law_541 : decode cL_law 541 = .ok (.iload 4, 2) := by decide +kernel
theorem dL_law_543 : decode cL_law 543 = .ok (.iconst 1, 1) := by decide +kernel
theorem dL_law_544 : decode cL_law 544 = .ok (.iadd, 1) := by decide +kernel
theorem dL_law_545 : decode cL_law 545 = .ok (.iaload, 1) := by decide +kernel
theorem dL_law_546 : decode cL_law 546 = .ok (.aload_n 3, 1) := by decide +kernel
theorem dL_law_547 : decode cL_law 547 = .ok (.invokestatic 127, 3) := by decide +kernel
theorem dL_law_550 : decode cL_law 550 = .ok (.istore 5, 2) := by decide +kernel
theorem dL_law_552 : decode cL_law 552 = .ok (.aload_n 2, 1) := by decide +kernel
theorem dL_law_553 : decode cL_law 553 = .ok (.aload_n 0, 1) := by decide +kernel
theorem dL_law_554 : decode cL_law 554 = .ok (.iload 4, 2) := by decide +kernel
theorem dL_law_556 : decode cL_law 556 = .ok (.iconst 1, 1) := by decide +kernel
theorem dL_law_557 : decode cL_law 557 = .ok (.iadd, 1) := by decide +kernel
theorem dL_law_558 : decode cL_law 558 = .ok (.iaload, 1) := by decide +kernel
theorem dL_law_559 : decode cL_law 559 = .ok (.invokevirtual 129, 3) := by decide +kernel
theorem dL_law_562 : decode cL_law 562 = .ok (.istore 6, 2) := by decide +kernel
theorem dL_law_564 : decode cL_law 564 = .ok (.aload_n 2, 1) := by decide +kernel
theorem dL_law_565 : decode cL_law 565 = .ok (.invokevirtual 107, 3) := by decide +kernel
theorem dL_law_568 : decode cL_law 568 = .ok (.iload 5, 2) := by decide +kernel
theorem dL_law_570 : decode cL_law 570 = .ok (.if_icmp .eq 5, 3) := by decide +kernel
theorem dL_law_573 : decode cL_law 573 = .ok (.iconst 0, 1) := by decide +kernel
theorem dL_law_574 : decode cL_law 574 = .ok (.ireturn, 1) := by decide +kernel
theorem dL_law_575 : decode cL_law 575 = .ok (.iload 5, 2) := by decide +kernel
theorem dL_law_577 : decode cL_law 577 = .ok (.ifCond .ne 15, 3) := by decide +kernel
theorem dL_law_580 : decode cL_law 580 = .ok (.aload_n 3, 1) := by decide +kernel
theorem dL_law_581 : decode cL_law 581 = .ok (.iconst 0, 1) := by decide +kernel
theorem dL_law_582 : decode cL_law 582 = .ok (.laload, 1) := by decide +kernel
theorem dL_law_583 : decode cL_law 583 = .ok (.iload 6, 2) := by decide +kernel
theorem dL_law_585 : decode cL_law 585 = .ok (.i2l, 1) := by decide +kernel
theorem dL_law_586 : decode cL_law 586 = .ok (.lcmp, 1) := by decide +kernel
theorem dL_law_587 : decode cL_law 587 = .ok (.ifCond .eq 5, 3) := by decide +kernel
theorem dL_law_590 : decode cL_law 590 = .ok (.iconst 0, 1) := by decide +kernel
theorem dL_law_591 : decode cL_law 591 = .ok (.ireturn, 1) := by decide +kernel
theorem dL_law_592 : decode cL_law 592 = .ok (.goto 1283, 3) := by decide +kernel
theorem dL_law_595 : decode cL_law 595 = .ok (.aload_n 1, 1) := by decide +kernel
theorem dL_law_596 : decode cL_law 596 = .ok (.aload_n 0, 1) := by decide +kernel
theorem dL_law_597 : decode cL_law 597 = .ok (.iload 4, 2) := by decide +kernel
theorem dL_law_599 : decode cL_law 599 = .ok (.iconst 1, 1) := by decide +kernel
theorem dL_law_600 : decode cL_law 600 = .ok (.iadd, 1) := by decide +kernel
theorem dL_law_601 : decode cL_law 601 = .ok (.iaload, 1) := by decide +kernel
theorem dL_law_602 : decode cL_law 602 = .ok (.aload_n 0, 1) := by decide +kernel
theorem dL_law_603 : decode cL_law 603 = .ok (.iload 4, 2) := by decide +kernel
theorem dL_law_605 : decode cL_law 605 = .ok (.iconst 2, 1) := by decide +kernel
theorem dL_law_606 : decode cL_law 606 = .ok (.iadd, 1) := by decide +kernel
theorem dL_law_607 : decode cL_law 607 = .ok (.iaload, 1) := by decide +kernel
theorem dL_law_608 : decode cL_law 608 = .ok (.aload_n 3, 1) := by decide +kernel
theorem dL_law_609 : decode cL_law 609 = .ok (.invokestatic 130, 3) := by decide +kernel
theorem dL_law_612 : decode cL_law 612 = .ok (.istore 5, 2) := by decide +kernel
theorem dL_law_614 : decode cL_law 614 = .ok (.aload_n 2, 1) := by decide +kernel
theorem dL_law_615 : decode cL_law 615 = .ok (.aload_n 0, 1) := by decide +kernel
theorem dL_law_616 : decode cL_law 616 = .ok (.iload 4, 2) := by decide +kernel
theorem dL_law_618 : decode cL_law 618 = .ok (.iconst 1, 1) := by decide +kernel
theorem dL_law_619 : decode cL_law 619 = .ok (.iadd, 1) := by decide +kernel
theorem dL_law_620 : decode cL_law 620 = .ok (.iaload, 1) := by decide +kernel
theorem dL_law_621 : decode cL_law 621 = .ok (.aload_n 0, 1) := by decide +kernel
theorem dL_law_622 : decode cL_law 622 = .ok (.iload 4, 2) := by decide +kernel
theorem dL_law_624 : decode cL_law 624 = .ok (.iconst 2, 1) := by decide +kernel
theorem dL_law_625 : decode cL_law 625 = .ok (.iadd, 1) := by decide +kernel
theorem dL_law_626 : decode cL_law 626 = .ok (.iaload, 1) := by decide +kernel
theorem dL_law_627 : decode cL_law 627 = .ok (.invokevirtual 132, 3) := by decide +kernel
theorem dL_law_630 : decode cL_law 630 = .ok (.istore 6, 2) := by decide +kernel
theorem dL_law_632 : decode cL_law 632 = .ok (.aload_n 2, 1) := by decide +kernel
theorem dL_law_633 : decode cL_law 633 = .ok (.invokevirtual 107, 3) := by decide +kernel
theorem dL_law_636 : decode cL_law 636 = .ok (.iload 5, 2) := by decide +kernel
theorem dL_law_638 : decode cL_law 638 = .ok (.if_icmp .eq 5, 3) := by decide +kernel
theorem dL_law_641 : decode cL_law 641 = .ok (.iconst 0, 1) := by decide +kernel
theorem dL_law_642 : decode cL_law 642 = .ok (.ireturn, 1) := by decide +kernel
theorem dL_law_643 : decode cL_law 643 = .ok (.iload 5, 2) := by decide +kernel
theorem dL_law_645 : decode cL_law 645 = .ok (.ifCond .ne 15, 3) := by decide +kernel
theorem dL_law_648 : decode cL_law 648 = .ok (.aload_n 3, 1) := by decide +kernel
theorem dL_law_649 : decode cL_law 649 = .ok (.iconst 0, 1) := by decide +kernel
theorem dL_law_650 : decode cL_law 650 = .ok (.laload, 1) := by decide +kernel
theorem dL_law_651 : decode cL_law 651 = .ok (.iload 6, 2) := by decide +kernel
theorem dL_law_653 : decode cL_law 653 = .ok (.i2l, 1) := by decide +kernel
theorem dL_law_654 : decode cL_law 654 = .ok (.lcmp, 1) := by decide +kernel
theorem dL_law_655 : decode cL_law 655 = .ok (.ifCond .eq 5, 3) := by decide +kernel
theorem dL_law_658 : decode cL_law 658 = .ok (.iconst 0, 1) := by decide +kernel
theorem dL_law_659 : decode cL_law 659 = .ok (.ireturn, 1) := by decide +kernel
theorem dL_law_660 : decode cL_law 660 = .ok (.goto 1215, 3) := by decide +kernel
theorem dL_law_663 : decode cL_law 663 = .ok (.aload_n 1, 1) := by decide +kernel
theorem dL_law_664 : decode cL_law 664 = .ok (.aload_n 0, 1) := by decide +kernel
theorem dL_law_665 : decode cL_law 665 = .ok (.iload 4, 2) := by decide +kernel
theorem dL_law_667 : decode cL_law 667 = .ok (.iconst 1, 1) := by decide +kernel
theorem dL_law_668 : decode cL_law 668 = .ok (.iadd, 1) := by decide +kernel
theorem dL_law_669 : decode cL_law 669 = .ok (.iaload, 1) := by decide +kernel
theorem dL_law_670 : decode cL_law 670 = .ok (.aload_n 3, 1) := by decide +kernel
theorem dL_law_671 : decode cL_law 671 = .ok (.invokestatic 133, 3) := by decide +kernel
theorem dL_law_674 : decode cL_law 674 = .ok (.istore 5, 2) := by decide +kernel
theorem dL_law_676 : decode cL_law 676 = .ok (.aload_n 2, 1) := by decide +kernel
theorem dL_law_677 : decode cL_law 677 = .ok (.aload_n 0, 1) := by decide +kernel
theorem dL_law_678 : decode cL_law 678 = .ok (.iload 4, 2) := by decide +kernel
theorem dL_law_680 : decode cL_law 680 = .ok (.iconst 1, 1) := by decide +kernel
theorem dL_law_681 : decode cL_law 681 = .ok (.iadd, 1) := by decide +kernel
theorem dL_law_682 : decode cL_law 682 = .ok (.iaload, 1) := by decide +kernel
theorem dL_law_683 : decode cL_law 683 = .ok (.invokevirtual 135, 3) := by decide +kernel
theorem dL_law_686 : decode cL_law 686 = .ok (.istore 6, 2) := by decide +kernel
theorem dL_law_688 : decode cL_law 688 = .ok (.aload_n 2, 1) := by decide +kernel
theorem dL_law_689 : decode cL_law 689 = .ok (.invokevirtual 107, 3) := by decide +kernel
theorem dL_law_692 : decode cL_law 692 = .ok (.iload 5, 2) := by decide +kernel
theorem dL_law_694 : decode cL_law 694 = .ok (.if_icmp .eq 5, 3) := by decide +kernel
theorem dL_law_697 : decode cL_law 697 = .ok (.iconst 0, 1) := by decide +kernel
theorem dL_law_698 : decode cL_law 698 = .ok (.ireturn, 1) := by decide +kernel
theorem dL_law_699 : decode cL_law 699 = .ok (.iload 5, 2) := by decide +kernel
theorem dL_law_701 : decode cL_law 701 = .ok (.ifCond .ne 15, 3) := by decide +kernel
theorem dL_law_704 : decode cL_law 704 = .ok (.aload_n 3, 1) := by decide +kernel
theorem dL_law_705 : decode cL_law 705 = .ok (.iconst 0, 1) := by decide +kernel
theorem dL_law_706 : decode cL_law 706 = .ok (.laload, 1) := by decide +kernel
theorem dL_law_707 : decode cL_law 707 = .ok (.iload 6, 2) := by decide +kernel
theorem dL_law_709 : decode cL_law 709 = .ok (.i2l, 1) := by decide +kernel
theorem dL_law_710 : decode cL_law 710 = .ok (.lcmp, 1) := by decide +kernel
theorem dL_law_711 : decode cL_law 711 = .ok (.ifCond .eq 5, 3) := by decide +kernel
theorem dL_law_714 : decode cL_law 714 = .ok (.iconst 0, 1) := by decide +kernel
theorem dL_law_715 : decode cL_law 715 = .ok (.ireturn, 1) := by decide +kernel
theorem dL_law_716 : decode cL_law 716 = .ok (.goto 1159, 3) := by decide +kernel
theorem dL_law_719 : decode cL_law 719 = .ok (.aload_n 1, 1) := by decide +kernel
theorem dL_law_720 : decode cL_law 720 = .ok (.aload_n 0, 1) := by decide +kernel
theorem dL_law_721 : decode cL_law 721 = .ok (.iload 4, 2) := by decide +kernel
theorem dL_law_723 : decode cL_law 723 = .ok (.iconst 1, 1) := by decide +kernel
theorem dL_law_724 : decode cL_law 724 = .ok (.iadd, 1) := by decide +kernel
theorem dL_law_725 : decode cL_law 725 = .ok (.iaload, 1) := by decide +kernel
theorem dL_law_726 : decode cL_law 726 = .ok (.aload_n 0, 1) := by decide +kernel
theorem dL_law_727 : decode cL_law 727 = .ok (.iload 4, 2) := by decide +kernel
theorem dL_law_729 : decode cL_law 729 = .ok (.iconst 2, 1) := by decide +kernel
theorem dL_law_730 : decode cL_law 730 = .ok (.iadd, 1) := by decide +kernel
theorem dL_law_731 : decode cL_law 731 = .ok (.iaload, 1) := by decide +kernel
theorem dL_law_732 : decode cL_law 732 = .ok (.aload_n 0, 1) := by decide +kernel
theorem dL_law_733 : decode cL_law 733 = .ok (.iload 4, 2) := by decide +kernel
theorem dL_law_735 : decode cL_law 735 = .ok (.iconst 3, 1) := by decide +kernel
theorem dL_law_736 : decode cL_law 736 = .ok (.iadd, 1) := by decide +kernel
theorem dL_law_737 : decode cL_law 737 = .ok (.iaload, 1) := by decide +kernel
theorem dL_law_738 : decode cL_law 738 = .ok (.aload_n 3, 1) := by decide +kernel
theorem dL_law_739 : decode cL_law 739 = .ok (.invokestatic 136, 3) := by decide +kernel
theorem dL_law_742 : decode cL_law 742 = .ok (.istore 5, 2) := by decide +kernel
theorem dL_law_744 : decode cL_law 744 = .ok (.aload_n 2, 1) := by decide +kernel
theorem dL_law_745 : decode cL_law 745 = .ok (.aload_n 0, 1) := by decide +kernel
theorem dL_law_746 : decode cL_law 746 = .ok (.iload 4, 2) := by decide +kernel
theorem dL_law_748 : decode cL_law 748 = .ok (.iconst 1, 1) := by decide +kernel
theorem dL_law_749 : decode cL_law 749 = .ok (.iadd, 1) := by decide +kernel
theorem dL_law_750 : decode cL_law 750 = .ok (.iaload, 1) := by decide +kernel
theorem dL_law_751 : decode cL_law 751 = .ok (.aload_n 0, 1) := by decide +kernel
theorem dL_law_752 : decode cL_law 752 = .ok (.iload 4, 2) := by decide +kernel
theorem dL_law_754 : decode cL_law 754 = .ok (.iconst 2, 1) := by decide +kernel
theorem dL_law_755 : decode cL_law 755 = .ok (.iadd, 1) := by decide +kernel
theorem dL_law_756 : decode cL_law 756 = .ok (.iaload, 1) := by decide +kernel
theorem dL_law_757 : decode cL_law 757 = .ok (.aload_n 0, 1) := by decide +kernel
theorem dL_law_758 : decode cL_law 758 = .ok (.iload 4, 2) := by decide +kernel
theorem dL_law_760 : decode cL_law 760 = .ok (.iconst 3, 1) := by decide +kernel
theorem dL_law_761 : decode cL_law 761 = .ok (.iadd, 1) := by decide +kernel
theorem dL_law_762 : decode cL_law 762 = .ok (.iaload, 1) := by decide +kernel
theorem dL_law_763 : decode cL_law 763 = .ok (.invokevirtual 138, 3) := by decide +kernel
theorem dL_law_766 : decode cL_law 766 = .ok (.istore 6, 2) := by decide +kernel
theorem dL_law_768 : decode cL_law 768 = .ok (.aload_n 2, 1) := by decide +kernel
theorem dL_law_769 : decode cL_law 769 = .ok (.invokevirtual 107, 3) := by decide +kernel
theorem dL_law_772 : decode cL_law 772 = .ok (.iload 5, 2) := by decide +kernel
theorem dL_law_774 : decode cL_law 774 = .ok (.if_icmp .eq 5, 3) := by decide +kernel
theorem dL_law_777 : decode cL_law 777 = .ok (.iconst 0, 1) := by decide +kernel
theorem dL_law_778 : decode cL_law 778 = .ok (.ireturn, 1) := by decide +kernel
theorem dL_law_779 : decode cL_law 779 = .ok (.iload 5, 2) := by decide +kernel
theorem dL_law_781 : decode cL_law 781 = .ok (.ifCond .ne 15, 3) := by decide +kernel
theorem dL_law_784 : decode cL_law 784 = .ok (.aload_n 3, 1) := by decide +kernel
theorem dL_law_785 : decode cL_law 785 = .ok (.iconst 0, 1) := by decide +kernel
theorem dL_law_786 : decode cL_law 786 = .ok (.laload, 1) := by decide +kernel
theorem dL_law_787 : decode cL_law 787 = .ok (.iload 6, 2) := by decide +kernel
theorem dL_law_789 : decode cL_law 789 = .ok (.i2l, 1) := by decide +kernel
theorem dL_law_790 : decode cL_law 790 = .ok (.lcmp, 1) := by decide +kernel
theorem dL_law_791 : decode cL_law 791 = .ok (.ifCond .eq 5, 3) := by decide +kernel
theorem dL_law_794 : decode cL_law 794 = .ok (.iconst 0, 1) := by decide +kernel
theorem dL_law_795 : decode cL_law 795 = .ok (.ireturn, 1) := by decide +kernel
theorem dL_law_796 : decode cL_law 796 = .ok (.goto 1079, 3) := by decide +kernel
theorem dL_law_799 : decode cL_law 799 = .ok (.aload_n 1, 1) := by decide +kernel
theorem dL_law_800 : decode cL_law 800 = .ok (.aload_n 0, 1) := by decide +kernel
theorem dL_law_801 : decode cL_law 801 = .ok (.iload 4, 2) := by decide +kernel
theorem dL_law_803 : decode cL_law 803 = .ok (.iconst 1, 1) := by decide +kernel
theorem dL_law_804 : decode cL_law 804 = .ok (.iadd, 1) := by decide +kernel
theorem dL_law_805 : decode cL_law 805 = .ok (.iaload, 1) := by decide +kernel
theorem dL_law_806 : decode cL_law 806 = .ok (.aload_n 0, 1) := by decide +kernel
theorem dL_law_807 : decode cL_law 807 = .ok (.iload 4, 2) := by decide +kernel
theorem dL_law_809 : decode cL_law 809 = .ok (.iconst 2, 1) := by decide +kernel
theorem dL_law_810 : decode cL_law 810 = .ok (.iadd, 1) := by decide +kernel
theorem dL_law_811 : decode cL_law 811 = .ok (.iaload, 1) := by decide +kernel
theorem dL_law_812 : decode cL_law 812 = .ok (.aload_n 3, 1) := by decide +kernel
theorem dL_law_813 : decode cL_law 813 = .ok (.invokestatic 139, 3) := by decide +kernel
theorem dL_law_816 : decode cL_law 816 = .ok (.istore 5, 2) := by decide +kernel
theorem dL_law_818 : decode cL_law 818 = .ok (.aload_n 2, 1) := by decide +kernel
theorem dL_law_819 : decode cL_law 819 = .ok (.aload_n 0, 1) := by decide +kernel
theorem dL_law_820 : decode cL_law 820 = .ok (.iload 4, 2) := by decide +kernel
theorem dL_law_822 : decode cL_law 822 = .ok (.iconst 1, 1) := by decide +kernel
theorem dL_law_823 : decode cL_law 823 = .ok (.iadd, 1) := by decide +kernel
theorem dL_law_824 : decode cL_law 824 = .ok (.iaload, 1) := by decide +kernel
theorem dL_law_825 : decode cL_law 825 = .ok (.aload_n 0, 1) := by decide +kernel
theorem dL_law_826 : decode cL_law 826 = .ok (.iload 4, 2) := by decide +kernel
theorem dL_law_828 : decode cL_law 828 = .ok (.iconst 2, 1) := by decide +kernel
theorem dL_law_829 : decode cL_law 829 = .ok (.iadd, 1) := by decide +kernel
theorem dL_law_830 : decode cL_law 830 = .ok (.iaload, 1) := by decide +kernel
theorem dL_law_831 : decode cL_law 831 = .ok (.invokevirtual 141, 3) := by decide +kernel
theorem dL_law_834 : decode cL_law 834 = .ok (.istore 6, 2) := by decide +kernel
theorem dL_law_836 : decode cL_law 836 = .ok (.aload_n 2, 1) := by decide +kernel
theorem dL_law_837 : decode cL_law 837 = .ok (.invokevirtual 107, 3) := by decide +kernel
theorem dL_law_840 : decode cL_law 840 = .ok (.iload 5, 2) := by decide +kernel
theorem dL_law_842 : decode cL_law 842 = .ok (.if_icmp .eq 5, 3) := by decide +kernel
theorem dL_law_845 : decode cL_law 845 = .ok (.iconst 0, 1) := by decide +kernel
theorem dL_law_846 : decode cL_law 846 = .ok (.ireturn, 1) := by decide +kernel
theorem dL_law_847 : decode cL_law 847 = .ok (.iload 5, 2) := by decide +kernel
theorem dL_law_849 : decode cL_law 849 = .ok (.ifCond .ne 15, 3) := by decide +kernel
theorem dL_law_852 : decode cL_law 852 = .ok (.aload_n 3, 1) := by decide +kernel
theorem dL_law_853 : decode cL_law 853 = .ok (.iconst 0, 1) := by decide +kernel
theorem dL_law_854 : decode cL_law 854 = .ok (.laload, 1) := by decide +kernel
theorem dL_law_855 : decode cL_law 855 = .ok (.iload 6, 2) := by decide +kernel
theorem dL_law_857 : decode cL_law 857 = .ok (.i2l, 1) := by decide +kernel
theorem dL_law_858 : decode cL_law 858 = .ok (.lcmp, 1) := by decide +kernel
theorem dL_law_859 : decode cL_law 859 = .ok (.ifCond .eq 5, 3) := by decide +kernel
theorem dL_law_862 : decode cL_law 862 = .ok (.iconst 0, 1) := by decide +kernel
theorem dL_law_863 : decode cL_law 863 = .ok (.ireturn, 1) := by decide +kernel
theorem dL_law_864 : decode cL_law 864 = .ok (.goto 1011, 3) := by decide +kernel
theorem dL_law_867 : decode cL_law 867 = .ok (.aload_n 1, 1) := by decide +kernel
theorem dL_law_868 : decode cL_law 868 = .ok (.aload_n 0, 1) := by decide +kernel
theorem dL_law_869 : decode cL_law 869 = .ok (.iload 4, 2) := by decide +kernel
theorem dL_law_871 : decode cL_law 871 = .ok (.iconst 1, 1) := by decide +kernel
theorem dL_law_872 : decode cL_law 872 = .ok (.iadd, 1) := by decide +kernel
theorem dL_law_873 : decode cL_law 873 = .ok (.iaload, 1) := by decide +kernel
theorem dL_law_874 : decode cL_law 874 = .ok (.aload_n 3, 1) := by decide +kernel
theorem dL_law_875 : decode cL_law 875 = .ok (.invokestatic 142, 3) := by decide +kernel
theorem dL_law_878 : decode cL_law 878 = .ok (.istore 5, 2) := by decide +kernel
theorem dL_law_880 : decode cL_law 880 = .ok (.aload_n 2, 1) := by decide +kernel
theorem dL_law_881 : decode cL_law 881 = .ok (.aload_n 0, 1) := by decide +kernel
theorem dL_law_882 : decode cL_law 882 = .ok (.iload 4, 2) := by decide +kernel
theorem dL_law_884 : decode cL_law 884 = .ok (.iconst 1, 1) := by decide +kernel
theorem dL_law_885 : decode cL_law 885 = .ok (.iadd, 1) := by decide +kernel
theorem dL_law_886 : decode cL_law 886 = .ok (.iaload, 1) := by decide +kernel
theorem dL_law_887 : decode cL_law 887 = .ok (.invokevirtual 144, 3) := by decide +kernel
theorem dL_law_890 : decode cL_law 890 = .ok (.istore 6, 2) := by decide +kernel
theorem dL_law_892 : decode cL_law 892 = .ok (.aload_n 2, 1) := by decide +kernel
theorem dL_law_893 : decode cL_law 893 = .ok (.invokevirtual 107, 3) := by decide +kernel
theorem dL_law_896 : decode cL_law 896 = .ok (.iload 5, 2) := by decide +kernel
theorem dL_law_898 : decode cL_law 898 = .ok (.if_icmp .eq 5, 3) := by decide +kernel
theorem dL_law_901 : decode cL_law 901 = .ok (.iconst 0, 1) := by decide +kernel
theorem dL_law_902 : decode cL_law 902 = .ok (.ireturn, 1) := by decide +kernel
theorem dL_law_903 : decode cL_law 903 = .ok (.iload 5, 2) := by decide +kernel
theorem dL_law_905 : decode cL_law 905 = .ok (.ifCond .ne 15, 3) := by decide +kernel
theorem dL_law_908 : decode cL_law 908 = .ok (.aload_n 3, 1) := by decide +kernel
theorem dL_law_909 : decode cL_law 909 = .ok (.iconst 0, 1) := by decide +kernel
theorem dL_law_910 : decode cL_law 910 = .ok (.laload, 1) := by decide +kernel
theorem dL_law_911 : decode cL_law 911 = .ok (.iload 6, 2) := by decide +kernel
theorem dL_law_913 : decode cL_law 913 = .ok (.i2l, 1) := by decide +kernel
theorem dL_law_914 : decode cL_law 914 = .ok (.lcmp, 1) := by decide +kernel
theorem dL_law_915 : decode cL_law 915 = .ok (.ifCond .eq 5, 3) := by decide +kernel
theorem dL_law_918 : decode cL_law 918 = .ok (.iconst 0, 1) := by decide +kernel
theorem dL_law_919 : decode cL_law 919 = .ok (.ireturn, 1) := by decide +kernel
theorem dL_law_920 : decode cL_law 920 = .ok (.goto 955, 3) := by decide +kernel
theorem dL_law_923 : decode cL_law 923 = .ok (.aload_n 1, 1) := by decide +kernel
theorem dL_law_924 : decode cL_law 924 = .ok (.aload_n 0, 1) := by decide +kernel
theorem dL_law_925 : decode cL_law 925 = .ok (.iload 4, 2) := by decide +kernel
theorem dL_law_927 : decode cL_law 927 = .ok (.iconst 1, 1) := by decide +kernel
theorem dL_law_928 : decode cL_law 928 = .ok (.iadd, 1) := by decide +kernel
theorem dL_law_929 : decode cL_law 929 = .ok (.iaload, 1) := by decide +kernel
theorem dL_law_930 : decode cL_law 930 = .ok (.aload_n 0, 1) := by decide +kernel
theorem dL_law_931 : decode cL_law 931 = .ok (.iload 4, 2) := by decide +kernel
theorem dL_law_933 : decode cL_law 933 = .ok (.iconst 2, 1) := by decide +kernel
theorem dL_law_934 : decode cL_law 934 = .ok (.iadd, 1) := by decide +kernel
theorem dL_law_935 : decode cL_law 935 = .ok (.iaload, 1) := by decide +kernel
theorem dL_law_936 : decode cL_law 936 = .ok (.aload_n 3, 1) := by decide +kernel
theorem dL_law_937 : decode cL_law 937 = .ok (.invokestatic 145, 3) := by decide +kernel
theorem dL_law_940 : decode cL_law 940 = .ok (.istore 5, 2) := by decide +kernel
theorem dL_law_942 : decode cL_law 942 = .ok (.aload_n 2, 1) := by decide +kernel
theorem dL_law_943 : decode cL_law 943 = .ok (.aload_n 0, 1) := by decide +kernel
theorem dL_law_944 : decode cL_law 944 = .ok (.iload 4, 2) := by decide +kernel
theorem dL_law_946 : decode cL_law 946 = .ok (.iconst 1, 1) := by decide +kernel
theorem dL_law_947 : decode cL_law 947 = .ok (.iadd, 1) := by decide +kernel
theorem dL_law_948 : decode cL_law 948 = .ok (.iaload, 1) := by decide +kernel
theorem dL_law_949 : decode cL_law 949 = .ok (.aload_n 0, 1) := by decide +kernel
theorem dL_law_950 : decode cL_law 950 = .ok (.iload 4, 2) := by decide +kernel
theorem dL_law_952 : decode cL_law 952 = .ok (.iconst 2, 1) := by decide +kernel
theorem dL_law_953 : decode cL_law 953 = .ok (.iadd, 1) := by decide +kernel
theorem dL_law_954 : decode cL_law 954 = .ok (.iaload, 1) := by decide +kernel
theorem dL_law_955 : decode cL_law 955 = .ok (.invokevirtual 147, 3) := by decide +kernel
theorem dL_law_958 : decode cL_law 958 = .ok (.istore 6, 2) := by decide +kernel
theorem dL_law_960 : decode cL_law 960 = .ok (.aload_n 2, 1) := by decide +kernel
theorem dL_law_961 : decode cL_law 961 = .ok (.invokevirtual 107, 3) := by decide +kernel
theorem dL_law_964 : decode cL_law 964 = .ok (.iload 5, 2) := by decide +kernel
theorem dL_law_966 : decode cL_law 966 = .ok (.if_icmp .eq 5, 3) := by decide +kernel
theorem dL_law_969 : decode cL_law 969 = .ok (.iconst 0, 1) := by decide +kernel
theorem dL_law_970 : decode cL_law 970 = .ok (.ireturn, 1) := by decide +kernel
theorem dL_law_971 : decode cL_law 971 = .ok (.iload 5, 2) := by decide +kernel
theorem dL_law_973 : decode cL_law 973 = .ok (.ifCond .ne 15, 3) := by decide +kernel
theorem dL_law_976 : decode cL_law 976 = .ok (.aload_n 3, 1) := by decide +kernel
theorem dL_law_977 : decode cL_law 977 = .ok (.iconst 0, 1) := by decide +kernel
theorem dL_law_978 : decode cL_law 978 = .ok (.laload, 1) := by decide +kernel
theorem dL_law_979 : decode cL_law 979 = .ok (.iload 6, 2) := by decide +kernel
theorem dL_law_981 : decode cL_law 981 = .ok (.i2l, 1) := by decide +kernel
theorem dL_law_982 : decode cL_law 982 = .ok (.lcmp, 1) := by decide +kernel
theorem dL_law_983 : decode cL_law 983 = .ok (.ifCond .eq 5, 3) := by decide +kernel
theorem dL_law_986 : decode cL_law 986 = .ok (.iconst 0, 1) := by decide +kernel
theorem dL_law_987 : decode cL_law 987 = .ok (.ireturn, 1) := by decide +kernel
theorem dL_law_988 : decode cL_law 988 = .ok (.goto 887, 3) := by decide +kernel
theorem dL_law_991 : decode cL_law 991 = .ok (.aload_n 1, 1) := by decide +kernel
theorem dL_law_992 : decode cL_law 992 = .ok (.aload_n 0, 1) := by decide +kernel
theorem dL_law_993 : decode cL_law 993 = .ok (.iload 4, 2) := by decide +kernel
theorem dL_law_995 : decode cL_law 995 = .ok (.iconst 1, 1) := by decide +kernel
theorem dL_law_996 : decode cL_law 996 = .ok (.iadd, 1) := by decide +kernel
theorem dL_law_997 : decode cL_law 997 = .ok (.iaload, 1) := by decide +kernel
theorem dL_law_998 : decode cL_law 998 = .ok (.aload_n 3, 1) := by decide +kernel
theorem dL_law_999 : decode cL_law 999 = .ok (.invokestatic 148, 3) := by decide +kernel
theorem dL_law_1002 : decode cL_law 1002 = .ok (.istore 5, 2) := by decide +kernel
theorem dL_law_1004 : decode cL_law 1004 = .ok (.aload_n 2, 1) := by decide +kernel
theorem dL_law_1005 : decode cL_law 1005 = .ok (.aload_n 0, 1) := by decide +kernel
theorem dL_law_1006 : decode cL_law 1006 = .ok (.iload 4, 2) := by decide +kernel
theorem dL_law_1008 : decode cL_law 1008 = .ok (.iconst 1, 1) := by decide +kernel
theorem dL_law_1009 : decode cL_law 1009 = .ok (.iadd, 1) := by decide +kernel
theorem dL_law_1010 : decode cL_law 1010 = .ok (.iaload, 1) := by decide +kernel
theorem dL_law_1011 : decode cL_law 1011 = .ok (.invokevirtual 150, 3) := by decide +kernel
theorem dL_law_1014 : decode cL_law 1014 = .ok (.istore 6, 2) := by decide +kernel
theorem dL_law_1016 : decode cL_law 1016 = .ok (.aload_n 2, 1) := by decide +kernel
theorem dL_law_1017 : decode cL_law 1017 = .ok (.invokevirtual 107, 3) := by decide +kernel
theorem dL_law_1020 : decode cL_law 1020 = .ok (.iload 5, 2) := by decide +kernel
theorem dL_law_1022 : decode cL_law 1022 = .ok (.if_icmp .eq 5, 3) := by decide +kernel
theorem dL_law_1025 : decode cL_law 1025 = .ok (.iconst 0, 1) := by decide +kernel
theorem dL_law_1026 : decode cL_law 1026 = .ok (.ireturn, 1) := by decide +kernel
theorem dL_law_1027 : decode cL_law 1027 = .ok (.iload 5, 2) := by decide +kernel
theorem dL_law_1029 : decode cL_law 1029 = .ok (.ifCond .ne 15, 3) := by decide +kernel
theorem dL_law_1032 : decode cL_law 1032 = .ok (.aload_n 3, 1) := by decide +kernel
theorem dL_law_1033 : decode cL_law 1033 = .ok (.iconst 0, 1) := by decide +kernel
theorem dL_law_1034 : decode cL_law 1034 = .ok (.laload, 1) := by decide +kernel
theorem dL_law_1035 : decode cL_law 1035 = .ok (.iload 6, 2) := by decide +kernel
theorem dL_law_1037 : decode cL_law 1037 = .ok (.i2l, 1) := by decide +kernel
theorem dL_law_1038 : decode cL_law 1038 = .ok (.lcmp, 1) := by decide +kernel
theorem dL_law_1039 : decode cL_law 1039 = .ok (.ifCond .eq 5, 3) := by decide +kernel
theorem dL_law_1042 : decode cL_law 1042 = .ok (.iconst 0, 1) := by decide +kernel
theorem dL_law_1043 : decode cL_law 1043 = .ok (.ireturn, 1) := by decide +kernel
theorem dL_law_1044 : decode cL_law 1044 = .ok (.goto 831, 3) := by decide +kernel
theorem dL_law_1047 : decode cL_law 1047 = .ok (.aload_n 1, 1) := by decide +kernel
theorem dL_law_1048 : decode cL_law 1048 = .ok (.invokevirtual 151, 3) := by decide +kernel
theorem dL_law_1051 : decode cL_law 1051 = .ok (.aload_n 2, 1) := by decide +kernel
theorem dL_law_1052 : decode cL_law 1052 = .ok (.invokevirtual 154, 3) := by decide +kernel
theorem dL_law_1055 : decode cL_law 1055 = .ok (.if_icmp .eq 820, 3) := by decide +kernel
theorem dL_law_1058 : decode cL_law 1058 = .ok (.iconst 0, 1) := by decide +kernel
theorem dL_law_1059 : decode cL_law 1059 = .ok (.ireturn, 1) := by decide +kernel
theorem dL_law_1060 : decode cL_law 1060 = .ok (.aload_n 1, 1) := by decide +kernel
theorem dL_law_1061 : decode cL_law 1061 = .ok (.aload_n 0, 1) := by decide +kernel
theorem dL_law_1062 : decode cL_law 1062 = .ok (.iload 4, 2) := by decide +kernel
theorem dL_law_1064 : decode cL_law 1064 = .ok (.iconst 1, 1) := by decide +kernel
theorem dL_law_1065 : decode cL_law 1065 = .ok (.iadd, 1) := by decide +kernel
theorem dL_law_1066 : decode cL_law 1066 = .ok (.iaload, 1) := by decide +kernel
theorem dL_law_1067 : decode cL_law 1067 = .ok (.aload_n 0, 1) := by decide +kernel
theorem dL_law_1068 : decode cL_law 1068 = .ok (.iload 4, 2) := by decide +kernel
theorem dL_law_1070 : decode cL_law 1070 = .ok (.iconst 2, 1) := by decide +kernel
theorem dL_law_1071 : decode cL_law 1071 = .ok (.iadd, 1) := by decide +kernel
theorem dL_law_1072 : decode cL_law 1072 = .ok (.iaload, 1) := by decide +kernel
theorem dL_law_1073 : decode cL_law 1073 = .ok (.aload_n 3, 1) := by decide +kernel
theorem dL_law_1074 : decode cL_law 1074 = .ok (.invokestatic 155, 3) := by decide +kernel
theorem dL_law_1077 : decode cL_law 1077 = .ok (.istore 5, 2) := by decide +kernel
theorem dL_law_1079 : decode cL_law 1079 = .ok (.aload_n 2, 1) := by decide +kernel
theorem dL_law_1080 : decode cL_law 1080 = .ok (.aload_n 0, 1) := by decide +kernel
theorem dL_law_1081 : decode cL_law 1081 = .ok (.iload 4, 2) := by decide +kernel
theorem dL_law_1083 : decode cL_law 1083 = .ok (.iconst 1, 1) := by decide +kernel
theorem dL_law_1084 : decode cL_law 1084 = .ok (.iadd, 1) := by decide +kernel
theorem dL_law_1085 : decode cL_law 1085 = .ok (.iaload, 1) := by decide +kernel
theorem dL_law_1086 : decode cL_law 1086 = .ok (.aload_n 0, 1) := by decide +kernel
theorem dL_law_1087 : decode cL_law 1087 = .ok (.iload 4, 2) := by decide +kernel
theorem dL_law_1089 : decode cL_law 1089 = .ok (.iconst 2, 1) := by decide +kernel
theorem dL_law_1090 : decode cL_law 1090 = .ok (.iadd, 1) := by decide +kernel
theorem dL_law_1091 : decode cL_law 1091 = .ok (.iaload, 1) := by decide +kernel
theorem dL_law_1092 : decode cL_law 1092 = .ok (.invokevirtual 157, 3) := by decide +kernel
theorem dL_law_1095 : decode cL_law 1095 = .ok (.istore 6, 2) := by decide +kernel
theorem dL_law_1097 : decode cL_law 1097 = .ok (.aload_n 2, 1) := by decide +kernel
theorem dL_law_1098 : decode cL_law 1098 = .ok (.invokevirtual 107, 3) := by decide +kernel
theorem dL_law_1101 : decode cL_law 1101 = .ok (.iload 5, 2) := by decide +kernel
theorem dL_law_1103 : decode cL_law 1103 = .ok (.if_icmp .eq 5, 3) := by decide +kernel
theorem dL_law_1106 : decode cL_law 1106 = .ok (.iconst 0, 1) := by decide +kernel
theorem dL_law_1107 : decode cL_law 1107 = .ok (.ireturn, 1) := by decide +kernel
theorem dL_law_1108 : decode cL_law 1108 = .ok (.iload 5, 2) := by decide +kernel
theorem dL_law_1110 : decode cL_law 1110 = .ok (.ifCond .ne 15, 3) := by decide +kernel
theorem dL_law_1113 : decode cL_law 1113 = .ok (.aload_n 3, 1) := by decide +kernel
theorem dL_law_1114 : decode cL_law 1114 = .ok (.iconst 0, 1) := by decide +kernel
theorem dL_law_1115 : decode cL_law 1115 = .ok (.laload, 1) := by decide +kernel
theorem dL_law_1116 : decode cL_law 1116 = .ok (.iload 6, 2) := by decide +kernel
theorem dL_law_1118 : decode cL_law 1118 = .ok (.i2l, 1) := by decide +kernel
theorem dL_law_1119 : decode cL_law 1119 = .ok (.lcmp, 1) := by decide +kernel
theorem dL_law_1120 : decode cL_law 1120 = .ok (.ifCond .eq 5, 3) := by decide +kernel
theorem dL_law_1123 : decode cL_law 1123 = .ok (.iconst 0, 1) := by decide +kernel
theorem dL_law_1124 : decode cL_law 1124 = .ok (.ireturn, 1) := by decide +kernel
theorem dL_law_1125 : decode cL_law 1125 = .ok (.goto 750, 3) := by decide +kernel
theorem dL_law_1128 : decode cL_law 1128 = .ok (.aload_n 1, 1) := by decide +kernel
theorem dL_law_1129 : decode cL_law 1129 = .ok (.aload_n 0, 1) := by decide +kernel
theorem dL_law_1130 : decode cL_law 1130 = .ok (.iload 4, 2) := by decide +kernel
theorem dL_law_1132 : decode cL_law 1132 = .ok (.iconst 1, 1) := by decide +kernel
theorem dL_law_1133 : decode cL_law 1133 = .ok (.iadd, 1) := by decide +kernel
theorem dL_law_1134 : decode cL_law 1134 = .ok (.iaload, 1) := by decide +kernel
theorem dL_law_1135 : decode cL_law 1135 = .ok (.aload_n 3, 1) := by decide +kernel
theorem dL_law_1136 : decode cL_law 1136 = .ok (.invokestatic 158, 3) := by decide +kernel
theorem dL_law_1139 : decode cL_law 1139 = .ok (.istore 5, 2) := by decide +kernel
theorem dL_law_1141 : decode cL_law 1141 = .ok (.aload_n 2, 1) := by decide +kernel
theorem dL_law_1142 : decode cL_law 1142 = .ok (.aload_n 0, 1) := by decide +kernel
theorem dL_law_1143 : decode cL_law 1143 = .ok (.iload 4, 2) := by decide +kernel
theorem dL_law_1145 : decode cL_law 1145 = .ok (.iconst 1, 1) := by decide +kernel
theorem dL_law_1146 : decode cL_law 1146 = .ok (.iadd, 1) := by decide +kernel
theorem dL_law_1147 : decode cL_law 1147 = .ok (.iaload, 1) := by decide +kernel
theorem dL_law_1148 : decode cL_law 1148 = .ok (.invokevirtual 160, 3) := by decide +kernel
theorem dL_law_1151 : decode cL_law 1151 = .ok (.istore 6, 2) := by decide +kernel
theorem dL_law_1153 : decode cL_law 1153 = .ok (.aload_n 2, 1) := by decide +kernel
theorem dL_law_1154 : decode cL_law 1154 = .ok (.invokevirtual 107, 3) := by decide +kernel
theorem dL_law_1157 : decode cL_law 1157 = .ok (.iload 5, 2) := by decide +kernel
theorem dL_law_1159 : decode cL_law 1159 = .ok (.if_icmp .eq 5, 3) := by decide +kernel
theorem dL_law_1162 : decode cL_law 1162 = .ok (.iconst 0, 1) := by decide +kernel
theorem dL_law_1163 : decode cL_law 1163 = .ok (.ireturn, 1) := by decide +kernel
theorem dL_law_1164 : decode cL_law 1164 = .ok (.iload 5, 2) := by decide +kernel
theorem dL_law_1166 : decode cL_law 1166 = .ok (.ifCond .ne 15, 3) := by decide +kernel
theorem dL_law_1169 : decode cL_law 1169 = .ok (.aload_n 3, 1) := by decide +kernel
theorem dL_law_1170 : decode cL_law 1170 = .ok (.iconst 0, 1) := by decide +kernel
theorem dL_law_1171 : decode cL_law 1171 = .ok (.laload, 1) := by decide +kernel
theorem dL_law_1172 : decode cL_law 1172 = .ok (.iload 6, 2) := by decide +kernel
theorem dL_law_1174 : decode cL_law 1174 = .ok (.i2l, 1) := by decide +kernel
theorem dL_law_1175 : decode cL_law 1175 = .ok (.lcmp, 1) := by decide +kernel
theorem dL_law_1176 : decode cL_law 1176 = .ok (.ifCond .eq 5, 3) := by decide +kernel
theorem dL_law_1179 : decode cL_law 1179 = .ok (.iconst 0, 1) := by decide +kernel
theorem dL_law_1180 : decode cL_law 1180 = .ok (.ireturn, 1) := by decide +kernel
theorem dL_law_1181 : decode cL_law 1181 = .ok (.goto 694, 3) := by decide +kernel
theorem dL_law_1184 : decode cL_law 1184 = .ok (.aload_n 1, 1) := by decide +kernel
theorem dL_law_1185 : decode cL_law 1185 = .ok (.aload_n 0, 1) := by decide +kernel
theorem dL_law_1186 : decode cL_law 1186 = .ok (.iload 4, 2) := by decide +kernel
theorem dL_law_1188 : decode cL_law 1188 = .ok (.iconst 1, 1) := by decide +kernel
theorem dL_law_1189 : decode cL_law 1189 = .ok (.iadd, 1) := by decide +kernel
theorem dL_law_1190 : decode cL_law 1190 = .ok (.iaload, 1) := by decide +kernel
theorem dL_law_1191 : decode cL_law 1191 = .ok (.aload_n 0, 1) := by decide +kernel
theorem dL_law_1192 : decode cL_law 1192 = .ok (.iload 4, 2) := by decide +kernel
theorem dL_law_1194 : decode cL_law 1194 = .ok (.iconst 2, 1) := by decide +kernel
theorem dL_law_1195 : decode cL_law 1195 = .ok (.iadd, 1) := by decide +kernel
theorem dL_law_1196 : decode cL_law 1196 = .ok (.iaload, 1) := by decide +kernel
theorem dL_law_1197 : decode cL_law 1197 = .ok (.aload_n 0, 1) := by decide +kernel
theorem dL_law_1198 : decode cL_law 1198 = .ok (.iload 4, 2) := by decide +kernel
theorem dL_law_1200 : decode cL_law 1200 = .ok (.iconst 3, 1) := by decide +kernel
theorem dL_law_1201 : decode cL_law 1201 = .ok (.iadd, 1) := by decide +kernel
theorem dL_law_1202 : decode cL_law 1202 = .ok (.iaload, 1) := by decide +kernel
theorem dL_law_1203 : decode cL_law 1203 = .ok (.aload_n 0, 1) := by decide +kernel
theorem dL_law_1204 : decode cL_law 1204 = .ok (.iload 4, 2) := by decide +kernel
theorem dL_law_1206 : decode cL_law 1206 = .ok (.iconst 4, 1) := by decide +kernel
theorem dL_law_1207 : decode cL_law 1207 = .ok (.iadd, 1) := by decide +kernel
theorem dL_law_1208 : decode cL_law 1208 = .ok (.iaload, 1) := by decide +kernel
theorem dL_law_1209 : decode cL_law 1209 = .ok (.aload_n 3, 1) := by decide +kernel
theorem dL_law_1210 : decode cL_law 1210 = .ok (.invokestatic 161, 3) := by decide +kernel
theorem dL_law_1213 : decode cL_law 1213 = .ok (.istore 5, 2) := by decide +kernel
theorem dL_law_1215 : decode cL_law 1215 = .ok (.aload_n 2, 1) := by decide +kernel
theorem dL_law_1216 : decode cL_law 1216 = .ok (.aload_n 0, 1) := by decide +kernel
theorem dL_law_1217 : decode cL_law 1217 = .ok (.iload 4, 2) := by decide +kernel
theorem dL_law_1219 : decode cL_law 1219 = .ok (.iconst 1, 1) := by decide +kernel
theorem dL_law_1220 : decode cL_law 1220 = .ok (.iadd, 1) := by decide +kernel
theorem dL_law_1221 : decode cL_law 1221 = .ok (.iaload, 1) := by decide +kernel
theorem dL_law_1222 : decode cL_law 1222 = .ok (.aload_n 0, 1) := by decide +kernel
theorem dL_law_1223 : decode cL_law 1223 = .ok (.iload 4, 2) := by decide +kernel
theorem dL_law_1225 : decode cL_law 1225 = .ok (.iconst 2, 1) := by decide +kernel
theorem dL_law_1226 : decode cL_law 1226 = .ok (.iadd, 1) := by decide +kernel
theorem dL_law_1227 : decode cL_law 1227 = .ok (.iaload, 1) := by decide +kernel
theorem dL_law_1228 : decode cL_law 1228 = .ok (.aload_n 0, 1) := by decide +kernel
theorem dL_law_1229 : decode cL_law 1229 = .ok (.iload 4, 2) := by decide +kernel
theorem dL_law_1231 : decode cL_law 1231 = .ok (.iconst 3, 1) := by decide +kernel
theorem dL_law_1232 : decode cL_law 1232 = .ok (.iadd, 1) := by decide +kernel
theorem dL_law_1233 : decode cL_law 1233 = .ok (.iaload, 1) := by decide +kernel
theorem dL_law_1234 : decode cL_law 1234 = .ok (.aload_n 0, 1) := by decide +kernel
theorem dL_law_1235 : decode cL_law 1235 = .ok (.iload 4, 2) := by decide +kernel
theorem dL_law_1237 : decode cL_law 1237 = .ok (.iconst 4, 1) := by decide +kernel
theorem dL_law_1238 : decode cL_law 1238 = .ok (.iadd, 1) := by decide +kernel
theorem dL_law_1239 : decode cL_law 1239 = .ok (.iaload, 1) := by decide +kernel
theorem dL_law_1240 : decode cL_law 1240 = .ok (.invokevirtual 163, 3) := by decide +kernel
theorem dL_law_1243 : decode cL_law 1243 = .ok (.istore 6, 2) := by decide +kernel
theorem dL_law_1245 : decode cL_law 1245 = .ok (.aload_n 2, 1) := by decide +kernel
theorem dL_law_1246 : decode cL_law 1246 = .ok (.invokevirtual 107, 3) := by decide +kernel
theorem dL_law_1249 : decode cL_law 1249 = .ok (.iload 5, 2) := by decide +kernel
theorem dL_law_1251 : decode cL_law 1251 = .ok (.if_icmp .eq 5, 3) := by decide +kernel
theorem dL_law_1254 : decode cL_law 1254 = .ok (.iconst 0, 1) := by decide +kernel
theorem dL_law_1255 : decode cL_law 1255 = .ok (.ireturn, 1) := by decide +kernel
theorem dL_law_1256 : decode cL_law 1256 = .ok (.iload 5, 2) := by decide +kernel
theorem dL_law_1258 : decode cL_law 1258 = .ok (.ifCond .ne 15, 3) := by decide +kernel
theorem dL_law_1261 : decode cL_law 1261 = .ok (.aload_n 3, 1) := by decide +kernel
theorem dL_law_1262 : decode cL_law 1262 = .ok (.iconst 0, 1) := by decide +kernel
theorem dL_law_1263 : decode cL_law 1263 = .ok (.laload, 1) := by decide +kernel
theorem dL_law_1264 : decode cL_law 1264 = .ok (.iload 6, 2) := by decide +kernel
theorem dL_law_1266 : decode cL_law 1266 = .ok (.i2l, 1) := by decide +kernel
theorem dL_law_1267 : decode cL_law 1267 = .ok (.lcmp, 1) := by decide +kernel
theorem dL_law_1268 : decode cL_law 1268 = .ok (.ifCond .eq 5, 3) := by decide +kernel
theorem dL_law_1271 : decode cL_law 1271 = .ok (.iconst 0, 1) := by decide +kernel
theorem dL_law_1272 : decode cL_law 1272 = .ok (.ireturn, 1) := by decide +kernel
theorem dL_law_1273 : decode cL_law 1273 = .ok (.goto 602, 3) := by decide +kernel
theorem dL_law_1276 : decode cL_law 1276 = .ok (.aload_n 1, 1) := by decide +kernel
theorem dL_law_1277 : decode cL_law 1277 = .ok (.aload_n 0, 1) := by decide +kernel
theorem dL_law_1278 : decode cL_law 1278 = .ok (.iload 4, 2) := by decide +kernel
theorem dL_law_1280 : decode cL_law 1280 = .ok (.iconst 1, 1) := by decide +kernel
theorem dL_law_1281 : decode cL_law 1281 = .ok (.iadd, 1) := by decide +kernel
theorem dL_law_1282 : decode cL_law 1282 = .ok (.iaload, 1) := by decide +kernel
theorem dL_law_1283 : decode cL_law 1283 = .ok (.aload_n 3, 1) := by decide +kernel
theorem dL_law_1284 : decode cL_law 1284 = .ok (.invokestatic 164, 3) := by decide +kernel
theorem dL_law_1287 : decode cL_law 1287 = .ok (.istore 5, 2) := by decide +kernel
theorem dL_law_1289 : decode cL_law 1289 = .ok (.aload_n 2, 1) := by decide +kernel
theorem dL_law_1290 : decode cL_law 1290 = .ok (.aload_n 0, 1) := by decide +kernel
theorem dL_law_1291 : decode cL_law 1291 = .ok (.iload 4, 2) := by decide +kernel
theorem dL_law_1293 : decode cL_law 1293 = .ok (.iconst 1, 1) := by decide +kernel
theorem dL_law_1294 : decode cL_law 1294 = .ok (.iadd, 1) := by decide +kernel
theorem dL_law_1295 : decode cL_law 1295 = .ok (.iaload, 1) := by decide +kernel
theorem dL_law_1296 : decode cL_law 1296 = .ok (.invokevirtual 166, 3) := by decide +kernel
theorem dL_law_1299 : decode cL_law 1299 = .ok (.istore 6, 2) := by decide +kernel
theorem dL_law_1301 : decode cL_law 1301 = .ok (.aload_n 2, 1) := by decide +kernel
theorem dL_law_1302 : decode cL_law 1302 = .ok (.invokevirtual 107, 3) := by decide +kernel
theorem dL_law_1305 : decode cL_law 1305 = .ok (.iload 5, 2) := by decide +kernel
theorem dL_law_1307 : decode cL_law 1307 = .ok (.if_icmp .eq 5, 3) := by decide +kernel
theorem dL_law_1310 : decode cL_law 1310 = .ok (.iconst 0, 1) := by decide +kernel
theorem dL_law_1311 : decode cL_law 1311 = .ok (.ireturn, 1) := by decide +kernel
theorem dL_law_1312 : decode cL_law 1312 = .ok (.iload 5, 2) := by decide +kernel
theorem dL_law_1314 : decode cL_law 1314 = .ok (.ifCond .ne 15, 3) := by decide +kernel
theorem dL_law_1317 : decode cL_law 1317 = .ok (.aload_n 3, 1) := by decide +kernel
theorem dL_law_1318 : decode cL_law 1318 = .ok (.iconst 0, 1) := by decide +kernel
theorem dL_law_1319 : decode cL_law 1319 = .ok (.laload, 1) := by decide +kernel
theorem dL_law_1320 : decode cL_law 1320 = .ok (.iload 6, 2) := by decide +kernel
theorem dL_law_1322 : decode cL_law 1322 = .ok (.i2l, 1) := by decide +kernel
theorem dL_law_1323 : decode cL_law 1323 = .ok (.lcmp, 1) := by decide +kernel
theorem dL_law_1324 : decode cL_law 1324 = .ok (.ifCond .eq 5, 3) := by decide +kernel
theorem dL_law_1327 : decode cL_law 1327 = .ok (.iconst 0, 1) := by decide +kernel
theorem dL_law_1328 : decode cL_law 1328 = .ok (.ireturn, 1) := by decide +kernel
theorem dL_law_1329 : decode cL_law 1329 = .ok (.goto 546, 3) := by decide +kernel
theorem dL_law_1332 : decode cL_law 1332 = .ok (.aload_n 1, 1) := by decide +kernel
theorem dL_law_1333 : decode cL_law 1333 = .ok (.aload_n 0, 1) := by decide +kernel
theorem dL_law_1334 : decode cL_law 1334 = .ok (.iload 4, 2) := by decide +kernel
theorem dL_law_1336 : decode cL_law 1336 = .ok (.iconst 1, 1) := by decide +kernel
theorem dL_law_1337 : decode cL_law 1337 = .ok (.iadd, 1) := by decide +kernel
theorem dL_law_1338 : decode cL_law 1338 = .ok (.iaload, 1) := by decide +kernel
theorem dL_law_1339 : decode cL_law 1339 = .ok (.aload_n 0, 1) := by decide +kernel
theorem dL_law_1340 : decode cL_law 1340 = .ok (.iload 4, 2) := by decide +kernel
theorem dL_law_1342 : decode cL_law 1342 = .ok (.iconst 2, 1) := by decide +kernel
theorem dL_law_1343 : decode cL_law 1343 = .ok (.iadd, 1) := by decide +kernel
theorem dL_law_1344 : decode cL_law 1344 = .ok (.iaload, 1) := by decide +kernel
theorem dL_law_1345 : decode cL_law 1345 = .ok (.aload_n 0, 1) := by decide +kernel
theorem dL_law_1346 : decode cL_law 1346 = .ok (.iload 4, 2) := by decide +kernel
theorem dL_law_1348 : decode cL_law 1348 = .ok (.iconst 3, 1) := by decide +kernel
theorem dL_law_1349 : decode cL_law 1349 = .ok (.iadd, 1) := by decide +kernel
theorem dL_law_1350 : decode cL_law 1350 = .ok (.iaload, 1) := by decide +kernel
theorem dL_law_1351 : decode cL_law 1351 = .ok (.aload_n 3, 1) := by decide +kernel
theorem dL_law_1352 : decode cL_law 1352 = .ok (.invokestatic 167, 3) := by decide +kernel
theorem dL_law_1355 : decode cL_law 1355 = .ok (.istore 5, 2) := by decide +kernel
theorem dL_law_1357 : decode cL_law 1357 = .ok (.aload_n 2, 1) := by decide +kernel
theorem dL_law_1358 : decode cL_law 1358 = .ok (.aload_n 0, 1) := by decide +kernel
theorem dL_law_1359 : decode cL_law 1359 = .ok (.iload 4, 2) := by decide +kernel
theorem dL_law_1361 : decode cL_law 1361 = .ok (.iconst 1, 1) := by decide +kernel
theorem dL_law_1362 : decode cL_law 1362 = .ok (.iadd, 1) := by decide +kernel
theorem dL_law_1363 : decode cL_law 1363 = .ok (.iaload, 1) := by decide +kernel
theorem dL_law_1364 : decode cL_law 1364 = .ok (.aload_n 0, 1) := by decide +kernel
theorem dL_law_1365 : decode cL_law 1365 = .ok (.iload 4, 2) := by decide +kernel
theorem dL_law_1367 : decode cL_law 1367 = .ok (.iconst 2, 1) := by decide +kernel
theorem dL_law_1368 : decode cL_law 1368 = .ok (.iadd, 1) := by decide +kernel
theorem dL_law_1369 : decode cL_law 1369 = .ok (.iaload, 1) := by decide +kernel
theorem dL_law_1370 : decode cL_law 1370 = .ok (.aload_n 0, 1) := by decide +kernel
theorem dL_law_1371 : decode cL_law 1371 = .ok (.iload 4, 2) := by decide +kernel
theorem dL_law_1373 : decode cL_law 1373 = .ok (.iconst 3, 1) := by decide +kernel
theorem dL_law_1374 : decode cL_law 1374 = .ok (.iadd, 1) := by decide +kernel
theorem dL_law_1375 : decode cL_law 1375 = .ok (.iaload, 1) := by decide +kernel
theorem dL_law_1376 : decode cL_law 1376 = .ok (.invokevirtual 169, 3) := by decide +kernel
theorem dL_law_1379 : decode cL_law 1379 = .ok (.istore 6, 2) := by decide +kernel
theorem dL_law_1381 : decode cL_law 1381 = .ok (.aload_n 2, 1) := by decide +kernel
theorem dL_law_1382 : decode cL_law 1382 = .ok (.invokevirtual 107, 3) := by decide +kernel
theorem dL_law_1385 : decode cL_law 1385 = .ok (.iload 5, 2) := by decide +kernel
theorem dL_law_1387 : decode cL_law 1387 = .ok (.if_icmp .eq 5, 3) := by decide +kernel
theorem dL_law_1390 : decode cL_law 1390 = .ok (.iconst 0, 1) := by decide +kernel
theorem dL_law_1391 : decode cL_law 1391 = .ok (.ireturn, 1) := by decide +kernel
theorem dL_law_1392 : decode cL_law 1392 = .ok (.iload 5, 2) := by decide +kernel
theorem dL_law_1394 : decode cL_law 1394 = .ok (.ifCond .ne 15, 3) := by decide +kernel
theorem dL_law_1397 : decode cL_law 1397 = .ok (.aload_n 3, 1) := by decide +kernel
theorem dL_law_1398 : decode cL_law 1398 = .ok (.iconst 0, 1) := by decide +kernel
theorem dL_law_1399 : decode cL_law 1399 = .ok (.laload, 1) := by decide +kernel
theorem dL_law_1400 : decode cL_law 1400 = .ok (.iload 6, 2) := by decide +kernel
theorem dL_law_1402 : decode cL_law 1402 = .ok (.i2l, 1) := by decide +kernel
theorem dL_law_1403 : decode cL_law 1403 = .ok (.lcmp, 1) := by decide +kernel
theorem dL_law_1404 : decode cL_law 1404 = .ok (.ifCond .eq 5, 3) := by decide +kernel
theorem dL_law_1407 : decode cL_law 1407 = .ok (.iconst 0, 1) := by decide +kernel
theorem dL_law_1408 : decode cL_law 1408 = .ok (.ireturn, 1) := by decide +kernel
theorem dL_law_1409 : decode cL_law 1409 = .ok (.goto 466, 3) := by decide +kernel
theorem dL_law_1412 : decode cL_law 1412 = .ok (.aload_n 1, 1) := by decide +kernel
theorem dL_law_1413 : decode cL_law 1413 = .ok (.aload_n 0, 1) := by decide +kernel
theorem dL_law_1414 : decode cL_law 1414 = .ok (.iload 4, 2) := by decide +kernel
theorem dL_law_1416 : decode cL_law 1416 = .ok (.iconst 1, 1) := by decide +kernel
theorem dL_law_1417 : decode cL_law 1417 = .ok (.iadd, 1) := by decide +kernel
theorem dL_law_1418 : decode cL_law 1418 = .ok (.iaload, 1) := by decide +kernel
theorem dL_law_1419 : decode cL_law 1419 = .ok (.aload_n 0, 1) := by decide +kernel
theorem dL_law_1420 : decode cL_law 1420 = .ok (.iload 4, 2) := by decide +kernel
theorem dL_law_1422 : decode cL_law 1422 = .ok (.iconst 2, 1) := by decide +kernel
theorem dL_law_1423 : decode cL_law 1423 = .ok (.iadd, 1) := by decide +kernel
theorem dL_law_1424 : decode cL_law 1424 = .ok (.iaload, 1) := by decide +kernel
theorem dL_law_1425 : decode cL_law 1425 = .ok (.aload_n 0, 1) := by decide +kernel
theorem dL_law_1426 : decode cL_law 1426 = .ok (.iload 4, 2) := by decide +kernel
theorem dL_law_1428 : decode cL_law 1428 = .ok (.iconst 3, 1) := by decide +kernel
theorem dL_law_1429 : decode cL_law 1429 = .ok (.iadd, 1) := by decide +kernel
theorem dL_law_1430 : decode cL_law 1430 = .ok (.iaload, 1) := by decide +kernel
theorem dL_law_1431 : decode cL_law 1431 = .ok (.aload_n 3, 1) := by decide +kernel
theorem dL_law_1432 : decode cL_law 1432 = .ok (.invokestatic 170, 3) := by decide +kernel
theorem dL_law_1435 : decode cL_law 1435 = .ok (.istore 5, 2) := by decide +kernel
theorem dL_law_1437 : decode cL_law 1437 = .ok (.aload_n 2, 1) := by decide +kernel
theorem dL_law_1438 : decode cL_law 1438 = .ok (.aload_n 0, 1) := by decide +kernel
theorem dL_law_1439 : decode cL_law 1439 = .ok (.iload 4, 2) := by decide +kernel
theorem dL_law_1441 : decode cL_law 1441 = .ok (.iconst 1, 1) := by decide +kernel
theorem dL_law_1442 : decode cL_law 1442 = .ok (.iadd, 1) := by decide +kernel
theorem dL_law_1443 : decode cL_law 1443 = .ok (.iaload, 1) := by decide +kernel
theorem dL_law_1444 : decode cL_law 1444 = .ok (.aload_n 0, 1) := by decide +kernel
theorem dL_law_1445 : decode cL_law 1445 = .ok (.iload 4, 2) := by decide +kernel
theorem dL_law_1447 : decode cL_law 1447 = .ok (.iconst 2, 1) := by decide +kernel
theorem dL_law_1448 : decode cL_law 1448 = .ok (.iadd, 1) := by decide +kernel
theorem dL_law_1449 : decode cL_law 1449 = .ok (.iaload, 1) := by decide +kernel
theorem dL_law_1450 : decode cL_law 1450 = .ok (.aload_n 0, 1) := by decide +kernel
theorem dL_law_1451 : decode cL_law 1451 = .ok (.iload 4, 2) := by decide +kernel
theorem dL_law_1453 : decode cL_law 1453 = .ok (.iconst 3, 1) := by decide +kernel
theorem dL_law_1454 : decode cL_law 1454 = .ok (.iadd, 1) := by decide +kernel
theorem dL_law_1455 : decode cL_law 1455 = .ok (.iaload, 1) := by decide +kernel
theorem dL_law_1456 : decode cL_law 1456 = .ok (.invokevirtual 172, 3) := by decide +kernel
theorem dL_law_1459 : decode cL_law 1459 = .ok (.lstore 6, 2) := by decide +kernel
theorem dL_law_1461 : decode cL_law 1461 = .ok (.aload_n 2, 1) := by decide +kernel
theorem dL_law_1462 : decode cL_law 1462 = .ok (.invokevirtual 107, 3) := by decide +kernel
theorem dL_law_1465 : decode cL_law 1465 = .ok (.iload 5, 2) := by decide +kernel
theorem dL_law_1467 : decode cL_law 1467 = .ok (.if_icmp .eq 5, 3) := by decide +kernel
theorem dL_law_1470 : decode cL_law 1470 = .ok (.iconst 0, 1) := by decide +kernel
theorem dL_law_1471 : decode cL_law 1471 = .ok (.ireturn, 1) := by decide +kernel
theorem dL_law_1472 : decode cL_law 1472 = .ok (.iload 5, 2) := by decide +kernel
theorem dL_law_1474 : decode cL_law 1474 = .ok (.ifCond .ne 14, 3) := by decide +kernel
theorem dL_law_1477 : decode cL_law 1477 = .ok (.aload_n 3, 1) := by decide +kernel
theorem dL_law_1478 : decode cL_law 1478 = .ok (.iconst 0, 1) := by decide +kernel
theorem dL_law_1479 : decode cL_law 1479 = .ok (.laload, 1) := by decide +kernel
theorem dL_law_1480 : decode cL_law 1480 = .ok (.lload 6, 2) := by decide +kernel
theorem dL_law_1482 : decode cL_law 1482 = .ok (.lcmp, 1) := by decide +kernel
theorem dL_law_1483 : decode cL_law 1483 = .ok (.ifCond .eq 5, 3) := by decide +kernel
theorem dL_law_1486 : decode cL_law 1486 = .ok (.iconst 0, 1) := by decide +kernel
theorem dL_law_1487 : decode cL_law 1487 = .ok (.ireturn, 1) := by decide +kernel
theorem dL_law_1488 : decode cL_law 1488 = .ok (.goto 387, 3) := by decide +kernel
theorem dL_law_1491 : decode cL_law 1491 = .ok (.aload_n 1, 1) := by decide +kernel
theorem dL_law_1492 : decode cL_law 1492 = .ok (.aload_n 0, 1) := by decide +kernel
theorem dL_law_1493 : decode cL_law 1493 = .ok (.iload 4, 2) := by decide +kernel
theorem dL_law_1495 : decode cL_law 1495 = .ok (.iconst 1, 1) := by decide +kernel
theorem dL_law_1496 : decode cL_law 1496 = .ok (.iadd, 1) := by decide +kernel
theorem dL_law_1497 : decode cL_law 1497 = .ok (.iaload, 1) := by decide +kernel
theorem dL_law_1498 : decode cL_law 1498 = .ok (.aload_n 0, 1) := by decide +kernel
theorem dL_law_1499 : decode cL_law 1499 = .ok (.iload 4, 2) := by decide +kernel
theorem dL_law_1501 : decode cL_law 1501 = .ok (.iconst 2, 1) := by decide +kernel
theorem dL_law_1502 : decode cL_law 1502 = .ok (.iadd, 1) := by decide +kernel
theorem dL_law_1503 : decode cL_law 1503 = .ok (.iaload, 1) := by decide +kernel
theorem dL_law_1504 : decode cL_law 1504 = .ok (.aload_n 3, 1) := by decide +kernel
theorem dL_law_1505 : decode cL_law 1505 = .ok (.invokestatic 173, 3) := by decide +kernel
theorem dL_law_1508 : decode cL_law 1508 = .ok (.istore 5, 2) := by decide +kernel
theorem dL_law_1510 : decode cL_law 1510 = .ok (.aload_n 2, 1) := by decide +kernel
theorem dL_law_1511 : decode cL_law 1511 = .ok (.aload_n 0, 1) := by decide +kernel
theorem dL_law_1512 : decode cL_law 1512 = .ok (.iload 4, 2) := by decide +kernel
theorem dL_law_1514 : decode cL_law 1514 = .ok (.iconst 1, 1) := by decide +kernel
theorem dL_law_1515 : decode cL_law 1515 = .ok (.iadd, 1) := by decide +kernel
theorem dL_law_1516 : decode cL_law 1516 = .ok (.iaload, 1) := by decide +kernel
theorem dL_law_1517 : decode cL_law 1517 = .ok (.aload_n 0, 1) := by decide +kernel
theorem dL_law_1518 : decode cL_law 1518 = .ok (.iload 4, 2) := by decide +kernel
theorem dL_law_1520 : decode cL_law 1520 = .ok (.iconst 2, 1) := by decide +kernel
theorem dL_law_1521 : decode cL_law 1521 = .ok (.iadd, 1) := by decide +kernel
theorem dL_law_1522 : decode cL_law 1522 = .ok (.iaload, 1) := by decide +kernel
theorem dL_law_1523 : decode cL_law 1523 = .ok (.invokevirtual 175, 3) := by decide +kernel
theorem dL_law_1526 : decode cL_law 1526 = .ok (.lstore 6, 2) := by decide +kernel
theorem dL_law_1528 : decode cL_law 1528 = .ok (.aload_n 2, 1) := by decide +kernel
theorem dL_law_1529 : decode cL_law 1529 = .ok (.invokevirtual 107, 3) := by decide +kernel
theorem dL_law_1532 : decode cL_law 1532 = .ok (.iload 5, 2) := by decide +kernel
theorem dL_law_1534 : decode cL_law 1534 = .ok (.if_icmp .eq 5, 3) := by decide +kernel
theorem dL_law_1537 : decode cL_law 1537 = .ok (.iconst 0, 1) := by decide +kernel
theorem dL_law_1538 : decode cL_law 1538 = .ok (.ireturn, 1) := by decide +kernel
theorem dL_law_1539 : decode cL_law 1539 = .ok (.iload 5, 2) := by decide +kernel
theorem dL_law_1541 : decode cL_law 1541 = .ok (.ifCond .ne 14, 3) := by decide +kernel
theorem dL_law_1544 : decode cL_law 1544 = .ok (.aload_n 3, 1) := by decide +kernel
theorem dL_law_1545 : decode cL_law 1545 = .ok (.iconst 0, 1) := by decide +kernel
theorem dL_law_1546 : decode cL_law 1546 = .ok (.laload, 1) := by decide +kernel
theorem dL_law_1547 : decode cL_law 1547 = .ok (.lload 6, 2) := by decide +kernel
theorem dL_law_1549 : decode cL_law 1549 = .ok (.lcmp, 1) := by decide +kernel
theorem dL_law_1550 : decode cL_law 1550 = .ok (.ifCond .eq 5, 3) := by decide +kernel
theorem dL_law_1553 : decode cL_law 1553 = .ok (.iconst 0, 1) := by decide +kernel
theorem dL_law_1554 : decode cL_law 1554 = .ok (.ireturn, 1) := by decide +kernel
theorem dL_law_1555 : decode cL_law 1555 = .ok (.goto 320, 3) := by decide +kernel
theorem dL_law_1558 : decode cL_law 1558 = .ok (.aload_n 1, 1) := by decide +kernel
theorem dL_law_1559 : decode cL_law 1559 = .ok (.aload_n 0, 1) := by decide +kernel
theorem dL_law_1560 : decode cL_law 1560 = .ok (.iload 4, 2) := by decide +kernel
theorem dL_law_1562 : decode cL_law 1562 = .ok (.iconst 1, 1) := by decide +kernel
theorem dL_law_1563 : decode cL_law 1563 = .ok (.iadd, 1) := by decide +kernel
theorem dL_law_1564 : decode cL_law 1564 = .ok (.iaload, 1) := by decide +kernel
theorem dL_law_1565 : decode cL_law 1565 = .ok (.aload_n 0, 1) := by decide +kernel
theorem dL_law_1566 : decode cL_law 1566 = .ok (.iload 4, 2) := by decide +kernel
theorem dL_law_1568 : decode cL_law 1568 = .ok (.iconst 2, 1) := by decide +kernel
theorem dL_law_1569 : decode cL_law 1569 = .ok (.iadd, 1) := by decide +kernel
theorem dL_law_1570 : decode cL_law 1570 = .ok (.iaload, 1) := by decide +kernel
theorem dL_law_1571 : decode cL_law 1571 = .ok (.aload_n 0, 1) := by decide +kernel
theorem dL_law_1572 : decode cL_law 1572 = .ok (.iload 4, 2) := by decide +kernel
theorem dL_law_1574 : decode cL_law 1574 = .ok (.iconst 3, 1) := by decide +kernel
theorem dL_law_1575 : decode cL_law 1575 = .ok (.iadd, 1) := by decide +kernel
theorem dL_law_1576 : decode cL_law 1576 = .ok (.iaload, 1) := by decide +kernel
theorem dL_law_1577 : decode cL_law 1577 = .ok (.aload_n 3, 1) := by decide +kernel
theorem dL_law_1578 : decode cL_law 1578 = .ok (.invokestatic 176, 3) := by decide +kernel
theorem dL_law_1581 : decode cL_law 1581 = .ok (.istore 5, 2) := by decide +kernel
theorem dL_law_1583 : decode cL_law 1583 = .ok (.aload_n 2, 1) := by decide +kernel
theorem dL_law_1584 : decode cL_law 1584 = .ok (.aload_n 0, 1) := by decide +kernel
theorem dL_law_1585 : decode cL_law 1585 = .ok (.iload 4, 2) := by decide +kernel
theorem dL_law_1587 : decode cL_law 1587 = .ok (.iconst 1, 1) := by decide +kernel
theorem dL_law_1588 : decode cL_law 1588 = .ok (.iadd, 1) := by decide +kernel
theorem dL_law_1589 : decode cL_law 1589 = .ok (.iaload, 1) := by decide +kernel
theorem dL_law_1590 : decode cL_law 1590 = .ok (.aload_n 0, 1) := by decide +kernel
theorem dL_law_1591 : decode cL_law 1591 = .ok (.iload 4, 2) := by decide +kernel
theorem dL_law_1593 : decode cL_law 1593 = .ok (.iconst 2, 1) := by decide +kernel
theorem dL_law_1594 : decode cL_law 1594 = .ok (.iadd, 1) := by decide +kernel
theorem dL_law_1595 : decode cL_law 1595 = .ok (.iaload, 1) := by decide +kernel
theorem dL_law_1596 : decode cL_law 1596 = .ok (.aload_n 0, 1) := by decide +kernel
theorem dL_law_1597 : decode cL_law 1597 = .ok (.iload 4, 2) := by decide +kernel
theorem dL_law_1599 : decode cL_law 1599 = .ok (.iconst 3, 1) := by decide +kernel
theorem dL_law_1600 : decode cL_law 1600 = .ok (.iadd, 1) := by decide +kernel
theorem dL_law_1601 : decode cL_law 1601 = .ok (.iaload, 1) := by decide +kernel
theorem dL_law_1602 : decode cL_law 1602 = .ok (.invokevirtual 178, 3) := by decide +kernel
theorem dL_law_1605 : decode cL_law 1605 = .ok (.istore 6, 2) := by decide +kernel
theorem dL_law_1607 : decode cL_law 1607 = .ok (.aload_n 2, 1) := by decide +kernel
theorem dL_law_1608 : decode cL_law 1608 = .ok (.invokevirtual 107, 3) := by decide +kernel
theorem dL_law_1611 : decode cL_law 1611 = .ok (.iload 5, 2) := by decide +kernel
theorem dL_law_1613 : decode cL_law 1613 = .ok (.if_icmp .eq 5, 3) := by decide +kernel
theorem dL_law_1616 : decode cL_law 1616 = .ok (.iconst 0, 1) := by decide +kernel
theorem dL_law_1617 : decode cL_law 1617 = .ok (.ireturn, 1) := by decide +kernel
theorem dL_law_1618 : decode cL_law 1618 = .ok (.iload 5, 2) := by decide +kernel
theorem dL_law_1620 : decode cL_law 1620 = .ok (.ifCond .ne 22, 3) := by decide +kernel
theorem dL_law_1623 : decode cL_law 1623 = .ok (.aload_n 3, 1) := by decide +kernel
theorem dL_law_1624 : decode cL_law 1624 = .ok (.iconst 0, 1) := by decide +kernel
theorem dL_law_1625 : decode cL_law 1625 = .ok (.laload, 1) := by decide +kernel
theorem dL_law_1626 : decode cL_law 1626 = .ok (.iload 6, 2) := by decide +kernel
theorem dL_law_1628 : decode cL_law 1628 = .ok (.ifCond .eq 7, 3) := by decide +kernel
theorem dL_law_1631 : decode cL_law 1631 = .ok (.lconst 1, 1) := by decide +kernel
theorem dL_law_1632 : decode cL_law 1632 = .ok (.goto 4, 3) := by decide +kernel
theorem dL_law_1635 : decode cL_law 1635 = .ok (.lconst 0, 1) := by decide +kernel
theorem dL_law_1636 : decode cL_law 1636 = .ok (.lcmp, 1) := by decide +kernel
theorem dL_law_1637 : decode cL_law 1637 = .ok (.ifCond .eq 5, 3) := by decide +kernel
theorem dL_law_1640 : decode cL_law 1640 = .ok (.iconst 0, 1) := by decide +kernel
theorem dL_law_1641 : decode cL_law 1641 = .ok (.ireturn, 1) := by decide +kernel
theorem dL_law_1642 : decode cL_law 1642 = .ok (.goto 233, 3) := by decide +kernel
theorem dL_law_1645 : decode cL_law 1645 = .ok (.aload_n 1, 1) := by decide +kernel
theorem dL_law_1646 : decode cL_law 1646 = .ok (.aload_n 0, 1) := by decide +kernel
theorem dL_law_1647 : decode cL_law 1647 = .ok (.iload 4, 2) := by decide +kernel
theorem dL_law_1649 : decode cL_law 1649 = .ok (.iconst 1, 1) := by decide +kernel
theorem dL_law_1650 : decode cL_law 1650 = .ok (.iadd, 1) := by decide +kernel
theorem dL_law_1651 : decode cL_law 1651 = .ok (.iaload, 1) := by decide +kernel
theorem dL_law_1652 : decode cL_law 1652 = .ok (.aload_n 0, 1) := by decide +kernel
theorem dL_law_1653 : decode cL_law 1653 = .ok (.iload 4, 2) := by decide +kernel
theorem dL_law_1655 : decode cL_law 1655 = .ok (.iconst 2, 1) := by decide +kernel
theorem dL_law_1656 : decode cL_law 1656 = .ok (.iadd, 1) := by decide +kernel
theorem dL_law_1657 : decode cL_law 1657 = .ok (.iaload, 1) := by decide +kernel
theorem dL_law_1658 : decode cL_law 1658 = .ok (.aload_n 0, 1) := by decide +kernel
theorem dL_law_1659 : decode cL_law 1659 = .ok (.iload 4, 2) := by decide +kernel
theorem dL_law_1661 : decode cL_law 1661 = .ok (.iconst 3, 1) := by decide +kernel
theorem dL_law_1662 : decode cL_law 1662 = .ok (.iadd, 1) := by decide +kernel
theorem dL_law_1663 : decode cL_law 1663 = .ok (.iaload, 1) := by decide +kernel
theorem dL_law_1664 : decode cL_law 1664 = .ok (.aload_n 0, 1) := by decide +kernel
theorem dL_law_1665 : decode cL_law 1665 = .ok (.iload 4, 2) := by decide +kernel
theorem dL_law_1667 : decode cL_law 1667 = .ok (.iconst 4, 1) := by decide +kernel
theorem dL_law_1668 : decode cL_law 1668 = .ok (.iadd, 1) := by decide +kernel
theorem dL_law_1669 : decode cL_law 1669 = .ok (.iaload, 1) := by decide +kernel
theorem dL_law_1670 : decode cL_law 1670 = .ok (.aload_n 3, 1) := by decide +kernel
theorem dL_law_1671 : decode cL_law 1671 = .ok (.invokestatic 179, 3) := by decide +kernel
theorem dL_law_1674 : decode cL_law 1674 = .ok (.istore 5, 2) := by decide +kernel
theorem dL_law_1676 : decode cL_law 1676 = .ok (.aload_n 2, 1) := by decide +kernel
theorem dL_law_1677 : decode cL_law 1677 = .ok (.aload_n 0, 1) := by decide +kernel
theorem dL_law_1678 : decode cL_law 1678 = .ok (.iload 4, 2) := by decide +kernel
theorem dL_law_1680 : decode cL_law 1680 = .ok (.iconst 1, 1) := by decide +kernel
theorem dL_law_1681 : decode cL_law 1681 = .ok (.iadd, 1) := by decide +kernel
theorem dL_law_1682 : decode cL_law 1682 = .ok (.iaload, 1) := by decide +kernel
theorem dL_law_1683 : decode cL_law 1683 = .ok (.aload_n 0, 1) := by decide +kernel
theorem dL_law_1684 : decode cL_law 1684 = .ok (.iload 4, 2) := by decide +kernel
theorem dL_law_1686 : decode cL_law 1686 = .ok (.iconst 2, 1) := by decide +kernel
theorem dL_law_1687 : decode cL_law 1687 = .ok (.iadd, 1) := by decide +kernel
theorem dL_law_1688 : decode cL_law 1688 = .ok (.iaload, 1) := by decide +kernel
theorem dL_law_1689 : decode cL_law 1689 = .ok (.aload_n 0, 1) := by decide +kernel
theorem dL_law_1690 : decode cL_law 1690 = .ok (.iload 4, 2) := by decide +kernel
theorem dL_law_1692 : decode cL_law 1692 = .ok (.iconst 3, 1) := by decide +kernel
theorem dL_law_1693 : decode cL_law 1693 = .ok (.iadd, 1) := by decide +kernel
theorem dL_law_1694 : decode cL_law 1694 = .ok (.iaload, 1) := by decide +kernel
theorem dL_law_1695 : decode cL_law 1695 = .ok (.aload_n 0, 1) := by decide +kernel
theorem dL_law_1696 : decode cL_law 1696 = .ok (.iload 4, 2) := by decide +kernel
theorem dL_law_1698 : decode cL_law 1698 = .ok (.iconst 4, 1) := by decide +kernel
theorem dL_law_1699 : decode cL_law 1699 = .ok (.iadd, 1) := by decide +kernel
theorem dL_law_1700 : decode cL_law 1700 = .ok (.iaload, 1) := by decide +kernel
theorem dL_law_1701 : decode cL_law 1701 = .ok (.invokevirtual 181, 3) := by decide +kernel
theorem dL_law_1704 : decode cL_law 1704 = .ok (.istore 6, 2) := by decide +kernel
theorem dL_law_1706 : decode cL_law 1706 = .ok (.aload_n 2, 1) := by decide +kernel
theorem dL_law_1707 : decode cL_law 1707 = .ok (.invokevirtual 107, 3) := by decide +kernel
theorem dL_law_1710 : decode cL_law 1710 = .ok (.iload 5, 2) := by decide +kernel
theorem dL_law_1712 : decode cL_law 1712 = .ok (.if_icmp .eq 5, 3) := by decide +kernel
theorem dL_law_1715 : decode cL_law 1715 = .ok (.iconst 0, 1) := by decide +kernel
theorem dL_law_1716 : decode cL_law 1716 = .ok (.ireturn, 1) := by decide +kernel
theorem dL_law_1717 : decode cL_law 1717 = .ok (.iload 5, 2) := by decide +kernel
theorem dL_law_1719 : decode cL_law 1719 = .ok (.ifCond .ne 22, 3) := by decide +kernel
theorem dL_law_1722 : decode cL_law 1722 = .ok (.aload_n 3, 1) := by decide +kernel
theorem dL_law_1723 : decode cL_law 1723 = .ok (.iconst 0, 1) := by decide +kernel
theorem dL_law_1724 : decode cL_law 1724 = .ok (.laload, 1) := by decide +kernel
theorem dL_law_1725 : decode cL_law 1725 = .ok (.iload 6, 2) := by decide +kernel
theorem dL_law_1727 : decode cL_law 1727 = .ok (.ifCond .eq 7, 3) := by decide +kernel
theorem dL_law_1730 : decode cL_law 1730 = .ok (.lconst 1, 1) := by decide +kernel
theorem dL_law_1731 : decode cL_law 1731 = .ok (.goto 4, 3) := by decide +kernel
theorem dL_law_1734 : decode cL_law 1734 = .ok (.lconst 0, 1) := by decide +kernel
theorem dL_law_1735 : decode cL_law 1735 = .ok (.lcmp, 1) := by decide +kernel
theorem dL_law_1736 : decode cL_law 1736 = .ok (.ifCond .eq 5, 3) := by decide +kernel
theorem dL_law_1739 : decode cL_law 1739 = .ok (.iconst 0, 1) := by decide +kernel
theorem dL_law_1740 : decode cL_law 1740 = .ok (.ireturn, 1) := by decide +kernel
theorem dL_law_1741 : decode cL_law 1741 = .ok (.goto 134, 3) := by decide +kernel
theorem dL_law_1744 : decode cL_law 1744 = .ok (.aload_n 1, 1) := by decide +kernel
theorem dL_law_1745 : decode cL_law 1745 = .ok (.aload_n 0, 1) := by decide +kernel
theorem dL_law_1746 : decode cL_law 1746 = .ok (.iload 4, 2) := by decide +kernel
theorem dL_law_1748 : decode cL_law 1748 = .ok (.iconst 1, 1) := by decide +kernel
theorem dL_law_1749 : decode cL_law 1749 = .ok (.iadd, 1) := by decide +kernel
theorem dL_law_1750 : decode cL_law 1750 = .ok (.iaload, 1) := by decide +kernel
theorem dL_law_1751 : decode cL_law 1751 = .ok (.aload_n 0, 1) := by decide +kernel
theorem dL_law_1752 : decode cL_law 1752 = .ok (.iload 4, 2) := by decide +kernel
theorem dL_law_1754 : decode cL_law 1754 = .ok (.iconst 2, 1) := by decide +kernel
theorem dL_law_1755 : decode cL_law 1755 = .ok (.iadd, 1) := by decide +kernel
theorem dL_law_1756 : decode cL_law 1756 = .ok (.iaload, 1) := by decide +kernel
theorem dL_law_1757 : decode cL_law 1757 = .ok (.aload_n 3, 1) := by decide +kernel
theorem dL_law_1758 : decode cL_law 1758 = .ok (.invokestatic 182, 3) := by decide +kernel
theorem dL_law_1761 : decode cL_law 1761 = .ok (.istore 5, 2) := by decide +kernel
theorem dL_law_1763 : decode cL_law 1763 = .ok (.aload_n 2, 1) := by decide +kernel
theorem dL_law_1764 : decode cL_law 1764 = .ok (.aload_n 0, 1) := by decide +kernel
theorem dL_law_1765 : decode cL_law 1765 = .ok (.iload 4, 2) := by decide +kernel
theorem dL_law_1767 : decode cL_law 1767 = .ok (.iconst 1, 1) := by decide +kernel
theorem dL_law_1768 : decode cL_law 1768 = .ok (.iadd, 1) := by decide +kernel
theorem dL_law_1769 : decode cL_law 1769 = .ok (.iaload, 1) := by decide +kernel
theorem dL_law_1770 : decode cL_law 1770 = .ok (.aload_n 0, 1) := by decide +kernel
theorem dL_law_1771 : decode cL_law 1771 = .ok (.iload 4, 2) := by decide +kernel
theorem dL_law_1773 : decode cL_law 1773 = .ok (.iconst 2, 1) := by decide +kernel
theorem dL_law_1774 : decode cL_law 1774 = .ok (.iadd, 1) := by decide +kernel
theorem dL_law_1775 : decode cL_law 1775 = .ok (.iaload, 1) := by decide +kernel
theorem dL_law_1776 : decode cL_law 1776 = .ok (.invokevirtual 184, 3) := by decide +kernel
theorem dL_law_1779 : decode cL_law 1779 = .ok (.istore 6, 2) := by decide +kernel
theorem dL_law_1781 : decode cL_law 1781 = .ok (.aload_n 2, 1) := by decide +kernel
theorem dL_law_1782 : decode cL_law 1782 = .ok (.invokevirtual 107, 3) := by decide +kernel
theorem dL_law_1785 : decode cL_law 1785 = .ok (.iload 5, 2) := by decide +kernel
theorem dL_law_1787 : decode cL_law 1787 = .ok (.if_icmp .eq 5, 3) := by decide +kernel
theorem dL_law_1790 : decode cL_law 1790 = .ok (.iconst 0, 1) := by decide +kernel
theorem dL_law_1791 : decode cL_law 1791 = .ok (.ireturn, 1) := by decide +kernel
theorem dL_law_1792 : decode cL_law 1792 = .ok (.iload 5, 2) := by decide +kernel
theorem dL_law_1794 : decode cL_law 1794 = .ok (.ifCond .ne 15, 3) := by decide +kernel
theorem dL_law_1797 : decode cL_law 1797 = .ok (.aload_n 3, 1) := by decide +kernel
theorem dL_law_1798 : decode cL_law 1798 = .ok (.iconst 0, 1) := by decide +kernel
theorem dL_law_1799 : decode cL_law 1799 = .ok (.laload, 1) := by decide +kernel
theorem dL_law_1800 : decode cL_law 1800 = .ok (.iload 6, 2) := by decide +kernel
theorem dL_law_1802 : decode cL_law 1802 = .ok (.i2l, 1) := by decide +kernel
theorem dL_law_1803 : decode cL_law 1803 = .ok (.lcmp, 1) := by decide +kernel
theorem dL_law_1804 : decode cL_law 1804 = .ok (.ifCond .eq 5, 3) := by decide +kernel
theorem dL_law_1807 : decode cL_law 1807 = .ok (.iconst 0, 1) := by decide +kernel
theorem dL_law_1808 : decode cL_law 1808 = .ok (.ireturn, 1) := by decide +kernel
theorem dL_law_1809 : decode cL_law 1809 = .ok (.goto 66, 3) := by decide +kernel
theorem dL_law_1812 : decode cL_law 1812 = .ok (.aload_n 1, 1) := by decide +kernel
theorem dL_law_1813 : decode cL_law 1813 = .ok (.aload_n 0, 1) := by decide +kernel
theorem dL_law_1814 : decode cL_law 1814 = .ok (.iload 4, 2) := by decide +kernel
theorem dL_law_1816 : decode cL_law 1816 = .ok (.iconst 1, 1) := by decide +kernel
theorem dL_law_1817 : decode cL_law 1817 = .ok (.iadd, 1) := by decide +kernel
theorem dL_law_1818 : decode cL_law 1818 = .ok (.iaload, 1) := by decide +kernel
theorem dL_law_1819 : decode cL_law 1819 = .ok (.aload_n 3, 1) := by decide +kernel
theorem dL_law_1820 : decode cL_law 1820 = .ok (.invokestatic 185, 3) := by decide +kernel
theorem dL_law_1823 : decode cL_law 1823 = .ok (.istore 5, 2) := by decide +kernel
theorem dL_law_1825 : decode cL_law 1825 = .ok (.aload_n 2, 1) := by decide +kernel
theorem dL_law_1826 : decode cL_law 1826 = .ok (.aload_n 0, 1) := by decide +kernel
theorem dL_law_1827 : decode cL_law 1827 = .ok (.iload 4, 2) := by decide +kernel
theorem dL_law_1829 : decode cL_law 1829 = .ok (.iconst 1, 1) := by decide +kernel
theorem dL_law_1830 : decode cL_law 1830 = .ok (.iadd, 1) := by decide +kernel
theorem dL_law_1831 : decode cL_law 1831 = .ok (.iaload, 1) := by decide +kernel
theorem dL_law_1832 : decode cL_law 1832 = .ok (.invokevirtual 187, 3) := by decide +kernel
theorem dL_law_1835 : decode cL_law 1835 = .ok (.istore 6, 2) := by decide +kernel
theorem dL_law_1837 : decode cL_law 1837 = .ok (.aload_n 2, 1) := by decide +kernel
theorem dL_law_1838 : decode cL_law 1838 = .ok (.invokevirtual 107, 3) := by decide +kernel
theorem dL_law_1841 : decode cL_law 1841 = .ok (.iload 5, 2) := by decide +kernel
theorem dL_law_1843 : decode cL_law 1843 = .ok (.if_icmp .eq 5, 3) := by decide +kernel
theorem dL_law_1846 : decode cL_law 1846 = .ok (.iconst 0, 1) := by decide +kernel
theorem dL_law_1847 : decode cL_law 1847 = .ok (.ireturn, 1) := by decide +kernel
theorem dL_law_1848 : decode cL_law 1848 = .ok (.iload 5, 2) := by decide +kernel
theorem dL_law_1850 : decode cL_law 1850 = .ok (.ifCond .ne 22, 3) := by decide +kernel
theorem dL_law_1853 : decode cL_law 1853 = .ok (.aload_n 3, 1) := by decide +kernel
theorem dL_law_1854 : decode cL_law 1854 = .ok (.iconst 0, 1) := by decide +kernel
theorem dL_law_1855 : decode cL_law 1855 = .ok (.laload, 1) := by decide +kernel
theorem dL_law_1856 : decode cL_law 1856 = .ok (.iload 6, 2) := by decide +kernel
theorem dL_law_1858 : decode cL_law 1858 = .ok (.ifCond .eq 7, 3) := by decide +kernel
theorem dL_law_1861 : decode cL_law 1861 = .ok (.lconst 1, 1) := by decide +kernel
theorem dL_law_1862 : decode cL_law 1862 = .ok (.goto 4, 3) := by decide +kernel
theorem dL_law_1865 : decode cL_law 1865 = .ok (.lconst 0, 1) := by decide +kernel
theorem dL_law_1866 : decode cL_law 1866 = .ok (.lcmp, 1) := by decide +kernel
theorem dL_law_1867 : decode cL_law 1867 = .ok (.ifCond .eq 5, 3) := by decide +kernel
theorem dL_law_1870 : decode cL_law 1870 = .ok (.iconst 0, 1) := by decide +kernel
theorem dL_law_1871 : decode cL_law 1871 = .ok (.ireturn, 1) := by decide +kernel
theorem dL_law_1872 : decode cL_law 1872 = .ok (.goto 3, 3) := by decide +kernel
theorem dL_law_1875 : decode cL_law 1875 = .ok (.iinc 4 5, 3) := by decide +kernel
theorem dL_law_1878 : decode cL_law 1878 = .ok (.goto (-1855), 3) := by decide +kernel
theorem dL_law_1881 : decode cL_law 1881 = .ok (.iconst 1, 1) := by decide +kernel
theorem dL_law_1882 : decode cL_law 1882 = .ok (.ireturn, 1) := by decide +kernel
end
section
/-! The abstract machine: a heap of typed slots under fixed names (numbers); a name's address is given by a map that only grows. -/
abbrev aI : Type := Nat → Nat → Int32
abbrev aL : Type := Nat → Nat → Int64
abbrev aR : Type := Nat → Nat → Option Nat
abbrev aS : Type := Nat → Option ((FieldType × Nat) ⊕ Nat)
abbrev aM : Type := Nat → Nat
/-- the surroundings: classes and slots, array classes, the first address that may be written, the table's address -/
abbrev aE : Type := va_G × (FieldType → ClassId) × Nat × Nat
def au2 {α : Type} (f : Nat → Nat → α) (q k : Nat) (v : α) : Nat → Nat → α := fun a b => if a = q ∧ b = k then v else f a b
def au1 {α : Type} (f : Nat → α) (q : Nat) (v : α) : Nat → α := fun a => if a = q then v else f a
theorem au2_s {α : Type} (f : Nat → Nat → α) (q k : Nat) (v : α) : au2 f q k v q k = v := by simp [au2]
theorem au2_n {α : Type} {f : Nat → Nat → α} {q k a b : Nat} {v : α} (h : ¬ (a = q ∧ b = k)) : au2 f q k v a b = f a b := by simp [au2, h]
theorem au1_s {α : Type} (f : Nat → α) (q : Nat) (v : α) : au1 f q v q = v := by simp [au1]
theorem au1_n {α : Type} {f : Nat → α} {q a : Nat} {v : α} (h : a ≠ q) : au1 f q v a = f a := by simp [au1, h]
/-- a local that nobody knows -/
abbrev aU : Value := .retAddr 0
def arn (io : aM) : Value → Value
  | .ref q => .ref (io q)
  | .int x => .int x
  | .long x => .long x
  | .float x => .float x
  | .double x => .double x
  | .null => .null
  | .retAddr x => .retAddr x
def arv (io : aM) : Option Nat → Value
  | none => .null
  | some q => .ref (io q)
def asv (io : aM) (ty : FieldType) (I : aI) (L : aL) (R : aR) (q k : Nat) : Value := match ty with
  | .long => .long (L q k)
  | .object _ => arv io (R q k)
  | .array _ => arv io (R q k)
  | _ => .int (I q k)
def atyT : Nat → Nat → FieldType := fun ci => match ci with
  | 0 => tyX0
  | 1 => tyX1
  | 2 => tyX2
  | 3 => tyX3
  | _ => tyX4
abbrev aCl : List vw_C := [(RX0, TX0, 9), (RX1, TX1, 5), (RX2, TX2, 14), (RX3, TX3, 8), (RX4, TX4, 32)]
theorem acl_ty : ∀ (ci : Nat) (r : vw_C), aCl[ci]? = some r → ∀ k, k < r.2.2 → parseFieldDescriptor (r.2.1 k).2.2.1 = some (atyT ci k) := by
  intro ci r h
  match ci, h with
  | 0, h => cases h; exact tyX0_ok
  | 1, h => cases h; exact tyX1_ok
  | 2, h => cases h; exact tyX2_ok
  | 3, h => cases h; exact tyX3_ok
  | 4, h => cases h; exact tyX4_ok
  | n + 5, h => simp at h
theorem acl_nm : ∀ (ci : Nat) (r : vw_C), aCl[ci]? = some r → ∀ a, a < r.2.2 → ∀ b, b < r.2.2 → a ≠ b → (r.2.1 a).2.1 ≠ (r.2.1 b).2.1 := by
  intro ci r h
  match ci, h with
  | 0, h => cases h; exact nmX0
  | 1, h => cases h; exact nmX1
  | 2, h => cases h; exact nmX2
  | 3, h => cases h; exact nmX3
  | 4, h => cases h; exact nmX4
  | n + 5, h => simp at h
/-- all words that stay true -/
def aBIG : List Cond := lw_tbl.filter goodWord
theorem abig_good : GoodIn aBIG aBIG := fun w h => ⟨h, good_of_word (List.mem_filter.mp h).2⟩
theorem abig_u0 : ∀ w ∈ u_ws RX0 TX0 9, w ∈ aBIG := by decide +kernel
theorem abig_u1 : ∀ w ∈ u_ws RX1 TX1 5, w ∈ aBIG := by decide +kernel
theorem abig_u2 : ∀ w ∈ u_ws RX2 TX2 14, w ∈ aBIG := by decide +kernel
theorem abig_u3 : ∀ w ∈ u_ws RX3 TX3 8, w ∈ aBIG := by decide +kernel
theorem abig_u4 : ∀ w ∈ u_ws RX4 TX4 32, w ∈ aBIG := by decide +kernel
theorem abig_u : ∀ (ci : Nat) (r : vw_C), aCl[ci]? = some r → ∀ w ∈ u_ws r.1 r.2.1 r.2.2, w ∈ aBIG := by
  intro ci r h
  match ci, h with
  | 0, h => cases h; exact abig_u0
  | 1, h => cases h; exact abig_u1
  | 2, h => cases h; exact abig_u2
  | 3, h => cases h; exact abig_u3
  | 4, h => cases h; exact abig_u4
  | n + 5, h => simp at h
/-- words kept as facts of their own -/
def aNk : Cond → Bool
  | .fieldLinkNest .. => true
  | .methodLinkNest .. => true
  | .castable .. => true
  | .declares .. => true
  | _ => false
theorem aNk_ot {w : Cond} (h : aNk w = true) : w.onTables = true := by
  cases w <;> first | rfl | (simp [aNk] at h)
theorem aNk_warm {w : Cond} (h : aNk w = true) {s U : State} (hW : s.WarmedH U.vm) (hZ : va_Nw w s) : va_Nw w U := by
  cases w <;> first | exact va_Nw.warmF hW hZ | exact va_Nw.warmM hW hZ | exact va_Nw.warmC hW hZ | exact va_Nw.warmD hW hZ | (simp [aNk] at h)
def aTys (E : aE) : List (ClassId × FieldType) := [(E.2.1 .int, .int), (E.2.1 .long, .long), (E.2.1 .boolean, .boolean), (E.2.1 (.object "AsteroTone$Star"), .object "AsteroTone$Star"), (E.2.1 (.object "AsteroTone$Claim"), .object "AsteroTone$Claim")]
/-- where a method may write -/
abbrev aW (E : aE) : Nat → Prop := fun q => E.2.2.1 ≤ q
def acos : Nat → Int32 := fun j => ([1000, 995, 981, 957, 924, 882, 831, 773, 707, 634, 556, 471, 383, 290, 195, 98, 0, -98, -195, -290, -383, -471, -556, -634, -707, -773, -831, -882, -924, -957, -981, -995, -1000, -995, -981, -957, -924, -882, -831, -773, -707, -634, -556, -471, -383, -290, -195, -98, 0, 98, 195, 290, 383, 471, 556, 634, 707, 773, 831, 882, 924, 957, 981, 995] : List Int32).getD j 0
def aNcs : List (String × String) := [("java/lang/IllegalArgumentException", "java/lang/IllegalStateException"), ("java/lang/IllegalArgumentException", "java/lang/IndexOutOfBoundsException"), ("java/lang/IllegalStateException", "java/lang/IllegalArgumentException"), ("java/lang/IllegalStateException", "java/lang/IndexOutOfBoundsException"), ("java/lang/IndexOutOfBoundsException", "java/lang/IllegalArgumentException"), ("java/lang/IndexOutOfBoundsException", "java/lang/IllegalStateException")]
/-- what holds of the machine beside the objects -/
def aEv (E : aE) (s : State) : Prop :=
  va_K E.1 aCl (aTys E) s ∧ (∀ w ∈ lw_tbl, aNk w = true → va_Nw w s) ∧ va_AO "AsteroTone$Star" s ∧ va_AO "AsteroTone$Claim" s ∧
  vx_Zq Bundle.tN "UNASSIGNED_STACK" Bundle.steD (aW E) s s.heap ∧ vx_Zq Bundle.tN "SUPPRESSED_SENTINEL" Bundle.listD (aW E) s s.heap ∧
  (∀ own k tx, Cond.stringRef own k tx ∈ lw_tbl → ∃ sa, vk_R own k tx sa s) ∧ va_Z "AsteroTone" "COSINES" "[I" (.ref E.2.2.2) (aW E) s s.heap ∧
  va_X E.2.2.2 64 acos s s.heap ∧ E.2.2.2 < E.2.2.1 ∧ E.2.2.1 ≤ s.heap.size ∧ (∀ q ∈ aNcs, va_Nc q.1 q.2 s)

theorem aEv.same {E : aE} {u U : State} (hv : u.vm = U.vm) (hh : u.heap = U.heap) (h : aEv E u) : aEv E U := by
  obtain ⟨h1, h2, h3, h4, h5, h6, h7, h8, h9, h10, h11, h12⟩ := h
  have ha : u.vm.Alike U.vm := by rw [hv]; exact Vm.Alike.refl U.vm
  refine ⟨h1.moved ha, fun w hw hk => (h2 w hw hk).same (aNk_ot hk) hv, h3.moved ha, h4.moved ha, by rw [← hh]; exact h5.moved ha, by rw [← hh]; exact h6.moved ha, fun own k tx hm => ?_, by rw [← hh]; exact h8.moved ha, by rw [← hh]; exact h9.moved ha, h10, by rw [← hh]; exact h11, fun q hq => (h12 q hq).moved ha⟩
  obtain ⟨sa, hs⟩ := h7 own k tx hm
  exact ⟨sa, hs.same hv.symm⟩
theorem aEv.go {E : aE} {s U : State} {H : Heap} {locs : List Loc} (hW : s.WarmedH U.vm) (hH : U.heap = H) (hS : va_S (aW E) s.heap H locs) (h : aEv E s) : aEv E U := by
  obtain ⟨h1, h2, h3, h4, h5, h6, h7, h8, h9, h10, h11, h12⟩ := h
  have ha : s.vm.Alike U.vm := hW.alike
  have hq : ∀ a : Nat, a < s.heap.size → ¬ aW E a → U.heap[a]? = s.heap[a]? := fun a x y => by rw [hH]; exact hS.2.1 a x y
  refine ⟨h1.moved ha, fun w hw hk => aNk_warm hk hW (h2 w hw hk), h3.moved ha, h4.moved ha, (h5.kept hq).moved ha, (h6.kept hq).moved ha, fun own k tx hm => ?_, (h8.kept hq).moved ha, (h9.kept (hq _ (Nat.lt_of_lt_of_le h10 h11) (Nat.not_le.mpr h10))).moved ha, h10, Nat.le_trans h11 (by rw [hH]; exact hS.1), fun q hq => (h12 q hq).moved ha⟩
  obtain ⟨sa, hs⟩ := h7 own k tx hm
  exact ⟨sa, hs.warm hW⟩
/-- a cell holds what its name says -/
def aCell (E : aE) (io : aM) (I : aI) (L : aL) (R : aR) (x : (FieldType × Nat) ⊕ Nat) (q : Nat) (H : Heap) : Prop := match x with
  | .inl a => H[io q]? = some (arrV (E.2.1 a.1) a.2 (fun j => asv io a.1 I L R q j))
  | .inr ci => ∃ r : vw_C, aCl[ci]? = some r ∧ t_OB (io q) (E.1.1 ci) r.2.2 (E.1.2 ci) H (fun k => asv io (atyT ci k) I L R q k)
theorem aCell.lt {E : aE} {io : aM} {I : aI} {L : aL} {R : aR} {x : (FieldType × Nat) ⊕ Nat} {q : Nat} {H : Heap} (h : aCell E io I L R x q H) : io q < H.size := by
  cases x with
  | inl a => exact (Array.getElem?_eq_some_iff.mp h).1
  | inr ci =>
    obtain ⟨r, h1, cell, h2, -⟩ := h
    exact (Array.getElem?_eq_some_iff.mp h2).1
theorem aCell.kept {E : aE} {io : aM} {I : aI} {L : aL} {R : aR} {x : (FieldType × Nat) ⊕ Nat} {q : Nat} {H H1 : Heap} (h : aCell E io I L R x q H) (e : H1[io q]? = H[io q]?) : aCell E io I L R x q H1 := by
  cases x with
  | inl a => exact e.trans h
  | inr ci =>
    obtain ⟨r, h1, h2⟩ := h
    exact ⟨r, h1, h2.kept e⟩
theorem asv_congr {io io' : aM} {ty : FieldType} {I I' : aI} {L L' : aL} {R R' : aR} {q k : Nat} (hI : I q k = I' q k) (hL : L q k = L' q k) (hR : R q k = R' q k) (hio : ∀ r, R' q k = some r → io r = io' r) : asv io ty I L R q k = asv io' ty I' L' R' q k := by
  have e : arv io (R q k) = arv io' (R' q k) := by
    rw [hR]
    cases h : R' q k with
    | none => rfl
    | some r => exact congrArg Value.ref (hio r h)
  cases ty <;> simp only [asv, hI, hL, e]
theorem aCell.congr {E : aE} {io io' : aM} {I I' : aI} {L L' : aL} {R R' : aR} {x : (FieldType × Nat) ⊕ Nat} {q : Nat} {H : Heap} (h : aCell E io I L R x q H) (hq : io q = io' q) (hI : ∀ k, I q k = I' q k) (hL : ∀ k, L q k = L' q k) (hR : ∀ k, R q k = R' q k) (hio : ∀ k r, R' q k = some r → io r = io' r) : aCell E io' I' L' R' x q H := by
  have e : ∀ (ty : FieldType) (k : Nat), asv io ty I L R q k = asv io' ty I' L' R' q k := fun ty k => asv_congr (hI k) (hL k) (hR k) (hio k)
  cases x with
  | inl a =>
    show H[io' q]? = _
    rw [← hq, h]
    exact congrArg some (congrArg (arrV _ _) (funext fun j => e _ j))
  | inr ci =>
    obtain ⟨r, h1, h2⟩ := h
    exact ⟨r, h1, by rw [← hq]; exact h2.to fun k _ => e _ k⟩
/-- the heap holds the abstract one -/
def aHR (E : aE) (io : aM) (S : aS) (I : aI) (L : aL) (R : aR) (H : Heap) : Prop :=
  (∀ q x, S q = some x → q ≠ 2 → aCell E io I L R x q H) ∧ (∀ q r, S q ≠ none → S r ≠ none → io q = io r → q = r) ∧ (∀ q, S q ≠ none → q ≠ 2 → E.2.2.1 ≤ io q) ∧ (∀ q k r, S q ≠ none → R q k = some r → S r ≠ none) ∧ io 2 = E.2.2.2 ∧ E.2.2.2 < E.2.2.1
def aOk (S : aS) (st : List Value) : Prop := ∀ v ∈ st, ∀ q, v = .ref q → S q ≠ none
theorem aOk.tl {S : aS} {v : Value} {st : List Value} (h : aOk S (v :: st)) : aOk S st := fun w hw => h w (List.mem_cons_of_mem _ hw)
theorem aOk.hd {S : aS} {q : Nat} {st : List Value} (h : aOk S (.ref q :: st)) : S q ≠ none := h _ List.mem_cons_self q rfl
theorem aOk.cons {S : aS} {v : Value} {st : List Value} (hv : ∀ q, v = .ref q → S q ≠ none) (h : aOk S st) : aOk S (v :: st) := fun w hw => by
  rcases List.mem_cons.mp hw with e | e
  · rw [e]; exact hv
  · exact h w e
theorem aOk.i {S : aS} {x : Int32} {st : List Value} (h : aOk S st) : aOk S (.int x :: st) := h.cons (fun q e => by cases e)
theorem aOk.l {S : aS} {x : Int64} {st : List Value} (h : aOk S st) : aOk S (.long x :: st) := h.cons (fun q e => by cases e)
theorem aOk.n {S : aS} {st : List Value} (h : aOk S st) : aOk S (.null :: st) := h.cons (fun q e => by cases e)
theorem aOk.r {S : aS} {q : Nat} {st : List Value} (hq : S q ≠ none) (h : aOk S st) : aOk S (.ref q :: st) := h.cons (fun q' e => by cases e; exact hq)
theorem aOk.u {S : aS} {st : List Value} (h : aOk S st) : aOk S (aU :: st) := h.cons (fun q e => by cases e)
theorem aOk.nil {S : aS} : aOk S [] := fun _ h => nomatch h
theorem aOk.mono {S S' : aS} {st : List Value} (h : aOk S st) (hS : ∀ q, S q ≠ none → S' q ≠ none) : aOk S' st := fun v hv q e => hS q (h v hv q e)
def aKn : Value → Bool
  | .retAddr _ => false
  | _ => true
def aLc (io : aM) (nL : Nat) (lv : List Value) (ls : Array Slot) : Prop := ls.size = nL ∧ lv_wf ls ∧ ∀ (i : Nat) (v : Value), lv[i]? = some v → aKn v = true → ls[i]? = some (.val (arn io v))
theorem arn_kn {io : aM} {v : Value} (h : aKn v = true) : aKn (arn io v) = true := by cases v <;> first | rfl | exact h
theorem arn_cat (io : aM) (v : Value) : (arn io v).category = v.category := by cases v <;> rfl
theorem arn_congr {S : aS} {io io' : aM} {st : List Value} (h : aOk S st) (hio : ∀ q, S q ≠ none → io' q = io q) : st.map (arn io') = st.map (arn io) := by
  refine List.map_congr_left fun v hv => ?_
  cases v with
  | ref q => exact congrArg Value.ref (hio q (h _ hv q rfl))
  | _ => rfl
theorem aLc.congr {S : aS} {io io' : aM} {nL : Nat} {lv : List Value} {ls : Array Slot} (h : aOk S lv) (hio : ∀ q, S q ≠ none → io' q = io q) (hl : aLc io nL lv ls) : aLc io' nL lv ls := by
  refine ⟨hl.1, hl.2.1, fun i v hi hk => ?_⟩
  rw [hl.2.2 i v hi hk]
  cases v with
  | ref q => exact congrArg (fun x => some (Slot.val (Value.ref x))) (hio q (h _ (List.mem_of_getElem? hi) q rfl)).symm
  | _ => rfl
def aAll (ls : Array Slot) : List (Nat × Value) := (List.range ls.size).filterMap (fun j => match (ls[j]? : Option Slot) with
  | some (Slot.val w) => some (j, w)
  | _ => none)
theorem aAll_mem {ls : Array Slot} {j : Nat} {w : Value} (h : ls[j]? = some (.val w)) : (j, w) ∈ aAll ls := by
  refine List.mem_filterMap.mpr ⟨j, List.mem_range.mpr (Array.getElem?_eq_some_iff.mp h).1, ?_⟩
  rw [h]
theorem aAll_has {ls : Array Slot} {nL : Nat} (hs : ls.size = nL) (hw : lv_wf ls) : lv_has ls nL (aAll ls) := by
  refine ⟨hs, hw, fun q hq => ?_⟩
  obtain ⟨j, -, hj⟩ := List.mem_filterMap.mp hq
  cases h : ls[j]? with
  | none => rw [h] at hj; cases hj
  | some x =>
    cases x with
    | val w => rw [h] at hj; cases hj; exact h
    | unset => rw [h] at hj; cases hj
    | second => rw [h] at hj; cases hj
/-- what a store leaves of the locals -/
def aStv (i : Nat) (v : Value) (lv lv' : List Value) : Prop := ∀ (j : Nat) (w : Value), lv'[j]? = some w → aKn w = true → (j = i ∧ w = v) ∨ (j ≠ i ∧ lv[j]? = some w ∧ (j + 1 = i → w.category ≠ 2) ∧ (v.category = 2 → j ≠ i + 1))
theorem aLc.st1 {io : aM} {nL i : Nat} {v : Value} {lv lv' : List Value} {ls ls' : Array Slot} (hl : aLc io nL lv ls) (hv : v.category = 1) (hs : aStv i v lv lv') (h : lv_has ls' nL ((i, arn io v) :: (aAll ls).filter (fun q => !(q.1 == i) && !(q.1 + 1 == i && q.2.category == 2)))) : aLc io nL lv' ls' := by
  refine ⟨h.1, h.2.1, fun j w hj hk => ?_⟩
  rcases hs j w hj hk with ⟨rfl, rfl⟩ | ⟨h1, h2, h3, h4⟩
  · exact h.2.2 (_, _) List.mem_cons_self
  · refine h.2.2 (j, arn io w) (List.mem_cons_of_mem _ (List.mem_filter.mpr ⟨aAll_mem (hl.2.2 j w h2 hk), ?_⟩))
    simp only [arn_cat, Bool.and_eq_true, Bool.not_eq_true', beq_eq_false_iff_ne, ne_eq, Bool.and_eq_false_iff]
    refine ⟨h1, ?_⟩
    by_cases e : j + 1 = i
    · exact Or.inr (h3 e)
    · exact Or.inl e
theorem aLc.st2 {io : aM} {nL i : Nat} {v : Value} {lv lv' : List Value} {ls ls' : Array Slot} (hl : aLc io nL lv ls) (hv : v.category = 2) (hs : aStv i v lv lv') (h : lv_has ls' nL ((i, arn io v) :: (aAll ls).filter (fun q => !(q.1 == i) && (!(q.1 == i + 1) && !(q.1 + 1 == i && q.2.category == 2))))) : aLc io nL lv' ls' := by
  refine ⟨h.1, h.2.1, fun j w hj hk => ?_⟩
  rcases hs j w hj hk with ⟨rfl, rfl⟩ | ⟨h1, h2, h3, h4⟩
  · exact h.2.2 (_, _) List.mem_cons_self
  · refine h.2.2 (j, arn io w) (List.mem_cons_of_mem _ (List.mem_filter.mpr ⟨aAll_mem (hl.2.2 j w h2 hk), ?_⟩))
    simp only [arn_cat, Bool.and_eq_true, Bool.not_eq_true', beq_eq_false_iff_ne, ne_eq, Bool.and_eq_false_iff]
    refine ⟨h1, h4 hv, ?_⟩
    by_cases e : j + 1 = i
    · exact Or.inr (h3 e)
    · exact Or.inl e
end
section
section AG
variable {p : Program} {l : Launch} {e : Env} {R : Room} {s : State} {m : MethodId} {args : Array Value} {below : List Frame} {meth : Method} {c : Code} {E : aE} {io0 : aM} {S0 : aS} {nL : Nat} {Q : State → Prop}
def aG (p : Program) (l : Launch) (e : Env) (R : Room) (s : State) (m : MethodId) (args : Array Value) (below : List Frame) (meth : Method) (c : Code) (E : aE) (io0 : aM) (S0 : aS) (nL : Nat) (Q : State → Prop) (pc : Nat) (lv st : List Value) (S : aS) (I : aI) (L : aL) (Rf : aR) (k n : Nat) : Prop :=
  ∀ (io : aM) (H : Heap) (locs : List Loc) (ls : Array Slot), aHR E io S I L Rf H → (∀ q, S0 q ≠ none → io q = io0 q ∧ S q = S0 q) → aOk S lv → aOk S st → va_S (aW E) s.heap H locs → aLc io nL lv ls → W p l e R s m args below meth c H locs k n Q (F0 m pc ls (st.map (arn io)))
def aCx (p : Program) (l : Launch) (s : State) (m : MethodId) (args : Array Value) (meth : Method) (c : Code) (own : String) (cc : ByteArray) (nL : Nat) (ret : Option FieldType) (E : aE) : Prop :=
  p.tables.exec = Jvm.exec ∧ c.code = cc ∧ c.maxLocals = nL ∧ s.vm.findClass own = some m.cls ∧ (∀ w ∈ aBIG, w.before args s = true) ∧ meth.locks = false ∧ aEv E s ∧ l.stackTraces = false ∧ meth.sig.returnType = ret
variable {own : String} {cc : ByteArray} {ret : Option FieldType} {pc nx : Nat} {lv st : List Value} {S : aS} {I : aI} {L : aL} {Rf : aR} {k n : Nat}

theorem g_iconst (hx : aCx p l s m args meth c own cc nL ret E) {i : Int} {v : Int32} (d : decode cc pc = .ok (.iconst i, 1)) (hn : pc + 1 = nx) (hv : Int32.ofInt i = v) (kk : aG p l e R s m args below meth c E io0 S0 nL Q nx lv (.int v :: st) S I L Rf k n) : aG p l e R s m args below meth c E io0 S0 nL Q pc lv (st) S I L Rf k n := by
  subst hn
  intro io H locs ls h1 h2 h3 h4 h5 h6
  exact lv_iconst hx.1 hx.2.1 d hv (kk io H locs ls h1 h2 h3 (h4.i) h5 h6)

theorem g_bipush (hx : aCx p l s m args meth c own cc nL ret E) {i : Int} {v : Int32} (d : decode cc pc = .ok (.bipush i, 2)) (hn : pc + 2 = nx) (hv : (Int8.ofInt i).toInt32 = v) (kk : aG p l e R s m args below meth c E io0 S0 nL Q nx lv (.int v :: st) S I L Rf k n) : aG p l e R s m args below meth c E io0 S0 nL Q pc lv (st) S I L Rf k n := by
  subst hn
  intro io H locs ls h1 h2 h3 h4 h5 h6
  exact lv_bipush hx.1 hx.2.1 d hv (kk io H locs ls h1 h2 h3 (h4.i) h5 h6)

theorem g_sipush (hx : aCx p l s m args meth c own cc nL ret E) {i : Int} {v : Int32} (d : decode cc pc = .ok (.sipush i, 3)) (hn : pc + 3 = nx) (hv : (Int16.ofInt i).toInt32 = v) (kk : aG p l e R s m args below meth c E io0 S0 nL Q nx lv (.int v :: st) S I L Rf k n) : aG p l e R s m args below meth c E io0 S0 nL Q pc lv (st) S I L Rf k n := by
  subst hn
  intro io H locs ls h1 h2 h3 h4 h5 h6
  exact lv_sipush hx.1 hx.2.1 d hv (kk io H locs ls h1 h2 h3 (h4.i) h5 h6)

theorem g_lconst (hx : aCx p l s m args meth c own cc nL ret E) {i : Fin 2} {v : Int64} (d : decode cc pc = .ok (.lconst i, 1)) (hn : pc + 1 = nx) (hv : Int64.ofNat (i : Nat) = v) (kk : aG p l e R s m args below meth c E io0 S0 nL Q nx lv (.long v :: st) S I L Rf k n) : aG p l e R s m args below meth c E io0 S0 nL Q pc lv (st) S I L Rf k n := by
  subst hn
  intro io H locs ls h1 h2 h3 h4 h5 h6
  exact lv_lconst hx.1 hx.2.1 d hv (kk io H locs ls h1 h2 h3 (h4.l) h5 h6)

theorem g_ldc (hx : aCx p l s m args meth c own cc nL ret E) {i : Nat} {v : Int32} (d : decode cc pc = .ok (.ldc i, 2)) (hn : pc + 2 = nx) (hw : Cond.constant own i v ∈ aBIG) (kk : aG p l e R s m args below meth c E io0 S0 nL Q nx lv (.int v :: st) S I L Rf k n) : aG p l e R s m args below meth c E io0 S0 nL Q pc lv (st) S I L Rf k n := by
  subst hn
  intro io H locs ls h1 h2 h3 h4 h5 h6
  exact lv_ldc hx.1 hx.2.1 hx.2.2.2.1 (hx.2.2.2.2.1 _ hw) d (kk io H locs ls h1 h2 h3 (h4.i) h5 h6)

theorem g_ldc_w (hx : aCx p l s m args meth c own cc nL ret E) {i : Nat} {v : Int32} (d : decode cc pc = .ok (.ldc_w i, 3)) (hn : pc + 3 = nx) (hw : Cond.constant own i v ∈ aBIG) (kk : aG p l e R s m args below meth c E io0 S0 nL Q nx lv (.int v :: st) S I L Rf k n) : aG p l e R s m args below meth c E io0 S0 nL Q pc lv (st) S I L Rf k n := by
  subst hn
  intro io H locs ls h1 h2 h3 h4 h5 h6
  exact lv_ldcw hx.1 hx.2.1 hx.2.2.2.1 (hx.2.2.2.2.1 _ hw) d (kk io H locs ls h1 h2 h3 (h4.i) h5 h6)

theorem g_ldc2 (hx : aCx p l s m args meth c own cc nL ret E) {i : Nat} {v : Int64} (d : decode cc pc = .ok (.ldc2_w i, 3)) (hn : pc + 3 = nx) (hw : Cond.constantLong own i v ∈ aBIG) (kk : aG p l e R s m args below meth c E io0 S0 nL Q nx lv (.long v :: st) S I L Rf k n) : aG p l e R s m args below meth c E io0 S0 nL Q pc lv (st) S I L Rf k n := by
  subst hn
  intro io H locs ls h1 h2 h3 h4 h5 h6
  exact lv_ldc2 hx.1 hx.2.1 hx.2.2.2.1 (hx.2.2.2.2.1 _ hw) d (kk io H locs ls h1 h2 h3 (h4.l) h5 h6)

theorem g_null (hx : aCx p l s m args meth c own cc nL ret E)  (d : decode cc pc = .ok (.aconst_null, 1)) (hn : pc + 1 = nx)  (kk : aG p l e R s m args below meth c E io0 S0 nL Q nx lv (.null :: st) S I L Rf k n) : aG p l e R s m args below meth c E io0 S0 nL Q pc lv (st) S I L Rf k n := by
  subst hn
  intro io H locs ls h1 h2 h3 h4 h5 h6
  exact lv_null hx.1 hx.2.1 d (kk io H locs ls h1 h2 h3 (h4.n) h5 h6)

theorem g_iadd (hx : aCx p l s m args meth c own cc nL ret E) {x y : Int32} (d : decode cc pc = .ok (.iadd, 1)) (hn : pc + 1 = nx)  (kk : aG p l e R s m args below meth c E io0 S0 nL Q nx lv (.int (x + y) :: st) S I L Rf k n) : aG p l e R s m args below meth c E io0 S0 nL Q pc lv (.int y :: .int x :: st) S I L Rf k n := by
  subst hn
  intro io H locs ls h1 h2 h3 h4 h5 h6
  exact lv_iadd hx.1 hx.2.1 d (kk io H locs ls h1 h2 h3 (h4.tl.tl.i) h5 h6)

theorem g_isub (hx : aCx p l s m args meth c own cc nL ret E) {x y : Int32} (d : decode cc pc = .ok (.isub, 1)) (hn : pc + 1 = nx)  (kk : aG p l e R s m args below meth c E io0 S0 nL Q nx lv (.int (x - y) :: st) S I L Rf k n) : aG p l e R s m args below meth c E io0 S0 nL Q pc lv (.int y :: .int x :: st) S I L Rf k n := by
  subst hn
  intro io H locs ls h1 h2 h3 h4 h5 h6
  exact lv_isub hx.1 hx.2.1 d (kk io H locs ls h1 h2 h3 (h4.tl.tl.i) h5 h6)

theorem g_imul (hx : aCx p l s m args meth c own cc nL ret E) {x y : Int32} (d : decode cc pc = .ok (.imul, 1)) (hn : pc + 1 = nx)  (kk : aG p l e R s m args below meth c E io0 S0 nL Q nx lv (.int (x * y) :: st) S I L Rf k n) : aG p l e R s m args below meth c E io0 S0 nL Q pc lv (.int y :: .int x :: st) S I L Rf k n := by
  subst hn
  intro io H locs ls h1 h2 h3 h4 h5 h6
  exact lv_imul hx.1 hx.2.1 d (kk io H locs ls h1 h2 h3 (h4.tl.tl.i) h5 h6)

theorem g_iand (hx : aCx p l s m args meth c own cc nL ret E) {x y : Int32} (d : decode cc pc = .ok (.iand, 1)) (hn : pc + 1 = nx)  (kk : aG p l e R s m args below meth c E io0 S0 nL Q nx lv (.int (x &&& y) :: st) S I L Rf k n) : aG p l e R s m args below meth c E io0 S0 nL Q pc lv (.int y :: .int x :: st) S I L Rf k n := by
  subst hn
  intro io H locs ls h1 h2 h3 h4 h5 h6
  exact lv_iand hx.1 hx.2.1 d (kk io H locs ls h1 h2 h3 (h4.tl.tl.i) h5 h6)

theorem g_ior (hx : aCx p l s m args meth c own cc nL ret E) {x y : Int32} (d : decode cc pc = .ok (.ior, 1)) (hn : pc + 1 = nx)  (kk : aG p l e R s m args below meth c E io0 S0 nL Q nx lv (.int (x ||| y) :: st) S I L Rf k n) : aG p l e R s m args below meth c E io0 S0 nL Q pc lv (.int y :: .int x :: st) S I L Rf k n := by
  subst hn
  intro io H locs ls h1 h2 h3 h4 h5 h6
  exact lv_ior hx.1 hx.2.1 d (kk io H locs ls h1 h2 h3 (h4.tl.tl.i) h5 h6)

theorem g_ixor (hx : aCx p l s m args meth c own cc nL ret E) {x y : Int32} (d : decode cc pc = .ok (.ixor, 1)) (hn : pc + 1 = nx)  (kk : aG p l e R s m args below meth c E io0 S0 nL Q nx lv (.int (x ^^^ y) :: st) S I L Rf k n) : aG p l e R s m args below meth c E io0 S0 nL Q pc lv (.int y :: .int x :: st) S I L Rf k n := by
  subst hn
  intro io H locs ls h1 h2 h3 h4 h5 h6
  exact lv_ixor hx.1 hx.2.1 d (kk io H locs ls h1 h2 h3 (h4.tl.tl.i) h5 h6)

theorem g_ladd (hx : aCx p l s m args meth c own cc nL ret E) {x y : Int64} (d : decode cc pc = .ok (.ladd, 1)) (hn : pc + 1 = nx)  (kk : aG p l e R s m args below meth c E io0 S0 nL Q nx lv (.long (x + y) :: st) S I L Rf k n) : aG p l e R s m args below meth c E io0 S0 nL Q pc lv (.long y :: .long x :: st) S I L Rf k n := by
  subst hn
  intro io H locs ls h1 h2 h3 h4 h5 h6
  exact lv_ladd hx.1 hx.2.1 d (kk io H locs ls h1 h2 h3 (h4.tl.tl.l) h5 h6)

theorem g_lsub (hx : aCx p l s m args meth c own cc nL ret E) {x y : Int64} (d : decode cc pc = .ok (.lsub, 1)) (hn : pc + 1 = nx)  (kk : aG p l e R s m args below meth c E io0 S0 nL Q nx lv (.long (x - y) :: st) S I L Rf k n) : aG p l e R s m args below meth c E io0 S0 nL Q pc lv (.long y :: .long x :: st) S I L Rf k n := by
  subst hn
  intro io H locs ls h1 h2 h3 h4 h5 h6
  exact lv_lsub hx.1 hx.2.1 d (kk io H locs ls h1 h2 h3 (h4.tl.tl.l) h5 h6)

theorem g_lmul (hx : aCx p l s m args meth c own cc nL ret E) {x y : Int64} (d : decode cc pc = .ok (.lmul, 1)) (hn : pc + 1 = nx)  (kk : aG p l e R s m args below meth c E io0 S0 nL Q nx lv (.long (x * y) :: st) S I L Rf k n) : aG p l e R s m args below meth c E io0 S0 nL Q pc lv (.long y :: .long x :: st) S I L Rf k n := by
  subst hn
  intro io H locs ls h1 h2 h3 h4 h5 h6
  exact lv_lmul hx.1 hx.2.1 d (kk io H locs ls h1 h2 h3 (h4.tl.tl.l) h5 h6)

theorem g_land (hx : aCx p l s m args meth c own cc nL ret E) {x y : Int64} (d : decode cc pc = .ok (.land, 1)) (hn : pc + 1 = nx)  (kk : aG p l e R s m args below meth c E io0 S0 nL Q nx lv (.long (x &&& y) :: st) S I L Rf k n) : aG p l e R s m args below meth c E io0 S0 nL Q pc lv (.long y :: .long x :: st) S I L Rf k n := by
  subst hn
  intro io H locs ls h1 h2 h3 h4 h5 h6
  exact lv_land hx.1 hx.2.1 d (kk io H locs ls h1 h2 h3 (h4.tl.tl.l) h5 h6)

theorem g_lor (hx : aCx p l s m args meth c own cc nL ret E) {x y : Int64} (d : decode cc pc = .ok (.lor, 1)) (hn : pc + 1 = nx)  (kk : aG p l e R s m args below meth c E io0 S0 nL Q nx lv (.long (x ||| y) :: st) S I L Rf k n) : aG p l e R s m args below meth c E io0 S0 nL Q pc lv (.long y :: .long x :: st) S I L Rf k n := by
  subst hn
  intro io H locs ls h1 h2 h3 h4 h5 h6
  exact lv_lor hx.1 hx.2.1 d (kk io H locs ls h1 h2 h3 (h4.tl.tl.l) h5 h6)

theorem g_lxor (hx : aCx p l s m args meth c own cc nL ret E) {x y : Int64} (d : decode cc pc = .ok (.lxor, 1)) (hn : pc + 1 = nx)  (kk : aG p l e R s m args below meth c E io0 S0 nL Q nx lv (.long (x ^^^ y) :: st) S I L Rf k n) : aG p l e R s m args below meth c E io0 S0 nL Q pc lv (.long y :: .long x :: st) S I L Rf k n := by
  subst hn
  intro io H locs ls h1 h2 h3 h4 h5 h6
  exact lv_lxor hx.1 hx.2.1 d (kk io H locs ls h1 h2 h3 (h4.tl.tl.l) h5 h6)

theorem g_idiv (hx : aCx p l s m args meth c own cc nL ret E) {x y : Int32} (d : decode cc pc = .ok (.idiv, 1)) (hn : pc + 1 = nx) (h0 : ¬ y = 0) (kk : aG p l e R s m args below meth c E io0 S0 nL Q nx lv (.int (x / y) :: st) S I L Rf k n) : aG p l e R s m args below meth c E io0 S0 nL Q pc lv (.int y :: .int x :: st) S I L Rf k n := by
  subst hn
  intro io H locs ls h1 h2 h3 h4 h5 h6
  exact lv_idiv hx.1 hx.2.1 d h0 (kk io H locs ls h1 h2 h3 (h4.tl.tl.i) h5 h6)

theorem g_irem (hx : aCx p l s m args meth c own cc nL ret E) {x y : Int32} (d : decode cc pc = .ok (.irem, 1)) (hn : pc + 1 = nx) (h0 : ¬ y = 0) (kk : aG p l e R s m args below meth c E io0 S0 nL Q nx lv (.int (x - x / y * y) :: st) S I L Rf k n) : aG p l e R s m args below meth c E io0 S0 nL Q pc lv (.int y :: .int x :: st) S I L Rf k n := by
  subst hn
  intro io H locs ls h1 h2 h3 h4 h5 h6
  exact lv_irem hx.1 hx.2.1 d h0 (kk io H locs ls h1 h2 h3 (h4.tl.tl.i) h5 h6)

theorem g_ldiv (hx : aCx p l s m args meth c own cc nL ret E) {x y : Int64} (d : decode cc pc = .ok (.ldiv, 1)) (hn : pc + 1 = nx) (h0 : ¬ y = 0) (kk : aG p l e R s m args below meth c E io0 S0 nL Q nx lv (.long (x / y) :: st) S I L Rf k n) : aG p l e R s m args below meth c E io0 S0 nL Q pc lv (.long y :: .long x :: st) S I L Rf k n := by
  subst hn
  intro io H locs ls h1 h2 h3 h4 h5 h6
  exact lv_ldiv hx.1 hx.2.1 d h0 (kk io H locs ls h1 h2 h3 (h4.tl.tl.l) h5 h6)

theorem g_lrem (hx : aCx p l s m args meth c own cc nL ret E) {x y : Int64} (d : decode cc pc = .ok (.lrem, 1)) (hn : pc + 1 = nx) (h0 : ¬ y = 0) (kk : aG p l e R s m args below meth c E io0 S0 nL Q nx lv (.long (x - x / y * y) :: st) S I L Rf k n) : aG p l e R s m args below meth c E io0 S0 nL Q pc lv (.long y :: .long x :: st) S I L Rf k n := by
  subst hn
  intro io H locs ls h1 h2 h3 h4 h5 h6
  exact lv_lrem hx.1 hx.2.1 d h0 (kk io H locs ls h1 h2 h3 (h4.tl.tl.l) h5 h6)

theorem g_ineg (hx : aCx p l s m args meth c own cc nL ret E) {x : Int32} (d : decode cc pc = .ok (.ineg, 1)) (hn : pc + 1 = nx)  (kk : aG p l e R s m args below meth c E io0 S0 nL Q nx lv (.int (-x) :: st) S I L Rf k n) : aG p l e R s m args below meth c E io0 S0 nL Q pc lv (.int x :: st) S I L Rf k n := by
  subst hn
  intro io H locs ls h1 h2 h3 h4 h5 h6
  exact lv_ineg hx.1 hx.2.1 d (kk io H locs ls h1 h2 h3 (h4.tl.i) h5 h6)

theorem g_lneg (hx : aCx p l s m args meth c own cc nL ret E) {x : Int64} (d : decode cc pc = .ok (.lneg, 1)) (hn : pc + 1 = nx)  (kk : aG p l e R s m args below meth c E io0 S0 nL Q nx lv (.long (-x) :: st) S I L Rf k n) : aG p l e R s m args below meth c E io0 S0 nL Q pc lv (.long x :: st) S I L Rf k n := by
  subst hn
  intro io H locs ls h1 h2 h3 h4 h5 h6
  exact lv_lneg hx.1 hx.2.1 d (kk io H locs ls h1 h2 h3 (h4.tl.l) h5 h6)

theorem g_ishl (hx : aCx p l s m args meth c own cc nL ret E) {x y : Int32} (d : decode cc pc = .ok (.ishl, 1)) (hn : pc + 1 = nx)  (kk : aG p l e R s m args below meth c E io0 S0 nL Q nx lv (.int (x <<< (y &&& 31)) :: st) S I L Rf k n) : aG p l e R s m args below meth c E io0 S0 nL Q pc lv (.int y :: .int x :: st) S I L Rf k n := by
  subst hn
  intro io H locs ls h1 h2 h3 h4 h5 h6
  exact lv_ishl hx.1 hx.2.1 d (kk io H locs ls h1 h2 h3 (h4.tl.tl.i) h5 h6)

theorem g_ishr (hx : aCx p l s m args meth c own cc nL ret E) {x y : Int32} (d : decode cc pc = .ok (.ishr, 1)) (hn : pc + 1 = nx)  (kk : aG p l e R s m args below meth c E io0 S0 nL Q nx lv (.int (x >>> (y &&& 31)) :: st) S I L Rf k n) : aG p l e R s m args below meth c E io0 S0 nL Q pc lv (.int y :: .int x :: st) S I L Rf k n := by
  subst hn
  intro io H locs ls h1 h2 h3 h4 h5 h6
  exact lv_ishr hx.1 hx.2.1 d (kk io H locs ls h1 h2 h3 (h4.tl.tl.i) h5 h6)

theorem g_lshl (hx : aCx p l s m args meth c own cc nL ret E) {x : Int64} {y : Int32} (d : decode cc pc = .ok (.lshl, 1)) (hn : pc + 1 = nx)  (kk : aG p l e R s m args below meth c E io0 S0 nL Q nx lv (.long (x <<< (y.toInt64 &&& 63)) :: st) S I L Rf k n) : aG p l e R s m args below meth c E io0 S0 nL Q pc lv (.int y :: .long x :: st) S I L Rf k n := by
  subst hn
  intro io H locs ls h1 h2 h3 h4 h5 h6
  exact lv_lshl hx.1 hx.2.1 d rfl (kk io H locs ls h1 h2 h3 (h4.tl.tl.l) h5 h6)

theorem g_lshr (hx : aCx p l s m args meth c own cc nL ret E) {x : Int64} {y : Int32} (d : decode cc pc = .ok (.lshr, 1)) (hn : pc + 1 = nx)  (kk : aG p l e R s m args below meth c E io0 S0 nL Q nx lv (.long (x >>> (y.toInt64 &&& 63)) :: st) S I L Rf k n) : aG p l e R s m args below meth c E io0 S0 nL Q pc lv (.int y :: .long x :: st) S I L Rf k n := by
  subst hn
  intro io H locs ls h1 h2 h3 h4 h5 h6
  exact lv_lshr hx.1 hx.2.1 d rfl (kk io H locs ls h1 h2 h3 (h4.tl.tl.l) h5 h6)

theorem g_lushr (hx : aCx p l s m args meth c own cc nL ret E) {x : Int64} {y : Int32} (d : decode cc pc = .ok (.lushr, 1)) (hn : pc + 1 = nx)  (kk : aG p l e R s m args below meth c E io0 S0 nL Q nx lv (.long ((x.toUInt64 >>> (y.toInt64.toUInt64 &&& Int64.toUInt64 63)).toInt64) :: st) S I L Rf k n) : aG p l e R s m args below meth c E io0 S0 nL Q pc lv (.int y :: .long x :: st) S I L Rf k n := by
  subst hn
  intro io H locs ls h1 h2 h3 h4 h5 h6
  exact lv_lushr hx.1 hx.2.1 d rfl (kk io H locs ls h1 h2 h3 (h4.tl.tl.l) h5 h6)

theorem g_i2l (hx : aCx p l s m args meth c own cc nL ret E) {x : Int32} (d : decode cc pc = .ok (.i2l, 1)) (hn : pc + 1 = nx)  (kk : aG p l e R s m args below meth c E io0 S0 nL Q nx lv (.long x.toInt64 :: st) S I L Rf k n) : aG p l e R s m args below meth c E io0 S0 nL Q pc lv (.int x :: st) S I L Rf k n := by
  subst hn
  intro io H locs ls h1 h2 h3 h4 h5 h6
  exact lv_i2l hx.1 hx.2.1 d rfl (kk io H locs ls h1 h2 h3 (h4.tl.l) h5 h6)

theorem g_l2i (hx : aCx p l s m args meth c own cc nL ret E) {x : Int64} (d : decode cc pc = .ok (.l2i, 1)) (hn : pc + 1 = nx)  (kk : aG p l e R s m args below meth c E io0 S0 nL Q nx lv (.int x.toInt32 :: st) S I L Rf k n) : aG p l e R s m args below meth c E io0 S0 nL Q pc lv (.long x :: st) S I L Rf k n := by
  subst hn
  intro io H locs ls h1 h2 h3 h4 h5 h6
  exact lv_l2i hx.1 hx.2.1 d rfl (kk io H locs ls h1 h2 h3 (h4.tl.i) h5 h6)

theorem g_dup (hx : aCx p l s m args meth c own cc nL ret E) {v : Value} (d : decode cc pc = .ok (.dup, 1)) (hn : pc + 1 = nx) (hc : v.category = 1) (kk : aG p l e R s m args below meth c E io0 S0 nL Q nx lv (v :: v :: st) S I L Rf k n) : aG p l e R s m args below meth c E io0 S0 nL Q pc lv (v :: st) S I L Rf k n := by
  subst hn
  intro io H locs ls h1 h2 h3 h4 h5 h6
  exact lv_dup hx.1 hx.2.1 d ((arn_cat io v).trans hc) (kk io H locs ls h1 h2 h3 (h4.cons (h4 _ List.mem_cons_self)) h5 h6)

theorem g_dup2i (hx : aCx p l s m args meth c own cc nL ret E) {v w : Value} (d : decode cc pc = .ok (.dup2, 1)) (hn : pc + 1 = nx) (hc : v.category = 1) (hd : w.category = 1) (kk : aG p l e R s m args below meth c E io0 S0 nL Q nx lv (v :: w :: v :: w :: st) S I L Rf k n) : aG p l e R s m args below meth c E io0 S0 nL Q pc lv (v :: w :: st) S I L Rf k n := by
  subst hn
  intro io H locs ls h1 h2 h3 h4 h5 h6
  exact lv_dup2_11 hx.1 hx.2.1 d ((arn_cat io v).trans hc) ((arn_cat io w).trans hd) (kk io H locs ls h1 h2 h3 ((h4.cons (h4 _ (List.mem_cons_of_mem _ List.mem_cons_self))).cons (h4 _ List.mem_cons_self)) h5 h6)

theorem g_dup2l (hx : aCx p l s m args meth c own cc nL ret E) {v : Value} (d : decode cc pc = .ok (.dup2, 1)) (hn : pc + 1 = nx) (hc : v.category = 2) (kk : aG p l e R s m args below meth c E io0 S0 nL Q nx lv (v :: v :: st) S I L Rf k n) : aG p l e R s m args below meth c E io0 S0 nL Q pc lv (v :: st) S I L Rf k n := by
  subst hn
  intro io H locs ls h1 h2 h3 h4 h5 h6
  exact lv_dup2_2 hx.1 hx.2.1 d ((arn_cat io v).trans hc) (kk io H locs ls h1 h2 h3 (h4.cons (h4 _ List.mem_cons_self)) h5 h6)

theorem g_pop (hx : aCx p l s m args meth c own cc nL ret E) {v : Value} (d : decode cc pc = .ok (.pop, 1)) (hn : pc + 1 = nx) (hc : v.category = 1) (kk : aG p l e R s m args below meth c E io0 S0 nL Q nx lv (st) S I L Rf k n) : aG p l e R s m args below meth c E io0 S0 nL Q pc lv (v :: st) S I L Rf k n := by
  subst hn
  intro io H locs ls h1 h2 h3 h4 h5 h6
  exact lv_pop hx.1 hx.2.1 d ((arn_cat io v).trans hc) (kk io H locs ls h1 h2 h3 (h4.tl) h5 h6)

theorem g_lcmp (hx : aCx p l s m args meth c own cc nL ret E) {x y : Int64} (d : decode cc pc = .ok (.lcmp, 1)) (hn : pc + 1 = nx) (kk : aG p l e R s m args below meth c E io0 S0 nL Q nx lv (.int (lg_cmp x y) :: st) S I L Rf k n) : aG p l e R s m args below meth c E io0 S0 nL Q pc lv (.long y :: .long x :: st) S I L Rf k n := by
  subst hn
  intro io H locs ls h1 h2 h3 h4 h5 h6
  exact W.lcmp hx.1 hx.2.1 d (kk io H locs ls h1 h2 h3 h4.tl.tl.i h5 h6)

theorem g_if_eq (hx : aCx p l s m args meth c own cc nL ret E) {x : Int32} {off : Int} {tg : Nat} (d : decode cc pc = .ok (.ifCond .eq off, 3)) (ht : (pc : Int) + off = (tg : Int)) (hn : pc + 3 = nx) (kt : x = 0 → aG p l e R s m args below meth c E io0 S0 nL Q tg lv (st) S I L Rf k n) (kf : ¬ (x = 0) → aG p l e R s m args below meth c E io0 S0 nL Q nx lv (st) S I L Rf k n) : aG p l e R s m args below meth c E io0 S0 nL Q pc lv (.int x :: st) S I L Rf k n := by
  subst hn
  intro io H locs ls h1 h2 h3 h4 h5 h6
  exact lv_if_eq hx.1 hx.2.1 d ht (fun q => kt q io H locs ls h1 h2 h3 h4.tl h5 h6) (fun q => kf q io H locs ls h1 h2 h3 h4.tl h5 h6)

theorem g_if_ne (hx : aCx p l s m args meth c own cc nL ret E) {x : Int32} {off : Int} {tg : Nat} (d : decode cc pc = .ok (.ifCond .ne off, 3)) (ht : (pc : Int) + off = (tg : Int)) (hn : pc + 3 = nx) (kt : x ≠ 0 → aG p l e R s m args below meth c E io0 S0 nL Q tg lv (st) S I L Rf k n) (kf : x = 0 → aG p l e R s m args below meth c E io0 S0 nL Q nx lv (st) S I L Rf k n) : aG p l e R s m args below meth c E io0 S0 nL Q pc lv (.int x :: st) S I L Rf k n := by
  subst hn
  intro io H locs ls h1 h2 h3 h4 h5 h6
  exact lv_if_ne hx.1 hx.2.1 d ht (fun q => kt q io H locs ls h1 h2 h3 h4.tl h5 h6) (fun q => kf q io H locs ls h1 h2 h3 h4.tl h5 h6)

theorem g_if_lt (hx : aCx p l s m args meth c own cc nL ret E) {x : Int32} {off : Int} {tg : Nat} (d : decode cc pc = .ok (.ifCond .lt off, 3)) (ht : (pc : Int) + off = (tg : Int)) (hn : pc + 3 = nx) (kt : x < 0 → aG p l e R s m args below meth c E io0 S0 nL Q tg lv (st) S I L Rf k n) (kf : ¬ (x < 0) → aG p l e R s m args below meth c E io0 S0 nL Q nx lv (st) S I L Rf k n) : aG p l e R s m args below meth c E io0 S0 nL Q pc lv (.int x :: st) S I L Rf k n := by
  subst hn
  intro io H locs ls h1 h2 h3 h4 h5 h6
  exact lv_if_lt hx.1 hx.2.1 d ht (fun q => kt q io H locs ls h1 h2 h3 h4.tl h5 h6) (fun q => kf q io H locs ls h1 h2 h3 h4.tl h5 h6)

theorem g_if_ge (hx : aCx p l s m args meth c own cc nL ret E) {x : Int32} {off : Int} {tg : Nat} (d : decode cc pc = .ok (.ifCond .ge off, 3)) (ht : (pc : Int) + off = (tg : Int)) (hn : pc + 3 = nx) (kt : 0 ≤ x → aG p l e R s m args below meth c E io0 S0 nL Q tg lv (st) S I L Rf k n) (kf : ¬ (0 ≤ x) → aG p l e R s m args below meth c E io0 S0 nL Q nx lv (st) S I L Rf k n) : aG p l e R s m args below meth c E io0 S0 nL Q pc lv (.int x :: st) S I L Rf k n := by
  subst hn
  intro io H locs ls h1 h2 h3 h4 h5 h6
  exact lv_if_ge hx.1 hx.2.1 d ht (fun q => kt q io H locs ls h1 h2 h3 h4.tl h5 h6) (fun q => kf q io H locs ls h1 h2 h3 h4.tl h5 h6)

theorem g_if_gt (hx : aCx p l s m args meth c own cc nL ret E) {x : Int32} {off : Int} {tg : Nat} (d : decode cc pc = .ok (.ifCond .gt off, 3)) (ht : (pc : Int) + off = (tg : Int)) (hn : pc + 3 = nx) (kt : 0 < x → aG p l e R s m args below meth c E io0 S0 nL Q tg lv (st) S I L Rf k n) (kf : ¬ (0 < x) → aG p l e R s m args below meth c E io0 S0 nL Q nx lv (st) S I L Rf k n) : aG p l e R s m args below meth c E io0 S0 nL Q pc lv (.int x :: st) S I L Rf k n := by
  subst hn
  intro io H locs ls h1 h2 h3 h4 h5 h6
  exact lv_if_gt hx.1 hx.2.1 d ht (fun q => kt q io H locs ls h1 h2 h3 h4.tl h5 h6) (fun q => kf q io H locs ls h1 h2 h3 h4.tl h5 h6)

theorem g_if_le (hx : aCx p l s m args meth c own cc nL ret E) {x : Int32} {off : Int} {tg : Nat} (d : decode cc pc = .ok (.ifCond .le off, 3)) (ht : (pc : Int) + off = (tg : Int)) (hn : pc + 3 = nx) (kt : x ≤ 0 → aG p l e R s m args below meth c E io0 S0 nL Q tg lv (st) S I L Rf k n) (kf : ¬ (x ≤ 0) → aG p l e R s m args below meth c E io0 S0 nL Q nx lv (st) S I L Rf k n) : aG p l e R s m args below meth c E io0 S0 nL Q pc lv (.int x :: st) S I L Rf k n := by
  subst hn
  intro io H locs ls h1 h2 h3 h4 h5 h6
  exact lv_if_le hx.1 hx.2.1 d ht (fun q => kt q io H locs ls h1 h2 h3 h4.tl h5 h6) (fun q => kf q io H locs ls h1 h2 h3 h4.tl h5 h6)

theorem g_icmp_eq (hx : aCx p l s m args meth c own cc nL ret E) {x y : Int32} {off : Int} {tg : Nat} (d : decode cc pc = .ok (.if_icmp .eq off, 3)) (ht : (pc : Int) + off = (tg : Int)) (hn : pc + 3 = nx) (kt : x = y → aG p l e R s m args below meth c E io0 S0 nL Q tg lv (st) S I L Rf k n) (kf : ¬ (x = y) → aG p l e R s m args below meth c E io0 S0 nL Q nx lv (st) S I L Rf k n) : aG p l e R s m args below meth c E io0 S0 nL Q pc lv (.int y :: .int x :: st) S I L Rf k n := by
  subst hn
  intro io H locs ls h1 h2 h3 h4 h5 h6
  exact lv_icmp_eq hx.1 hx.2.1 d ht (fun q => kt q io H locs ls h1 h2 h3 h4.tl.tl h5 h6) (fun q => kf q io H locs ls h1 h2 h3 h4.tl.tl h5 h6)

theorem g_icmp_ne (hx : aCx p l s m args meth c own cc nL ret E) {x y : Int32} {off : Int} {tg : Nat} (d : decode cc pc = .ok (.if_icmp .ne off, 3)) (ht : (pc : Int) + off = (tg : Int)) (hn : pc + 3 = nx) (kt : x ≠ y → aG p l e R s m args below meth c E io0 S0 nL Q tg lv (st) S I L Rf k n) (kf : x = y → aG p l e R s m args below meth c E io0 S0 nL Q nx lv (st) S I L Rf k n) : aG p l e R s m args below meth c E io0 S0 nL Q pc lv (.int y :: .int x :: st) S I L Rf k n := by
  subst hn
  intro io H locs ls h1 h2 h3 h4 h5 h6
  exact lv_icmp_ne hx.1 hx.2.1 d ht (fun q => kt q io H locs ls h1 h2 h3 h4.tl.tl h5 h6) (fun q => kf q io H locs ls h1 h2 h3 h4.tl.tl h5 h6)

theorem g_icmp_lt (hx : aCx p l s m args meth c own cc nL ret E) {x y : Int32} {off : Int} {tg : Nat} (d : decode cc pc = .ok (.if_icmp .lt off, 3)) (ht : (pc : Int) + off = (tg : Int)) (hn : pc + 3 = nx) (kt : x < y → aG p l e R s m args below meth c E io0 S0 nL Q tg lv (st) S I L Rf k n) (kf : ¬ (x < y) → aG p l e R s m args below meth c E io0 S0 nL Q nx lv (st) S I L Rf k n) : aG p l e R s m args below meth c E io0 S0 nL Q pc lv (.int y :: .int x :: st) S I L Rf k n := by
  subst hn
  intro io H locs ls h1 h2 h3 h4 h5 h6
  exact lv_icmp_lt hx.1 hx.2.1 d ht (fun q => kt q io H locs ls h1 h2 h3 h4.tl.tl h5 h6) (fun q => kf q io H locs ls h1 h2 h3 h4.tl.tl h5 h6)

theorem g_icmp_ge (hx : aCx p l s m args meth c own cc nL ret E) {x y : Int32} {off : Int} {tg : Nat} (d : decode cc pc = .ok (.if_icmp .ge off, 3)) (ht : (pc : Int) + off = (tg : Int)) (hn : pc + 3 = nx) (kt : y ≤ x → aG p l e R s m args below meth c E io0 S0 nL Q tg lv (st) S I L Rf k n) (kf : ¬ (y ≤ x) → aG p l e R s m args below meth c E io0 S0 nL Q nx lv (st) S I L Rf k n) : aG p l e R s m args below meth c E io0 S0 nL Q pc lv (.int y :: .int x :: st) S I L Rf k n := by
  subst hn
  intro io H locs ls h1 h2 h3 h4 h5 h6
  exact lv_icmp_ge hx.1 hx.2.1 d ht (fun q => kt q io H locs ls h1 h2 h3 h4.tl.tl h5 h6) (fun q => kf q io H locs ls h1 h2 h3 h4.tl.tl h5 h6)

theorem g_icmp_gt (hx : aCx p l s m args meth c own cc nL ret E) {x y : Int32} {off : Int} {tg : Nat} (d : decode cc pc = .ok (.if_icmp .gt off, 3)) (ht : (pc : Int) + off = (tg : Int)) (hn : pc + 3 = nx) (kt : y < x → aG p l e R s m args below meth c E io0 S0 nL Q tg lv (st) S I L Rf k n) (kf : ¬ (y < x) → aG p l e R s m args below meth c E io0 S0 nL Q nx lv (st) S I L Rf k n) : aG p l e R s m args below meth c E io0 S0 nL Q pc lv (.int y :: .int x :: st) S I L Rf k n := by
  subst hn
  intro io H locs ls h1 h2 h3 h4 h5 h6
  exact lv_icmp_gt hx.1 hx.2.1 d ht (fun q => kt q io H locs ls h1 h2 h3 h4.tl.tl h5 h6) (fun q => kf q io H locs ls h1 h2 h3 h4.tl.tl h5 h6)

theorem g_icmp_le (hx : aCx p l s m args meth c own cc nL ret E) {x y : Int32} {off : Int} {tg : Nat} (d : decode cc pc = .ok (.if_icmp .le off, 3)) (ht : (pc : Int) + off = (tg : Int)) (hn : pc + 3 = nx) (kt : x ≤ y → aG p l e R s m args below meth c E io0 S0 nL Q tg lv (st) S I L Rf k n) (kf : ¬ (x ≤ y) → aG p l e R s m args below meth c E io0 S0 nL Q nx lv (st) S I L Rf k n) : aG p l e R s m args below meth c E io0 S0 nL Q pc lv (.int y :: .int x :: st) S I L Rf k n := by
  subst hn
  intro io H locs ls h1 h2 h3 h4 h5 h6
  exact lv_icmp_le hx.1 hx.2.1 d ht (fun q => kt q io H locs ls h1 h2 h3 h4.tl.tl h5 h6) (fun q => kf q io H locs ls h1 h2 h3 h4.tl.tl h5 h6)

theorem g_goto (hx : aCx p l s m args meth c own cc nL ret E) {off : Int} {tg : Nat} (d : decode cc pc = .ok (.goto off, 3)) (ht : (pc : Int) + off = (tg : Int)) (kk : aG p l e R s m args below meth c E io0 S0 nL Q tg lv (st) S I L Rf k n) : aG p l e R s m args below meth c E io0 S0 nL Q pc lv (st) S I L Rf k n := by
  intro io H locs ls h1 h2 h3 h4 h5 h6
  exact lv_goto hx.1 hx.2.1 d ht (kk io H locs ls h1 h2 h3 h4 h5 h6)
theorem g_ifnull (hx : aCx p l s m args meth c own cc nL ret E) {v : Value} {off : Int} {tg : Nat} (d : decode cc pc = .ok (.ifnull off, 3)) (ht : (pc : Int) + off = (tg : Int)) (hn : pc + 3 = nx) (kt : v = .null → aG p l e R s m args below meth c E io0 S0 nL Q tg lv (st) S I L Rf k n) (kf : ∀ q, v = .ref q → aG p l e R s m args below meth c E io0 S0 nL Q nx lv (st) S I L Rf k n) (hv : v = .null ∨ ∃ q, v = .ref q) : aG p l e R s m args below meth c E io0 S0 nL Q pc lv (v :: st) S I L Rf k n := by
  subst hn
  intro io H locs ls h1 h2 h3 h4 h5 h6
  rcases hv with rfl | ⟨q, rfl⟩
  · exact lv_ifnullN hx.1 hx.2.1 d ht (kt rfl io H locs ls h1 h2 h3 h4.tl h5 h6)
  · exact lv_ifnull hx.1 hx.2.1 d (kf q rfl io H locs ls h1 h2 h3 h4.tl h5 h6)
theorem g_ifnonnull (hx : aCx p l s m args meth c own cc nL ret E) {v : Value} {off : Int} {tg : Nat} (d : decode cc pc = .ok (.ifnonnull off, 3)) (ht : (pc : Int) + off = (tg : Int)) (hn : pc + 3 = nx) (kt : ∀ q, v = .ref q → aG p l e R s m args below meth c E io0 S0 nL Q tg lv (st) S I L Rf k n) (kf : v = .null → aG p l e R s m args below meth c E io0 S0 nL Q nx lv (st) S I L Rf k n) (hv : v = .null ∨ ∃ q, v = .ref q) : aG p l e R s m args below meth c E io0 S0 nL Q pc lv (v :: st) S I L Rf k n := by
  subst hn
  intro io H locs ls h1 h2 h3 h4 h5 h6
  rcases hv with rfl | ⟨q, rfl⟩
  · exact lv_ifnonnullN hx.1 hx.2.1 d (kf rfl io H locs ls h1 h2 h3 h4.tl h5 h6)
  · exact lv_ifnonnull hx.1 hx.2.1 d ht (kt q rfl io H locs ls h1 h2 h3 h4.tl h5 h6)
theorem g_tabOut (hx : aCx p l s m args meth c own cc nL ret E) {dflt lo hi : Int} {offs : Array Int} {len : Nat} {x : Int32} {tg : Nat} (d : decode cc pc = .ok (.tableswitch dflt lo hi offs, len)) (h : x.toInt < lo ∨ hi < x.toInt) (ht : (pc : Int) + dflt = (tg : Int)) (kk : aG p l e R s m args below meth c E io0 S0 nL Q tg lv (st) S I L Rf k n) : aG p l e R s m args below meth c E io0 S0 nL Q pc lv (.int x :: st) S I L Rf k n := by
  intro io H locs ls h1 h2 h3 h4 h5 h6
  exact lv_tableOut hx.1 hx.2.1 d h ht (kk io H locs ls h1 h2 h3 h4.tl h5 h6)
theorem g_tabIn (hx : aCx p l s m args meth c own cc nL ret E) {dflt lo hi : Int} {offs : Array Int} {len : Nat} {x : Int32} {off : Int} {tg : Nat} (d : decode cc pc = .ok (.tableswitch dflt lo hi offs, len)) (ha : ¬ x.toInt < lo) (hb : ¬ hi < x.toInt) (ho : offs[(x.toInt - lo).toNat]? = some off) (ht : (pc : Int) + off = (tg : Int)) (kk : aG p l e R s m args below meth c E io0 S0 nL Q tg lv (st) S I L Rf k n) : aG p l e R s m args below meth c E io0 S0 nL Q pc lv (.int x :: st) S I L Rf k n := by
  intro io H locs ls h1 h2 h3 h4 h5 h6
  exact lv_tableIn hx.1 hx.2.1 d ha hb ho ht (kk io H locs ls h1 h2 h3 h4.tl h5 h6)

theorem g_iloadG_n (hx : aCx p l s m args meth c own cc nL ret E) {j : Fin 4} {i : Nat} {x : Int32} (d : decode cc pc = .ok (.iload_n j, 1)) (hj : (j : Nat) = i) (hn : pc + 1 = nx) (hi : lv[i]? = some (.int x)) (kk : aG p l e R s m args below meth c E io0 S0 nL Q nx lv (.int x :: st) S I L Rf k n) : aG p l e R s m args below meth c E io0 S0 nL Q pc lv (st) S I L Rf k n := by
  subst hn
  intro io H locs ls h1 h2 h3 h4 h5 h6
  exact lv_iload_n hx.1 hx.2.1 d hj (h6.2.2 _ _ hi rfl) (kk io H locs ls h1 h2 h3 h4.i h5 h6)

theorem g_iloadG (hx : aCx p l s m args meth c own cc nL ret E) {i : Nat} {x : Int32} (d : decode cc pc = .ok (.iload i, 2)) (hn : pc + 2 = nx) (hi : lv[i]? = some (.int x)) (kk : aG p l e R s m args below meth c E io0 S0 nL Q nx lv (.int x :: st) S I L Rf k n) : aG p l e R s m args below meth c E io0 S0 nL Q pc lv (st) S I L Rf k n := by
  subst hn
  intro io H locs ls h1 h2 h3 h4 h5 h6
  exact lv_iload hx.1 hx.2.1 d (h6.2.2 _ _ hi rfl) (kk io H locs ls h1 h2 h3 h4.i h5 h6)

theorem g_lloadG_n (hx : aCx p l s m args meth c own cc nL ret E) {j : Fin 4} {i : Nat} {x : Int64} (d : decode cc pc = .ok (.lload_n j, 1)) (hj : (j : Nat) = i) (hn : pc + 1 = nx) (hi : lv[i]? = some (.long x)) (kk : aG p l e R s m args below meth c E io0 S0 nL Q nx lv (.long x :: st) S I L Rf k n) : aG p l e R s m args below meth c E io0 S0 nL Q pc lv (st) S I L Rf k n := by
  subst hn
  intro io H locs ls h1 h2 h3 h4 h5 h6
  exact lv_lload_n hx.1 hx.2.1 d hj (h6.2.2 _ _ hi rfl) (kk io H locs ls h1 h2 h3 h4.l h5 h6)

theorem g_lloadG (hx : aCx p l s m args meth c own cc nL ret E) {i : Nat} {x : Int64} (d : decode cc pc = .ok (.lload i, 2)) (hn : pc + 2 = nx) (hi : lv[i]? = some (.long x)) (kk : aG p l e R s m args below meth c E io0 S0 nL Q nx lv (.long x :: st) S I L Rf k n) : aG p l e R s m args below meth c E io0 S0 nL Q pc lv (st) S I L Rf k n := by
  subst hn
  intro io H locs ls h1 h2 h3 h4 h5 h6
  exact lv_lload hx.1 hx.2.1 d (h6.2.2 _ _ hi rfl) (kk io H locs ls h1 h2 h3 h4.l h5 h6)

theorem g_aloadG_n (hx : aCx p l s m args meth c own cc nL ret E) {j : Fin 4} {i : Nat} {x : Nat} (d : decode cc pc = .ok (.aload_n j, 1)) (hj : (j : Nat) = i) (hn : pc + 1 = nx) (hi : lv[i]? = some (.ref x)) (kk : aG p l e R s m args below meth c E io0 S0 nL Q nx lv (.ref x :: st) S I L Rf k n) : aG p l e R s m args below meth c E io0 S0 nL Q pc lv (st) S I L Rf k n := by
  subst hn
  intro io H locs ls h1 h2 h3 h4 h5 h6
  exact lv_aload_n hx.1 hx.2.1 d hj (h6.2.2 _ _ hi rfl) (kk io H locs ls h1 h2 h3 (h4.r (h3 _ (List.mem_of_getElem? hi) x rfl)) h5 h6)

theorem g_aloadG (hx : aCx p l s m args meth c own cc nL ret E) {i : Nat} {x : Nat} (d : decode cc pc = .ok (.aload i, 2)) (hn : pc + 2 = nx) (hi : lv[i]? = some (.ref x)) (kk : aG p l e R s m args below meth c E io0 S0 nL Q nx lv (.ref x :: st) S I L Rf k n) : aG p l e R s m args below meth c E io0 S0 nL Q pc lv (st) S I L Rf k n := by
  subst hn
  intro io H locs ls h1 h2 h3 h4 h5 h6
  exact lv_aload hx.1 hx.2.1 d (h6.2.2 _ _ hi rfl) (kk io H locs ls h1 h2 h3 (h4.r (h3 _ (List.mem_of_getElem? hi) x rfl)) h5 h6)

theorem g_istoreG_n (hx : aCx p l s m args meth c own cc nL ret E) {j : Fin 4} {i : Nat} {x : Int32} {lv' : List Value} (d : decode cc pc = .ok (.istore_n j, 1)) (hj : (j : Nat) = i) (hn : pc + 1 = nx) (hb : i < nL) (hs : aStv i (.int x) lv lv') (kk : aG p l e R s m args below meth c E io0 S0 nL Q nx lv' (st) S I L Rf k n) : aG p l e R s m args below meth c E io0 S0 nL Q pc lv (.int x :: st) S I L Rf k n := by
  subst hn
  intro io H locs ls h1 h2 h3 h4 h5 h6
  refine lv_istore_n hx.1 hx.2.1 d hj (aAll_has h6.1 h6.2.1) hb rfl fun ls' h => kk io H locs ls' h1 h2 (fun v hv q e => ?_) h4.tl h5 (h6.st1 (v := .int x) rfl hs h)
  obtain ⟨j, hj⟩ := List.getElem?_of_mem hv
  rcases hs j v hj (by rw [e]; rfl) with ⟨-, e2⟩ | ⟨-, h9, -⟩
  · exact h4 _ List.mem_cons_self q (e2.symm.trans e)
  · exact h3 v (List.mem_of_getElem? h9) q e

theorem g_istoreG (hx : aCx p l s m args meth c own cc nL ret E) {i : Nat} {x : Int32} {lv' : List Value} (d : decode cc pc = .ok (.istore i, 2)) (hn : pc + 2 = nx) (hb : i < nL) (hs : aStv i (.int x) lv lv') (kk : aG p l e R s m args below meth c E io0 S0 nL Q nx lv' (st) S I L Rf k n) : aG p l e R s m args below meth c E io0 S0 nL Q pc lv (.int x :: st) S I L Rf k n := by
  subst hn
  intro io H locs ls h1 h2 h3 h4 h5 h6
  refine lv_istore hx.1 hx.2.1 d (aAll_has h6.1 h6.2.1) hb rfl fun ls' h => kk io H locs ls' h1 h2 (fun v hv q e => ?_) h4.tl h5 (h6.st1 (v := .int x) rfl hs h)
  obtain ⟨j, hj⟩ := List.getElem?_of_mem hv
  rcases hs j v hj (by rw [e]; rfl) with ⟨-, e2⟩ | ⟨-, h9, -⟩
  · exact h4 _ List.mem_cons_self q (e2.symm.trans e)
  · exact h3 v (List.mem_of_getElem? h9) q e

theorem g_lstoreG_n (hx : aCx p l s m args meth c own cc nL ret E) {j : Fin 4} {i : Nat} {x : Int64} {lv' : List Value} (d : decode cc pc = .ok (.lstore_n j, 1)) (hj : (j : Nat) = i) (hn : pc + 1 = nx) (hb : i + 1 < nL) (hs : aStv i (.long x) lv lv') (kk : aG p l e R s m args below meth c E io0 S0 nL Q nx lv' (st) S I L Rf k n) : aG p l e R s m args below meth c E io0 S0 nL Q pc lv (.long x :: st) S I L Rf k n := by
  subst hn
  intro io H locs ls h1 h2 h3 h4 h5 h6
  refine lv_lstore_n hx.1 hx.2.1 d hj (aAll_has h6.1 h6.2.1) hb rfl fun ls' h => kk io H locs ls' h1 h2 (fun v hv q e => ?_) h4.tl h5 (h6.st2 (v := .long x) rfl hs h)
  obtain ⟨j, hj⟩ := List.getElem?_of_mem hv
  rcases hs j v hj (by rw [e]; rfl) with ⟨-, e2⟩ | ⟨-, h9, -⟩
  · exact h4 _ List.mem_cons_self q (e2.symm.trans e)
  · exact h3 v (List.mem_of_getElem? h9) q e

theorem g_lstoreG (hx : aCx p l s m args meth c own cc nL ret E) {i : Nat} {x : Int64} {lv' : List Value} (d : decode cc pc = .ok (.lstore i, 2)) (hn : pc + 2 = nx) (hb : i + 1 < nL) (hs : aStv i (.long x) lv lv') (kk : aG p l e R s m args below meth c E io0 S0 nL Q nx lv' (st) S I L Rf k n) : aG p l e R s m args below meth c E io0 S0 nL Q pc lv (.long x :: st) S I L Rf k n := by
  subst hn
  intro io H locs ls h1 h2 h3 h4 h5 h6
  refine lv_lstore hx.1 hx.2.1 d (aAll_has h6.1 h6.2.1) hb rfl fun ls' h => kk io H locs ls' h1 h2 (fun v hv q e => ?_) h4.tl h5 (h6.st2 (v := .long x) rfl hs h)
  obtain ⟨j, hj⟩ := List.getElem?_of_mem hv
  rcases hs j v hj (by rw [e]; rfl) with ⟨-, e2⟩ | ⟨-, h9, -⟩
  · exact h4 _ List.mem_cons_self q (e2.symm.trans e)
  · exact h3 v (List.mem_of_getElem? h9) q e

theorem g_astoreG_n (hx : aCx p l s m args meth c own cc nL ret E) {j : Fin 4} {i : Nat} {x : Nat} {lv' : List Value} (d : decode cc pc = .ok (.astore_n j, 1)) (hj : (j : Nat) = i) (hn : pc + 1 = nx) (hb : i < nL) (hs : aStv i (.ref x) lv lv') (kk : aG p l e R s m args below meth c E io0 S0 nL Q nx lv' (st) S I L Rf k n) : aG p l e R s m args below meth c E io0 S0 nL Q pc lv (.ref x :: st) S I L Rf k n := by
  subst hn
  intro io H locs ls h1 h2 h3 h4 h5 h6
  refine lv_astore_n hx.1 hx.2.1 d hj (aAll_has h6.1 h6.2.1) hb rfl fun ls' h => kk io H locs ls' h1 h2 (fun v hv q e => ?_) h4.tl h5 (h6.st1 (v := .ref x) rfl hs h)
  obtain ⟨j, hj⟩ := List.getElem?_of_mem hv
  rcases hs j v hj (by rw [e]; rfl) with ⟨-, e2⟩ | ⟨-, h9, -⟩
  · exact h4 _ List.mem_cons_self q (e2.symm.trans e)
  · exact h3 v (List.mem_of_getElem? h9) q e

theorem g_astoreG (hx : aCx p l s m args meth c own cc nL ret E) {i : Nat} {x : Nat} {lv' : List Value} (d : decode cc pc = .ok (.astore i, 2)) (hn : pc + 2 = nx) (hb : i < nL) (hs : aStv i (.ref x) lv lv') (kk : aG p l e R s m args below meth c E io0 S0 nL Q nx lv' (st) S I L Rf k n) : aG p l e R s m args below meth c E io0 S0 nL Q pc lv (.ref x :: st) S I L Rf k n := by
  subst hn
  intro io H locs ls h1 h2 h3 h4 h5 h6
  refine lv_astore hx.1 hx.2.1 d (aAll_has h6.1 h6.2.1) hb rfl fun ls' h => kk io H locs ls' h1 h2 (fun v hv q e => ?_) h4.tl h5 (h6.st1 (v := .ref x) rfl hs h)
  obtain ⟨j, hj⟩ := List.getElem?_of_mem hv
  rcases hs j v hj (by rw [e]; rfl) with ⟨-, e2⟩ | ⟨-, h9, -⟩
  · exact h4 _ List.mem_cons_self q (e2.symm.trans e)
  · exact h3 v (List.mem_of_getElem? h9) q e

theorem g_iincG (hx : aCx p l s m args meth c own cc nL ret E) {i : Nat} {z : Int} {x v : Int32} {lv' : List Value} (d : decode cc pc = .ok (.iinc i z, 3)) (hn : pc + 3 = nx) (hb : i < nL) (hi : lv[i]? = some (.int x)) (hv : x + Int32.ofInt z = v) (hs : aStv i (.int v) lv lv') (kk : aG p l e R s m args below meth c E io0 S0 nL Q nx lv' (st) S I L Rf k n) : aG p l e R s m args below meth c E io0 S0 nL Q pc lv (st) S I L Rf k n := by
  subst hn
  intro io H locs ls h1 h2 h3 h4 h5 h6
  obtain ⟨j, hj⟩ := List.getElem?_of_mem (aAll_mem (h6.2.2 _ _ hi rfl))
  refine lv_iinc hx.1 hx.2.1 d (aAll_has h6.1 h6.2.1) hj hv hb rfl fun ls' h => kk io H locs ls' h1 h2 (fun w hw q e => ?_) h4 h5 (h6.st1 (v := .int v) rfl hs h)
  obtain ⟨j, hj⟩ := List.getElem?_of_mem hw
  rcases hs j w hj (by rw [e]; rfl) with ⟨-, e2⟩ | ⟨-, h9, -⟩
  · rw [e2] at e; cases e
  · exact h3 w (List.mem_of_getElem? h9) q e

theorem g_iincGW (hx : aCx p l s m args meth c own cc nL ret E) {i : Nat} {z : Int} {x v : Int32} {lv' : List Value} (d : decode cc pc = .ok (.iinc i z, 6)) (hn : pc + 6 = nx) (hb : i < nL) (hi : lv[i]? = some (.int x)) (hv : x + Int32.ofInt z = v) (hs : aStv i (.int v) lv lv') (kk : aG p l e R s m args below meth c E io0 S0 nL Q nx lv' (st) S I L Rf k n) : aG p l e R s m args below meth c E io0 S0 nL Q pc lv (st) S I L Rf k n := by
  subst hn
  intro io H locs ls h1 h2 h3 h4 h5 h6
  obtain ⟨j, hj⟩ := List.getElem?_of_mem (aAll_mem (h6.2.2 _ _ hi rfl))
  refine lv_iincW hx.1 hx.2.1 d (aAll_has h6.1 h6.2.1) hj hv hb rfl fun ls' h => kk io H locs ls' h1 h2 (fun w hw q e => ?_) h4 h5 (h6.st1 (v := .int v) rfl hs h)
  obtain ⟨j, hj⟩ := List.getElem?_of_mem hw
  rcases hs j w hj (by rw [e]; rfl) with ⟨-, e2⟩ | ⟨-, h9, -⟩
  · rw [e2] at e; cases e
  · exact h3 w (List.mem_of_getElem? h9) q e

end AG
end
section
/-! writing one slot -/
theorem asv_i {io : aM} {ty : FieldType} {I : aI} {L : aL} {R : aR} {q k : Nat} (h : (match ty with | .long => false | .object _ => false | .array _ => false | _ => true) = true) : asv io ty I L R q k = .int (I q k) := by
  cases ty <;> first | rfl | cases h
theorem asv_l {io : aM} {ty : FieldType} {I : aI} {L : aL} {R : aR} {q k : Nat} (h : ty = .long) : asv io ty I L R q k = .long (L q k) := by rw [h]; rfl
abbrev aKI (ty : FieldType) : Prop := (match ty with | .long => false | .object _ => false | .array _ => false | _ => true) = true
abbrev aKR (ty : FieldType) : Prop := (match ty with | .object _ => true | .array _ => true | _ => false) = true
theorem asv_r {io : aM} {ty : FieldType} {I : aI} {L : aL} {R : aR} {q k : Nat} (h : aKR ty) : asv io ty I L R q k = arv io (R q k) := by
  cases ty <;> first | rfl | cases h
theorem aHR.puti {E : aE} {io : aM} {S : aS} {I : aI} {L : aL} {R : aR} {H H1 : Heap} {q k : Nat} {x : (FieldType × Nat) ⊕ Nat} {v : Int32} (h : aHR E io S I L R H) (hq : S q = some x) (hc : aCell E io (au2 I q k v) L R x q H1) (ho : ∀ a, a ≠ io q → H1[a]? = H[a]?) : aHR E io S (au2 I q k v) L R H1 := by
  obtain ⟨h1, h2, h3, h4, h5⟩ := h
  refine ⟨fun r y hr h2' => ?_, h2, h3, h4, h5⟩
  by_cases e : r = q
  · subst e; cases hq.symm.trans hr; exact hc
  · exact ((h1 r y hr h2').kept (ho _ (fun z => e (h2 r q (by rw [hr]; simp) (by rw [hq]; simp) z)))).congr rfl (fun j => (au2_n (fun z => e z.1)).symm) (fun _ => rfl) (fun _ => rfl) (fun _ _ _ => rfl)
theorem aHR.putl {E : aE} {io : aM} {S : aS} {I : aI} {L : aL} {R : aR} {H H1 : Heap} {q k : Nat} {x : (FieldType × Nat) ⊕ Nat} {v : Int64} (h : aHR E io S I L R H) (hq : S q = some x) (hc : aCell E io I (au2 L q k v) R x q H1) (ho : ∀ a, a ≠ io q → H1[a]? = H[a]?) : aHR E io S I (au2 L q k v) R H1 := by
  obtain ⟨h1, h2, h3, h4, h5⟩ := h
  refine ⟨fun r y hr h2' => ?_, h2, h3, h4, h5⟩
  by_cases e : r = q
  · subst e; cases hq.symm.trans hr; exact hc
  · exact ((h1 r y hr h2').kept (ho _ (fun z => e (h2 r q (by rw [hr]; simp) (by rw [hq]; simp) z)))).congr rfl (fun _ => rfl) (fun j => (au2_n (fun z => e z.1)).symm) (fun _ => rfl) (fun _ _ _ => rfl)
theorem aHR.putr {E : aE} {io : aM} {S : aS} {I : aI} {L : aL} {R : aR} {H H1 : Heap} {q k : Nat} {x : (FieldType × Nat) ⊕ Nat} {v : Option Nat} (h : aHR E io S I L R H) (hq : S q = some x) (hc : aCell E io I L (au2 R q k v) x q H1) (ho : ∀ a, a ≠ io q → H1[a]? = H[a]?) (hv : ∀ r, v = some r → S r ≠ none) : aHR E io S I L (au2 R q k v) H1 := by
  obtain ⟨h1, h2, h3, h4, h5⟩ := h
  refine ⟨fun r y hr h2' => ?_, h2, h3, fun a b r hs hr => ?_, h5⟩
  · by_cases e : r = q
    · subst e; cases hq.symm.trans hr; exact hc
    · exact ((h1 r y hr h2').kept (ho _ (fun z => e (h2 r q (by rw [hr]; simp) (by rw [hq]; simp) z)))).congr rfl (fun _ => rfl) (fun _ => rfl) (fun j => (au2_n (fun z => e z.1)).symm) (fun _ _ _ => rfl)
  · by_cases e : a = q ∧ b = k
    · obtain ⟨rfl, rfl⟩ := e
      rw [au2_s] at hr
      exact hv r hr
    · rw [au2_n e] at hr
      exact h4 a b r hs hr
/-- own fields, nest mates' fields -/
def aFo (own : String) (idx ci k : Nat) : Prop := ∃ r : vw_C, aCl[ci]? = some r ∧ k < r.2.2 ∧ Cond.fieldLink own idx (r.2.1 k).1 (r.2.1 k).2.1 (r.2.1 k).2.2.1 ∈ aBIG
def aFn (own : String) (idx ci k : Nat) : Prop := ∃ (r : vw_C) (host : String), aCl[ci]? = some r ∧ k < r.2.2 ∧ Cond.fieldLinkNest own idx (r.2.1 k).1 (r.2.1 k).2.1 (r.2.1 k).2.2.1 host ∈ lw_tbl
section AH
variable {p : Program} {l : Launch} {e : Env} {R : Room} {s : State} {m : MethodId} {args : Array Value} {below : List Frame} {meth : Method} {c : Code} {E : aE} {io0 : aM} {S0 : aS} {nL : Nat} {Q : State → Prop}
variable {own : String} {cc : ByteArray} {ret : Option FieldType} {pc nx : Nat} {lv st : List Value} {S : aS} {I : aI} {L : aL} {Rf : aR} {k n : Nat}
theorem aCx.K (hx : aCx p l s m args meth c own cc nL ret E) : va_K E.1 aCl (aTys E) s := hx.2.2.2.2.2.2.1.1
theorem aCx.W (hx : aCx p l s m args meth c own cc nL ret E) {w : Cond} (h : w ∈ aBIG) : w.before args s = true := hx.2.2.2.2.1 w h
theorem aCx.N (hx : aCx p l s m args meth c own cc nL ret E) {w : Cond} (h : w ∈ lw_tbl) (h2 : aNk w = true) : w.before args s = true := (hx.2.2.2.2.2.2.1.2.1 w h h2).use (aNk_ot h2)
theorem aCx.arr (hx : aCx p l s m args meth c own cc nL ret E) {ty : FieldType} (ht : ∃ i : Nat, (aTys E)[i]? = some (E.2.1 ty, ty)) : ArrOfT s (E.2.1 ty) ty ∧ va_RA s (E.2.1 ty) ty := by
  obtain ⟨i, hi⟩ := ht
  exact hx.K.2 i _ hi

theorem g_getfo_i (hx : aCx p l s m args meth c own cc nL ret E) {idx ci j q : Nat} (d : decode cc pc = .ok (.getfield idx, 3)) (hn : pc + 3 = nx) (fa : aFo own idx ci j) (ht : aKI (atyT ci j)) (hq : S q = some (.inr ci)) (h9 : q ≠ 2) (kk : aG p l e R s m args below meth c E io0 S0 nL Q nx lv (.int (I q j) :: st) S (I) (L) (Rf) k n) : aG p l e R s m args below meth c E io0 S0 nL Q pc lv (.ref q :: st) S (I) (L) (Rf) k n := by
  subst hn
  intro io H locs ls h1 h2 h3 h4 h5 h6
  obtain ⟨r, hc, hk, hw⟩ := fa
  obtain ⟨r', hc', cell, q1, q2, q3, q4⟩ := h1.1 q _ hq h9
  cases hc.symm.trans hc'
  obtain ⟨hS, hfc, kC, hkC, hkind⟩ := hx.K.1 ci _ hc
  obtain ⟨cf, kf, fi, f, hi, hsl⟩ := hS j hk
  refine W.getf hx.1 hx.2.1 hx.2.2.2.1 (hx.W hw) hi (u_facts hfc hkC (u_lays hx.2.2.2.2.1 (abig_u ci r hc) hk) hi).1 q1 (by rw [q3]; exact fun h => by cases h) (v := .int (I q j)) (by rw [hsl, q4 j hk]; exact congrArg some (asv_i ht)) rfl rfl d (kk io H locs ls h1 h2 h3 (h4.tl.i) h5 h6)

theorem g_getfo_l (hx : aCx p l s m args meth c own cc nL ret E) {idx ci j q : Nat} (d : decode cc pc = .ok (.getfield idx, 3)) (hn : pc + 3 = nx) (fa : aFo own idx ci j) (ht : atyT ci j = .long) (hq : S q = some (.inr ci)) (h9 : q ≠ 2) (kk : aG p l e R s m args below meth c E io0 S0 nL Q nx lv (.long (L q j) :: st) S (I) (L) (Rf) k n) : aG p l e R s m args below meth c E io0 S0 nL Q pc lv (.ref q :: st) S (I) (L) (Rf) k n := by
  subst hn
  intro io H locs ls h1 h2 h3 h4 h5 h6
  obtain ⟨r, hc, hk, hw⟩ := fa
  obtain ⟨r', hc', cell, q1, q2, q3, q4⟩ := h1.1 q _ hq h9
  cases hc.symm.trans hc'
  obtain ⟨hS, hfc, kC, hkC, hkind⟩ := hx.K.1 ci _ hc
  obtain ⟨cf, kf, fi, f, hi, hsl⟩ := hS j hk
  refine W.getf hx.1 hx.2.1 hx.2.2.2.1 (hx.W hw) hi (u_facts hfc hkC (u_lays hx.2.2.2.2.1 (abig_u ci r hc) hk) hi).1 q1 (by rw [q3]; exact fun h => by cases h) (v := .long (L q j)) (by rw [hsl, q4 j hk]; exact congrArg some (asv_l ht)) rfl rfl d (kk io H locs ls h1 h2 h3 (h4.tl.l) h5 h6)

theorem g_getfo_R (hx : aCx p l s m args meth c own cc nL ret E) {idx ci j q : Nat} {r9 : Nat} (d : decode cc pc = .ok (.getfield idx, 3)) (hn : pc + 3 = nx) (fa : aFo own idx ci j) (ht : aKR (atyT ci j)) (hr : Rf q j = some r9) (hq : S q = some (.inr ci)) (h9 : q ≠ 2) (kk : aG p l e R s m args below meth c E io0 S0 nL Q nx lv (.ref r9 :: st) S (I) (L) (Rf) k n) : aG p l e R s m args below meth c E io0 S0 nL Q pc lv (.ref q :: st) S (I) (L) (Rf) k n := by
  subst hn
  intro io H locs ls h1 h2 h3 h4 h5 h6
  obtain ⟨r, hc, hk, hw⟩ := fa
  obtain ⟨r', hc', cell, q1, q2, q3, q4⟩ := h1.1 q _ hq h9
  cases hc.symm.trans hc'
  obtain ⟨hS, hfc, kC, hkC, hkind⟩ := hx.K.1 ci _ hc
  obtain ⟨cf, kf, fi, f, hi, hsl⟩ := hS j hk
  refine W.getf hx.1 hx.2.1 hx.2.2.2.1 (hx.W hw) hi (u_facts hfc hkC (u_lays hx.2.2.2.2.1 (abig_u ci r hc) hk) hi).1 q1 (by rw [q3]; exact fun h => by cases h) (v := .ref (io r9)) (by rw [hsl, q4 j hk]; exact congrArg some ((asv_r ht).trans (by rw [hr]; rfl))) rfl rfl d (kk io H locs ls h1 h2 h3 (h4.tl.r (h1.2.2.2.1 q j r9 (by rw [hq]; simp) hr)) h5 h6)

theorem g_getfo_N (hx : aCx p l s m args meth c own cc nL ret E) {idx ci j q : Nat} (d : decode cc pc = .ok (.getfield idx, 3)) (hn : pc + 3 = nx) (fa : aFo own idx ci j) (ht : aKR (atyT ci j)) (hr : Rf q j = none) (hq : S q = some (.inr ci)) (h9 : q ≠ 2) (kk : aG p l e R s m args below meth c E io0 S0 nL Q nx lv (.null :: st) S (I) (L) (Rf) k n) : aG p l e R s m args below meth c E io0 S0 nL Q pc lv (.ref q :: st) S (I) (L) (Rf) k n := by
  subst hn
  intro io H locs ls h1 h2 h3 h4 h5 h6
  obtain ⟨r, hc, hk, hw⟩ := fa
  obtain ⟨r', hc', cell, q1, q2, q3, q4⟩ := h1.1 q _ hq h9
  cases hc.symm.trans hc'
  obtain ⟨hS, hfc, kC, hkC, hkind⟩ := hx.K.1 ci _ hc
  obtain ⟨cf, kf, fi, f, hi, hsl⟩ := hS j hk
  refine W.getf hx.1 hx.2.1 hx.2.2.2.1 (hx.W hw) hi (u_facts hfc hkC (u_lays hx.2.2.2.2.1 (abig_u ci r hc) hk) hi).1 q1 (by rw [q3]; exact fun h => by cases h) (v := .null) (by rw [hsl, q4 j hk]; exact congrArg some ((asv_r ht).trans (by rw [hr]; rfl))) rfl rfl d (kk io H locs ls h1 h2 h3 (h4.tl.n) h5 h6)

theorem g_getfn_i (hx : aCx p l s m args meth c own cc nL ret E) {idx ci j q : Nat} (d : decode cc pc = .ok (.getfield idx, 3)) (hn : pc + 3 = nx) (fa : aFn own idx ci j) (ht : aKI (atyT ci j)) (hq : S q = some (.inr ci)) (h9 : q ≠ 2) (kk : aG p l e R s m args below meth c E io0 S0 nL Q nx lv (.int (I q j) :: st) S (I) (L) (Rf) k n) : aG p l e R s m args below meth c E io0 S0 nL Q pc lv (.ref q :: st) S (I) (L) (Rf) k n := by
  subst hn
  intro io H locs ls h1 h2 h3 h4 h5 h6
  obtain ⟨r, host, hc, hk, hw⟩ := fa
  obtain ⟨r', hc', cell, q1, q2, q3, q4⟩ := h1.1 q _ hq h9
  cases hc.symm.trans hc'
  obtain ⟨hS, hfc, kC, hkC, hkind⟩ := hx.K.1 ci _ hc
  obtain ⟨cf, kf, fi, f, hi, hsl⟩ := hS j hk
  refine va_Wgetf hx.1 hx.2.1 hx.2.2.2.1 (hx.N hw rfl) hi (u_facts hfc hkC (u_lays hx.2.2.2.2.1 (abig_u ci r hc) hk) hi).1 q1 (by rw [q3]; exact fun h => by cases h) (v := .int (I q j)) (by rw [hsl, q4 j hk]; exact congrArg some (asv_i ht)) rfl rfl d (kk io H locs ls h1 h2 h3 (h4.tl.i) h5 h6)

theorem g_getfn_l (hx : aCx p l s m args meth c own cc nL ret E) {idx ci j q : Nat} (d : decode cc pc = .ok (.getfield idx, 3)) (hn : pc + 3 = nx) (fa : aFn own idx ci j) (ht : atyT ci j = .long) (hq : S q = some (.inr ci)) (h9 : q ≠ 2) (kk : aG p l e R s m args below meth c E io0 S0 nL Q nx lv (.long (L q j) :: st) S (I) (L) (Rf) k n) : aG p l e R s m args below meth c E io0 S0 nL Q pc lv (.ref q :: st) S (I) (L) (Rf) k n := by
  subst hn
  intro io H locs ls h1 h2 h3 h4 h5 h6
  obtain ⟨r, host, hc, hk, hw⟩ := fa
  obtain ⟨r', hc', cell, q1, q2, q3, q4⟩ := h1.1 q _ hq h9
  cases hc.symm.trans hc'
  obtain ⟨hS, hfc, kC, hkC, hkind⟩ := hx.K.1 ci _ hc
  obtain ⟨cf, kf, fi, f, hi, hsl⟩ := hS j hk
  refine va_Wgetf hx.1 hx.2.1 hx.2.2.2.1 (hx.N hw rfl) hi (u_facts hfc hkC (u_lays hx.2.2.2.2.1 (abig_u ci r hc) hk) hi).1 q1 (by rw [q3]; exact fun h => by cases h) (v := .long (L q j)) (by rw [hsl, q4 j hk]; exact congrArg some (asv_l ht)) rfl rfl d (kk io H locs ls h1 h2 h3 (h4.tl.l) h5 h6)

theorem g_getfn_R (hx : aCx p l s m args meth c own cc nL ret E) {idx ci j q : Nat} {r9 : Nat} (d : decode cc pc = .ok (.getfield idx, 3)) (hn : pc + 3 = nx) (fa : aFn own idx ci j) (ht : aKR (atyT ci j)) (hr : Rf q j = some r9) (hq : S q = some (.inr ci)) (h9 : q ≠ 2) (kk : aG p l e R s m args below meth c E io0 S0 nL Q nx lv (.ref r9 :: st) S (I) (L) (Rf) k n) : aG p l e R s m args below meth c E io0 S0 nL Q pc lv (.ref q :: st) S (I) (L) (Rf) k n := by
  subst hn
  intro io H locs ls h1 h2 h3 h4 h5 h6
  obtain ⟨r, host, hc, hk, hw⟩ := fa
  obtain ⟨r', hc', cell, q1, q2, q3, q4⟩ := h1.1 q _ hq h9
  cases hc.symm.trans hc'
  obtain ⟨hS, hfc, kC, hkC, hkind⟩ := hx.K.1 ci _ hc
  obtain ⟨cf, kf, fi, f, hi, hsl⟩ := hS j hk
  refine va_Wgetf hx.1 hx.2.1 hx.2.2.2.1 (hx.N hw rfl) hi (u_facts hfc hkC (u_lays hx.2.2.2.2.1 (abig_u ci r hc) hk) hi).1 q1 (by rw [q3]; exact fun h => by cases h) (v := .ref (io r9)) (by rw [hsl, q4 j hk]; exact congrArg some ((asv_r ht).trans (by rw [hr]; rfl))) rfl rfl d (kk io H locs ls h1 h2 h3 (h4.tl.r (h1.2.2.2.1 q j r9 (by rw [hq]; simp) hr)) h5 h6)

theorem g_getfn_N (hx : aCx p l s m args meth c own cc nL ret E) {idx ci j q : Nat} (d : decode cc pc = .ok (.getfield idx, 3)) (hn : pc + 3 = nx) (fa : aFn own idx ci j) (ht : aKR (atyT ci j)) (hr : Rf q j = none) (hq : S q = some (.inr ci)) (h9 : q ≠ 2) (kk : aG p l e R s m args below meth c E io0 S0 nL Q nx lv (.null :: st) S (I) (L) (Rf) k n) : aG p l e R s m args below meth c E io0 S0 nL Q pc lv (.ref q :: st) S (I) (L) (Rf) k n := by
  subst hn
  intro io H locs ls h1 h2 h3 h4 h5 h6
  obtain ⟨r, host, hc, hk, hw⟩ := fa
  obtain ⟨r', hc', cell, q1, q2, q3, q4⟩ := h1.1 q _ hq h9
  cases hc.symm.trans hc'
  obtain ⟨hS, hfc, kC, hkC, hkind⟩ := hx.K.1 ci _ hc
  obtain ⟨cf, kf, fi, f, hi, hsl⟩ := hS j hk
  refine va_Wgetf hx.1 hx.2.1 hx.2.2.2.1 (hx.N hw rfl) hi (u_facts hfc hkC (u_lays hx.2.2.2.2.1 (abig_u ci r hc) hk) hi).1 q1 (by rw [q3]; exact fun h => by cases h) (v := .null) (by rw [hsl, q4 j hk]; exact congrArg some ((asv_r ht).trans (by rw [hr]; rfl))) rfl rfl d (kk io H locs ls h1 h2 h3 (h4.tl.n) h5 h6)

theorem g_putfo_i (hx : aCx p l s m args meth c own cc nL ret E) {idx ci j q : Nat} {v : Int32} (d : decode cc pc = .ok (.putfield idx, 3)) (hn : pc + 3 = nx) (fa : aFo own idx ci j) (ht : aKI (atyT ci j)) (hnr : narrow (atyT ci j) (.int v) = .int v) (hft : fits (atyT ci j) (.int v) = true) (hfin : ∀ r : vw_C, aCl[ci]? = some r → (r.2.1 j).2.2.2 = false) (hq : S q = some (.inr ci)) (h9 : q ≠ 2) (kk : aG p l e R s m args below meth c E io0 S0 nL Q nx lv (st) S (au2 I q j v) (L) (Rf) k n) : aG p l e R s m args below meth c E io0 S0 nL Q pc lv (.int v :: .ref q :: st) S (I) (L) (Rf) k n := by
  subst hn
  intro io H locs ls h1 h2 h3 h4 h5 h6
  obtain ⟨r, hc, hk, hw⟩ := fa
  have hts := hx.2.2.2.2.1
  have hin := abig_u ci r hc
  have hap := va_apart (own := own) hts hin (atyT ci) (acl_ty ci r hc) (acl_nm ci r hc) hx.K hc
  obtain ⟨r', hc', cell, q1, q2, q3, q4⟩ := h1.1 q _ hq h9
  cases hc.symm.trans hc'
  obtain ⟨hS, hfc, kC, hkC, hkind⟩ := hx.K.1 ci _ hc
  obtain ⟨cf, kf, fi, f, hi, hsl⟩ := hS j hk
  have hlay := hts _ (hin _ (u_in_lay hk))
  unfold u_lay at hlay
  rw [if_neg (by rw [hfin r hc]; decide)] at hlay
  have hst := (u_facts hfc hkC (u_lays hts hin hk) hi).1
  have h7 := u_store hfc hkC hkind hlay hi (acl_ty ci r hc j hk) (v := .int v) hnr hft
  refine W.putK hx.1 hx.2.1 (f := f) ⟨hx.2.2.2.1, hx.W hw, ⟨_, _, _, hi⟩, hst⟩ (by rw [q2]; exact h7) q1 q3 (by rw [hsl]; exact k2_hasslot (q4 j hk)) rfl rfl d fun H' e1 e2 e3 => ?_
  rw [hsl] at e1 ⊢
  refine kk io H' _ ls (h1.puti hq ⟨r, hc, t_OB.to (V := updV (fun k => asv io (atyT ci k) I L Rf q k) j (.int v)) ⟨_, e1, q2, q3, t_set q4 hap hk _⟩ (fun b _ => ?_)⟩ e3) h2 h3 h4.tl.tl (h5.put e2 e3 (h1.2.2.1 q (by rw [hq]; simp) h9)) h6
  by_cases e : b = j
  · subst e; exact (if_pos rfl).trans ((asv_i ht).trans (congrArg Value.int (au2_s _ _ _ _))).symm
  · exact (if_neg e).trans (asv_congr (au2_n (fun z => e z.2)) rfl rfl (fun _ _ => rfl)).symm

theorem g_putfo_l (hx : aCx p l s m args meth c own cc nL ret E) {idx ci j q : Nat} {v : Int64} (d : decode cc pc = .ok (.putfield idx, 3)) (hn : pc + 3 = nx) (fa : aFo own idx ci j) (ht : atyT ci j = .long) (hfin : ∀ r : vw_C, aCl[ci]? = some r → (r.2.1 j).2.2.2 = false) (hq : S q = some (.inr ci)) (h9 : q ≠ 2) (kk : aG p l e R s m args below meth c E io0 S0 nL Q nx lv (st) S (I) (au2 L q j v) (Rf) k n) : aG p l e R s m args below meth c E io0 S0 nL Q pc lv (.long v :: .ref q :: st) S (I) (L) (Rf) k n := by
  subst hn
  intro io H locs ls h1 h2 h3 h4 h5 h6
  obtain ⟨r, hc, hk, hw⟩ := fa
  have hts := hx.2.2.2.2.1
  have hin := abig_u ci r hc
  have hap := va_apart (own := own) hts hin (atyT ci) (acl_ty ci r hc) (acl_nm ci r hc) hx.K hc
  obtain ⟨r', hc', cell, q1, q2, q3, q4⟩ := h1.1 q _ hq h9
  cases hc.symm.trans hc'
  obtain ⟨hS, hfc, kC, hkC, hkind⟩ := hx.K.1 ci _ hc
  obtain ⟨cf, kf, fi, f, hi, hsl⟩ := hS j hk
  have hlay := hts _ (hin _ (u_in_lay hk))
  unfold u_lay at hlay
  rw [if_neg (by rw [hfin r hc]; decide)] at hlay
  have hst := (u_facts hfc hkC (u_lays hts hin hk) hi).1
  have h7 := u_store hfc hkC hkind hlay hi (acl_ty ci r hc j hk) (v := .long v) (by rw [ht]; rfl) (by rw [ht]; rfl)
  refine W.putK hx.1 hx.2.1 (f := f) ⟨hx.2.2.2.1, hx.W hw, ⟨_, _, _, hi⟩, hst⟩ (by rw [q2]; exact h7) q1 q3 (by rw [hsl]; exact k2_hasslot (q4 j hk)) rfl rfl d fun H' e1 e2 e3 => ?_
  rw [hsl] at e1 ⊢
  refine kk io H' _ ls (h1.putl hq ⟨r, hc, t_OB.to (V := updV (fun k => asv io (atyT ci k) I L Rf q k) j (.long v)) ⟨_, e1, q2, q3, t_set q4 hap hk _⟩ (fun b _ => ?_)⟩ e3) h2 h3 h4.tl.tl (h5.put e2 e3 (h1.2.2.1 q (by rw [hq]; simp) h9)) h6
  by_cases e : b = j
  · subst e; exact (if_pos rfl).trans ((asv_l ht).trans (congrArg Value.long (au2_s _ _ _ _))).symm
  · exact (if_neg e).trans (asv_congr rfl (au2_n (fun z => e z.2)) rfl (fun _ _ => rfl)).symm

theorem g_putfo_r (hx : aCx p l s m args meth c own cc nL ret E) {idx ci j q : Nat} {v : Nat} (d : decode cc pc = .ok (.putfield idx, 3)) (hn : pc + 3 = nx) (fa : aFo own idx ci j) (ht : aKR (atyT ci j)) (hfin : ∀ r : vw_C, aCl[ci]? = some r → (r.2.1 j).2.2.2 = false) (hq : S q = some (.inr ci)) (h9 : q ≠ 2) (kk : aG p l e R s m args below meth c E io0 S0 nL Q nx lv (st) S (I) (L) (au2 Rf q j (some v)) k n) : aG p l e R s m args below meth c E io0 S0 nL Q pc lv (.ref v :: .ref q :: st) S (I) (L) (Rf) k n := by
  subst hn
  intro io H locs ls h1 h2 h3 h4 h5 h6
  obtain ⟨r, hc, hk, hw⟩ := fa
  have hts := hx.2.2.2.2.1
  have hin := abig_u ci r hc
  have hap := va_apart (own := own) hts hin (atyT ci) (acl_ty ci r hc) (acl_nm ci r hc) hx.K hc
  obtain ⟨r', hc', cell, q1, q2, q3, q4⟩ := h1.1 q _ hq h9
  cases hc.symm.trans hc'
  obtain ⟨hS, hfc, kC, hkC, hkind⟩ := hx.K.1 ci _ hc
  obtain ⟨cf, kf, fi, f, hi, hsl⟩ := hS j hk
  have hlay := hts _ (hin _ (u_in_lay hk))
  unfold u_lay at hlay
  rw [if_neg (by rw [hfin r hc]; decide)] at hlay
  have hst := (u_facts hfc hkC (u_lays hts hin hk) hi).1
  have h7 := u_store hfc hkC hkind hlay hi (acl_ty ci r hc j hk) (v := .ref (io v)) (by revert ht; cases atyT ci j <;> intro ht <;> first | rfl | cases ht) (by revert ht; cases atyT ci j <;> intro ht <;> first | rfl | cases ht)
  refine W.putK hx.1 hx.2.1 (f := f) ⟨hx.2.2.2.1, hx.W hw, ⟨_, _, _, hi⟩, hst⟩ (by rw [q2]; exact h7) q1 q3 (by rw [hsl]; exact k2_hasslot (q4 j hk)) rfl rfl d fun H' e1 e2 e3 => ?_
  rw [hsl] at e1 ⊢
  refine kk io H' _ ls (h1.putr hq ⟨r, hc, t_OB.to (V := updV (fun k => asv io (atyT ci k) I L Rf q k) j (.ref (io v))) ⟨_, e1, q2, q3, t_set q4 hap hk _⟩ (fun b _ => ?_)⟩ e3 (fun r e => by cases e; exact h4.hd)) h2 h3 h4.tl.tl (h5.put e2 e3 (h1.2.2.1 q (by rw [hq]; simp) h9)) h6
  by_cases e : b = j
  · subst e; exact (if_pos rfl).trans ((asv_r ht).trans (by rw [au2_s]; rfl)).symm
  · exact (if_neg e).trans (asv_congr rfl rfl (au2_n (fun z => e z.2)) (fun _ _ => rfl)).symm

theorem g_putfo_N (hx : aCx p l s m args meth c own cc nL ret E) {idx ci j q : Nat} (d : decode cc pc = .ok (.putfield idx, 3)) (hn : pc + 3 = nx) (fa : aFo own idx ci j) (ht : aKR (atyT ci j)) (hfin : ∀ r : vw_C, aCl[ci]? = some r → (r.2.1 j).2.2.2 = false) (hq : S q = some (.inr ci)) (h9 : q ≠ 2) (kk : aG p l e R s m args below meth c E io0 S0 nL Q nx lv (st) S (I) (L) (au2 Rf q j none) k n) : aG p l e R s m args below meth c E io0 S0 nL Q pc lv (.null :: .ref q :: st) S (I) (L) (Rf) k n := by
  subst hn
  intro io H locs ls h1 h2 h3 h4 h5 h6
  obtain ⟨r, hc, hk, hw⟩ := fa
  have hts := hx.2.2.2.2.1
  have hin := abig_u ci r hc
  have hap := va_apart (own := own) hts hin (atyT ci) (acl_ty ci r hc) (acl_nm ci r hc) hx.K hc
  obtain ⟨r', hc', cell, q1, q2, q3, q4⟩ := h1.1 q _ hq h9
  cases hc.symm.trans hc'
  obtain ⟨hS, hfc, kC, hkC, hkind⟩ := hx.K.1 ci _ hc
  obtain ⟨cf, kf, fi, f, hi, hsl⟩ := hS j hk
  have hlay := hts _ (hin _ (u_in_lay hk))
  unfold u_lay at hlay
  rw [if_neg (by rw [hfin r hc]; decide)] at hlay
  have hst := (u_facts hfc hkC (u_lays hts hin hk) hi).1
  have h7 := u_store hfc hkC hkind hlay hi (acl_ty ci r hc j hk) (v := .null) (by revert ht; cases atyT ci j <;> intro ht <;> first | rfl | cases ht) (by revert ht; cases atyT ci j <;> intro ht <;> first | rfl | cases ht)
  refine W.putK hx.1 hx.2.1 (f := f) ⟨hx.2.2.2.1, hx.W hw, ⟨_, _, _, hi⟩, hst⟩ (by rw [q2]; exact h7) q1 q3 (by rw [hsl]; exact k2_hasslot (q4 j hk)) rfl rfl d fun H' e1 e2 e3 => ?_
  rw [hsl] at e1 ⊢
  refine kk io H' _ ls (h1.putr hq ⟨r, hc, t_OB.to (V := updV (fun k => asv io (atyT ci k) I L Rf q k) j (.null)) ⟨_, e1, q2, q3, t_set q4 hap hk _⟩ (fun b _ => ?_)⟩ e3 (fun r e => by cases e)) h2 h3 h4.tl.tl (h5.put e2 e3 (h1.2.2.1 q (by rw [hq]; simp) h9)) h6
  by_cases e : b = j
  · subst e; exact (if_pos rfl).trans ((asv_r ht).trans (by rw [au2_s]; rfl)).symm
  · exact (if_neg e).trans (asv_congr rfl rfl (au2_n (fun z => e z.2)) (fun _ _ => rfl)).symm

theorem g_putfn_i (hx : aCx p l s m args meth c own cc nL ret E) {idx ci j q : Nat} {v : Int32} (d : decode cc pc = .ok (.putfield idx, 3)) (hn : pc + 3 = nx) (fa : aFn own idx ci j) (ht : aKI (atyT ci j)) (hnr : narrow (atyT ci j) (.int v) = .int v) (hft : fits (atyT ci j) (.int v) = true) (hfin : ∀ r : vw_C, aCl[ci]? = some r → (r.2.1 j).2.2.2 = false) (hq : S q = some (.inr ci)) (h9 : q ≠ 2) (kk : aG p l e R s m args below meth c E io0 S0 nL Q nx lv (st) S (au2 I q j v) (L) (Rf) k n) : aG p l e R s m args below meth c E io0 S0 nL Q pc lv (.int v :: .ref q :: st) S (I) (L) (Rf) k n := by
  subst hn
  intro io H locs ls h1 h2 h3 h4 h5 h6
  obtain ⟨r, host, hc, hk, hw⟩ := fa
  have hts := hx.2.2.2.2.1
  have hin := abig_u ci r hc
  have hap := va_apart (own := own) hts hin (atyT ci) (acl_ty ci r hc) (acl_nm ci r hc) hx.K hc
  obtain ⟨r', hc', cell, q1, q2, q3, q4⟩ := h1.1 q _ hq h9
  cases hc.symm.trans hc'
  obtain ⟨hS, hfc, kC, hkC, hkind⟩ := hx.K.1 ci _ hc
  obtain ⟨cf, kf, fi, f, hi, hsl⟩ := hS j hk
  have hlay := hts _ (hin _ (u_in_lay hk))
  unfold u_lay at hlay
  rw [if_neg (by rw [hfin r hc]; decide)] at hlay
  have hst := (u_facts hfc hkC (u_lays hts hin hk) hi).1
  have h7 := u_store hfc hkC hkind hlay hi (acl_ty ci r hc j hk) (v := .int v) hnr hft
  refine va_WputK hx.1 hx.2.1 (f := f) hx.2.2.2.1 (hx.N hw rfl) hi hst (by rw [q2]; exact h7) q1 q3 (by rw [hsl]; exact k2_hasslot (q4 j hk)) rfl rfl d fun H' e1 e2 e3 => ?_
  rw [hsl] at e1 ⊢
  refine kk io H' _ ls (h1.puti hq ⟨r, hc, t_OB.to (V := updV (fun k => asv io (atyT ci k) I L Rf q k) j (.int v)) ⟨_, e1, q2, q3, t_set q4 hap hk _⟩ (fun b _ => ?_)⟩ e3) h2 h3 h4.tl.tl (h5.put e2 e3 (h1.2.2.1 q (by rw [hq]; simp) h9)) h6
  by_cases e : b = j
  · subst e; exact (if_pos rfl).trans ((asv_i ht).trans (congrArg Value.int (au2_s _ _ _ _))).symm
  · exact (if_neg e).trans (asv_congr (au2_n (fun z => e z.2)) rfl rfl (fun _ _ => rfl)).symm

theorem g_putfn_l (hx : aCx p l s m args meth c own cc nL ret E) {idx ci j q : Nat} {v : Int64} (d : decode cc pc = .ok (.putfield idx, 3)) (hn : pc + 3 = nx) (fa : aFn own idx ci j) (ht : atyT ci j = .long) (hfin : ∀ r : vw_C, aCl[ci]? = some r → (r.2.1 j).2.2.2 = false) (hq : S q = some (.inr ci)) (h9 : q ≠ 2) (kk : aG p l e R s m args below meth c E io0 S0 nL Q nx lv (st) S (I) (au2 L q j v) (Rf) k n) : aG p l e R s m args below meth c E io0 S0 nL Q pc lv (.long v :: .ref q :: st) S (I) (L) (Rf) k n := by
  subst hn
  intro io H locs ls h1 h2 h3 h4 h5 h6
  obtain ⟨r, host, hc, hk, hw⟩ := fa
  have hts := hx.2.2.2.2.1
  have hin := abig_u ci r hc
  have hap := va_apart (own := own) hts hin (atyT ci) (acl_ty ci r hc) (acl_nm ci r hc) hx.K hc
  obtain ⟨r', hc', cell, q1, q2, q3, q4⟩ := h1.1 q _ hq h9
  cases hc.symm.trans hc'
  obtain ⟨hS, hfc, kC, hkC, hkind⟩ := hx.K.1 ci _ hc
  obtain ⟨cf, kf, fi, f, hi, hsl⟩ := hS j hk
  have hlay := hts _ (hin _ (u_in_lay hk))
  unfold u_lay at hlay
  rw [if_neg (by rw [hfin r hc]; decide)] at hlay
  have hst := (u_facts hfc hkC (u_lays hts hin hk) hi).1
  have h7 := u_store hfc hkC hkind hlay hi (acl_ty ci r hc j hk) (v := .long v) (by rw [ht]; rfl) (by rw [ht]; rfl)
  refine va_WputK hx.1 hx.2.1 (f := f) hx.2.2.2.1 (hx.N hw rfl) hi hst (by rw [q2]; exact h7) q1 q3 (by rw [hsl]; exact k2_hasslot (q4 j hk)) rfl rfl d fun H' e1 e2 e3 => ?_
  rw [hsl] at e1 ⊢
  refine kk io H' _ ls (h1.putl hq ⟨r, hc, t_OB.to (V := updV (fun k => asv io (atyT ci k) I L Rf q k) j (.long v)) ⟨_, e1, q2, q3, t_set q4 hap hk _⟩ (fun b _ => ?_)⟩ e3) h2 h3 h4.tl.tl (h5.put e2 e3 (h1.2.2.1 q (by rw [hq]; simp) h9)) h6
  by_cases e : b = j
  · subst e; exact (if_pos rfl).trans ((asv_l ht).trans (congrArg Value.long (au2_s _ _ _ _))).symm
  · exact (if_neg e).trans (asv_congr rfl (au2_n (fun z => e z.2)) rfl (fun _ _ => rfl)).symm

theorem g_putfn_r (hx : aCx p l s m args meth c own cc nL ret E) {idx ci j q : Nat} {v : Nat} (d : decode cc pc = .ok (.putfield idx, 3)) (hn : pc + 3 = nx) (fa : aFn own idx ci j) (ht : aKR (atyT ci j)) (hfin : ∀ r : vw_C, aCl[ci]? = some r → (r.2.1 j).2.2.2 = false) (hq : S q = some (.inr ci)) (h9 : q ≠ 2) (kk : aG p l e R s m args below meth c E io0 S0 nL Q nx lv (st) S (I) (L) (au2 Rf q j (some v)) k n) : aG p l e R s m args below meth c E io0 S0 nL Q pc lv (.ref v :: .ref q :: st) S (I) (L) (Rf) k n := by
  subst hn
  intro io H locs ls h1 h2 h3 h4 h5 h6
  obtain ⟨r, host, hc, hk, hw⟩ := fa
  have hts := hx.2.2.2.2.1
  have hin := abig_u ci r hc
  have hap := va_apart (own := own) hts hin (atyT ci) (acl_ty ci r hc) (acl_nm ci r hc) hx.K hc
  obtain ⟨r', hc', cell, q1, q2, q3, q4⟩ := h1.1 q _ hq h9
  cases hc.symm.trans hc'
  obtain ⟨hS, hfc, kC, hkC, hkind⟩ := hx.K.1 ci _ hc
  obtain ⟨cf, kf, fi, f, hi, hsl⟩ := hS j hk
  have hlay := hts _ (hin _ (u_in_lay hk))
  unfold u_lay at hlay
  rw [if_neg (by rw [hfin r hc]; decide)] at hlay
  have hst := (u_facts hfc hkC (u_lays hts hin hk) hi).1
  have h7 := u_store hfc hkC hkind hlay hi (acl_ty ci r hc j hk) (v := .ref (io v)) (by revert ht; cases atyT ci j <;> intro ht <;> first | rfl | cases ht) (by revert ht; cases atyT ci j <;> intro ht <;> first | rfl | cases ht)
  refine va_WputK hx.1 hx.2.1 (f := f) hx.2.2.2.1 (hx.N hw rfl) hi hst (by rw [q2]; exact h7) q1 q3 (by rw [hsl]; exact k2_hasslot (q4 j hk)) rfl rfl d fun H' e1 e2 e3 => ?_
  rw [hsl] at e1 ⊢
  refine kk io H' _ ls (h1.putr hq ⟨r, hc, t_OB.to (V := updV (fun k => asv io (atyT ci k) I L Rf q k) j (.ref (io v))) ⟨_, e1, q2, q3, t_set q4 hap hk _⟩ (fun b _ => ?_)⟩ e3 (fun r e => by cases e; exact h4.hd)) h2 h3 h4.tl.tl (h5.put e2 e3 (h1.2.2.1 q (by rw [hq]; simp) h9)) h6
  by_cases e : b = j
  · subst e; exact (if_pos rfl).trans ((asv_r ht).trans (by rw [au2_s]; rfl)).symm
  · exact (if_neg e).trans (asv_congr rfl rfl (au2_n (fun z => e z.2)) (fun _ _ => rfl)).symm

theorem g_putfn_N (hx : aCx p l s m args meth c own cc nL ret E) {idx ci j q : Nat} (d : decode cc pc = .ok (.putfield idx, 3)) (hn : pc + 3 = nx) (fa : aFn own idx ci j) (ht : aKR (atyT ci j)) (hfin : ∀ r : vw_C, aCl[ci]? = some r → (r.2.1 j).2.2.2 = false) (hq : S q = some (.inr ci)) (h9 : q ≠ 2) (kk : aG p l e R s m args below meth c E io0 S0 nL Q nx lv (st) S (I) (L) (au2 Rf q j none) k n) : aG p l e R s m args below meth c E io0 S0 nL Q pc lv (.null :: .ref q :: st) S (I) (L) (Rf) k n := by
  subst hn
  intro io H locs ls h1 h2 h3 h4 h5 h6
  obtain ⟨r, host, hc, hk, hw⟩ := fa
  have hts := hx.2.2.2.2.1
  have hin := abig_u ci r hc
  have hap := va_apart (own := own) hts hin (atyT ci) (acl_ty ci r hc) (acl_nm ci r hc) hx.K hc
  obtain ⟨r', hc', cell, q1, q2, q3, q4⟩ := h1.1 q _ hq h9
  cases hc.symm.trans hc'
  obtain ⟨hS, hfc, kC, hkC, hkind⟩ := hx.K.1 ci _ hc
  obtain ⟨cf, kf, fi, f, hi, hsl⟩ := hS j hk
  have hlay := hts _ (hin _ (u_in_lay hk))
  unfold u_lay at hlay
  rw [if_neg (by rw [hfin r hc]; decide)] at hlay
  have hst := (u_facts hfc hkC (u_lays hts hin hk) hi).1
  have h7 := u_store hfc hkC hkind hlay hi (acl_ty ci r hc j hk) (v := .null) (by revert ht; cases atyT ci j <;> intro ht <;> first | rfl | cases ht) (by revert ht; cases atyT ci j <;> intro ht <;> first | rfl | cases ht)
  refine va_WputK hx.1 hx.2.1 (f := f) hx.2.2.2.1 (hx.N hw rfl) hi hst (by rw [q2]; exact h7) q1 q3 (by rw [hsl]; exact k2_hasslot (q4 j hk)) rfl rfl d fun H' e1 e2 e3 => ?_
  rw [hsl] at e1 ⊢
  refine kk io H' _ ls (h1.putr hq ⟨r, hc, t_OB.to (V := updV (fun k => asv io (atyT ci k) I L Rf q k) j (.null)) ⟨_, e1, q2, q3, t_set q4 hap hk _⟩ (fun b _ => ?_)⟩ e3 (fun r e => by cases e)) h2 h3 h4.tl.tl (h5.put e2 e3 (h1.2.2.1 q (by rw [hq]; simp) h9)) h6
  by_cases e : b = j
  · subst e; exact (if_pos rfl).trans ((asv_r ht).trans (by rw [au2_s]; rfl)).symm
  · exact (if_neg e).trans (asv_congr rfl rfl (au2_n (fun z => e z.2)) (fun _ _ => rfl)).symm

theorem g_putff_i (hx : aCx p l s m args meth c own cc nL ret E) {idx ci j q : Nat} {v : Int32} (d : decode cc pc = .ok (.putfield idx, 3)) (hn : pc + 3 = nx) (fa : aFo own idx ci j) (ht : aKI (atyT ci j)) (hnr : narrow (atyT ci j) (.int v) = .int v) (hft : fits (atyT ci j) (.int v) = true) (hfin : ∀ r : vw_C, aCl[ci]? = some r → (r.2.1 j).2.2.2 = true ∧ (r.2.1 j).1 = own) (hini : meth.name = "<init>") (hq : S q = some (.inr ci)) (h9 : q ≠ 2) (kk : aG p l e R s m args below meth c E io0 S0 nL Q nx lv (st) S (au2 I q j v) (L) (Rf) k n) : aG p l e R s m args below meth c E io0 S0 nL Q pc lv (.int v :: .ref q :: st) S (I) (L) (Rf) k n := by
  subst hn
  intro io H locs ls h1 h2 h3 h4 h5 h6
  obtain ⟨r, hc, hk, hw⟩ := fa
  have hts := hx.2.2.2.2.1
  have hin := abig_u ci r hc
  have hap := va_apart (own := own) hts hin (atyT ci) (acl_ty ci r hc) (acl_nm ci r hc) hx.K hc
  obtain ⟨r', hc', cell, q1, q2, q3, q4⟩ := h1.1 q _ hq h9
  cases hc.symm.trans hc'
  obtain ⟨hS, hfc, kC, hkC, hkind⟩ := hx.K.1 ci _ hc
  obtain ⟨cf, kf, fi, f, hi, hsl⟩ := hS j hk
  have hlay := hts _ (hin _ (u_in_lay hk))
  unfold u_lay at hlay
  rw [if_pos (hfin r hc).1] at hlay
  have hst := (u_facts hfc hkC (u_lays hts hin hk) hi).1
  have hcf : m.cls = cf := by
    obtain ⟨_, _, c', _, _, _, -, -, hf', -, -, -, hown2, -⟩ := Cond.laysFinal_spec hlay
    have e1 : c' = cf := by have := hi.symm.trans hf'; simp at this; exact this.1.symm
    rw [(hfin r hc).2] at hown2
    rw [← e1]; exact Option.some.inj (hx.2.2.2.1.symm.trans hown2)
  have h7 := u_fits hfc hkC hkind (Or.inr hlay) hi (acl_ty ci r hc j hk) (v := .int v) hnr hft
  refine W.putFinK hx.1 hx.2.1 hx.2.2.2.1 (hx.W hw) hi hst hcf hini (by rw [q2]; exact h7) q1 q3 (by rw [hsl]; exact k2_hasslot (q4 j hk)) rfl rfl d fun H' e1 e2 e3 => ?_
  rw [hsl] at e1 ⊢
  refine kk io H' _ ls (h1.puti hq ⟨r, hc, t_OB.to (V := updV (fun k => asv io (atyT ci k) I L Rf q k) j (.int v)) ⟨_, e1, q2, q3, t_set q4 hap hk _⟩ (fun b _ => ?_)⟩ e3) h2 h3 h4.tl.tl (h5.put e2 e3 (h1.2.2.1 q (by rw [hq]; simp) h9)) h6
  by_cases e : b = j
  · subst e; exact (if_pos rfl).trans ((asv_i ht).trans (congrArg Value.int (au2_s _ _ _ _))).symm
  · exact (if_neg e).trans (asv_congr (au2_n (fun z => e z.2)) rfl rfl (fun _ _ => rfl)).symm

theorem g_putff_l (hx : aCx p l s m args meth c own cc nL ret E) {idx ci j q : Nat} {v : Int64} (d : decode cc pc = .ok (.putfield idx, 3)) (hn : pc + 3 = nx) (fa : aFo own idx ci j) (ht : atyT ci j = .long) (hfin : ∀ r : vw_C, aCl[ci]? = some r → (r.2.1 j).2.2.2 = true ∧ (r.2.1 j).1 = own) (hini : meth.name = "<init>") (hq : S q = some (.inr ci)) (h9 : q ≠ 2) (kk : aG p l e R s m args below meth c E io0 S0 nL Q nx lv (st) S (I) (au2 L q j v) (Rf) k n) : aG p l e R s m args below meth c E io0 S0 nL Q pc lv (.long v :: .ref q :: st) S (I) (L) (Rf) k n := by
  subst hn
  intro io H locs ls h1 h2 h3 h4 h5 h6
  obtain ⟨r, hc, hk, hw⟩ := fa
  have hts := hx.2.2.2.2.1
  have hin := abig_u ci r hc
  have hap := va_apart (own := own) hts hin (atyT ci) (acl_ty ci r hc) (acl_nm ci r hc) hx.K hc
  obtain ⟨r', hc', cell, q1, q2, q3, q4⟩ := h1.1 q _ hq h9
  cases hc.symm.trans hc'
  obtain ⟨hS, hfc, kC, hkC, hkind⟩ := hx.K.1 ci _ hc
  obtain ⟨cf, kf, fi, f, hi, hsl⟩ := hS j hk
  have hlay := hts _ (hin _ (u_in_lay hk))
  unfold u_lay at hlay
  rw [if_pos (hfin r hc).1] at hlay
  have hst := (u_facts hfc hkC (u_lays hts hin hk) hi).1
  have hcf : m.cls = cf := by
    obtain ⟨_, _, c', _, _, _, -, -, hf', -, -, -, hown2, -⟩ := Cond.laysFinal_spec hlay
    have e1 : c' = cf := by have := hi.symm.trans hf'; simp at this; exact this.1.symm
    rw [(hfin r hc).2] at hown2
    rw [← e1]; exact Option.some.inj (hx.2.2.2.1.symm.trans hown2)
  have h7 := u_fits hfc hkC hkind (Or.inr hlay) hi (acl_ty ci r hc j hk) (v := .long v) (by rw [ht]; rfl) (by rw [ht]; rfl)
  refine W.putFinK hx.1 hx.2.1 hx.2.2.2.1 (hx.W hw) hi hst hcf hini (by rw [q2]; exact h7) q1 q3 (by rw [hsl]; exact k2_hasslot (q4 j hk)) rfl rfl d fun H' e1 e2 e3 => ?_
  rw [hsl] at e1 ⊢
  refine kk io H' _ ls (h1.putl hq ⟨r, hc, t_OB.to (V := updV (fun k => asv io (atyT ci k) I L Rf q k) j (.long v)) ⟨_, e1, q2, q3, t_set q4 hap hk _⟩ (fun b _ => ?_)⟩ e3) h2 h3 h4.tl.tl (h5.put e2 e3 (h1.2.2.1 q (by rw [hq]; simp) h9)) h6
  by_cases e : b = j
  · subst e; exact (if_pos rfl).trans ((asv_l ht).trans (congrArg Value.long (au2_s _ _ _ _))).symm
  · exact (if_neg e).trans (asv_congr rfl (au2_n (fun z => e z.2)) rfl (fun _ _ => rfl)).symm

theorem g_putff_r (hx : aCx p l s m args meth c own cc nL ret E) {idx ci j q : Nat} {v : Nat} (d : decode cc pc = .ok (.putfield idx, 3)) (hn : pc + 3 = nx) (fa : aFo own idx ci j) (ht : aKR (atyT ci j)) (hfin : ∀ r : vw_C, aCl[ci]? = some r → (r.2.1 j).2.2.2 = true ∧ (r.2.1 j).1 = own) (hini : meth.name = "<init>") (hq : S q = some (.inr ci)) (h9 : q ≠ 2) (kk : aG p l e R s m args below meth c E io0 S0 nL Q nx lv (st) S (I) (L) (au2 Rf q j (some v)) k n) : aG p l e R s m args below meth c E io0 S0 nL Q pc lv (.ref v :: .ref q :: st) S (I) (L) (Rf) k n := by
  subst hn
  intro io H locs ls h1 h2 h3 h4 h5 h6
  obtain ⟨r, hc, hk, hw⟩ := fa
  have hts := hx.2.2.2.2.1
  have hin := abig_u ci r hc
  have hap := va_apart (own := own) hts hin (atyT ci) (acl_ty ci r hc) (acl_nm ci r hc) hx.K hc
  obtain ⟨r', hc', cell, q1, q2, q3, q4⟩ := h1.1 q _ hq h9
  cases hc.symm.trans hc'
  obtain ⟨hS, hfc, kC, hkC, hkind⟩ := hx.K.1 ci _ hc
  obtain ⟨cf, kf, fi, f, hi, hsl⟩ := hS j hk
  have hlay := hts _ (hin _ (u_in_lay hk))
  unfold u_lay at hlay
  rw [if_pos (hfin r hc).1] at hlay
  have hst := (u_facts hfc hkC (u_lays hts hin hk) hi).1
  have hcf : m.cls = cf := by
    obtain ⟨_, _, c', _, _, _, -, -, hf', -, -, -, hown2, -⟩ := Cond.laysFinal_spec hlay
    have e1 : c' = cf := by have := hi.symm.trans hf'; simp at this; exact this.1.symm
    rw [(hfin r hc).2] at hown2
    rw [← e1]; exact Option.some.inj (hx.2.2.2.1.symm.trans hown2)
  have h7 := u_fits hfc hkC hkind (Or.inr hlay) hi (acl_ty ci r hc j hk) (v := .ref (io v)) (by revert ht; cases atyT ci j <;> intro ht <;> first | rfl | cases ht) (by revert ht; cases atyT ci j <;> intro ht <;> first | rfl | cases ht)
  refine W.putFinK hx.1 hx.2.1 hx.2.2.2.1 (hx.W hw) hi hst hcf hini (by rw [q2]; exact h7) q1 q3 (by rw [hsl]; exact k2_hasslot (q4 j hk)) rfl rfl d fun H' e1 e2 e3 => ?_
  rw [hsl] at e1 ⊢
  refine kk io H' _ ls (h1.putr hq ⟨r, hc, t_OB.to (V := updV (fun k => asv io (atyT ci k) I L Rf q k) j (.ref (io v))) ⟨_, e1, q2, q3, t_set q4 hap hk _⟩ (fun b _ => ?_)⟩ e3 (fun r e => by cases e; exact h4.hd)) h2 h3 h4.tl.tl (h5.put e2 e3 (h1.2.2.1 q (by rw [hq]; simp) h9)) h6
  by_cases e : b = j
  · subst e; exact (if_pos rfl).trans ((asv_r ht).trans (by rw [au2_s]; rfl)).symm
  · exact (if_neg e).trans (asv_congr rfl rfl (au2_n (fun z => e z.2)) (fun _ _ => rfl)).symm

theorem g_putff_N (hx : aCx p l s m args meth c own cc nL ret E) {idx ci j q : Nat} (d : decode cc pc = .ok (.putfield idx, 3)) (hn : pc + 3 = nx) (fa : aFo own idx ci j) (ht : aKR (atyT ci j)) (hfin : ∀ r : vw_C, aCl[ci]? = some r → (r.2.1 j).2.2.2 = true ∧ (r.2.1 j).1 = own) (hini : meth.name = "<init>") (hq : S q = some (.inr ci)) (h9 : q ≠ 2) (kk : aG p l e R s m args below meth c E io0 S0 nL Q nx lv (st) S (I) (L) (au2 Rf q j none) k n) : aG p l e R s m args below meth c E io0 S0 nL Q pc lv (.null :: .ref q :: st) S (I) (L) (Rf) k n := by
  subst hn
  intro io H locs ls h1 h2 h3 h4 h5 h6
  obtain ⟨r, hc, hk, hw⟩ := fa
  have hts := hx.2.2.2.2.1
  have hin := abig_u ci r hc
  have hap := va_apart (own := own) hts hin (atyT ci) (acl_ty ci r hc) (acl_nm ci r hc) hx.K hc
  obtain ⟨r', hc', cell, q1, q2, q3, q4⟩ := h1.1 q _ hq h9
  cases hc.symm.trans hc'
  obtain ⟨hS, hfc, kC, hkC, hkind⟩ := hx.K.1 ci _ hc
  obtain ⟨cf, kf, fi, f, hi, hsl⟩ := hS j hk
  have hlay := hts _ (hin _ (u_in_lay hk))
  unfold u_lay at hlay
  rw [if_pos (hfin r hc).1] at hlay
  have hst := (u_facts hfc hkC (u_lays hts hin hk) hi).1
  have hcf : m.cls = cf := by
    obtain ⟨_, _, c', _, _, _, -, -, hf', -, -, -, hown2, -⟩ := Cond.laysFinal_spec hlay
    have e1 : c' = cf := by have := hi.symm.trans hf'; simp at this; exact this.1.symm
    rw [(hfin r hc).2] at hown2
    rw [← e1]; exact Option.some.inj (hx.2.2.2.1.symm.trans hown2)
  have h7 := u_fits hfc hkC hkind (Or.inr hlay) hi (acl_ty ci r hc j hk) (v := .null) (by revert ht; cases atyT ci j <;> intro ht <;> first | rfl | cases ht) (by revert ht; cases atyT ci j <;> intro ht <;> first | rfl | cases ht)
  refine W.putFinK hx.1 hx.2.1 hx.2.2.2.1 (hx.W hw) hi hst hcf hini (by rw [q2]; exact h7) q1 q3 (by rw [hsl]; exact k2_hasslot (q4 j hk)) rfl rfl d fun H' e1 e2 e3 => ?_
  rw [hsl] at e1 ⊢
  refine kk io H' _ ls (h1.putr hq ⟨r, hc, t_OB.to (V := updV (fun k => asv io (atyT ci k) I L Rf q k) j (.null)) ⟨_, e1, q2, q3, t_set q4 hap hk _⟩ (fun b _ => ?_)⟩ e3 (fun r e => by cases e)) h2 h3 h4.tl.tl (h5.put e2 e3 (h1.2.2.1 q (by rw [hq]; simp) h9)) h6
  by_cases e : b = j
  · subst e; exact (if_pos rfl).trans ((asv_r ht).trans (by rw [au2_s]; rfl)).symm
  · exact (if_neg e).trans (asv_congr rfl rfl (au2_n (fun z => e z.2)) (fun _ _ => rfl)).symm

theorem g_iaload (hx : aCx p l s m args meth c own cc nL ret E) {q N : Nat} {i : Int32} (d : decode cc pc = .ok (.iaload, 1)) (hn : pc + 1 = nx) (hq : S q = some (.inl (.int, N))) (h9 : q ≠ 2) (hin : vp_in i N) (kk : aG p l e R s m args below meth c E io0 S0 nL Q nx lv (.int (I q i.toNatClampNeg) :: st) S (I) (L) (Rf) k n) : aG p l e R s m args below meth c E io0 S0 nL Q pc lv (.int i :: .ref q :: st) S (I) (L) (Rf) k n := by
  subst hn
  intro io H locs ls h1 h2 h3 h4 h5 h6
  have hlt : i.toNatClampNeg < N := Nat.not_le.mp fun z => hin (Or.inr z)
  exact W.iald (v := .int (I q i.toNatClampNeg)) hx.1 hx.2.1 (h1.1 q _ hq h9) ((hx.arr (ty := .int) ⟨0, rfl⟩).1 _ _) (fun z => by cases z) (by rw [arrV_size]; exact hin) (by rw [arrV_read _ _ hlt]; rfl) rfl rfl d (kk io H locs ls h1 h2 h3 h4.tl.tl.i h5 h6)

theorem g_laload (hx : aCx p l s m args meth c own cc nL ret E) {q N : Nat} {i : Int32} (d : decode cc pc = .ok (.laload, 1)) (hn : pc + 1 = nx) (hq : S q = some (.inl (.long, N))) (h9 : q ≠ 2) (hin : vp_in i N) (kk : aG p l e R s m args below meth c E io0 S0 nL Q nx lv (.long (L q i.toNatClampNeg) :: st) S (I) (L) (Rf) k n) : aG p l e R s m args below meth c E io0 S0 nL Q pc lv (.int i :: .ref q :: st) S (I) (L) (Rf) k n := by
  subst hn
  intro io H locs ls h1 h2 h3 h4 h5 h6
  have hlt : i.toNatClampNeg < N := Nat.not_le.mp fun z => hin (Or.inr z)
  exact W.lald (v := .long (L q i.toNatClampNeg)) hx.1 hx.2.1 (h1.1 q _ hq h9) ((hx.arr (ty := .long) ⟨1, rfl⟩).1 _ _) (fun z => by cases z) (by rw [arrV_size]; exact hin) (by rw [arrV_read _ _ hlt]; rfl) rfl rfl d (kk io H locs ls h1 h2 h3 h4.tl.tl.l h5 h6)

theorem g_baload (hx : aCx p l s m args meth c own cc nL ret E) {q N : Nat} {i : Int32} (d : decode cc pc = .ok (.baload, 1)) (hn : pc + 1 = nx) (hq : S q = some (.inl (.boolean, N))) (h9 : q ≠ 2) (hin : vp_in i N) (kk : aG p l e R s m args below meth c E io0 S0 nL Q nx lv (.int (I q i.toNatClampNeg) :: st) S (I) (L) (Rf) k n) : aG p l e R s m args below meth c E io0 S0 nL Q pc lv (.int i :: .ref q :: st) S (I) (L) (Rf) k n := by
  subst hn
  intro io H locs ls h1 h2 h3 h4 h5 h6
  have hlt : i.toNatClampNeg < N := Nat.not_le.mp fun z => hin (Or.inr z)
  exact W.zald (v := .int (I q i.toNatClampNeg)) hx.1 hx.2.1 (h1.1 q _ hq h9) ((hx.arr (ty := .boolean) ⟨2, rfl⟩).1 _ _) (fun z => by cases z) (by rw [arrV_size]; exact hin) (by rw [arrV_read _ _ hlt]; rfl) rfl rfl d (kk io H locs ls h1 h2 h3 h4.tl.tl.i h5 h6)

theorem g_aaloadStar_R (hx : aCx p l s m args meth c own cc nL ret E) {q N : Nat} {r9 : Nat} {i : Int32} (d : decode cc pc = .ok (.aaload, 1)) (hn : pc + 1 = nx) (hq : S q = some (.inl (.object "AsteroTone$Star", N))) (h9 : q ≠ 2) (hin : vp_in i N) (hr : Rf q i.toNatClampNeg = some r9) (kk : aG p l e R s m args below meth c E io0 S0 nL Q nx lv (.ref r9 :: st) S (I) (L) (Rf) k n) : aG p l e R s m args below meth c E io0 S0 nL Q pc lv (.int i :: .ref q :: st) S (I) (L) (Rf) k n := by
  subst hn
  intro io H locs ls h1 h2 h3 h4 h5 h6
  have hlt : i.toNatClampNeg < N := Nat.not_le.mp fun z => hin (Or.inr z)
  exact W.aald (v := .ref (io r9)) (ty := .object "AsteroTone$Star") hx.1 hx.2.1 (h1.1 q _ hq h9) ((hx.arr (ty := .object "AsteroTone$Star") ⟨3, rfl⟩).1 _ _) rfl (fun z => by cases z) (by rw [arrV_size]; exact hin) (by rw [arrV_read _ _ hlt]; exact congrArg some (congrArg (arv io) hr)) rfl rfl d (kk io H locs ls h1 h2 h3 (h4.tl.tl.r (h1.2.2.2.1 q _ r9 (by rw [hq]; simp) hr)) h5 h6)

theorem g_aaloadStar_N (hx : aCx p l s m args meth c own cc nL ret E) {q N : Nat} {i : Int32} (d : decode cc pc = .ok (.aaload, 1)) (hn : pc + 1 = nx) (hq : S q = some (.inl (.object "AsteroTone$Star", N))) (h9 : q ≠ 2) (hin : vp_in i N) (hr : Rf q i.toNatClampNeg = none) (kk : aG p l e R s m args below meth c E io0 S0 nL Q nx lv (.null :: st) S (I) (L) (Rf) k n) : aG p l e R s m args below meth c E io0 S0 nL Q pc lv (.int i :: .ref q :: st) S (I) (L) (Rf) k n := by
  subst hn
  intro io H locs ls h1 h2 h3 h4 h5 h6
  have hlt : i.toNatClampNeg < N := Nat.not_le.mp fun z => hin (Or.inr z)
  exact W.aald (v := .null) (ty := .object "AsteroTone$Star") hx.1 hx.2.1 (h1.1 q _ hq h9) ((hx.arr (ty := .object "AsteroTone$Star") ⟨3, rfl⟩).1 _ _) rfl (fun z => by cases z) (by rw [arrV_size]; exact hin) (by rw [arrV_read _ _ hlt]; exact congrArg some (congrArg (arv io) hr)) rfl rfl d (kk io H locs ls h1 h2 h3 (h4.tl.tl.n) h5 h6)

theorem g_aaloadClaim_R (hx : aCx p l s m args meth c own cc nL ret E) {q N : Nat} {r9 : Nat} {i : Int32} (d : decode cc pc = .ok (.aaload, 1)) (hn : pc + 1 = nx) (hq : S q = some (.inl (.object "AsteroTone$Claim", N))) (h9 : q ≠ 2) (hin : vp_in i N) (hr : Rf q i.toNatClampNeg = some r9) (kk : aG p l e R s m args below meth c E io0 S0 nL Q nx lv (.ref r9 :: st) S (I) (L) (Rf) k n) : aG p l e R s m args below meth c E io0 S0 nL Q pc lv (.int i :: .ref q :: st) S (I) (L) (Rf) k n := by
  subst hn
  intro io H locs ls h1 h2 h3 h4 h5 h6
  have hlt : i.toNatClampNeg < N := Nat.not_le.mp fun z => hin (Or.inr z)
  exact W.aald (v := .ref (io r9)) (ty := .object "AsteroTone$Claim") hx.1 hx.2.1 (h1.1 q _ hq h9) ((hx.arr (ty := .object "AsteroTone$Claim") ⟨4, rfl⟩).1 _ _) rfl (fun z => by cases z) (by rw [arrV_size]; exact hin) (by rw [arrV_read _ _ hlt]; exact congrArg some (congrArg (arv io) hr)) rfl rfl d (kk io H locs ls h1 h2 h3 (h4.tl.tl.r (h1.2.2.2.1 q _ r9 (by rw [hq]; simp) hr)) h5 h6)

theorem g_aaloadClaim_N (hx : aCx p l s m args meth c own cc nL ret E) {q N : Nat} {i : Int32} (d : decode cc pc = .ok (.aaload, 1)) (hn : pc + 1 = nx) (hq : S q = some (.inl (.object "AsteroTone$Claim", N))) (h9 : q ≠ 2) (hin : vp_in i N) (hr : Rf q i.toNatClampNeg = none) (kk : aG p l e R s m args below meth c E io0 S0 nL Q nx lv (.null :: st) S (I) (L) (Rf) k n) : aG p l e R s m args below meth c E io0 S0 nL Q pc lv (.int i :: .ref q :: st) S (I) (L) (Rf) k n := by
  subst hn
  intro io H locs ls h1 h2 h3 h4 h5 h6
  have hlt : i.toNatClampNeg < N := Nat.not_le.mp fun z => hin (Or.inr z)
  exact W.aald (v := .null) (ty := .object "AsteroTone$Claim") hx.1 hx.2.1 (h1.1 q _ hq h9) ((hx.arr (ty := .object "AsteroTone$Claim") ⟨4, rfl⟩).1 _ _) rfl (fun z => by cases z) (by rw [arrV_size]; exact hin) (by rw [arrV_read _ _ hlt]; exact congrArg some (congrArg (arv io) hr)) rfl rfl d (kk io H locs ls h1 h2 h3 (h4.tl.tl.n) h5 h6)

theorem g_iastore (hx : aCx p l s m args meth c own cc nL ret E) {q N : Nat} {i : Int32} {v : Int32} (d : decode cc pc = .ok (.iastore, 1)) (hn : pc + 1 = nx) (hq : S q = some (.inl (.int, N))) (h9 : q ≠ 2) (hin : vp_in i N) (kk : aG p l e R s m args below meth c E io0 S0 nL Q nx lv (st) S (au2 I q i.toNatClampNeg v) (L) (Rf) k n) : aG p l e R s m args below meth c E io0 S0 nL Q pc lv (.int v :: .int i :: .ref q :: st) S (I) (L) (Rf) k n := by
  subst hn
  intro io H locs ls h1 h2 h3 h4 h5 h6
  refine W.iast hx.1 hx.2.1 (h1.1 q _ hq h9) ((hx.arr (ty := .int) ⟨0, rfl⟩).1 _ _) (fun z => by cases z) (by rw [arrV_size]; exact hin) rfl rfl d fun H' e1 e2 e3 => ?_
  refine kk io H' _ ls (h1.puti hq (e1.trans ?_) e3) h2 h3 h4.tl.tl.tl (h5.put e2 e3 (h1.2.2.1 q (by rw [hq]; simp) h9)) h6
  rw [arrV_store]
  refine congrArg some (congrArg (arrV _ _) (funext fun b => ?_))
  by_cases e : b = i.toNatClampNeg
  · subst e; exact (if_pos rfl).trans (congrArg Value.int (au2_s _ _ _ _)).symm
  · exact (if_neg e).trans (asv_congr (au2_n (fun z => e z.2)) rfl rfl (fun _ _ => rfl)).symm

theorem g_lastore (hx : aCx p l s m args meth c own cc nL ret E) {q N : Nat} {i : Int32} {v : Int64} (d : decode cc pc = .ok (.lastore, 1)) (hn : pc + 1 = nx) (hq : S q = some (.inl (.long, N))) (h9 : q ≠ 2) (hin : vp_in i N) (kk : aG p l e R s m args below meth c E io0 S0 nL Q nx lv (st) S (I) (au2 L q i.toNatClampNeg v) (Rf) k n) : aG p l e R s m args below meth c E io0 S0 nL Q pc lv (.long v :: .int i :: .ref q :: st) S (I) (L) (Rf) k n := by
  subst hn
  intro io H locs ls h1 h2 h3 h4 h5 h6
  refine W.last hx.1 hx.2.1 (h1.1 q _ hq h9) ((hx.arr (ty := .long) ⟨1, rfl⟩).1 _ _) (fun z => by cases z) (by rw [arrV_size]; exact hin) rfl rfl d fun H' e1 e2 e3 => ?_
  refine kk io H' _ ls (h1.putl hq (e1.trans ?_) e3) h2 h3 h4.tl.tl.tl (h5.put e2 e3 (h1.2.2.1 q (by rw [hq]; simp) h9)) h6
  rw [arrV_store]
  refine congrArg some (congrArg (arrV _ _) (funext fun b => ?_))
  by_cases e : b = i.toNatClampNeg
  · subst e; exact (if_pos rfl).trans (congrArg Value.long (au2_s _ _ _ _)).symm
  · exact (if_neg e).trans (asv_congr rfl (au2_n (fun z => e z.2)) rfl (fun _ _ => rfl)).symm

theorem g_bastore (hx : aCx p l s m args meth c own cc nL ret E) {q N : Nat} {i : Int32} {v : Int32} (d : decode cc pc = .ok (.bastore, 1)) (hn : pc + 1 = nx) (hq : S q = some (.inl (.boolean, N))) (h9 : q ≠ 2) (hin : vp_in i N) (hb : narrow .boolean (.int v) = .int v) (kk : aG p l e R s m args below meth c E io0 S0 nL Q nx lv (st) S (au2 I q i.toNatClampNeg v) (L) (Rf) k n) : aG p l e R s m args below meth c E io0 S0 nL Q pc lv (.int v :: .int i :: .ref q :: st) S (I) (L) (Rf) k n := by
  subst hn
  intro io H locs ls h1 h2 h3 h4 h5 h6
  refine W.zast hx.1 hx.2.1 (h1.1 q _ hq h9) ((hx.arr (ty := .boolean) ⟨2, rfl⟩).1 _ _) (fun z => by cases z) (by rw [arrV_size]; exact hin) rfl rfl d fun H' e1 e2 e3 => ?_
  rw [hb] at e1
  refine kk io H' _ ls (h1.puti hq (e1.trans ?_) e3) h2 h3 h4.tl.tl.tl (h5.put e2 e3 (h1.2.2.1 q (by rw [hq]; simp) h9)) h6
  rw [arrV_store]
  refine congrArg some (congrArg (arrV _ _) (funext fun b => ?_))
  by_cases e : b = i.toNatClampNeg
  · subst e; exact (if_pos rfl).trans (congrArg Value.int (au2_s _ _ _ _)).symm
  · exact (if_neg e).trans (asv_congr (au2_n (fun z => e z.2)) rfl rfl (fun _ _ => rfl)).symm

theorem g_aastoreStar (hx : aCx p l s m args meth c own cc nL ret E) {q N v : Nat} {i : Int32} (d : decode cc pc = .ok (.aastore, 1)) (hn : pc + 1 = nx) (hq : S q = some (.inl (.object "AsteroTone$Star", N))) (h9 : q ≠ 2) (hin : vp_in i N) (hv : S v = some (.inr 2)) (h8 : v ≠ 2) (kk : aG p l e R s m args below meth c E io0 S0 nL Q nx lv (st) S (I) (L) (au2 Rf q i.toNatClampNeg (some v)) k n) : aG p l e R s m args below meth c E io0 S0 nL Q pc lv (.ref v :: .int i :: .ref q :: st) S (I) (L) (Rf) k n := by
  subst hn
  intro io H locs ls h1 h2 h3 h4 h5 h6
  have hlt : i.toNatClampNeg < N := Nat.not_le.mp fun z => hin (Or.inr z)
  have h0 : ¬ i < 0 := fun z => hin (Or.inl z)
  obtain ⟨r, hr, cellV, g1, g2, g3, -⟩ := h1.1 v _ hv h8
  cases hr
  have hcls := (hx.K.1 2 _ rfl).2
  obtain ⟨kA, comp, k1, k2, k3, -⟩ := (hx.arr (ty := .object "AsteroTone$Star") ⟨3, rfl⟩).2
  have hcomp : comp = E.1.1 2 := Option.some.inj (k3.symm.trans hcls.1)
  subst hcomp
  obtain ⟨kC, hkC, -⟩ := hcls.2
  refine W.aast hx.1 hx.2.1 (h1.1 q _ hq h9) (fun q h => by cases h) (fun h => by cases h) k1 k2 rfl hkC ⟨h0, by rw [arrV_size]; exact hlt⟩ g1 (fun q h => by rw [g3] at h; cases h) (by rw [g2]; exact hkC) (by rw [g2]; exact va_assign hcls) rfl rfl d fun H' e1 e2 e3 => ?_
  refine kk io H' _ ls (h1.putr hq (e1.trans ?_) e3 (fun r e => by cases e; rw [hv]; simp)) h2 h3 h4.tl.tl.tl (h5.put e2 e3 (h1.2.2.1 q (by rw [hq]; simp) h9)) h6
  rw [arrV_store]
  refine congrArg some (congrArg (arrV _ _) (funext fun b => ?_))
  by_cases e : b = i.toNatClampNeg
  · subst e; exact (if_pos rfl).trans (show arv io (some v) = _ from (congrArg (arv io) (au2_s _ _ _ _)).symm)
  · exact (if_neg e).trans (asv_congr rfl rfl (au2_n (fun z => e z.2)) (fun _ _ => rfl)).symm

theorem g_aastoreClaim (hx : aCx p l s m args meth c own cc nL ret E) {q N v : Nat} {i : Int32} (d : decode cc pc = .ok (.aastore, 1)) (hn : pc + 1 = nx) (hq : S q = some (.inl (.object "AsteroTone$Claim", N))) (h9 : q ≠ 2) (hin : vp_in i N) (hv : S v = some (.inr 0)) (h8 : v ≠ 2) (kk : aG p l e R s m args below meth c E io0 S0 nL Q nx lv (st) S (I) (L) (au2 Rf q i.toNatClampNeg (some v)) k n) : aG p l e R s m args below meth c E io0 S0 nL Q pc lv (.ref v :: .int i :: .ref q :: st) S (I) (L) (Rf) k n := by
  subst hn
  intro io H locs ls h1 h2 h3 h4 h5 h6
  have hlt : i.toNatClampNeg < N := Nat.not_le.mp fun z => hin (Or.inr z)
  have h0 : ¬ i < 0 := fun z => hin (Or.inl z)
  obtain ⟨r, hr, cellV, g1, g2, g3, -⟩ := h1.1 v _ hv h8
  cases hr
  have hcls := (hx.K.1 0 _ rfl).2
  obtain ⟨kA, comp, k1, k2, k3, -⟩ := (hx.arr (ty := .object "AsteroTone$Claim") ⟨4, rfl⟩).2
  have hcomp : comp = E.1.1 0 := Option.some.inj (k3.symm.trans hcls.1)
  subst hcomp
  obtain ⟨kC, hkC, -⟩ := hcls.2
  refine W.aast hx.1 hx.2.1 (h1.1 q _ hq h9) (fun q h => by cases h) (fun h => by cases h) k1 k2 rfl hkC ⟨h0, by rw [arrV_size]; exact hlt⟩ g1 (fun q h => by rw [g3] at h; cases h) (by rw [g2]; exact hkC) (by rw [g2]; exact va_assign hcls) rfl rfl d fun H' e1 e2 e3 => ?_
  refine kk io H' _ ls (h1.putr hq (e1.trans ?_) e3 (fun r e => by cases e; rw [hv]; simp)) h2 h3 h4.tl.tl.tl (h5.put e2 e3 (h1.2.2.1 q (by rw [hq]; simp) h9)) h6
  rw [arrV_store]
  refine congrArg some (congrArg (arrV _ _) (funext fun b => ?_))
  by_cases e : b = i.toNatClampNeg
  · subst e; exact (if_pos rfl).trans (show arv io (some v) = _ from (congrArg (arv io) (au2_s _ _ _ _)).symm)
  · exact (if_neg e).trans (asv_congr rfl rfl (au2_n (fun z => e z.2)) (fun _ _ => rfl)).symm

theorem g_alen (hx : aCx p l s m args meth c own cc nL ret E) {q N : Nat} {ty : FieldType} (d : decode cc pc = .ok (.arraylength, 1)) (hn : pc + 1 = nx) (hq : S q = some (.inl (ty, N))) (h9 : q ≠ 2) (ht : ∃ i : Nat, (aTys E)[i]? = some (E.2.1 ty, ty)) (kk : aG p l e R s m args below meth c E io0 S0 nL Q nx lv (.int (Int32.ofNat N) :: st) S (I) (L) (Rf) k n) : aG p l e R s m args below meth c E io0 S0 nL Q pc lv (.ref q :: st) S (I) (L) (Rf) k n := by
  subst hn
  intro io H locs ls h1 h2 h3 h4 h5 h6
  exact W.alen (n := Int32.ofNat N) hx.1 hx.2.1 (h1.1 q _ hq h9) ((hx.arr ht).1 _ _) (by rw [arrV_size]) rfl rfl d (kk io H locs ls h1 h2 h3 h4.tl.i h5 h6)
/-- the table of cosines -/
theorem g_cosT (hx : aCx p l s m args meth c own cc nL ret E) {idx : Nat} (d : decode cc pc = .ok (.getstatic idx, 3)) (hn : pc + 3 = nx) (hw : Cond.fieldLink own idx "AsteroTone" "COSINES" "[I" ∈ aBIG) (hq : S 2 ≠ none) (kk : aG p l e R s m args below meth c E io0 S0 nL Q nx lv (.ref 2 :: st) S (I) (L) (Rf) k n) : aG p l e R s m args below meth c E io0 S0 nL Q pc lv (st) S (I) (L) (Rf) k n := by
  subst hn
  intro io H locs ls h1 h2 h3 h4 h5 h6
  have hZ := hx.2.2.2.2.2.2.1.2.2.2.2.2.2.2.1
  refine va_gets hx.1 hx.2.1 hZ h5 hx.2.2.2.1 (hx.W hw) (fun _ h => h) d ?_
  rw [← h1.2.2.2.2.1]
  exact kk io H locs ls h1 h2 h3 (h4.r hq) h5 h6
theorem g_cosA (hx : aCx p l s m args meth c own cc nL ret E) {i : Int32} (d : decode cc pc = .ok (.iaload, 1)) (hn : pc + 1 = nx) (hin : vp_in i 64) (kk : aG p l e R s m args below meth c E io0 S0 nL Q nx lv (.int (acos i.toNatClampNeg) :: st) S (I) (L) (Rf) k n) : aG p l e R s m args below meth c E io0 S0 nL Q pc lv (.int i :: .ref 2 :: st) S (I) (L) (Rf) k n := by
  subst hn
  intro io H locs ls h1 h2 h3 h4 h5 h6
  have hX := hx.2.2.2.2.2.2.1.2.2.2.2.2.2.2.2.1
  have hlt := hx.2.2.2.2.2.2.1.2.2.2.2.2.2.2.2.2.1
  have hz := hx.2.2.2.2.2.2.1.2.2.2.2.2.2.2.2.2.2.1
  show W p l e R s m args below meth c H locs k n Q (F0 m pc ls (.int i :: .ref (io 2) :: st.map (arn io)))
  rw [h1.2.2.2.2.1]
  exact va_sld hx.1 hx.2.1 hX (Nat.lt_of_lt_of_le hlt hz) (Nat.not_le.mpr hlt) h5 hin d (kk io H locs ls h1 h2 h3 h4.tl.tl.i h5 h6)

end AH
end
section
/-! new cells -/
def azr {α : Type} (f : Nat → Nat → α) (q : Nat) (z : α) : Nat → Nat → α := fun a b => if a = q then z else f a b
theorem azr_s {α : Type} (f : Nat → Nat → α) (q b : Nat) (z : α) : azr f q z q b = z := by simp [azr]
theorem azr_n {α : Type} {f : Nat → Nat → α} {q a b : Nat} {z : α} (h : a ≠ q) : azr f q z a b = f a b := by simp [azr, h]
theorem aHR.new {E : aE} {io : aM} {S : aS} {I : aI} {L : aL} {R : aR} {H H1 : Heap} {q : Nat} {x : (FieldType × Nat) ⊕ Nat} (h : aHR E io S I L R H) (hq : S q = none) (h9 : q ≠ 2) (hz : E.2.2.1 ≤ H.size) (hk : ∀ a, a < H.size → H1[a]? = H[a]?) (hc : aCell E (au1 io q H.size) (azr I q 0) (azr L q 0) (azr R q none) x q H1) : aHR E (au1 io q H.size) (au1 S q (some x)) (azr I q 0) (azr L q 0) (azr R q none) H1 := by
  obtain ⟨h1, h2, h3, h4, h5, h6⟩ := h
  have lt : ∀ r, S r ≠ none → io r < H.size := by
    intro r hr
    by_cases e : r = 2
    · rw [e, h5]; exact Nat.lt_of_lt_of_le h6 hz
    · cases hs : S r with
      | none => exact absurd hs hr
      | some y => exact (h1 r y hs e).lt
  have nq : ∀ r, S r ≠ none → r ≠ q := fun r hr e => hr (by rw [e]; exact hq)
  refine ⟨fun r y hr h2' => ?_, fun a b ha hb hab => ?_, fun a ha h2' => ?_, fun a b r ha hr => ?_, by rw [au1_n (Ne.symm h9)]; exact h5, h6⟩
  · by_cases e : r = q
    · subst e; rw [au1_s] at hr; cases hr; exact hc
    · rw [au1_n e] at hr
      have hne : S r ≠ none := by rw [hr]; simp
      refine ((h1 r y hr h2').kept (hk _ (lt r hne))).congr (au1_n e).symm (fun _ => (azr_n e).symm) (fun _ => (azr_n e).symm) (fun _ => (azr_n e).symm) fun j r' hr' => ?_
      rw [azr_n e] at hr'
      exact (au1_n (nq r' (h4 r j r' hne hr'))).symm
  · by_cases ea : a = q
    · by_cases eb : b = q
      · rw [ea, eb]
      · rw [ea, au1_s, au1_n eb] at hab
        rw [au1_n eb] at hb
        exact absurd hab.symm (Nat.ne_of_lt (lt b hb))
    · by_cases eb : b = q
      · rw [eb, au1_s, au1_n ea] at hab
        rw [au1_n ea] at ha
        exact absurd hab (Nat.ne_of_lt (lt a ha))
      · rw [au1_n ea, au1_n eb] at hab
        rw [au1_n ea] at ha
        rw [au1_n eb] at hb
        exact h2 a b ha hb hab
  · by_cases ea : a = q
    · rw [ea, au1_s]; exact hz
    · rw [au1_n ea] at ha ⊢
      exact h3 a ha h2'
  · by_cases ea : a = q
    · rw [ea, azr_s] at hr; cases hr
    · rw [au1_n ea] at ha
      rw [azr_n ea] at hr
      have h7 := h4 a b r ha hr
      rw [au1_n (nq r h7)]
      exact h7
theorem asv_new {io : aM} {ty : FieldType} {I : aI} {L : aL} {R : aR} {q b : Nat} (h : (match ty with | .float => false | .double => false | _ => true) = true) : defaultValue ty = asv io ty (azr I q 0) (azr L q 0) (azr R q none) q b := by
  cases ty <;> first | (simp only [asv, azr_s, arv]; rfl) | cases h
section AN
variable {p : Program} {l : Launch} {e : Env} {R : Room} {s : State} {m : MethodId} {args : Array Value} {below : List Frame} {meth : Method} {c : Code} {E : aE} {io0 : aM} {S0 : aS} {nL : Nat} {Q : State → Prop}
variable {own : String} {cc : ByteArray} {ret : Option FieldType} {pc nx : Nat} {lv st : List Value} {S : aS} {I : aI} {L : aL} {Rf : aR} {k n : Nat}
theorem aCx.z (hx : aCx p l s m args meth c own cc nL ret E) : E.2.2.1 ≤ s.heap.size := hx.2.2.2.2.2.2.1.2.2.2.2.2.2.2.2.2.2.1

theorem aG.new {q : Nat} {x : (FieldType × Nat) ⊕ Nat} {io : aM} {H H1 : Heap} {locs : List Loc} {ls : Array Slot} (hz : E.2.2.1 ≤ s.heap.size) (kk : aG p l e R s m args below meth c E io0 S0 nL Q nx lv (.ref q :: st) (au1 S q (some x)) (azr I q 0) (azr L q 0) (azr Rf q none) (k) (n)) (hq : S q = none) (h9 : q ≠ 2) (h1 : aHR E io S I L Rf H) (h2 : ∀ q, S0 q ≠ none → io q = io0 q ∧ S q = S0 q) (h3 : aOk S lv) (h4 : aOk S st) (h5 : va_S (aW E) s.heap H locs) (h6 : aLc io nL lv ls) (hs : H.size ≤ H1.size) (hk : ∀ a, a < H.size → H1[a]? = H[a]?) (hc : aCell E (au1 io q H.size) (azr I q 0) (azr L q 0) (azr Rf q none) x q H1) : W p l e R s m args below meth c H1 locs k n Q (F0 m nx ls (.ref H.size :: st.map (arn io))) := by
  have nq : ∀ r, S r ≠ none → r ≠ q := fun r hr e => hr (by rw [e]; exact hq)
  have hio : ∀ r, S r ≠ none → au1 io q H.size r = io r := fun r hr => au1_n (nq r hr)
  have hm : ∀ r, S r ≠ none → au1 S q (some x) r ≠ none := fun r hr => by rw [au1_n (nq r hr)]; exact hr
  have K := kk (au1 io q H.size) H1 locs ls (h1.new hq h9 (Nat.le_trans hz h5.1) hk hc) (fun r hr => by
    have h7 := h2 r hr
    have h8 : S r ≠ none := by rw [h7.2]; exact hr
    exact ⟨(hio r h8).trans h7.1, (au1_n (nq r h8)).trans h7.2⟩) (h3.mono hm) ((h4.mono hm).r (by rw [au1_s]; simp)) ⟨Nat.le_trans h5.1 hs, fun a ha hn => (hk a (Nat.lt_of_lt_of_le ha h5.1)).trans (h5.2.1 a ha hn), h5.2.2⟩ (h6.congr h3 hio)
  have e1 : (Value.ref q :: st).map (arn (au1 io q H.size)) = .ref H.size :: st.map (arn io) := by
    rw [List.map_cons, arn_congr h4 hio]
    exact congrArg (fun z => Value.ref z :: _) (au1_s io q H.size)
  rw [e1] at K
  exact K

theorem g_newarrayint (hx : aCx p l s m args meth c own cc nL ret E) {i : Int32} {N q k' n' : Nat} (d : decode cc pc = .ok (.newarray .int, 2)) (hn : pc + 2 = nx) (hw : Cond.arrayClass .int ∈ aBIG) (hi : ¬ i < 0) (hN : i.toNatClampNeg = N) (hb : N * 8 ≤ 536870912) (hq : S q = none) (h9 : q ≠ 2) (hk : k + 1 = k') (hs : n + N = n') (hc : k' ≤ R.cells) (hsl : n' ≤ R.slots) (kk : aG p l e R s m args below meth c E io0 S0 nL Q nx lv (.ref q :: st) (au1 S q (some (.inl (.int, N)))) (azr I q 0) (azr L q 0) (azr Rf q none) (k') (n')) : aG p l e R s m args below meth c E io0 S0 nL Q pc lv (.int i :: st) (S) (I) (L) (Rf) (k) (n) := by
  subst hn; subst hk; subst hs
  intro io H locs ls h1 h2 h3 h4 h5 h6
  refine va_newaK hx.1 hx.2.1 (atype := .int) (hx.W hw) rfl d rfl hi hN (Nat.le_trans (Nat.mul_le_mul_left N (by decide)) hb) hc hsl rfl fun H1 cA e1 z1 o1 _ hf => ?_
  have hcA : cA = E.2.1 .int := Option.some.inj (hf.symm.trans (hx.arr (ty := .int) ⟨0, rfl⟩).2)
  subst hcA
  exact aG.new hx.z kk hq h9 h1 h2 h3 h4.tl h5 h6 (by omega) o1 (by
    show H1[au1 io q H.size q]? = _
    rw [au1_s]
    exact e1.trans (congrArg some (congrArg (arrV _ _) (funext fun b => asv_new (ty := .int) rfl))))

theorem g_newarraylong (hx : aCx p l s m args meth c own cc nL ret E) {i : Int32} {N q k' n' : Nat} (d : decode cc pc = .ok (.newarray .long, 2)) (hn : pc + 2 = nx) (hw : Cond.arrayClass .long ∈ aBIG) (hi : ¬ i < 0) (hN : i.toNatClampNeg = N) (hb : N * 8 ≤ 536870912) (hq : S q = none) (h9 : q ≠ 2) (hk : k + 1 = k') (hs : n + N = n') (hc : k' ≤ R.cells) (hsl : n' ≤ R.slots) (kk : aG p l e R s m args below meth c E io0 S0 nL Q nx lv (.ref q :: st) (au1 S q (some (.inl (.long, N)))) (azr I q 0) (azr L q 0) (azr Rf q none) (k') (n')) : aG p l e R s m args below meth c E io0 S0 nL Q pc lv (.int i :: st) (S) (I) (L) (Rf) (k) (n) := by
  subst hn; subst hk; subst hs
  intro io H locs ls h1 h2 h3 h4 h5 h6
  refine va_newaK hx.1 hx.2.1 (atype := .long) (hx.W hw) rfl d rfl hi hN (Nat.le_trans (Nat.mul_le_mul_left N (by decide)) hb) hc hsl rfl fun H1 cA e1 z1 o1 _ hf => ?_
  have hcA : cA = E.2.1 .long := Option.some.inj (hf.symm.trans (hx.arr (ty := .long) ⟨1, rfl⟩).2)
  subst hcA
  exact aG.new hx.z kk hq h9 h1 h2 h3 h4.tl h5 h6 (by omega) o1 (by
    show H1[au1 io q H.size q]? = _
    rw [au1_s]
    exact e1.trans (congrArg some (congrArg (arrV _ _) (funext fun b => asv_new (ty := .long) rfl))))

theorem g_newarrayboolean (hx : aCx p l s m args meth c own cc nL ret E) {i : Int32} {N q k' n' : Nat} (d : decode cc pc = .ok (.newarray .boolean, 2)) (hn : pc + 2 = nx) (hw : Cond.arrayClass .boolean ∈ aBIG) (hi : ¬ i < 0) (hN : i.toNatClampNeg = N) (hb : N * 8 ≤ 536870912) (hq : S q = none) (h9 : q ≠ 2) (hk : k + 1 = k') (hs : n + N = n') (hc : k' ≤ R.cells) (hsl : n' ≤ R.slots) (kk : aG p l e R s m args below meth c E io0 S0 nL Q nx lv (.ref q :: st) (au1 S q (some (.inl (.boolean, N)))) (azr I q 0) (azr L q 0) (azr Rf q none) (k') (n')) : aG p l e R s m args below meth c E io0 S0 nL Q pc lv (.int i :: st) (S) (I) (L) (Rf) (k) (n) := by
  subst hn; subst hk; subst hs
  intro io H locs ls h1 h2 h3 h4 h5 h6
  refine va_newaK hx.1 hx.2.1 (atype := .boolean) (hx.W hw) rfl d rfl hi hN (Nat.le_trans (Nat.mul_le_mul_left N (by decide)) hb) hc hsl rfl fun H1 cA e1 z1 o1 _ hf => ?_
  have hcA : cA = E.2.1 .boolean := Option.some.inj (hf.symm.trans (hx.arr (ty := .boolean) ⟨2, rfl⟩).2)
  subst hcA
  exact aG.new hx.z kk hq h9 h1 h2 h3 h4.tl h5 h6 (by omega) o1 (by
    show H1[au1 io q H.size q]? = _
    rw [au1_s]
    exact e1.trans (congrArg some (congrArg (arrV _ _) (funext fun b => asv_new (ty := .boolean) rfl))))

theorem g_anewarrayStar (hx : aCx p l s m args meth c own cc nL ret E) {i : Int32} {ix N q k' n' : Nat} (d : decode cc pc = .ok (.anewarray ix, 3)) (hn : pc + 3 = nx) (hw : Cond.classLink own ix "AsteroTone$Star" ∈ aBIG) (hi : ¬ i < 0) (hN : i.toNatClampNeg = N) (hb : N * 4 ≤ 536870912) (hq : S q = none) (h9 : q ≠ 2) (hk : k + 1 = k') (hs : n + N = n') (hc : k' ≤ R.cells) (hsl : n' ≤ R.slots) (kk : aG p l e R s m args below meth c E io0 S0 nL Q nx lv (.ref q :: st) (au1 S q (some (.inl (.object "AsteroTone$Star", N)))) (azr I q 0) (azr L q 0) (azr Rf q none) (k') (n')) : aG p l e R s m args below meth c E io0 S0 nL Q pc lv (.int i :: st) (S) (I) (L) (Rf) (k) (n) := by
  subst hn; subst hk; subst hs; subst hN
  intro io H locs ls h1 h2 h3 h4 h5 h6
  refine W.anew hx.1 hx.2.1 hx.2.2.2.1 (hx.W hw) (va_AO.use hx.2.2.2.2.2.2.1.2.2.1) rfl d rfl hi hb hc hsl fun cA kA comp f1 f2 f3 f4 => ?_
  obtain ⟨kA', comp', k1, k2, k3, k4⟩ := (hx.arr (ty := .object "AsteroTone$Star") ⟨3, rfl⟩).2
  have hcA : cA = E.2.1 (.object "AsteroTone$Star") := Option.some.inj (f1.symm.trans k4)
  subst hcA
  generalize hH1 : H.push ({ cls := E.2.1 (.object "AsteroTone$Star"), slots := Array.replicate i.toNatClampNeg .null, vm := .none } : Cell) = H1
  have z1 : H1.size = H.size + 1 := by rw [← hH1, Array.size_push]
  have e1 : H1[H.size]? = some (arrV (E.2.1 (.object "AsteroTone$Star")) i.toNatClampNeg (fun _ => .null)) := by rw [← hH1, Array.getElem?_push_size, ← arrV_new]
  have o1 : ∀ q : Nat, q < H.size → H1[q]? = H[q]? := fun q hq => by rw [← hH1, Array.getElem?_push, if_neg (Nat.ne_of_lt hq)]
  exact aG.new hx.z kk hq h9 h1 h2 h3 h4.tl h5 h6 (by omega) o1 (by
    show H1[au1 io q H.size q]? = _
    rw [au1_s]
    exact e1.trans (congrArg some (congrArg (arrV _ _) (funext fun b => asv_new (ty := .object "AsteroTone$Star") rfl))))

theorem g_anewarrayClaim (hx : aCx p l s m args meth c own cc nL ret E) {i : Int32} {ix N q k' n' : Nat} (d : decode cc pc = .ok (.anewarray ix, 3)) (hn : pc + 3 = nx) (hw : Cond.classLink own ix "AsteroTone$Claim" ∈ aBIG) (hi : ¬ i < 0) (hN : i.toNatClampNeg = N) (hb : N * 4 ≤ 536870912) (hq : S q = none) (h9 : q ≠ 2) (hk : k + 1 = k') (hs : n + N = n') (hc : k' ≤ R.cells) (hsl : n' ≤ R.slots) (kk : aG p l e R s m args below meth c E io0 S0 nL Q nx lv (.ref q :: st) (au1 S q (some (.inl (.object "AsteroTone$Claim", N)))) (azr I q 0) (azr L q 0) (azr Rf q none) (k') (n')) : aG p l e R s m args below meth c E io0 S0 nL Q pc lv (.int i :: st) (S) (I) (L) (Rf) (k) (n) := by
  subst hn; subst hk; subst hs; subst hN
  intro io H locs ls h1 h2 h3 h4 h5 h6
  refine W.anew hx.1 hx.2.1 hx.2.2.2.1 (hx.W hw) (va_AO.use hx.2.2.2.2.2.2.1.2.2.2.1) rfl d rfl hi hb hc hsl fun cA kA comp f1 f2 f3 f4 => ?_
  obtain ⟨kA', comp', k1, k2, k3, k4⟩ := (hx.arr (ty := .object "AsteroTone$Claim") ⟨4, rfl⟩).2
  have hcA : cA = E.2.1 (.object "AsteroTone$Claim") := Option.some.inj (f1.symm.trans k4)
  subst hcA
  generalize hH1 : H.push ({ cls := E.2.1 (.object "AsteroTone$Claim"), slots := Array.replicate i.toNatClampNeg .null, vm := .none } : Cell) = H1
  have z1 : H1.size = H.size + 1 := by rw [← hH1, Array.size_push]
  have e1 : H1[H.size]? = some (arrV (E.2.1 (.object "AsteroTone$Claim")) i.toNatClampNeg (fun _ => .null)) := by rw [← hH1, Array.getElem?_push_size, ← arrV_new]
  have o1 : ∀ q : Nat, q < H.size → H1[q]? = H[q]? := fun q hq => by rw [← hH1, Array.getElem?_push, if_neg (Nat.ne_of_lt hq)]
  exact aG.new hx.z kk hq h9 h1 h2 h3 h4.tl h5 h6 (by omega) o1 (by
    show H1[au1 io q H.size q]? = _
    rw [au1_s]
    exact e1.trans (congrArg some (congrArg (arrV _ _) (funext fun b => asv_new (ty := .object "AsteroTone$Claim") rfl))))

theorem g_new (hx : aCx p l s m args meth c own cc nL ret E) {ci ix q k' n' : Nat} {r : vw_C} (d : decode cc pc = .ok (.new ix, 3)) (hn : pc + 3 = nx) (hr : aCl[ci]? = some r) (hw1 : Cond.classLink own ix r.1 ∈ aBIG) (hw2 : Cond.instantiable r.1 r.2.2 ∈ aBIG) (hw3 : Cond.initialized r.1 ∈ aBIG) (hf : ∀ b, b < r.2.2 → (match atyT ci b with | .float => false | .double => false | _ => true) = true) (hq : S q = none) (h9 : q ≠ 2) (hk : k + 1 = k') (hs : n + r.2.2 = n') (hc : k' ≤ R.cells) (hsl : n' ≤ R.slots) (kk : aG p l e R s m args below meth c E io0 S0 nL Q nx lv (.ref q :: st) (au1 S q (some (.inr ci))) (azr I q 0) (azr L q 0) (azr Rf q none) (k') (n')) : aG p l e R s m args below meth c E io0 S0 nL Q pc lv (st) (S) (I) (L) (Rf) (k) (n) := by
  subst hn; subst hk; subst hs
  intro io H locs ls h1 h2 h3 h4 h5 h6
  have hKn := hx.K.1 ci _ hr
  refine W.newcK hx.1 hx.2.1 hx.2.2.2.1 (hx.W hw1) (hx.W hw2) (hx.W hw3) rfl d hc hsl hKn.2.1 rfl fun H1 kC hkC e1 z1 o1 => ?_
  refine aG.new hx.z kk hq h9 h1 h2 h3 h4 h5 h6 (by omega) o1 ⟨r, hr, ?_⟩
  rw [au1_s]
  exact (u_born (atyT ci) hx.2.2.2.2.1 (abig_u ci r hr) hKn hkC e1 (acl_ty ci r hr)).to fun b hb => asv_new (hf b hb)
theorem g_objInit (hx : aCx p l s m args meth c own cc nL ret E) {ix q : Nat} (d : decode cc pc = .ok (.invokespecial ix, 3)) (hn : pc + 3 = nx) (hw1 : Cond.methodLink own ix objectInit ∈ aBIG) (hw2 : Cond.instanceMethod objectInit ∈ aBIG) (hw3 : Cond.code objectInit ⟨#[0xb1]⟩ 1 none ∈ aBIG) (hf : 1 ≤ R.frames) (hl : (st.map fun v => v.category).sum + 12 ≤ R.locals) (kk : aG p l e R s m args below meth c E io0 S0 nL Q nx lv (st) (S) (I) (L) (Rf) (k) (n)) : aG p l e R s m args below meth c E io0 S0 nL Q pc lv (.ref q :: st) (S) (I) (L) (Rf) (k) (n) := by
  subst hn
  intro io H locs ls h1 h2 h3 h4 h5 h6
  have hcat : ((st.map (arn io)).map fun v => v.category).sum = (st.map fun v => v.category).sum := by
    rw [List.map_map]; congr 1; exact List.map_congr_left fun v _ => arn_cat io v
  refine W.objInit hx.1 hx.2.1 hx.2.2.2.1 (hx.W hw1) (hx.W hw2) (hx.W hw3) rfl (by rw [hx.2.2.1]; exact h6.1) rfl d hf ?_ (kk io H locs ls h1 h2 h3 h4.tl h5 h6)
  show 2 * 0 + _ + 12 ≤ _
  rw [hcat]; omega
theorem aG.widen {k' n' : Nat} (h1 : k ≤ k') (h2 : n ≤ n') (kk : aG p l e R s m args below meth c E io0 S0 nL Q pc lv (st) (S) (I) (L) (Rf) (k') (n')) : aG p l e R s m args below meth c E io0 S0 nL Q pc lv (st) (S) (I) (L) (Rf) (k) (n) := fun io H locs ls a1 a2 a3 a4 a5 a6 => W.widen h1 h2 (kk io H locs ls a1 a2 a3 a4 a5 a6)
end AN
/-! contracts -/
abbrev aK : Type := Option Value → aS → aI → aL → aR → Prop
abbrev aX : Type := String → aS → aI → aL → aR → Prop
def aPc (E : aE) (io0 : aM) (S : aS) (I : aI) (L : aL) (R : aR) (av : List Value) : Array Value → State → Prop := fun a U => a = (av.map (arn io0)).toArray ∧ aHR E io0 S I L R U.heap ∧ aEv E U ∧ aOk S av
def aQc (E : aE) (io0 : aM) (S0 : aS) (Kr : aK) : Array Value → State → Outcome → State → Prop := fun _ st o t =>
  (∃ (io : aM) (S : aS) (I : aI) (L : aL) (R : aR) (v : Option Value), o = .returned (v.map (arn io)) ∧ Kr v S I L R ∧ aOk S v.toList ∧ aHR E io S I L R t.heap ∧ ∀ q, S0 q ≠ none → io q = io0 q ∧ S q = S0 q) ∧ va_F (aW E) st t
def aXC (E : aE) (io0 : aM) (S0 : aS) (Kx : aX) : String → State → State → Prop := fun X st t =>
  (∃ (io : aM) (S : aS) (I : aI) (L : aL) (R : aR), Kx X S I L R ∧ aHR E io S I L R t.heap ∧ ∀ q, S0 q ≠ none → io q = io0 q ∧ S q = S0 q) ∧ va_F (aW E) st t
def aMet (l : Launch) (E : aE) (y : MethodName) (cc : ByteArray) (nL : Nat) (ret : Option FieldType) (rm : Room) (av : List Value) (S : aS) (I : aI) (L : aL) (R : aR) (Kr : aK) (Kx : aX) : Prop :=
  ∀ io0 : aM, vx_Met l y (Cond.code y cc nL ret :: aBIG) rm (aPc E io0 S I L R av) (aQc E io0 S Kr) (aXC E io0 S Kx) rm.cells rm.slots (aW E)
abbrev aNoX : aX := fun _ _ _ _ _ => False
theorem aPc.blind {E : aE} {io0 : aM} {S : aS} {I : aI} {L : aL} {R : aR} {av : List Value} : FrameBlind (aPc E io0 S I L R av) := fun _ U g mk h => ⟨h.1, h.2.1, aEv.same (u := U) (U := U.calling g mk _) rfl rfl h.2.2.1, h.2.2.2⟩
def aIni : List Value → List Value
  | [] => []
  | v :: t => if v.category = 2 then v :: aU :: aIni t else v :: aIni t
theorem aIni_at {io : aM} : ∀ (av : List Value) (o i : Nat) (v : Value) (z : Nat), (aIni av ++ List.replicate z aU)[i]? = some v → aKn v = true → (o + i, arn io v) ∈ lv_args o (av.map (arn io))
  | [], o, i, v, z, h, hk => by
    rw [aIni, List.nil_append, List.getElem?_replicate] at h
    split at h
    · cases h; cases hk
    · cases h
  | w :: t, o, i, v, z, h, hk => by
    rw [aIni] at h
    simp only [List.map_cons, lv_args, arn_cat]
    split at h
    · rename_i hc
      rw [if_pos hc]
      match i, h with
      | 0, h => cases h; exact List.mem_cons_self
      | 1, h => cases h; cases hk
      | i + 2, h =>
        have := aIni_at (io := io) t (o + 2) i v z (by simpa using h) hk
        rw [show o + (i + 2) = o + 2 + i by omega]
        exact List.mem_cons_of_mem _ this
    · rename_i hc
      rw [if_neg hc]
      match i, h with
      | 0, h => cases h; exact List.mem_cons_self
      | i + 1, h =>
        have := aIni_at (io := io) t (o + 1) i v z (by simpa using h) hk
        rw [show o + (i + 1) = o + 1 + i by omega]
        exact List.mem_cons_of_mem _ this
theorem aIni_ok {S : aS} : ∀ (av : List Value) (z : Nat), aOk S av → aOk S (aIni av ++ List.replicate z aU)
  | [], z, _ => fun v hv q e => by
    rw [aIni, List.nil_append] at hv
    rw [List.eq_of_mem_replicate hv] at e
    cases e
  | w :: t, z, h => by
    have ih := aIni_ok t z h.tl
    have hw : ∀ q, w = .ref q → S q ≠ none := h w List.mem_cons_self
    rw [aIni]
    split
    · exact aOk.cons hw (aOk.u ih)
    · exact aOk.cons hw ih
theorem lg_sl_len : ∀ (av : List Value) (io : aM), (lg_sl (av.map (arn io))).length = (aIni av).length
  | [], _ => rfl
  | w :: t, io => by
    have ih := lg_sl_len t io
    have ec : (arn io w).category = w.category := arn_cat io w
    by_cases hc : w.category = 2
    · have e : lg_sl ((w :: t).map (arn io)) = [.val (arn io w), .second] ++ lg_sl (t.map (arn io)) := by simp [lg_sl, ec, hc]
      rw [e, aIni, if_pos hc, List.length_append, ih]
      simp only [List.length_cons, List.length_nil]; omega
    · have e : lg_sl ((w :: t).map (arn io)) = [.val (arn io w)] ++ lg_sl (t.map (arn io)) := by simp [lg_sl, ec, hc]
      rw [e, aIni, if_neg hc, List.length_append, ih]
      simp only [List.length_cons, List.length_nil]; omega
section AMT
variable {l : Launch} {E : aE}
theorem aMet.of {y : MethodName} {cc : ByteArray} {nL : Nat} {ret : Option FieldType} {rm : Room} {av lv0 : List Value} {z : Nat} {S : aS} {I : aI} {L : aL} {Rf : aR} {Kr : aK} {Kx : aX} (hy : plainName y.cls = true) (hst : l.stackTraces = false) (h0 : aIni av ++ List.replicate z aU = lv0) (hlen : (aIni av).length ≤ nL)
    (body : ∀ (p : Program) (e : Env) (s : State) (m : MethodId) (args : Array Value) (below : List Frame) (meth : Method) (c : Code) (io0 : aM), aCx p l s m args meth c y.cls cc nL ret E → meth.name = y.name → (∀ x ∈ c.exceptionTable.toList, False) →
      aG p l e rm s m args below meth c E io0 S nL (vx_MQ below (aQc E io0 S Kr) (aXC E io0 S Kx) args s rm.cells rm.slots (aW E)) 0 lv0 [] S I L Rf 0 0) : aMet l E y cc nL ret rm av S I L Rf Kr Kx := by
  intro io0
  refine vx_ofW (ws' := aBIG) hy rfl ?_
  intro p e s m args below meth c s₁ B hml hno hv
  obtain ⟨rfl, hHR, hEv, hok⟩ := hv
  have hts := atoms_spec (ws := Cond.code y cc nL ret :: aBIG) B.pre
  have hl := lv_entry (av.map (arn io0)) (n := nL) (by rw [lg_sl_len]; exact hlen)
  rw [lg_entry_eq]
  subst h0
  refine body p e s m _ below meth c io0 ⟨B.exec, B.bytes, hml, findClass_of_methodNamed B.named, fun w hw => hts w (List.mem_cons_of_mem _ hw), B.notSynchronized, hEv, hst, B.returns⟩ (name_of_methodNamed B.named B.method).1 hno io0 s.heap [] _ hHR (fun _ _ => ⟨rfl, rfl⟩) (aIni_ok av z hok) aOk.nil va_S.rf ⟨hl.1, hl.2.1, fun i v hi hk => ?_⟩
  have h9 := aIni_at (io := io0) av 0 i v z hi hk
  rw [Nat.zero_add] at h9
  exact hl.2.2 _ h9
end AMT
end
section
/-! ends and calls -/
section AEND
variable {p : Program} {l : Launch} {e : Env} {R : Room} {s : State} {m : MethodId} {args : Array Value} {below : List Frame} {meth : Method} {c : Code} {E : aE} {io0 : aM} {S0 : aS} {nL : Nat} {Q : State → Prop}
variable {own : String} {cc : ByteArray} {ret : Option FieldType} {pc nx : Nat} {lv st : List Value} {S : aS} {I : aI} {L : aL} {Rf : aR} {k n mc ms : Nat} {Kr : aK} {Kx : aX}
theorem g_iret (hx : aCx p l s m args meth c own cc nL ret E) {v : Int32} {ty : FieldType} (d : decode cc pc = .ok (.ireturn, 1)) (hr : ret = some ty) (hnr : narrow ty (.int v) = .int v) (hk : k ≤ mc) (hs : n ≤ ms) (hK : Kr (some (.int v)) S I L Rf) : aG p l e R s m args below meth c E io0 S0 nL (vx_MQ below (aQc E io0 S0 Kr) (aXC E io0 S0 Kx) args s mc ms (aW E)) pc lv ([.int v]) (S) (I) (L) (Rf) (k) (n) := by
  subst hr
  intro io H locs ls h1 h2 h3 h4 h5 h6
  exact vx_ret (W.widen hk hs (W.zret (v := v) hx.1 hx.2.1 hx.2.2.2.2.2.2.2.2 hnr (fun t ht hW => ⟨⟨io, S, I, L, Rf, some (.int v), rfl, hK, aOk.nil.i, by rw [ht]; exact h1, h2⟩, h5.F ht⟩) h5.2.2 d hx.2.2.2.2.2.1))
theorem g_lret (hx : aCx p l s m args meth c own cc nL ret E) {v : Int64} (d : decode cc pc = .ok (.lreturn, 1)) (hr : ret = some .long) (hk : k ≤ mc) (hs : n ≤ ms) (hK : Kr (some (.long v)) S I L Rf) : aG p l e R s m args below meth c E io0 S0 nL (vx_MQ below (aQc E io0 S0 Kr) (aXC E io0 S0 Kx) args s mc ms (aW E)) pc lv ([.long v]) (S) (I) (L) (Rf) (k) (n) := by
  subst hr
  intro io H locs ls h1 h2 h3 h4 h5 h6
  exact vx_ret (W.widen hk hs (W.lret (v := v) hx.1 hx.2.1 hx.2.2.2.2.2.2.2.2 (fun t ht hW => ⟨⟨io, S, I, L, Rf, some (.long v), rfl, hK, aOk.nil.l, by rw [ht]; exact h1, h2⟩, h5.F ht⟩) h5.2.2 d hx.2.2.2.2.2.1))
theorem g_aret (hx : aCx p l s m args meth c own cc nL ret E) {q : Nat} {cn : String} (d : decode cc pc = .ok (.areturn, 1)) (hr : ret = some (.object cn)) (hk : k ≤ mc) (hs : n ≤ ms) (hK : Kr (some (.ref q)) S I L Rf) : aG p l e R s m args below meth c E io0 S0 nL (vx_MQ below (aQc E io0 S0 Kr) (aXC E io0 S0 Kx) args s mc ms (aW E)) pc lv ([.ref q]) (S) (I) (L) (Rf) (k) (n) := by
  subst hr
  intro io H locs ls h1 h2 h3 h4 h5 h6
  exact vx_ret (W.widen hk hs (W.aret (v := .ref (io q)) hx.1 hx.2.1 hx.2.2.2.2.2.2.2.2 (Or.inl ⟨_, rfl⟩) (Or.inr ⟨_, rfl⟩) (fun t ht hW => ⟨⟨io, S, I, L, Rf, some (.ref q), rfl, hK, h4, by rw [ht]; exact h1, h2⟩, h5.F ht⟩) h5.2.2 d hx.2.2.2.2.2.1))
theorem g_vret (hx : aCx p l s m args meth c own cc nL ret E) (d : decode cc pc = .ok (.return_, 1)) (hr : ret = none) (hk : k ≤ mc) (hs : n ≤ ms) (hK : Kr none S I L Rf) : aG p l e R s m args below meth c E io0 S0 nL (vx_MQ below (aQc E io0 S0 Kr) (aXC E io0 S0 Kx) args s mc ms (aW E)) pc lv ([]) (S) (I) (L) (Rf) (k) (n) := by
  subst hr
  intro io H locs ls h1 h2 h3 h4 h5 h6
  exact vx_ret (W.widen hk hs (W.vret hx.1 hx.2.1 hx.2.2.2.2.2.2.2.2 (fun t ht hW => ⟨⟨io, S, I, L, Rf, none, rfl, hK, aOk.nil, by rw [ht]; exact h1, h2⟩, h5.F ht⟩) h5.2.2 d hx.2.2.2.2.2.1))
theorem arn_cats (io : aM) (st : List Value) : ((st.map (arn io)).map fun v => v.category) = st.map fun v => v.category := by
  rw [List.map_map]; exact List.map_congr_left fun v _ => arn_cat io v
/-- behind a call -/
theorem aG.cont (hx : aCx p l s m args meth c own cc nL ret E) {st0 : List Value} {Kr' : aK} {Kx' : aX} {a : Array Value} {mc' ms' : Nat} {io : aM} {H : Heap} {locs : List Loc} {ls : Array Slot} (hr : vx_Run p l e R s m args below meth c H locs k n mc' ms' (F0 m pc ls st0) (st.map (arn io)) (aQc E io S Kr' a) (aXC E io S Kx') (aW E))
    (h2 : ∀ q, S0 q ≠ none → io q = io0 q ∧ S q = S0 q) (h3 : aOk S lv) (h4 : aOk S st) (h5 : va_S (aW E) s.heap H locs) (h6 : aLc io nL lv ls)
    (hkr : ∀ v S' I' L' R', Kr' v S' I' L' R' → aG p l e R s m args below meth c E io0 S0 nL (Q) (pc + 3) lv (v.toList ++ st) (S') (I') (L') (R') (k + mc') (n + ms'))
    (hkx : ∀ (X : String) (io' : aM) (S' : aS) (I' : aI) (L' : aL) (R' : aR) (H1 : Heap) (locs1 : List Loc) (q : Nat) (ce : Cell), Kx' X S' I' L' R' → aHR E io' S' I' L' R' H1 → (∀ q, S0 q ≠ none → io' q = io0 q ∧ S' q = S0 q) → (∀ q, S q ≠ none → io' q = io q ∧ S' q = S q) → va_S (aW E) s.heap H1 locs1 → H1[q]? = some ce → ce.vm = .none → s.vm.findClass X = some ce.cls → vx_W p l e R s m args below meth c H1 locs1 (k + mc') (n + ms') Q (F0 m pc ls (st.map (arn io))) q) :
    W p l e R s m args below meth c H locs k n Q (F0 m pc ls st0) := by
  intro T hT X
  rcases hr T hT X with ⟨v, st₀, t, T', L9, e0, X', hL, e1, e2, ⟨⟨io', S', I', L', R', v', hv, hK, hok, hHR, hag⟩, hF⟩, stp⟩ | ⟨q, st₀, t, T', L9, X9, ce, e0, X', hL, e1, e2, ⟨⟨io', S', I', L', R', hK, hHR, hag⟩, hF⟩, hce, hcv, hcl, stp⟩
  · obtain ⟨k1, k2, k3⟩ := vx_keep e0 e1 h5 (fun _ _ z => z) (fun _ z => z) hL hF
    have hm : ∀ r, S r ≠ none → S' r ≠ none := fun r z => by rw [(hag r z).2]; exact z
    have hio : ∀ r, S r ≠ none → io' r = io r := fun r z => (hag r z).1
    have K := hkr v' S' I' L' R' hK io' T'.heap (locs ++ L9) ls (by rw [e1]; exact hHR) (fun r z => by
      have y := h2 r z
      have y2 : S r ≠ none := by rw [y.2]; exact z
      exact ⟨(hag r y2).1.trans y.1, (hag r y2).2.trans y.2⟩) (h3.mono hm) (by
        intro w hw
        rcases List.mem_append.mp hw with z | z
        · exact hok w z
        · exact (h4.mono hm) w z) k3 (h6.congr h3 hio)
    have e3 : (v'.toList ++ st).map (arn io') = (v'.map (arn io')).toList ++ st.map (arn io) := by
      rw [List.map_append, arn_congr h4 hio]
      cases v' <;> rfl
    rw [e3] at K
    have e4 : v = v'.map (arn io') := Outcome.returned.inj hv
    rw [← e4] at K
    obtain ⟨t2, a1, b1⟩ := K T' rfl X'
    exact ⟨t2, stp t2 a1, b1⟩
  · obtain ⟨k1, k2, k3⟩ := vx_keep e0 e1 h5 (fun _ _ z => z) (fun _ z => z) hL hF
    obtain ⟨t2, a1, b1⟩ := hkx X9 io' S' I' L' R' T'.heap (locs ++ L9) q ce hK (by rw [e1]; exact hHR) (fun r z => by
      have y := h2 r z
      have y2 : S r ≠ none := by rw [y.2]; exact z
      exact ⟨(hag r y2).1.trans y.1, (hag r y2).2.trans y.2⟩) hag k3 (by rw [e1]; exact hce) hcv hcl T' rfl X'
    exact ⟨t2, stp.trans a1, b1⟩
theorem met_of {y : MethodName} {ws : List Cond} {rm : Room} {Pc : Array Value → State → Prop} {Qc : Array Value → State → Outcome → State → Prop} {XC : String → State → State → Prop} {free : Addr → Prop} (h : vx_Met l y ws rm Pc Qc XC mc ms free) (hx : ∀ X st t, ¬ XC X st t) : Met l y ws rm Pc Qc mc ms free := by
  intro p e ha hc hk s m args below hf happ hpre hK
  obtain ⟨n, o, h1, h2, h3, h4⟩ := h p e ha hc hk s m args below hf happ hpre hK
  rcases h4 with h4 | ⟨q, -, X, ce, L, h5, -⟩
  · exact ⟨n, o, h1, h2, h3, h4⟩
  · exact absurd h5 (hx _ _ _)
theorem run_of {H : Heap} {locs : List Loc} {gg : JFrame} {rest : List Value} {Qa : State → Outcome → State → Prop} {XC : String → State → State → Prop} {free : Addr → Prop} (h : va_Run p l e R s m args below meth c H locs k n mc ms gg rest Qa free) : vx_Run p l e R s m args below meth c H locs k n mc ms gg rest Qa XC free := fun T hT X => Or.inl (h T hT X)
/-- where a callee is named: its words; own instance methods, statics, constructors; nest mates' -/
def aLV (own : String) (idx : Nat) (y : MethodName) (cc : ByteArray) (nL : Nat) (ret : Option FieldType) (n : Nat) : Prop := Cond.methodLink own idx y ∈ aBIG ∧ Cond.instanceMethod y ∈ aBIG ∧ Cond.selects y.cls y y ∈ aBIG ∧ Cond.initialized y.cls ∈ aBIG ∧ Cond.code y cc nL ret ∈ aBIG ∧ y.cls ≠ "java/lang/invoke/MethodHandle" ∧ y.cls ≠ "java/lang/invoke/VarHandle" ∧ (parseMethodDescriptor y.desc).map (fun d => d.parameters.length) = some n
def aLS (own : String) (idx : Nat) (y : MethodName) (cc : ByteArray) (nL : Nat) (ret : Option FieldType) (n : Nat) : Prop := Cond.methodLink own idx y ∈ aBIG ∧ Cond.static y ∈ aBIG ∧ Cond.initialized y.cls ∈ aBIG ∧ Cond.code y cc nL ret ∈ aBIG ∧ y.cls ≠ "java/lang/invoke/MethodHandle" ∧ y.cls ≠ "java/lang/invoke/VarHandle" ∧ (parseMethodDescriptor y.desc).map (fun d => d.parameters.length) = some n
def aLI (own : String) (idx : Nat) (y : MethodName) (cc : ByteArray) (nL : Nat) (n : Nat) : Prop := Cond.methodLink own idx y ∈ aBIG ∧ Cond.instanceMethod y ∈ aBIG ∧ Cond.initialized y.cls ∈ aBIG ∧ Cond.code y cc nL none ∈ aBIG ∧ y.name = "<init>" ∧ y.cls ≠ "java/lang/invoke/MethodHandle" ∧ y.cls ≠ "java/lang/invoke/VarHandle" ∧ (parseMethodDescriptor y.desc).map (fun d => d.parameters.length) = some n
def aNV (own : String) (idx : Nat) (y : MethodName) (cc : ByteArray) (nL : Nat) (ret : Option FieldType) (n : Nat) : Prop := (∃ host, Cond.methodLinkNest own idx y host ∈ lw_tbl) ∧ Cond.instanceMethod y ∈ aBIG ∧ Cond.selects y.cls y y ∈ aBIG ∧ Cond.initialized y.cls ∈ aBIG ∧ Cond.code y cc nL ret ∈ aBIG ∧ y.cls ≠ "java/lang/invoke/MethodHandle" ∧ y.cls ≠ "java/lang/invoke/VarHandle" ∧ (parseMethodDescriptor y.desc).map (fun d => d.parameters.length) = some n
def aNS (own : String) (idx : Nat) (y : MethodName) (cc : ByteArray) (nL : Nat) (ret : Option FieldType) (n : Nat) : Prop := (∃ host, Cond.methodLinkNest own idx y host ∈ lw_tbl) ∧ Cond.static y ∈ aBIG ∧ Cond.initialized y.cls ∈ aBIG ∧ Cond.code y cc nL ret ∈ aBIG ∧ y.cls ≠ "java/lang/invoke/MethodHandle" ∧ y.cls ≠ "java/lang/invoke/VarHandle" ∧ (parseMethodDescriptor y.desc).map (fun d => d.parameters.length) = some n
def aNI (own : String) (idx : Nat) (y : MethodName) (cc : ByteArray) (nL : Nat) (n : Nat) : Prop := (∃ host, Cond.methodLinkNest own idx y host ∈ lw_tbl) ∧ Cond.instanceMethod y ∈ aBIG ∧ Cond.initialized y.cls ∈ aBIG ∧ Cond.code y cc nL none ∈ aBIG ∧ y.name = "<init>" ∧ y.cls ≠ "java/lang/invoke/MethodHandle" ∧ y.cls ≠ "java/lang/invoke/VarHandle" ∧ (parseMethodDescriptor y.desc).map (fun d => d.parameters.length) = some n
theorem abig_cons {w : Cond} {L : List Cond} (h : w ∈ aBIG) (hL : GoodIn aBIG L) : GoodIn aBIG (w :: L) := fun x hx => by
  rcases List.mem_cons.mp hx with e | e
  · rw [e]; exact ⟨h, (abig_good w h).2⟩
  · exact hL x e
theorem aPc.at (hx : aCx p l s m args meth c own cc nL ret E) {av : List Value} {io : aM} {H : Heap} {locs : List Loc} (h1 : aHR E io S I L Rf H) (h4 : aOk S av) (h5 : va_S (aW E) s.heap H locs) : ∀ U : State, U.heap = H → s.WarmedH U.vm → aPc E io S I L Rf av (av.map (arn io)).toArray U := fun U hU hW => ⟨rfl, by rw [hU]; exact h1, hx.2.2.2.2.2.2.1.go hW hU h5, h4⟩
theorem aRecv (hx : aCx p l s m args meth c own cc nL ret E) {io : aM} {H : Heap} {q ci : Nat} {C : String} (h1 : aHR E io S I L Rf H) (hq : S q = some (.inr ci)) (h9 : q ≠ 2) (hC : (aCl[ci]?).map (fun r => r.1) = some C) : ∃ cellB : Cell, H[io q]? = some cellB ∧ cellB.vm.isStatics = false ∧ s.vm.findClass C = some cellB.cls := by
  obtain ⟨r, hr, cell, g1, g2, g3, -⟩ := h1.1 q _ hq h9
  rw [hr] at hC
  cases hC
  exact ⟨cell, g1, by rw [g3]; rfl, by rw [g2]; exact (hx.K.1 ci r hr).2.1⟩

theorem g_callV_M (hx : aCx p l s m args meth c own cc nL ret E) {idx : Nat} {q : Nat} {ci : Nat} {y : MethodName} {cc' : ByteArray} {nL' : Nat} {ret' : Option FieldType} {rm : Room} (as : List Value) {stk : List Value} {k' n' : Nat} (d : decode cc pc = .ok (.invokevirtual idx, 3)) (hn : pc + 3 = nx) (lk : aLV own idx y cc' nL' ret' as.length) (hq : S q = some (.inr ci)) (h9 : q ≠ 2) (hC : (aCl[ci]?).map (fun r => r.1) = some y.cls) (hstk : as.reverse ++ .ref q :: st = stk) (hcat : (st.map fun v => v.category).sum ≤ 8) (hrf : rm.frames + 1 ≤ R.frames) (hrl : 8 + (nL' + 11) + rm.locals ≤ R.locals) (hk : k + rm.cells ≤ k') (hs : n + rm.slots ≤ n') (hkR : k' ≤ R.cells) (hsR : n' ≤ R.slots) 
    (hm : aMet l E y cc' nL' ret' rm (.ref q :: as) S I L Rf (fun v S' I' L' R' => aG p l e R s m args below meth c E io0 S0 nL (Q) nx lv (v.toList ++ st) (S') (I') (L') (R') (k') (n')) aNoX) : aG p l e R s m args below meth c E io0 S0 nL (Q) pc lv (stk) (S) (I) (L) (Rf) (k) (n) := by
  subst hn; subst hstk
  intro io H locs ls h1 h2 h3 h4 h5 h6
  obtain ⟨l1, l2, l3, l4, l5, l6, l7, l8⟩ := lk
  have hav : aOk S (.ref q :: as) := by
    intro v hv
    refine h4 v ?_
    rcases List.mem_cons.mp hv with z | z
    · exact List.mem_append_right _ (by rw [z]; exact List.mem_cons_self)
    · exact List.mem_append_left _ (List.mem_reverse.mpr z)
  have hos : aOk S st := fun v hv => h4 v (List.mem_append_right _ (List.mem_cons_of_mem _ hv))
  have hst : (as.reverse ++ .ref q :: st).map (arn io) = (as.map (arn io)).reverse ++ .ref (io q) :: st.map (arn io) := by
    rw [List.map_append, List.map_reverse]; rfl
  exact aG.cont hx (vx_runV (b := io q) (C := y.cls) (As := as.map (arn io)) (rest := st.map (arn io)) ⟨hx.1, hx.2.1, hx.2.2.1, hx.2.2.2.1, hx.2.2.2.2.1⟩ (hm io) (cwV as.length hx.2.2.2.2.1 (abig_cons l1 (abig_cons l2 (abig_cons l3 (abig_cons l4 (abig_cons l5 abig_good))))) rfl rfl rfl ⟨rfl, l6, l7, l8⟩ ⟨hrf, hrl⟩) ⟨aPc.blind, aRecv hx h1 hq h9 hC, aPc.at hx h1 hav h5⟩ rfl (by rw [List.length_map]) (h6.1) hst (lv_room (by rw [arn_cats]; exact hcat)) d ⟨Nat.le_trans hk hkR, Nat.le_trans hs hsR⟩) h2 h3 hos h5 h6 (fun v S' I' L' R' z io' H' locs' ls' b1 b2 b3 b4 b5 b6 => W.widen hk hs (z io' H' locs' ls' b1 b2 b3 b4 b5 b6)) (fun _ _ _ _ _ _ _ _ _ _ z => absurd z id)

theorem g_callV_X (hx : aCx p l s m args meth c own cc nL ret E) {idx : Nat} {q : Nat} {ci : Nat} {y : MethodName} {cc' : ByteArray} {nL' : Nat} {ret' : Option FieldType} {rm : Room} (as : List Value) {stk : List Value} {k' n' : Nat} (d : decode cc pc = .ok (.invokevirtual idx, 3)) (hn : pc + 3 = nx) (lk : aLV own idx y cc' nL' ret' as.length) (hq : S q = some (.inr ci)) (h9 : q ≠ 2) (hC : (aCl[ci]?).map (fun r => r.1) = some y.cls) (hstk : as.reverse ++ .ref q :: st = stk) (hcat : (st.map fun v => v.category).sum ≤ 8) (hrf : rm.frames + 1 ≤ R.frames) (hrl : 8 + (nL' + 11) + rm.locals ≤ R.locals) (hk : k + rm.cells ≤ k') (hs : n + rm.slots ≤ n') (hkR : k' ≤ R.cells) (hsR : n' ≤ R.slots) (hno : ∀ x ∈ c.exceptionTable.toList, False) (hmc : k' ≤ mc) (hms : n' ≤ ms) 
    (hm : aMet l E y cc' nL' ret' rm (.ref q :: as) S I L Rf (fun v S' I' L' R' => aG p l e R s m args below meth c E io0 S0 nL (vx_MQ below (aQc E io0 S0 Kr) (aXC E io0 S0 Kx) args s mc ms (aW E)) nx lv (v.toList ++ st) (S') (I') (L') (R') (k') (n')) Kx) : aG p l e R s m args below meth c E io0 S0 nL (vx_MQ below (aQc E io0 S0 Kr) (aXC E io0 S0 Kx) args s mc ms (aW E)) pc lv (stk) (S) (I) (L) (Rf) (k) (n) := by
  subst hn; subst hstk
  intro io H locs ls h1 h2 h3 h4 h5 h6
  obtain ⟨l1, l2, l3, l4, l5, l6, l7, l8⟩ := lk
  have hav : aOk S (.ref q :: as) := by
    intro v hv
    refine h4 v ?_
    rcases List.mem_cons.mp hv with z | z
    · exact List.mem_append_right _ (by rw [z]; exact List.mem_cons_self)
    · exact List.mem_append_left _ (List.mem_reverse.mpr z)
  have hos : aOk S st := fun v hv => h4 v (List.mem_append_right _ (List.mem_cons_of_mem _ hv))
  have hst : (as.reverse ++ .ref q :: st).map (arn io) = (as.map (arn io)).reverse ++ .ref (io q) :: st.map (arn io) := by
    rw [List.map_append, List.map_reverse]; rfl
  exact aG.cont hx (vx_runV (b := io q) (C := y.cls) (As := as.map (arn io)) (rest := st.map (arn io)) ⟨hx.1, hx.2.1, hx.2.2.1, hx.2.2.2.1, hx.2.2.2.2.1⟩ (hm io) (cwV as.length hx.2.2.2.2.1 (abig_cons l1 (abig_cons l2 (abig_cons l3 (abig_cons l4 (abig_cons l5 abig_good))))) rfl rfl rfl ⟨rfl, l6, l7, l8⟩ ⟨hrf, hrl⟩) ⟨aPc.blind, aRecv hx h1 hq h9 hC, aPc.at hx h1 hav h5⟩ rfl (by rw [List.length_map]) (h6.1) hst (lv_room (by rw [arn_cats]; exact hcat)) d ⟨Nat.le_trans hk hkR, Nat.le_trans hs hsR⟩) h2 h3 hos h5 h6 (fun v S' I' L' R' z io' H' locs' ls' b1 b2 b3 b4 b5 b6 => W.widen hk hs (z io' H' locs' ls' b1 b2 b3 b4 b5 b6)) (fun X io' S' I' L' R' H1 locs1 q ce hK hHR hag hag2 hS hce hcv hcl => vx_out (fun x hx => absurd (hno x hx) id) hx.2.2.2.2.2.1 hce hcv hcl (fun t ht hA => ⟨⟨io', S', I', L', R', hK, by rw [ht]; exact hHR, hag⟩, hS.F ht⟩) hS.2.2 (Nat.le_trans hk hmc) (Nat.le_trans hs hms))

theorem g_callS_M (hx : aCx p l s m args meth c own cc nL ret E) {idx : Nat} {y : MethodName} {cc' : ByteArray} {nL' : Nat} {ret' : Option FieldType} {rm : Room} (as : List Value) {stk : List Value} {k' n' : Nat} (d : decode cc pc = .ok (.invokestatic idx, 3)) (hn : pc + 3 = nx) (lk : aLS own idx y cc' nL' ret' as.length) (hstk : as.reverse ++ st = stk) (hcat : (st.map fun v => v.category).sum ≤ 8) (hrf : rm.frames + 1 ≤ R.frames) (hrl : 8 + (nL' + 11) + rm.locals ≤ R.locals) (hk : k + rm.cells ≤ k') (hs : n + rm.slots ≤ n') (hkR : k' ≤ R.cells) (hsR : n' ≤ R.slots) 
    (hm : aMet l E y cc' nL' ret' rm (as) S I L Rf (fun v S' I' L' R' => aG p l e R s m args below meth c E io0 S0 nL (Q) nx lv (v.toList ++ st) (S') (I') (L') (R') (k') (n')) aNoX) : aG p l e R s m args below meth c E io0 S0 nL (Q) pc lv (stk) (S) (I) (L) (Rf) (k) (n) := by
  subst hn; subst hstk
  intro io H locs ls h1 h2 h3 h4 h5 h6
  obtain ⟨l1, l2, l3, l4, l6, l7, l8⟩ := lk
  have hav : aOk S (as) := by
    intro v hv
    refine h4 v ?_
    exact List.mem_append_left _ (List.mem_reverse.mpr hv)
  have hos : aOk S st := fun v hv => h4 v (List.mem_append_right _ hv)
  have hst : (as.reverse ++ st).map (arn io) = (as.map (arn io)).reverse ++ st.map (arn io) := by
    rw [List.map_append, List.map_reverse]
  exact aG.cont hx (vx_runS (As := as.map (arn io)) (rest := st.map (arn io)) ⟨hx.1, hx.2.1, hx.2.2.1, hx.2.2.2.1, hx.2.2.2.2.1⟩ (hm io) (va_cwS as.length hx.2.2.2.2.1 (abig_cons l1 (abig_cons l2 (abig_cons l3 (abig_cons l4 abig_good)))) rfl rfl rfl ⟨l6, l7, l8⟩ ⟨hrf, hrl⟩) ⟨aPc.blind, aPc.at hx h1 hav h5⟩ rfl (by rw [List.length_map]) (h6.1) hst (lv_room (by rw [arn_cats]; exact hcat)) d ⟨Nat.le_trans hk hkR, Nat.le_trans hs hsR⟩) h2 h3 hos h5 h6 (fun v S' I' L' R' z io' H' locs' ls' b1 b2 b3 b4 b5 b6 => W.widen hk hs (z io' H' locs' ls' b1 b2 b3 b4 b5 b6)) (fun _ _ _ _ _ _ _ _ _ _ z => absurd z id)

theorem g_callS_X (hx : aCx p l s m args meth c own cc nL ret E) {idx : Nat} {y : MethodName} {cc' : ByteArray} {nL' : Nat} {ret' : Option FieldType} {rm : Room} (as : List Value) {stk : List Value} {k' n' : Nat} (d : decode cc pc = .ok (.invokestatic idx, 3)) (hn : pc + 3 = nx) (lk : aLS own idx y cc' nL' ret' as.length) (hstk : as.reverse ++ st = stk) (hcat : (st.map fun v => v.category).sum ≤ 8) (hrf : rm.frames + 1 ≤ R.frames) (hrl : 8 + (nL' + 11) + rm.locals ≤ R.locals) (hk : k + rm.cells ≤ k') (hs : n + rm.slots ≤ n') (hkR : k' ≤ R.cells) (hsR : n' ≤ R.slots) (hno : ∀ x ∈ c.exceptionTable.toList, False) (hmc : k' ≤ mc) (hms : n' ≤ ms) 
    (hm : aMet l E y cc' nL' ret' rm (as) S I L Rf (fun v S' I' L' R' => aG p l e R s m args below meth c E io0 S0 nL (vx_MQ below (aQc E io0 S0 Kr) (aXC E io0 S0 Kx) args s mc ms (aW E)) nx lv (v.toList ++ st) (S') (I') (L') (R') (k') (n')) Kx) : aG p l e R s m args below meth c E io0 S0 nL (vx_MQ below (aQc E io0 S0 Kr) (aXC E io0 S0 Kx) args s mc ms (aW E)) pc lv (stk) (S) (I) (L) (Rf) (k) (n) := by
  subst hn; subst hstk
  intro io H locs ls h1 h2 h3 h4 h5 h6
  obtain ⟨l1, l2, l3, l4, l6, l7, l8⟩ := lk
  have hav : aOk S (as) := by
    intro v hv
    refine h4 v ?_
    exact List.mem_append_left _ (List.mem_reverse.mpr hv)
  have hos : aOk S st := fun v hv => h4 v (List.mem_append_right _ hv)
  have hst : (as.reverse ++ st).map (arn io) = (as.map (arn io)).reverse ++ st.map (arn io) := by
    rw [List.map_append, List.map_reverse]
  exact aG.cont hx (vx_runS (As := as.map (arn io)) (rest := st.map (arn io)) ⟨hx.1, hx.2.1, hx.2.2.1, hx.2.2.2.1, hx.2.2.2.2.1⟩ (hm io) (va_cwS as.length hx.2.2.2.2.1 (abig_cons l1 (abig_cons l2 (abig_cons l3 (abig_cons l4 abig_good)))) rfl rfl rfl ⟨l6, l7, l8⟩ ⟨hrf, hrl⟩) ⟨aPc.blind, aPc.at hx h1 hav h5⟩ rfl (by rw [List.length_map]) (h6.1) hst (lv_room (by rw [arn_cats]; exact hcat)) d ⟨Nat.le_trans hk hkR, Nat.le_trans hs hsR⟩) h2 h3 hos h5 h6 (fun v S' I' L' R' z io' H' locs' ls' b1 b2 b3 b4 b5 b6 => W.widen hk hs (z io' H' locs' ls' b1 b2 b3 b4 b5 b6)) (fun X io' S' I' L' R' H1 locs1 q ce hK hHR hag hag2 hS hce hcv hcl => vx_out (fun x hx => absurd (hno x hx) id) hx.2.2.2.2.2.1 hce hcv hcl (fun t ht hA => ⟨⟨io', S', I', L', R', hK, by rw [ht]; exact hHR, hag⟩, hS.F ht⟩) hS.2.2 (Nat.le_trans hk hmc) (Nat.le_trans hs hms))

theorem g_callI_M (hx : aCx p l s m args meth c own cc nL ret E) {idx : Nat} {q : Nat} {y : MethodName} {cc' : ByteArray} {nL' : Nat} {rm : Room} (as : List Value) {stk : List Value} {k' n' : Nat} (d : decode cc pc = .ok (.invokespecial idx, 3)) (hn : pc + 3 = nx) (lk : aLI own idx y cc' nL' as.length) (hstk : as.reverse ++ .ref q :: st = stk) (hcat : (st.map fun v => v.category).sum ≤ 8) (hrf : rm.frames + 1 ≤ R.frames) (hrl : 8 + (nL' + 11) + rm.locals ≤ R.locals) (hk : k + rm.cells ≤ k') (hs : n + rm.slots ≤ n') (hkR : k' ≤ R.cells) (hsR : n' ≤ R.slots) 
    (hm : aMet l E y cc' nL' none rm (.ref q :: as) S I L Rf (fun v S' I' L' R' => aG p l e R s m args below meth c E io0 S0 nL (Q) nx lv (v.toList ++ st) (S') (I') (L') (R') (k') (n')) aNoX) : aG p l e R s m args below meth c E io0 S0 nL (Q) pc lv (stk) (S) (I) (L) (Rf) (k) (n) := by
  subst hn; subst hstk
  intro io H locs ls h1 h2 h3 h4 h5 h6
  obtain ⟨l1, l2, l3, l4, l5, l6, l7, l8⟩ := lk
  have hav : aOk S (.ref q :: as) := by
    intro v hv
    refine h4 v ?_
    rcases List.mem_cons.mp hv with z | z
    · exact List.mem_append_right _ (by rw [z]; exact List.mem_cons_self)
    · exact List.mem_append_left _ (List.mem_reverse.mpr z)
  have hos : aOk S st := fun v hv => h4 v (List.mem_append_right _ (List.mem_cons_of_mem _ hv))
  have hst : (as.reverse ++ .ref q :: st).map (arn io) = (as.map (arn io)).reverse ++ .ref (io q) :: st.map (arn io) := by
    rw [List.map_append, List.map_reverse]; rfl
  exact aG.cont hx (run_of (va_runI (b := io q) (As := as.map (arn io)) (rest := st.map (arn io)) ⟨hx.1, hx.2.1, hx.2.2.1, hx.2.2.2.1, hx.2.2.2.2.1⟩ (met_of (hm io) (fun _ _ _ z => z.1.choose_spec.choose_spec.choose_spec.choose_spec.choose_spec.1)) (cwI as.length hx.2.2.2.2.1 (abig_cons l4 abig_good) rfl rfl rfl (hx.W l3) (hx.W l1) (hx.W l2) l5 ⟨l6, l7, l8⟩ ⟨hrf, hrl⟩) ⟨aPc.blind, aPc.at hx h1 hav h5⟩ rfl (by rw [List.length_map]) (h6.1) hst (lv_room (by rw [arn_cats]; exact hcat)) d ⟨Nat.le_trans hk hkR, Nat.le_trans hs hsR⟩)) h2 h3 hos h5 h6 (fun v S' I' L' R' z io' H' locs' ls' b1 b2 b3 b4 b5 b6 => W.widen hk hs (z io' H' locs' ls' b1 b2 b3 b4 b5 b6)) (fun _ _ _ _ _ _ _ _ _ _ z => absurd z id)

theorem g_callNV_M (hx : aCx p l s m args meth c own cc nL ret E) {idx : Nat} {q : Nat} {ci : Nat} {y : MethodName} {cc' : ByteArray} {nL' : Nat} {ret' : Option FieldType} {rm : Room} (as : List Value) {stk : List Value} {k' n' : Nat} (d : decode cc pc = .ok (.invokevirtual idx, 3)) (hn : pc + 3 = nx) (lk : aNV own idx y cc' nL' ret' as.length) (hq : S q = some (.inr ci)) (h9 : q ≠ 2) (hC : (aCl[ci]?).map (fun r => r.1) = some y.cls) (hstk : as.reverse ++ .ref q :: st = stk) (hcat : (st.map fun v => v.category).sum ≤ 8) (hrf : rm.frames + 1 ≤ R.frames) (hrl : 8 + (nL' + 11) + rm.locals ≤ R.locals) (hk : k + rm.cells ≤ k') (hs : n + rm.slots ≤ n') (hkR : k' ≤ R.cells) (hsR : n' ≤ R.slots) 
    (hm : aMet l E y cc' nL' ret' rm (.ref q :: as) S I L Rf (fun v S' I' L' R' => aG p l e R s m args below meth c E io0 S0 nL (Q) nx lv (v.toList ++ st) (S') (I') (L') (R') (k') (n')) aNoX) : aG p l e R s m args below meth c E io0 S0 nL (Q) pc lv (stk) (S) (I) (L) (Rf) (k) (n) := by
  subst hn; subst hstk
  intro io H locs ls h1 h2 h3 h4 h5 h6
  obtain ⟨⟨host, l1⟩, l2, l3, l4, l5, l6, l7, l8⟩ := lk
  have hav : aOk S (.ref q :: as) := by
    intro v hv
    refine h4 v ?_
    rcases List.mem_cons.mp hv with z | z
    · exact List.mem_append_right _ (by rw [z]; exact List.mem_cons_self)
    · exact List.mem_append_left _ (List.mem_reverse.mpr z)
  have hos : aOk S st := fun v hv => h4 v (List.mem_append_right _ (List.mem_cons_of_mem _ hv))
  have hst : (as.reverse ++ .ref q :: st).map (arn io) = (as.map (arn io)).reverse ++ .ref (io q) :: st.map (arn io) := by
    rw [List.map_append, List.map_reverse]; rfl
  exact aG.cont hx (run_of (va_runVN (b := io q) (C := y.cls) (As := as.map (arn io)) (rest := st.map (arn io)) ⟨hx.1, hx.2.1, hx.2.2.1, hx.2.2.2.1, hx.2.2.2.2.1⟩ (met_of (hm io) (fun _ _ _ z => z.1.choose_spec.choose_spec.choose_spec.choose_spec.choose_spec.1)) ⟨va_cnB as.length hx.2.2.2.2.1 (abig_cons l5 abig_good) rfl rfl rfl (va_Nw.of rfl (hx.N l1 rfl)) (hx.W l4) ⟨l6, l7, l8⟩ ⟨hrf, hrl⟩, hx.W l2, hx.W l3⟩ ⟨aPc.blind, aRecv hx h1 hq h9 hC, aPc.at hx h1 hav h5⟩ rfl (by rw [List.length_map]) (h6.1) hst (lv_room (by rw [arn_cats]; exact hcat)) d ⟨Nat.le_trans hk hkR, Nat.le_trans hs hsR⟩)) h2 h3 hos h5 h6 (fun v S' I' L' R' z io' H' locs' ls' b1 b2 b3 b4 b5 b6 => W.widen hk hs (z io' H' locs' ls' b1 b2 b3 b4 b5 b6)) (fun _ _ _ _ _ _ _ _ _ _ z => absurd z id)

theorem g_callNS_M (hx : aCx p l s m args meth c own cc nL ret E) {idx : Nat} {y : MethodName} {cc' : ByteArray} {nL' : Nat} {ret' : Option FieldType} {rm : Room} (as : List Value) {stk : List Value} {k' n' : Nat} (d : decode cc pc = .ok (.invokestatic idx, 3)) (hn : pc + 3 = nx) (lk : aNS own idx y cc' nL' ret' as.length) (hstk : as.reverse ++ st = stk) (hcat : (st.map fun v => v.category).sum ≤ 8) (hrf : rm.frames + 1 ≤ R.frames) (hrl : 8 + (nL' + 11) + rm.locals ≤ R.locals) (hk : k + rm.cells ≤ k') (hs : n + rm.slots ≤ n') (hkR : k' ≤ R.cells) (hsR : n' ≤ R.slots) 
    (hm : aMet l E y cc' nL' ret' rm (as) S I L Rf (fun v S' I' L' R' => aG p l e R s m args below meth c E io0 S0 nL (Q) nx lv (v.toList ++ st) (S') (I') (L') (R') (k') (n')) aNoX) : aG p l e R s m args below meth c E io0 S0 nL (Q) pc lv (stk) (S) (I) (L) (Rf) (k) (n) := by
  subst hn; subst hstk
  intro io H locs ls h1 h2 h3 h4 h5 h6
  obtain ⟨⟨host, l1⟩, l2, l3, l4, l6, l7, l8⟩ := lk
  have hav : aOk S (as) := by
    intro v hv
    refine h4 v ?_
    exact List.mem_append_left _ (List.mem_reverse.mpr hv)
  have hos : aOk S st := fun v hv => h4 v (List.mem_append_right _ hv)
  have hst : (as.reverse ++ st).map (arn io) = (as.map (arn io)).reverse ++ st.map (arn io) := by
    rw [List.map_append, List.map_reverse]
  exact aG.cont hx (run_of (va_runSN (As := as.map (arn io)) (rest := st.map (arn io)) ⟨hx.1, hx.2.1, hx.2.2.1, hx.2.2.2.1, hx.2.2.2.2.1⟩ (met_of (hm io) (fun _ _ _ z => z.1.choose_spec.choose_spec.choose_spec.choose_spec.choose_spec.1)) ⟨va_cnB as.length hx.2.2.2.2.1 (abig_cons l4 abig_good) rfl rfl rfl (va_Nw.of rfl (hx.N l1 rfl)) (hx.W l3) ⟨l6, l7, l8⟩ ⟨hrf, hrl⟩, hx.W l2, trivial⟩ ⟨aPc.blind, aPc.at hx h1 hav h5⟩ rfl (by rw [List.length_map]) (h6.1) hst (lv_room (by rw [arn_cats]; exact hcat)) d ⟨Nat.le_trans hk hkR, Nat.le_trans hs hsR⟩)) h2 h3 hos h5 h6 (fun v S' I' L' R' z io' H' locs' ls' b1 b2 b3 b4 b5 b6 => W.widen hk hs (z io' H' locs' ls' b1 b2 b3 b4 b5 b6)) (fun _ _ _ _ _ _ _ _ _ _ z => absurd z id)

theorem g_callNI_M (hx : aCx p l s m args meth c own cc nL ret E) {idx : Nat} {q : Nat} {y : MethodName} {cc' : ByteArray} {nL' : Nat} {rm : Room} (as : List Value) {stk : List Value} {k' n' : Nat} (d : decode cc pc = .ok (.invokespecial idx, 3)) (hn : pc + 3 = nx) (lk : aNI own idx y cc' nL' as.length) (hstk : as.reverse ++ .ref q :: st = stk) (hcat : (st.map fun v => v.category).sum ≤ 8) (hrf : rm.frames + 1 ≤ R.frames) (hrl : 8 + (nL' + 11) + rm.locals ≤ R.locals) (hk : k + rm.cells ≤ k') (hs : n + rm.slots ≤ n') (hkR : k' ≤ R.cells) (hsR : n' ≤ R.slots) 
    (hm : aMet l E y cc' nL' none rm (.ref q :: as) S I L Rf (fun v S' I' L' R' => aG p l e R s m args below meth c E io0 S0 nL (Q) nx lv (v.toList ++ st) (S') (I') (L') (R') (k') (n')) aNoX) : aG p l e R s m args below meth c E io0 S0 nL (Q) pc lv (stk) (S) (I) (L) (Rf) (k) (n) := by
  subst hn; subst hstk
  intro io H locs ls h1 h2 h3 h4 h5 h6
  obtain ⟨⟨host, l1⟩, l2, l3, l4, l5, l6, l7, l8⟩ := lk
  have hav : aOk S (.ref q :: as) := by
    intro v hv
    refine h4 v ?_
    rcases List.mem_cons.mp hv with z | z
    · exact List.mem_append_right _ (by rw [z]; exact List.mem_cons_self)
    · exact List.mem_append_left _ (List.mem_reverse.mpr z)
  have hos : aOk S st := fun v hv => h4 v (List.mem_append_right _ (List.mem_cons_of_mem _ hv))
  have hst : (as.reverse ++ .ref q :: st).map (arn io) = (as.map (arn io)).reverse ++ .ref (io q) :: st.map (arn io) := by
    rw [List.map_append, List.map_reverse]; rfl
  exact aG.cont hx (run_of (va_runIN (b := io q) (As := as.map (arn io)) (rest := st.map (arn io)) ⟨hx.1, hx.2.1, hx.2.2.1, hx.2.2.2.1, hx.2.2.2.2.1⟩ (met_of (hm io) (fun _ _ _ z => z.1.choose_spec.choose_spec.choose_spec.choose_spec.choose_spec.1)) ⟨va_cnB as.length hx.2.2.2.2.1 (abig_cons l4 abig_good) rfl rfl rfl (va_Nw.of rfl (hx.N l1 rfl)) (hx.W l3) ⟨l6, l7, l8⟩ ⟨hrf, hrl⟩, l5, hx.W l2⟩ ⟨aPc.blind, aPc.at hx h1 hav h5⟩ rfl (by rw [List.length_map]) (h6.1) hst (lv_room (by rw [arn_cats]; exact hcat)) d ⟨Nat.le_trans hk hkR, Nat.le_trans hs hsR⟩)) h2 h3 hos h5 h6 (fun v S' I' L' R' z io' H' locs' ls' b1 b2 b3 b4 b5 b6 => W.widen hk hs (z io' H' locs' ls' b1 b2 b3 b4 b5 b6)) (fun _ _ _ _ _ _ _ _ _ _ z => absurd z id)

end AEND
end
section
/-! throws; methods that catch -/
abbrev aXn : List String := ["java/lang/RuntimeException", "java/lang/Exception"]
theorem aHR.kept {E : aE} {io : aM} {S : aS} {I : aI} {L : aL} {R : aR} {H H1 : Heap} (h : aHR E io S I L R H) (hk : ∀ q, q < H.size → H1[q]? = H[q]?) : aHR E io S I L R H1 :=
  ⟨fun q x hq h9 => (h.1 q x hq h9).kept (hk _ (h.1 q x hq h9).lt), h.2⟩
def aTh (own : String) (ik is ic : Nat) (X tx : String) : Prop := Bundle.fit X = true ∧ (∀ n ∈ aXn, Bundle.fit n = true) ∧ Cond.classLink own ik X ∈ aBIG ∧ Cond.initialized X ∈ aBIG ∧ Cond.stringRef own is tx ∈ lw_tbl ∧ (∀ w ∈ vx_atS own ic X aXn, w ∈ aBIG ∨ (w ∈ lw_tbl ∧ aNk w = true)) ∧ ∀ w ∈ Cond.classLink own ik X :: Cond.initialized X :: vx_atS own ic X aXn, vx_ot w = true
section ATH
variable {p : Program} {l : Launch} {e : Env} {R : Room} {s : State} {m : MethodId} {args : Array Value} {below : List Frame} {meth : Method} {c : Code} {E : aE} {io0 : aM} {S0 : aS} {nL : Nat} {Q : State → Prop}
variable {own : String} {cc : ByteArray} {ret : Option FieldType} {pc nx : Nat} {lv st : List Value} {S : aS} {I : aI} {L : aL} {Rf : aR} {k n mc ms : Nat} {Kr : aK} {Kx : aX}

theorem g_throw (hx : aCx p l s m args meth c own cc nL ret E) {ik is ic : Nat} {X tx : String} (th : aTh own ik is ic X tx) (d0 : decode cc pc = .ok (.new ik, 3)) (d3 : decode cc (pc + 3) = .ok (.dup, 1)) (d4 : decode cc (pc + 4) = .ok (.ldc is, 2)) (d6 : decode cc (pc + 6) = .ok (.invokespecial ic, 3)) (d9 : decode cc (pc + 9) = .ok (.athrow, 1)) (hno : ∀ x ∈ c.exceptionTable.toList, False) (hf : 6 ≤ R.frames) (hl : (st.map fun v => v.category).sum + 82 ≤ R.locals) (hkR : k + 1 ≤ R.cells) (hsR : n + 6 ≤ R.slots) (hk : k + 1 ≤ mc) (hs : n + 6 ≤ ms) (hK : Kx X S I L Rf) : aG p l e R s m args below meth c E io0 S0 nL (vx_MQ below (aQc E io0 S0 Kr) (aXC E io0 S0 Kx) args s mc ms (aW E)) pc lv (st) (S) (I) (L) (Rf) (k) (n) := by
  intro io H locs ls h1 h2 h3 h4 h5 h6
  obtain ⟨t1, t2, t3, t4, t5, t6, t7⟩ := th
  have hEv := hx.2.2.2.2.2.2.1
  obtain ⟨sa, hsa⟩ := hEv.2.2.2.2.2.2.1 own is tx t5
  refine vx_throwS (A := aW E) (names := aXn) hx.1 hx.2.1 hx.2.2.2.2.2.2.2.1 hx.2.2.2.1 t1 t2 (hx.W t3) (hx.W t4) hsa (fun w hw => ?_) t7 hEv.2.2.2.2.1 hEv.2.2.2.2.2.1 h5 (by rw [hx.2.2.1]; exact h6.1) d0 d3 d4 d6 d9 (fun x hx => absurd (hno x hx) id) (by show 2 + 3 < _; omega) (by rw [arn_cats]; show _ + (13 * (2 + 1) + 43) ≤ _; omega) hkR hsR hx.2.2.2.2.2.1 (fun t hA hz hq => ⟨⟨io, S, I, L, Rf, hK, h1.kept hq, h2⟩, Nat.le_trans h5.1 hz, fun a ha hn => (hq a (Nat.lt_of_lt_of_le ha h5.1)).trans (h5.2.1 a ha hn)⟩) h5.2.2 hk hs
  rcases t6 w hw with z | z
  · exact hx.W z
  · exact hx.N z.1 z.2

theorem g_throwW (hx : aCx p l s m args meth c own cc nL ret E) {ik is ic : Nat} {X tx : String} (th : aTh own ik is ic X tx) (d0 : decode cc pc = .ok (.new ik, 3)) (d3 : decode cc (pc + 3) = .ok (.dup, 1)) (d4 : decode cc (pc + 4) = .ok (.ldc_w is, 3)) (d6 : decode cc (pc + 7) = .ok (.invokespecial ic, 3)) (d9 : decode cc (pc + 10) = .ok (.athrow, 1)) (hno : ∀ x ∈ c.exceptionTable.toList, False) (hf : 6 ≤ R.frames) (hl : (st.map fun v => v.category).sum + 82 ≤ R.locals) (hkR : k + 1 ≤ R.cells) (hsR : n + 6 ≤ R.slots) (hk : k + 1 ≤ mc) (hs : n + 6 ≤ ms) (hK : Kx X S I L Rf) : aG p l e R s m args below meth c E io0 S0 nL (vx_MQ below (aQc E io0 S0 Kr) (aXC E io0 S0 Kx) args s mc ms (aW E)) pc lv (st) (S) (I) (L) (Rf) (k) (n) := by
  intro io H locs ls h1 h2 h3 h4 h5 h6
  obtain ⟨t1, t2, t3, t4, t5, t6, t7⟩ := th
  have hEv := hx.2.2.2.2.2.2.1
  obtain ⟨sa, hsa⟩ := hEv.2.2.2.2.2.2.1 own is tx t5
  refine vx_throwSW (A := aW E) (names := aXn) hx.1 hx.2.1 hx.2.2.2.2.2.2.2.1 hx.2.2.2.1 t1 t2 (hx.W t3) (hx.W t4) hsa (fun w hw => ?_) t7 hEv.2.2.2.2.1 hEv.2.2.2.2.2.1 h5 (by rw [hx.2.2.1]; exact h6.1) d0 d3 d4 d6 d9 (fun x hx => absurd (hno x hx) id) (by show 2 + 3 < _; omega) (by rw [arn_cats]; show _ + (13 * (2 + 1) + 43) ≤ _; omega) hkR hsR hx.2.2.2.2.2.1 (fun t hA hz hq => ⟨⟨io, S, I, L, Rf, hK, h1.kept hq, h2⟩, Nat.le_trans h5.1 hz, fun a ha hn => (hq a (Nat.lt_of_lt_of_le ha h5.1)).trans (h5.2.1 a ha hn)⟩) h5.2.2 hk hs
  rcases t6 w hw with z | z
  · exact hx.W z
  · exact hx.N z.1 z.2

/-- the handler that takes X, thrown at pc: the row of the table; the pc behind its store -/
def aHd (own : String) (cc : ByteArray) (tb : List ExceptionTableEntry) (pc j : Nat) (X : String) (t : Nat) : Prop := ∃ (pre : List ExceptionTableEntry) (x : ExceptionTableEntry) (suf : List ExceptionTableEntry) (nm : String), tb = pre ++ x :: suf ∧ (∀ z ∈ pre, covers z pc = false ∨ (z.catchType ≠ 0 ∧ ∃ nm : String, Cond.classLink own z.catchType nm ∈ aBIG ∧ (X, nm) ∈ aNcs)) ∧ covers x pc = true ∧ x.catchType ≠ 0 ∧ Cond.classLink own x.catchType nm ∈ aBIG ∧ Cond.castable X nm ∈ lw_tbl ∧ ((decode cc x.handlerPc = .ok (.astore j, 2) ∧ x.handlerPc + 2 = t) ∨ ∃ j4 : Fin 4, (j4 : Nat) = j ∧ decode cc x.handlerPc = .ok (.astore_n j4, 1) ∧ x.handlerPc + 1 = t)
def aStu (i : Nat) (lv lv' : List Value) : Prop := ∀ (j : Nat) (w : Value), lv'[j]? = some w → aKn w = true → j ≠ i ∧ lv[j]? = some w ∧ (j + 1 = i → w.category ≠ 2)
theorem aLc.stu {io : aM} {i : Nat} {v : Value} {lv lv' : List Value} {ls ls' : Array Slot} (hl : aLc io nL lv ls) (hs : aStu i lv lv') (h : lv_has ls' nL ((i, v) :: (aAll ls).filter (fun q => !(q.1 == i) && !(q.1 + 1 == i && q.2.category == 2)))) : aLc io nL lv' ls' := by
  refine ⟨h.1, h.2.1, fun j w hj hk => ?_⟩
  obtain ⟨h1, h2, h3⟩ := hs j w hj hk
  refine h.2.2 (j, arn io w) (List.mem_cons_of_mem _ (List.mem_filter.mpr ⟨aAll_mem (hl.2.2 j w h2 hk), ?_⟩))
  simp only [arn_cat, Bool.and_eq_true, Bool.not_eq_true', beq_eq_false_iff_ne, ne_eq, Bool.and_eq_false_iff]
  refine ⟨h1, ?_⟩
  by_cases e : j + 1 = i
  · exact Or.inr (h3 e)
  · exact Or.inl e
/-- a call that may throw, in a method that catches: every X that may come has its handler -/
theorem g_callV_H (hx : aCx p l s m args meth c own cc nL ret E) {idx q ci j : Nat} {y : MethodName} {cc' : ByteArray} {nL' : Nat} {ret' : Option FieldType} {rm : Room} (as : List Value) {stk : List Value} {k' n' : Nat} {tb : List ExceptionTableEntry} {lvh : List Value} (tg : String → Option Nat) (d : decode cc pc = .ok (.invokevirtual idx, 3)) (hn : pc + 3 = nx) (lk : aLV own idx y cc' nL' ret' as.length) (hq : S q = some (.inr ci)) (h9 : q ≠ 2) (hC : (aCl[ci]?).map (fun r => r.1) = some y.cls) (hstk : as.reverse ++ .ref q :: st = stk) (hcat : (st.map fun v => v.category).sum ≤ 8) (hrf : rm.frames + 1 ≤ R.frames) (hrl : 8 + (nL' + 11) + rm.locals ≤ R.locals) (hk : k + rm.cells ≤ k') (hs : n + rm.slots ≤ n') (hkR : k' ≤ R.cells) (hsR : n' ≤ R.slots)
    (htb : c.exceptionTable.toList = tb) (hj : j < nL) (hlv : aStu j lv lvh) (htg : ∀ X t, tg X = some t → aHd own cc tb pc j X t)
    (hm : aMet l E y cc' nL' ret' rm (.ref q :: as) S I L Rf (fun v S' I' L' R' => aG p l e R s m args below meth c E io0 S0 nL (Q) nx lv (v.toList ++ st) (S') (I') (L') (R') (k') (n')) (fun X S' I' L' R' => ∃ t, tg X = some t ∧ aG p l e R s m args below meth c E io0 S0 nL (Q) t lvh ([]) (S') (I') (L') (R') (k') (n'))) : aG p l e R s m args below meth c E io0 S0 nL (Q) pc lv (stk) (S) (I) (L) (Rf) (k) (n) := by
  subst hn; subst hstk
  intro io H locs ls h1 h2 h3 h4 h5 h6
  obtain ⟨l1, l2, l3, l4, l5, l6, l7, l8⟩ := lk
  have hav : aOk S (.ref q :: as) := by
    intro v hv
    refine h4 v ?_
    rcases List.mem_cons.mp hv with z | z
    · exact List.mem_append_right _ (by rw [z]; exact List.mem_cons_self)
    · exact List.mem_append_left _ (List.mem_reverse.mpr z)
  have hos : aOk S st := fun v hv => h4 v (List.mem_append_right _ (List.mem_cons_of_mem _ hv))
  have hst : (as.reverse ++ .ref q :: st).map (arn io) = (as.map (arn io)).reverse ++ .ref (io q) :: st.map (arn io) := by
    rw [List.map_append, List.map_reverse]; rfl
  refine aG.cont hx (vx_runV (b := io q) (C := y.cls) (As := as.map (arn io)) (rest := st.map (arn io)) ⟨hx.1, hx.2.1, hx.2.2.1, hx.2.2.2.1, hx.2.2.2.2.1⟩ (hm io) (cwV as.length hx.2.2.2.2.1 (abig_cons l1 (abig_cons l2 (abig_cons l3 (abig_cons l4 (abig_cons l5 abig_good))))) rfl rfl rfl ⟨rfl, l6, l7, l8⟩ ⟨hrf, hrl⟩) ⟨aPc.blind, aRecv hx h1 hq h9 hC, aPc.at hx h1 hav h5⟩ rfl (by rw [List.length_map]) (h6.1) hst (lv_room (by rw [arn_cats]; exact hcat)) d ⟨Nat.le_trans hk hkR, Nat.le_trans hs hsR⟩) h2 h3 hos h5 h6 (fun v S' I' L' R' z io' H' locs' ls' b1 b2 b3 b4 b5 b6 => W.widen hk hs (z io' H' locs' ls' b1 b2 b3 b4 b5 b6)) ?_
  intro X io' S' I' L' R' H1 locs1 q9 ce hK hHR hag hag2 hS hce hcv hcl
  obtain ⟨t, ht, hG⟩ := hK
  obtain ⟨pre, x, suf, nm, e1, e2, e3, e4, e5, e6, e7⟩ := htg X t ht
  have hNc := hx.2.2.2.2.2.2.1.2.2.2.2.2.2.2.2.2.2.2
  refine vx_widen hk hs (vx_catch (name := nm) (E := X) (ce := ce) hx.2.2.2.1 pre x suf (htb.trans e1) (fun z hz => ?_) e3 e4 (hx.W e5) (hx.N e6 rfl) hce hcv hcl ?_)
  · rcases e2 z hz with w | ⟨w1, nm9, w2, w3⟩
    · exact Or.inl w
    · exact Or.inr ⟨w1, nm9, hx.W w2, hNc (X, nm9) w3⟩
  · have hm9 : ∀ r, S r ≠ none → S' r ≠ none := fun r z => by rw [(hag2 r z).2]; exact z
    have h6' : aLc io' nL lv ls := h6.congr h3 (fun r z => (hag2 r z).1)
    have h3' : aOk S' lvh := fun v hv q e => by
      obtain ⟨i, hi⟩ := List.getElem?_of_mem hv
      have z := hlv i v hi (by rw [e]; rfl)
      exact (h3.mono hm9) v (List.mem_of_getElem? z.2.1) q e
    rcases e7 with ⟨d7, e8⟩ | ⟨j4, e9, d7, e8⟩
    · subst e8
      exact lv_astore hx.1 hx.2.1 d7 (aAll_has h6'.1 h6'.2.1) hj rfl fun ls' hl' => hG io' H1 locs1 ls' hHR hag h3' aOk.nil hS (h6'.stu hlv hl')
    · subst e8
      exact lv_astore_n hx.1 hx.2.1 d7 e9 (aAll_has h6'.1 h6'.2.1) hj rfl fun ls' hl' => hG io' H1 locs1 ls' hHR hag h3' aOk.nil hS (h6'.stu hlv hl')
end ATH
def aMetW (l : Launch) (E : aE) (y : MethodName) (cc : ByteArray) (nL : Nat) (ret : Option FieldType) (hh : List (Nat × Nat × Nat × Nat)) (rm : Room) (av : List Value) (S : aS) (I : aI) (L : aL) (R : aR) (Kr : aK) : Prop :=
  ∀ io0 : aM, vx_Met l y (Cond.codeWith y cc nL ret hh :: aBIG) rm (aPc E io0 S I L R av) (aQc E io0 S Kr) (aXC E io0 S aNoX) rm.cells rm.slots (aW E)
theorem aMetW.of {l : Launch} {E : aE} {y : MethodName} {cc : ByteArray} {nL : Nat} {ret : Option FieldType} {hh : List (Nat × Nat × Nat × Nat)} {rm : Room} {av lv0 : List Value} {z : Nat} {S : aS} {I : aI} {L : aL} {Rf : aR} {Kr : aK} (hy : plainName y.cls = true) (hst : l.stackTraces = false) (h0 : aIni av ++ List.replicate z aU = lv0) (hlen : (aIni av).length ≤ nL)
    (body : ∀ (p : Program) (e : Env) (s : State) (m : MethodId) (args : Array Value) (below : List Frame) (meth : Method) (c : Code) (io0 : aM), aCx p l s m args meth c y.cls cc nL ret E → c.exceptionTable.toList = tableOf hh →
      aG p l e rm s m args below meth c E io0 S nL (vx_MQ below (aQc E io0 S Kr) (aXC E io0 S aNoX) args s rm.cells rm.slots (aW E)) 0 lv0 [] S I L Rf 0 0) : aMetW l E y cc nL ret hh rm av S I L Rf Kr := by
  intro io0
  refine vx_ofWH (ws' := aBIG) hy rfl ?_
  intro p e s m args below meth c s₁ B hml hv
  obtain ⟨rfl, hHR, hEv, hok⟩ := hv
  have hts := atoms_spec (ws := Cond.codeWith y cc nL ret hh :: aBIG) B.pre
  have htb := vx_table (x := y) B (hts _ List.mem_cons_self)
  have hl := lv_entry (av.map (arn io0)) (n := nL) (by rw [lg_sl_len]; exact hlen)
  rw [lg_entry_eq]
  subst h0
  refine body p e s m _ below meth c io0 ⟨B.exec, B.bytes, hml, findClass_of_methodNamed B.named, fun w hw => hts w (List.mem_cons_of_mem _ hw), B.notSynchronized, hEv, hst, B.returns⟩ htb io0 s.heap [] _ hHR (fun _ _ => ⟨rfl, rfl⟩) (aIni_ok av z hok) aOk.nil va_S.rf ⟨hl.1, hl.2.1, fun i v hi hk => ?_⟩
  have h9 := aIni_at (io := io0) av 0 i v z hi hk
  rw [Nat.zero_add] at h9
  exact hl.2.2 _ h9
def aLW (own : String) (idx : Nat) (y : MethodName) (cc : ByteArray) (nL : Nat) (ret : Option FieldType) (hh : List (Nat × Nat × Nat × Nat)) (n : Nat) : Prop := Cond.methodLink own idx y ∈ aBIG ∧ Cond.static y ∈ aBIG ∧ Cond.initialized y.cls ∈ aBIG ∧ Cond.codeWith y cc nL ret hh ∈ aBIG ∧ y.cls ≠ "java/lang/invoke/MethodHandle" ∧ y.cls ≠ "java/lang/invoke/VarHandle" ∧ (parseMethodDescriptor y.desc).map (fun d => d.parameters.length) = some n
section ATW
variable {p : Program} {l : Launch} {e : Env} {R : Room} {s : State} {m : MethodId} {args : Array Value} {below : List Frame} {meth : Method} {c : Code} {E : aE} {io0 : aM} {S0 : aS} {nL : Nat} {Q : State → Prop}
variable {own : String} {cc : ByteArray} {ret : Option FieldType} {pc nx : Nat} {lv st : List Value} {S : aS} {I : aI} {L : aL} {Rf : aR} {k n mc ms : Nat}
theorem g_callW (hx : aCx p l s m args meth c own cc nL ret E) {idx : Nat} {y : MethodName} {cc' : ByteArray} {nL' : Nat} {ret' : Option FieldType} {hh : List (Nat × Nat × Nat × Nat)} {rm : Room} (as : List Value) {stk : List Value} {k' n' : Nat} (d : decode cc pc = .ok (.invokestatic idx, 3)) (hn : pc + 3 = nx) (lk : aLW own idx y cc' nL' ret' hh as.length) (hstk : as.reverse ++ st = stk) (hcat : (st.map fun v => v.category).sum ≤ 8) (hrf : rm.frames + 1 ≤ R.frames) (hrl : 8 + (nL' + 11) + rm.locals ≤ R.locals) (hk : k + rm.cells ≤ k') (hs : n + rm.slots ≤ n') (hkR : k' ≤ R.cells) (hsR : n' ≤ R.slots)
    (hm : aMetW l E y cc' nL' ret' hh rm as S I L Rf (fun v S' I' L' R' => aG p l e R s m args below meth c E io0 S0 nL (Q) nx lv (v.toList ++ st) (S') (I') (L') (R') (k') (n'))) : aG p l e R s m args below meth c E io0 S0 nL (Q) pc lv (stk) (S) (I) (L) (Rf) (k) (n) := by
  subst hn; subst hstk
  intro io H locs ls h1 h2 h3 h4 h5 h6
  obtain ⟨l1, l2, l3, l4, l6, l7, l8⟩ := lk
  have hav : aOk S as := fun v hv => h4 v (List.mem_append_left _ (List.mem_reverse.mpr hv))
  have hos : aOk S st := fun v hv => h4 v (List.mem_append_right _ hv)
  have hst : (as.reverse ++ st).map (arn io) = (as.map (arn io)).reverse ++ st.map (arn io) := by
    rw [List.map_append, List.map_reverse]
  exact aG.cont (Kx' := aNoX) hx (run_of (vx_runSW (hh := hh) (As := as.map (arn io)) (rest := st.map (arn io)) ⟨hx.1, hx.2.1, hx.2.2.1, hx.2.2.2.1, hx.2.2.2.2.1⟩ (met_of (hm io) (fun _ _ _ z => z.1.choose_spec.choose_spec.choose_spec.choose_spec.choose_spec.1)) (vx_cwSW as.length hx.2.2.2.2.1 (abig_cons l1 (abig_cons l2 (abig_cons l3 (abig_cons l4 abig_good)))) rfl rfl rfl ⟨l6, l7, l8⟩ ⟨hrf, hrl⟩) ⟨aPc.blind, aPc.at hx h1 hav h5⟩ rfl (by rw [List.length_map]) (h6.1) hst (lv_room (by rw [arn_cats]; exact hcat)) d ⟨Nat.le_trans hk hkR, Nat.le_trans hs hsR⟩)) h2 h3 hos h5 h6 (fun v S' I' L' R' z io' H' locs' ls' b1 b2 b3 b4 b5 b6 => W.widen hk hs (z io' H' locs' ls' b1 b2 b3 b4 b5 b6)) (fun _ _ _ _ _ _ _ _ _ _ z => absurd z id)
end ATW
end
section
/-! the words that the instructions name -/
theorem abm {w : Cond} (i : Nat) (h : lw_tbl[i]? = some w) (g : goodWord w = true) : w ∈ aBIG := List.mem_filter.mpr ⟨List.mem_of_getElem? h, g⟩
theorem tw_49 : ∀ w ∈ vx_atS RX3 49 "java/lang/IllegalArgumentException" aXn, w ∈ aBIG ∨ (w ∈ lw_tbl ∧ aNk w = true) := by
  intro w hw
  have h1 : w ∈ lw_tbl := (by decide +kernel : ∀ w ∈ vx_atS RX3 49 "java/lang/IllegalArgumentException" aXn, w ∈ lw_tbl) w hw
  have h2 : (goodWord w || aNk w) = true := (by decide +kernel : ∀ w ∈ vx_atS RX3 49 "java/lang/IllegalArgumentException" aXn, (goodWord w || aNk w) = true) w hw
  rcases Bool.or_eq_true _ _ ▸ h2 with h | h
  · exact Or.inl (List.mem_filter.mpr ⟨h1, h⟩)
  · exact Or.inr ⟨h1, h⟩
theorem to_49 : ∀ w ∈ Cond.classLink RX3 45 "java/lang/IllegalArgumentException" :: Cond.initialized "java/lang/IllegalArgumentException" :: vx_atS RX3 49 "java/lang/IllegalArgumentException" aXn, vx_ot w = true := by decide +kernel
theorem tf_49 : Bundle.fit "java/lang/IllegalArgumentException" = true ∧ (∀ n ∈ aXn, Bundle.fit n = true) ∧ Cond.classLink RX3 45 "java/lang/IllegalArgumentException" ∈ aBIG ∧ Cond.initialized "java/lang/IllegalArgumentException" ∈ aBIG := ⟨by decide +kernel, by decide +kernel, (abm 284 (by decide +kernel) rfl), (abm 58 (by decide +kernel) rfl)⟩
theorem tw_59 : ∀ w ∈ vx_atS RX3 59 "java/lang/IllegalStateException" aXn, w ∈ aBIG ∨ (w ∈ lw_tbl ∧ aNk w = true) := by
  intro w hw
  have h1 : w ∈ lw_tbl := (by decide +kernel : ∀ w ∈ vx_atS RX3 59 "java/lang/IllegalStateException" aXn, w ∈ lw_tbl) w hw
  have h2 : (goodWord w || aNk w) = true := (by decide +kernel : ∀ w ∈ vx_atS RX3 59 "java/lang/IllegalStateException" aXn, (goodWord w || aNk w) = true) w hw
  rcases Bool.or_eq_true _ _ ▸ h2 with h | h
  · exact Or.inl (List.mem_filter.mpr ⟨h1, h⟩)
  · exact Or.inr ⟨h1, h⟩
theorem to_59 : ∀ w ∈ Cond.classLink RX3 55 "java/lang/IllegalStateException" :: Cond.initialized "java/lang/IllegalStateException" :: vx_atS RX3 59 "java/lang/IllegalStateException" aXn, vx_ot w = true := by decide +kernel
theorem tf_59 : Bundle.fit "java/lang/IllegalStateException" = true ∧ (∀ n ∈ aXn, Bundle.fit n = true) ∧ Cond.classLink RX3 55 "java/lang/IllegalStateException" ∈ aBIG ∧ Cond.initialized "java/lang/IllegalStateException" ∈ aBIG := ⟨by decide +kernel, by decide +kernel, (abm 352 (by decide +kernel) rfl), (abm 59 (by decide +kernel) rfl)⟩
theorem tw_261 : ∀ w ∈ vx_atS RX3 261 "java/lang/IndexOutOfBoundsException" aXn, w ∈ aBIG ∨ (w ∈ lw_tbl ∧ aNk w = true) := by
  intro w hw
  have h1 : w ∈ lw_tbl := (by decide +kernel : ∀ w ∈ vx_atS RX3 261 "java/lang/IndexOutOfBoundsException" aXn, w ∈ lw_tbl) w hw
  have h2 : (goodWord w || aNk w) = true := (by decide +kernel : ∀ w ∈ vx_atS RX3 261 "java/lang/IndexOutOfBoundsException" aXn, (goodWord w || aNk w) = true) w hw
  rcases Bool.or_eq_true _ _ ▸ h2 with h | h
  · exact Or.inl (List.mem_filter.mpr ⟨h1, h⟩)
  · exact Or.inr ⟨h1, h⟩
theorem to_261 : ∀ w ∈ Cond.classLink RX3 257 "java/lang/IndexOutOfBoundsException" :: Cond.initialized "java/lang/IndexOutOfBoundsException" :: vx_atS RX3 261 "java/lang/IndexOutOfBoundsException" aXn, vx_ot w = true := by decide +kernel
theorem tf_261 : Bundle.fit "java/lang/IndexOutOfBoundsException" = true ∧ (∀ n ∈ aXn, Bundle.fit n = true) ∧ Cond.classLink RX3 257 "java/lang/IndexOutOfBoundsException" ∈ aBIG ∧ Cond.initialized "java/lang/IndexOutOfBoundsException" ∈ aBIG := ⟨by decide +kernel, by decide +kernel, (abm 413 (by decide +kernel) rfl), (abm 61 (by decide +kernel) rfl)⟩
theorem fa_X0_9 : aFo RX0 9 0 6 := ⟨_, rfl, by decide, (abm 513 (by decide +kernel) rfl)⟩
theorem fa_X0_15 : aFo RX0 15 0 8 := ⟨_, rfl, by decide, (abm 516 (by decide +kernel) rfl)⟩
theorem fa_X0_19 : aFo RX0 19 0 0 := ⟨_, rfl, by decide, (abm 504 (by decide +kernel) rfl)⟩
theorem fa_X0_22 : aFo RX0 22 0 1 := ⟨_, rfl, by decide, (abm 506 (by decide +kernel) rfl)⟩
theorem fa_X0_25 : aFo RX0 25 0 2 := ⟨_, rfl, by decide, (abm 508 (by decide +kernel) rfl)⟩
theorem fa_X1_9 : aFo RX1 9 1 0 := ⟨_, rfl, by decide, (abm 147 (by decide +kernel) rfl)⟩
theorem fa_X1_15 : aFo RX1 15 1 1 := ⟨_, rfl, by decide, (abm 148 (by decide +kernel) rfl)⟩
theorem lk_X1_19 : aLV RX1 19 yX1_gather cX1_gather 5 none 2 := ⟨(abm 206 (by decide +kernel) rfl), (abm 208 (by decide +kernel) rfl), (abm 2 (by decide +kernel) rfl), (abm 53 (by decide +kernel) rfl), (abm 209 (by decide +kernel) rfl), by decide +kernel, by decide +kernel, by decide +kernel⟩
theorem lk_X1_23 : aLV RX1 23 yX1_lessMean cX1_lessMean 6 none 0 := ⟨(abm 210 (by decide +kernel) rfl), (abm 212 (by decide +kernel) rfl), (abm 3 (by decide +kernel) rfl), (abm 53 (by decide +kernel) rfl), (abm 213 (by decide +kernel) rfl), by decide +kernel, by decide +kernel, by decide +kernel⟩
theorem lk_X1_26 : aLV RX1 26 yX1_lessDrift cX1_lessDrift 10 none 0 := ⟨(abm 217 (by decide +kernel) rfl), (abm 219 (by decide +kernel) rfl), (abm 4 (by decide +kernel) rfl), (abm 53 (by decide +kernel) rfl), (abm 220 (by decide +kernel) rfl), by decide +kernel, by decide +kernel, by decide +kernel⟩
theorem fa_X1_29 : aFn RX1 29 2 12 := ⟨_, "AsteroTone", rfl, by decide, (List.mem_of_getElem? (i := 106) (by decide +kernel))⟩
theorem lk_X1_34 : aLV RX1 34 yX1_lessLine cX1_lessLine 10 none 1 := ⟨(abm 221 (by decide +kernel) rfl), (abm 223 (by decide +kernel) rfl), (abm 5 (by decide +kernel) rfl), (abm 53 (by decide +kernel) rfl), (abm 224 (by decide +kernel) rfl), by decide +kernel, by decide +kernel, by decide +kernel⟩
theorem fa_X1_38 : aFo RX1 38 1 2 := ⟨_, rfl, by decide, (abm 149 (by decide +kernel) rfl)⟩
theorem fa_X1_42 : aFn RX1 42 2 11 := ⟨_, "AsteroTone", rfl, by decide, (List.mem_of_getElem? (i := 103) (by decide +kernel))⟩
theorem fa_X1_45 : aFn RX1 45 2 10 := ⟨_, "AsteroTone", rfl, by decide, (List.mem_of_getElem? (i := 100) (by decide +kernel))⟩
theorem lk_X1_48 : aLS RX1 48 yJ7_fill_d0a16 cJ7_fill_d0a16 5 none 2 := ⟨(abm 655 (by decide +kernel) rfl), (abm 656 (by decide +kernel) rfl), (abm 52 (by decide +kernel) rfl), (abm 657 (by decide +kernel) rfl), by decide +kernel, by decide +kernel, by decide +kernel⟩
theorem lk_X1_54 : aLS RX1 54 yJ9_floorDiv_f86c9 cJ9_floorDiv_f86c9 6 (some .long) 2 := ⟨(abm 214 (by decide +kernel) rfl), (abm 215 (by decide +kernel) rfl), (abm 60 (by decide +kernel) rfl), (abm 216 (by decide +kernel) rfl), by decide +kernel, by decide +kernel, by decide +kernel⟩
theorem lk_X1_60 : aLV RX1 60 yX1_sumUp cX1_sumUp 4 none 1 := ⟨(abm 225 (by decide +kernel) rfl), (abm 227 (by decide +kernel) rfl), (abm 6 (by decide +kernel) rfl), (abm 53 (by decide +kernel) rfl), (abm 228 (by decide +kernel) rfl), by decide +kernel, by decide +kernel, by decide +kernel⟩
theorem kl_X1_63 : Cond.constantLong RX1 63 (1000) ∈ aBIG := (abm 238 (by decide +kernel) rfl)
theorem kl_X1_65 : Cond.constantLong RX1 65 (2) ∈ aBIG := (abm 239 (by decide +kernel) rfl)
theorem fa_X1_67 : aFo RX1 67 1 3 := ⟨_, rfl, by decide, (abm 151 (by decide +kernel) rfl)⟩
theorem fa_X1_71 : aFo RX1 71 1 4 := ⟨_, rfl, by decide, (abm 152 (by decide +kernel) rfl)⟩
theorem lk_X1_74 : aNS RX1 74 yX3_cosine cX3_cosine 1 (some .int) 1 := ⟨⟨"AsteroTone", (List.mem_of_getElem? (i := 229) (by decide +kernel))⟩, (abm 230 (by decide +kernel) rfl), (abm 50 (by decide +kernel) rfl), (abm 231 (by decide +kernel) rfl), by decide +kernel, by decide +kernel, by decide +kernel⟩
theorem lk_X1_78 : aNS RX1 78 yX3_sine cX3_sine 1 (some .int) 1 := ⟨⟨"AsteroTone", (List.mem_of_getElem? (i := 234) (by decide +kernel))⟩, (abm 235 (by decide +kernel) rfl), (abm 50 (by decide +kernel) rfl), (abm 236 (by decide +kernel) rfl), by decide +kernel, by decide +kernel, by decide +kernel⟩
theorem fa_X2_9 : aFo RX2 9 2 0 := ⟨_, rfl, by decide, (abm 82 (by decide +kernel) rfl)⟩
theorem fa_X2_15 : aFo RX2 15 2 1 := ⟨_, rfl, by decide, (abm 83 (by decide +kernel) rfl)⟩
theorem fa_X2_18 : aFo RX2 18 2 2 := ⟨_, rfl, by decide, (abm 84 (by decide +kernel) rfl)⟩
theorem fa_X2_21 : aFo RX2 21 2 10 := ⟨_, rfl, by decide, (abm 99 (by decide +kernel) rfl)⟩
theorem fa_X2_24 : aFo RX2 24 2 11 := ⟨_, rfl, by decide, (abm 102 (by decide +kernel) rfl)⟩
theorem fa_X2_27 : aFo RX2 27 2 12 := ⟨_, rfl, by decide, (abm 105 (by decide +kernel) rfl)⟩
theorem lk_X2_30 : aLS RX2 30 yJ7_fill_53178 cJ7_fill_53178 4 none 2 := ⟨(abm 79 (by decide +kernel) rfl), (abm 80 (by decide +kernel) rfl), (abm 52 (by decide +kernel) rfl), (abm 81 (by decide +kernel) rfl), by decide +kernel, by decide +kernel, by decide +kernel⟩
theorem fa_X2_36 : aFo RX2 36 2 3 := ⟨_, rfl, by decide, (abm 85 (by decide +kernel) rfl)⟩
theorem fa_X2_40 : aFo RX2 40 2 4 := ⟨_, rfl, by decide, (abm 87 (by decide +kernel) rfl)⟩
theorem lk_X2_43 : aLV RX2 43 yX2_crossed cX2_crossed 3 (some .int) 0 := ⟨(abm 385 (by decide +kernel) rfl), (abm 387 (by decide +kernel) rfl), (abm 14 (by decide +kernel) rfl), (abm 51 (by decide +kernel) rfl), (abm 388 (by decide +kernel) rfl), by decide +kernel, by decide +kernel, by decide +kernel⟩
theorem fa_X2_47 : aFo RX2 47 2 5 := ⟨_, rfl, by decide, (abm 89 (by decide +kernel) rfl)⟩
theorem kc_X2_50 : Cond.constant RX2 50 (10000000) ∈ aBIG := (abm 389 (by decide +kernel) rfl)
theorem fa_X2_51 : aFo RX2 51 2 6 := ⟨_, rfl, by decide, (abm 91 (by decide +kernel) rfl)⟩
theorem lk_X2_54 : aLV RX2 54 yX2_slowed cX2_slowed 3 (some .int) 0 := ⟨(abm 390 (by decide +kernel) rfl), (abm 392 (by decide +kernel) rfl), (abm 15 (by decide +kernel) rfl), (abm 51 (by decide +kernel) rfl), (abm 393 (by decide +kernel) rfl), by decide +kernel, by decide +kernel, by decide +kernel⟩
theorem fa_X2_57 : aFo RX2 57 2 7 := ⟨_, rfl, by decide, (abm 93 (by decide +kernel) rfl)⟩
theorem lk_X2_60 : aLV RX2 60 yX2_turned cX2_turned 4 (some .int) 0 := ⟨(abm 397 (by decide +kernel) rfl), (abm 399 (by decide +kernel) rfl), (abm 16 (by decide +kernel) rfl), (abm 51 (by decide +kernel) rfl), (abm 400 (by decide +kernel) rfl), by decide +kernel, by decide +kernel, by decide +kernel⟩
theorem fa_X2_63 : aFo RX2 63 2 8 := ⟨_, rfl, by decide, (abm 95 (by decide +kernel) rfl)⟩
theorem fa_X2_66 : aFo RX2 66 2 9 := ⟨_, rfl, by decide, (abm 97 (by decide +kernel) rfl)⟩
theorem lk_X2_69 : aLS RX2 69 yJ9_max_7cf53 cJ9_max_7cf53 2 (some .int) 2 := ⟨(abm 394 (by decide +kernel) rfl), (abm 395 (by decide +kernel) rfl), (abm 60 (by decide +kernel) rfl), (abm 396 (by decide +kernel) rfl), by decide +kernel, by decide +kernel, by decide +kernel⟩
theorem lk_X2_75 : aLS RX2 75 yJ9_floorDiv_7cf53 cJ9_floorDiv_7cf53 3 (some .int) 2 := ⟨(abm 253 (by decide +kernel) rfl), (abm 254 (by decide +kernel) rfl), (abm 60 (by decide +kernel) rfl), (abm 255 (by decide +kernel) rfl), by decide +kernel, by decide +kernel, by decide +kernel⟩
theorem lk_X2_78 : aLS RX2 78 yJ9_abs_0f7a4 cJ9_abs_0f7a4 1 (some .int) 1 := ⟨(abm 256 (by decide +kernel) rfl), (abm 257 (by decide +kernel) rfl), (abm 60 (by decide +kernel) rfl), (abm 258 (by decide +kernel) rfl), by decide +kernel, by decide +kernel, by decide +kernel⟩
theorem lk_X2_82 : aLV RX2 82 yX2_ring cX2_ring 7 (some .int) 3 := ⟨(abm 249 (by decide +kernel) rfl), (abm 251 (by decide +kernel) rfl), (abm 9 (by decide +kernel) rfl), (abm 51 (by decide +kernel) rfl), (abm 252 (by decide +kernel) rfl), by decide +kernel, by decide +kernel, by decide +kernel⟩
theorem an_X3_9 : Cond.classLink RX3 9 "AsteroTone$Star" ∈ aBIG := (abm 72 (by decide +kernel) rfl)
theorem fa_X3_11 : aFo RX3 11 3 0 := ⟨_, rfl, by decide, (abm 166 (by decide +kernel) rfl)⟩
theorem nw_X3_9 : Cond.classLink RX3 9 RX2 ∈ aBIG ∧ Cond.instantiable RX2 14 ∈ aBIG ∧ Cond.initialized RX2 ∈ aBIG ∧ ∀ b, b < 14 → (match atyT 2 b with | .float => false | .double => false | _ => true) = true := ⟨(abm 72 (by decide +kernel) rfl), (abm 74 (by decide +kernel) rfl), (abm 51 (by decide +kernel) rfl), by decide +kernel⟩
theorem lk_X3_15 : aNI RX3 15 yX2_init cX2_init 1 0 := ⟨⟨"AsteroTone", (List.mem_of_getElem? (i := 75) (by decide +kernel))⟩, (abm 76 (by decide +kernel) rfl), (abm 51 (by decide +kernel) rfl), (abm 77 (by decide +kernel) rfl), rfl, by decide +kernel, by decide +kernel, by decide +kernel⟩
theorem fa_X3_16 : aFo RX3 16 3 2 := ⟨_, rfl, by decide, (abm 168 (by decide +kernel) rfl)⟩
theorem fa_X3_20 : aFo RX3 20 3 3 := ⟨_, rfl, by decide, (abm 169 (by decide +kernel) rfl)⟩
theorem fa_X3_24 : aFo RX3 24 3 4 := ⟨_, rfl, by decide, (abm 170 (by decide +kernel) rfl)⟩
theorem an_X3_28 : Cond.classLink RX3 28 "AsteroTone$Claim" ∈ aBIG := (abm 139 (by decide +kernel) rfl)
theorem fa_X3_30 : aFo RX3 30 3 5 := ⟨_, rfl, by decide, (abm 171 (by decide +kernel) rfl)⟩
theorem nw_X3_34 : Cond.classLink RX3 34 RX1 ∈ aBIG ∧ Cond.instantiable RX1 5 ∈ aBIG ∧ Cond.initialized RX1 ∈ aBIG ∧ ∀ b, b < 5 → (match atyT 1 b with | .float => false | .double => false | _ => true) = true := ⟨(abm 141 (by decide +kernel) rfl), (abm 142 (by decide +kernel) rfl), (abm 53 (by decide +kernel) rfl), by decide +kernel⟩
theorem lk_X3_36 : aNI RX3 36 yX1_init cX1_init 1 0 := ⟨⟨"AsteroTone", (List.mem_of_getElem? (i := 143) (by decide +kernel))⟩, (abm 144 (by decide +kernel) rfl), (abm 53 (by decide +kernel) rfl), (abm 145 (by decide +kernel) rfl), rfl, by decide +kernel, by decide +kernel, by decide +kernel⟩
theorem fa_X3_37 : aFo RX3 37 3 7 := ⟨_, rfl, by decide, (abm 173 (by decide +kernel) rfl)⟩
theorem lk_X3_41 : aLS RX3 41 yX3_isOutside cX3_isOutside 3 (some .boolean) 3 := ⟨(abm 281 (by decide +kernel) rfl), (abm 282 (by decide +kernel) rfl), (abm 50 (by decide +kernel) rfl), (abm 283 (by decide +kernel) rfl), by decide +kernel, by decide +kernel, by decide +kernel⟩
theorem th_X3_45_47_49 : aTh RX3 45 47 49 "java/lang/IllegalArgumentException" "thick, speed or spin is out of range" := ⟨tf_49.1, tf_49.2.1, tf_49.2.2.1, tf_49.2.2.2, (List.mem_of_getElem? (i := 325) (by decide +kernel)), tw_49, to_49⟩
theorem fa_X3_52 : aFn RX3 52 2 3 := ⟨_, "AsteroTone", rfl, by decide, (List.mem_of_getElem? (i := 86) (by decide +kernel))⟩
theorem th_X3_55_57_59 : aTh RX3 55 57 59 "java/lang/IllegalStateException" "the star has 8 shells" := ⟨tf_59.1, tf_59.2.1, tf_59.2.2.1, tf_59.2.2.2, (List.mem_of_getElem? (i := 361) (by decide +kernel)), tw_59, to_59⟩
theorem lk_X3_60 : aNV RX3 60 yX2_addShell cX2_addShell 4 none 3 := ⟨⟨"AsteroTone", (List.mem_of_getElem? (i := 368) (by decide +kernel))⟩, (abm 370 (by decide +kernel) rfl), (abm 12 (by decide +kernel) rfl), (abm 51 (by decide +kernel) rfl), (abm 371 (by decide +kernel) rfl), by decide +kernel, by decide +kernel, by decide +kernel⟩
theorem th_X3_45_64_49 : aTh RX3 45 64 49 "java/lang/IllegalArgumentException" "the age is out of range" := ⟨tf_49.1, tf_49.2.1, tf_49.2.2.1, tf_49.2.2.2, (List.mem_of_getElem? (i := 379) (by decide +kernel)), tw_49, to_49⟩
theorem fa_X3_66 : aFo RX3 66 3 1 := ⟨_, rfl, by decide, (abm 167 (by decide +kernel) rfl)⟩
theorem th_X3_55_69_59 : aTh RX3 55 69 59 "java/lang/IllegalStateException" "the star has no shell, or there are 6 stars" := ⟨tf_59.1, tf_59.2.1, tf_59.2.2.1, tf_59.2.2.2, (List.mem_of_getElem? (i := 380) (by decide +kernel)), tw_59, to_59⟩
theorem lk_X3_71 : aNV RX3 71 yX2_settle cX2_settle 2 none 1 := ⟨⟨"AsteroTone", (List.mem_of_getElem? (i := 381) (by decide +kernel))⟩, (abm 383 (by decide +kernel) rfl), (abm 13 (by decide +kernel) rfl), (abm 51 (by decide +kernel) rfl), (abm 384 (by decide +kernel) rfl), by decide +kernel, by decide +kernel, by decide +kernel⟩
theorem lk_X3_75 : aLV RX3 75 yX3_starAt cX3_starAt 2 (some (.object "AsteroTone$Star")) 1 := ⟨(abm 409 (by decide +kernel) rfl), (abm 411 (by decide +kernel) rfl), (abm 17 (by decide +kernel) rfl), (abm 50 (by decide +kernel) rfl), (abm 412 (by decide +kernel) rfl), by decide +kernel, by decide +kernel, by decide +kernel⟩
theorem lk_X3_79 : aLS RX3 79 yX3_lookForSite cX3_lookForSite 1 none 1 := ⟨(abm 429 (by decide +kernel) rfl), (abm 430 (by decide +kernel) rfl), (abm 50 (by decide +kernel) rfl), (abm 431 (by decide +kernel) rfl), by decide +kernel, by decide +kernel, by decide +kernel⟩
theorem lk_X3_82 : aLS RX3 82 yX3_lookAtTime cX3_lookAtTime 1 none 1 := ⟨(abm 433 (by decide +kernel) rfl), (abm 434 (by decide +kernel) rfl), (abm 50 (by decide +kernel) rfl), (abm 435 (by decide +kernel) rfl), by decide +kernel, by decide +kernel, by decide +kernel⟩
theorem th_X3_45_85_49 : aTh RX3 45 85 49 "java/lang/IllegalArgumentException" "the count is out of range" := ⟨tf_49.1, tf_49.2.1, tf_49.2.2.1, tf_49.2.2.2, (List.mem_of_getElem? (i := 437) (by decide +kernel)), tw_49, to_49⟩
theorem fa_X3_87 : aFn RX3 87 2 10 := ⟨_, "AsteroTone", rfl, by decide, (List.mem_of_getElem? (i := 101) (by decide +kernel))⟩
theorem fa_X3_91 : aFn RX3 91 2 11 := ⟨_, "AsteroTone", rfl, by decide, (List.mem_of_getElem? (i := 104) (by decide +kernel))⟩
theorem th_X3_55_94_59 : aTh RX3 55 94 59 "java/lang/IllegalStateException" "there is no frame of that time" := ⟨tf_59.1, tf_59.2.1, tf_59.2.2.1, tf_59.2.2.2, (List.mem_of_getElem? (i := 445) (by decide +kernel)), tw_59, to_59⟩
theorem kc_X3_96 : Cond.constant RX3 96 (1000000000) ∈ aBIG := (abm 460 (by decide +kernel) rfl)
theorem th_X3_45_97_49 : aTh RX3 45 97 49 "java/lang/IllegalArgumentException" "the power is out of range" := ⟨tf_49.1, tf_49.2.1, tf_49.2.2.1, tf_49.2.2.2, (List.mem_of_getElem? (i := 461) (by decide +kernel)), tw_49, to_49⟩
theorem th_X3_45_99_49 : aTh RX3 45 99 49 "java/lang/IllegalArgumentException" "the line is out of range" := ⟨tf_49.1, tf_49.2.1, tf_49.2.2.1, tf_49.2.2.2, (List.mem_of_getElem? (i := 469) (by decide +kernel)), tw_49, to_49⟩
theorem fa_X3_101 : aFn RX3 101 2 13 := ⟨_, "AsteroTone", rfl, by decide, (List.mem_of_getElem? (i := 108) (by decide +kernel))⟩
theorem th_X3_55_104_59 : aTh RX3 55 104 59 "java/lang/IllegalStateException" "6 lines are taken out" := ⟨tf_59.1, tf_59.2.1, tf_59.2.2.1, tf_59.2.2.2, (List.mem_of_getElem? (i := 470) (by decide +kernel)), tw_59, to_59⟩
theorem fa_X3_106 : aFn RX3 106 2 12 := ⟨_, "AsteroTone", rfl, by decide, (List.mem_of_getElem? (i := 107) (by decide +kernel))⟩
theorem lk_X3_109 : aLS RX3 109 yX3_lookForFilter cX3_lookForFilter 1 none 1 := ⟨(abm 485 (by decide +kernel) rfl), (abm 486 (by decide +kernel) rfl), (abm 50 (by decide +kernel) rfl), (abm 487 (by decide +kernel) rfl), by decide +kernel, by decide +kernel, by decide +kernel⟩
theorem lk_X3_112 : aLV RX3 112 yX3_lookForRoom cX3_lookForRoom 1 none 0 := ⟨(abm 489 (by decide +kernel) rfl), (abm 491 (by decide +kernel) rfl), (abm 18 (by decide +kernel) rfl), (abm 50 (by decide +kernel) rfl), (abm 492 (by decide +kernel) rfl), by decide +kernel, by decide +kernel, by decide +kernel⟩
theorem lk_X3_115 : aLV RX3 115 yX3_standsOut cX3_standsOut 6 (some .boolean) 3 := ⟨(abm 494 (by decide +kernel) rfl), (abm 496 (by decide +kernel) rfl), (abm 19 (by decide +kernel) rfl), (abm 50 (by decide +kernel) rfl), (abm 497 (by decide +kernel) rfl), by decide +kernel, by decide +kernel, by decide +kernel⟩
theorem th_X3_55_119_59 : aTh RX3 55 119 59 "java/lang/IllegalStateException" "the line is no peak" := ⟨tf_59.1, tf_59.2.1, tf_59.2.2.1, tf_59.2.2.2, (List.mem_of_getElem? (i := 498) (by decide +kernel)), tw_59, to_59⟩
theorem nw_X3_28 : Cond.classLink RX3 28 RX0 ∈ aBIG ∧ Cond.instantiable RX0 9 ∈ aBIG ∧ Cond.initialized RX0 ∈ aBIG ∧ ∀ b, b < 9 → (match atyT 0 b with | .float => false | .double => false | _ => true) = true := ⟨(abm 139 (by decide +kernel) rfl), (abm 499 (by decide +kernel) rfl), (abm 62 (by decide +kernel) rfl), by decide +kernel⟩
theorem lk_X3_121 : aNI RX3 121 yX0_init cX0_init 4 3 := ⟨⟨"AsteroTone", (List.mem_of_getElem? (i := 500) (by decide +kernel))⟩, (abm 501 (by decide +kernel) rfl), (abm 62 (by decide +kernel) rfl), (abm 502 (by decide +kernel) rfl), rfl, by decide +kernel, by decide +kernel, by decide +kernel⟩
theorem fa_X3_123 : aFn RX3 123 0 3 := ⟨_, "AsteroTone", rfl, by decide, (List.mem_of_getElem? (i := 510) (by decide +kernel))⟩
theorem fa_X3_126 : aFn RX3 126 0 4 := ⟨_, "AsteroTone", rfl, by decide, (List.mem_of_getElem? (i := 511) (by decide +kernel))⟩
theorem lk_X3_127 : aNV RX3 127 yX1_strength cX1_strength 6 (some .long) 1 := ⟨⟨"AsteroTone", (List.mem_of_getElem? (i := 240) (by decide +kernel))⟩, (abm 242 (by decide +kernel) rfl), (abm 7 (by decide +kernel) rfl), (abm 53 (by decide +kernel) rfl), (abm 243 (by decide +kernel) rfl), by decide +kernel, by decide +kernel, by decide +kernel⟩
theorem fa_X3_131 : aFn RX3 131 0 5 := ⟨_, "AsteroTone", rfl, by decide, (List.mem_of_getElem? (i := 512) (by decide +kernel))⟩
theorem lk_X3_135 : aLV RX3 135 yX3_enter cX3_enter 2 (some .int) 1 := ⟨(abm 537 (by decide +kernel) rfl), (abm 539 (by decide +kernel) rfl), (abm 20 (by decide +kernel) rfl), (abm 50 (by decide +kernel) rfl), (abm 540 (by decide +kernel) rfl), by decide +kernel, by decide +kernel, by decide +kernel⟩
theorem lk_X3_139 : aLV RX3 139 yX3_claimAt cX3_claimAt 2 (some (.object "AsteroTone$Claim")) 1 := ⟨(abm 548 (by decide +kernel) rfl), (abm 550 (by decide +kernel) rfl), (abm 21 (by decide +kernel) rfl), (abm 50 (by decide +kernel) rfl), (abm 551 (by decide +kernel) rfl), by decide +kernel, by decide +kernel, by decide +kernel⟩
theorem fa_X3_143 : aFn RX3 143 0 0 := ⟨_, "AsteroTone", rfl, by decide, (List.mem_of_getElem? (i := 505) (by decide +kernel))⟩
theorem th_X3_45_146_49 : aTh RX3 45 146 49 "java/lang/IllegalArgumentException" "one is of no tone" := ⟨tf_49.1, tf_49.2.1, tf_49.2.2.1, tf_49.2.2.2, (List.mem_of_getElem? (i := 553) (by decide +kernel)), tw_49, to_49⟩
theorem fa_X3_148 : aFn RX3 148 0 1 := ⟨_, "AsteroTone", rfl, by decide, (List.mem_of_getElem? (i := 507) (by decide +kernel))⟩
theorem fa_X3_151 : aFn RX3 151 0 2 := ⟨_, "AsteroTone", rfl, by decide, (List.mem_of_getElem? (i := 509) (by decide +kernel))⟩
theorem th_X3_45_154_49 : aTh RX3 45 154 49 "java/lang/IllegalArgumentException" "they are of two stars, or of one line" := ⟨tf_49.1, tf_49.2.1, tf_49.2.2.1, tf_49.2.2.2, (List.mem_of_getElem? (i := 554) (by decide +kernel)), tw_49, to_49⟩
theorem fa_X3_156 : aFn RX3 156 0 8 := ⟨_, "AsteroTone", rfl, by decide, (List.mem_of_getElem? (i := 517) (by decide +kernel))⟩
theorem th_X3_55_160_59 : aTh RX3 55 160 59 "java/lang/IllegalStateException" "one is withdrawn" := ⟨tf_59.1, tf_59.2.1, tf_59.2.2.1, tf_59.2.2.2, (List.mem_of_getElem? (i := 555) (by decide +kernel)), tw_59, to_59⟩
theorem kc_X3_162 : Cond.constant RX3 162 (40000) ∈ aBIG := (abm 244 (by decide +kernel) rfl)
theorem lk_X3_163 : aLS RX3 163 yJ9_abs_0f7a4 cJ9_abs_0f7a4 1 (some .int) 1 := ⟨(abm 556 (by decide +kernel) rfl), (abm 257 (by decide +kernel) rfl), (abm 60 (by decide +kernel) rfl), (abm 258 (by decide +kernel) rfl), by decide +kernel, by decide +kernel, by decide +kernel⟩
theorem lk_X3_169 : aLV RX3 169 yX3_ageOfNearest cX3_ageOfNearest 6 (some .int) 1 := ⟨(abm 557 (by decide +kernel) rfl), (abm 559 (by decide +kernel) rfl), (abm 22 (by decide +kernel) rfl), (abm 50 (by decide +kernel) rfl), (abm 560 (by decide +kernel) rfl), by decide +kernel, by decide +kernel, by decide +kernel⟩
theorem fa_X3_172 : aFn RX3 172 0 6 := ⟨_, "AsteroTone", rfl, by decide, (List.mem_of_getElem? (i := 514) (by decide +kernel))⟩
theorem lk_X3_175 : aLS RX3 175 yX3_bit cX3_bit 1 (some .long) 1 := ⟨(abm 259 (by decide +kernel) rfl), (abm 260 (by decide +kernel) rfl), (abm 50 (by decide +kernel) rfl), (abm 261 (by decide +kernel) rfl), by decide +kernel, by decide +kernel, by decide +kernel⟩
theorem fa_X3_178 : aFn RX3 178 0 7 := ⟨_, "AsteroTone", rfl, by decide, (List.mem_of_getElem? (i := 515) (by decide +kernel))⟩
theorem th_X3_45_181_49 : aTh RX3 45 181 49 "java/lang/IllegalArgumentException" "it is of no tone" := ⟨tf_49.1, tf_49.2.1, tf_49.2.2.1, tf_49.2.2.2, (List.mem_of_getElem? (i := 569) (by decide +kernel)), tw_49, to_49⟩
theorem th_X3_55_183_59 : aTh RX3 55 183 59 "java/lang/IllegalStateException" "it is withdrawn" := ⟨tf_59.1, tf_59.2.1, tf_59.2.2.1, tf_59.2.2.2, (List.mem_of_getElem? (i := 570) (by decide +kernel)), tw_59, to_59⟩
theorem th_X3_45_185_49 : aTh RX3 45 185 49 "java/lang/IllegalArgumentException" "the other one has not a lower number" := ⟨tf_49.1, tf_49.2.1, tf_49.2.2.1, tf_49.2.2.2, (List.mem_of_getElem? (i := 578) (by decide +kernel)), tw_49, to_49⟩
theorem th_X3_55_187_59 : aTh RX3 55 187 59 "java/lang/IllegalStateException" "one is withdrawn, or it cites that" := ⟨tf_59.1, tf_59.2.1, tf_59.2.2.1, tf_59.2.2.2, (List.mem_of_getElem? (i := 579) (by decide +kernel)), tw_59, to_59⟩
theorem lk_X3_189 : aLS RX3 189 yJ13_bitCount_95d88 cJ13_bitCount_95d88 2 (some .int) 1 := ⟨(abm 266 (by decide +kernel) rfl), (abm 267 (by decide +kernel) rfl), (abm 63 (by decide +kernel) rfl), (abm 268 (by decide +kernel) rfl), by decide +kernel, by decide +kernel, by decide +kernel⟩
theorem lk_X3_195 : aLV RX3 195 yX3_withdrawAll cX3_withdrawAll 8 (some .int) 1 := ⟨(abm 262 (by decide +kernel) rfl), (abm 264 (by decide +kernel) rfl), (abm 10 (by decide +kernel) rfl), (abm 50 (by decide +kernel) rfl), (abm 265 (by decide +kernel) rfl), by decide +kernel, by decide +kernel, by decide +kernel⟩
theorem fa_X3_198 : aFo RX3 198 3 6 := ⟨_, rfl, by decide, (abm 172 (by decide +kernel) rfl)⟩
theorem lk_X3_201 : aLV RX3 201 yX3_holds cX3_holds 3 (some .boolean) 1 := ⟨(abm 195 (by decide +kernel) rfl), (abm 197 (by decide +kernel) rfl), (abm 0 (by decide +kernel) rfl), (abm 50 (by decide +kernel) rfl), (abm 198 (by decide +kernel) rfl), by decide +kernel, by decide +kernel, by decide +kernel⟩
theorem fa_X3_205 : aFn RX3 205 2 4 := ⟨_, "AsteroTone", rfl, by decide, (List.mem_of_getElem? (i := 88) (by decide +kernel))⟩
theorem fa_X3_206 : aFn RX3 206 2 5 := ⟨_, "AsteroTone", rfl, by decide, (List.mem_of_getElem? (i := 90) (by decide +kernel))⟩
theorem fa_X3_209 : aFn RX3 209 2 6 := ⟨_, "AsteroTone", rfl, by decide, (List.mem_of_getElem? (i := 92) (by decide +kernel))⟩
theorem fa_X3_212 : aFn RX3 212 2 7 := ⟨_, "AsteroTone", rfl, by decide, (List.mem_of_getElem? (i := 94) (by decide +kernel))⟩
theorem fa_X3_215 : aFn RX3 215 2 8 := ⟨_, "AsteroTone", rfl, by decide, (List.mem_of_getElem? (i := 96) (by decide +kernel))⟩
theorem fa_X3_218 : aFn RX3 218 2 9 := ⟨_, "AsteroTone", rfl, by decide, (List.mem_of_getElem? (i := 98) (by decide +kernel))⟩
theorem th_X3_45_221_49 : aTh RX3 45 221 49 "java/lang/IllegalArgumentException" "what is out of range" := ⟨tf_49.1, tf_49.2.1, tf_49.2.2.1, tf_49.2.2.2, (List.mem_of_getElem? (i := 594) (by decide +kernel)), tw_49, to_49⟩
theorem lk_X3_223 : aNV RX3 223 yX2_crossedByUnits cX2_crossedByUnits 5 (some .int) 0 := ⟨⟨"AsteroTone", (List.mem_of_getElem? (i := 602) (by decide +kernel))⟩, (abm 604 (by decide +kernel) rfl), (abm 23 (by decide +kernel) rfl), (abm 51 (by decide +kernel) rfl), (abm 605 (by decide +kernel) rfl), by decide +kernel, by decide +kernel, by decide +kernel⟩
theorem th_X3_45_227_49 : aTh RX3 45 227 49 "java/lang/IllegalArgumentException" "order, degree or part is out of range" := ⟨tf_49.1, tf_49.2.1, tf_49.2.2.1, tf_49.2.2.2, (List.mem_of_getElem? (i := 613) (by decide +kernel)), tw_49, to_49⟩
theorem lk_X3_229 : aNV RX3 229 yX2_ring cX2_ring 7 (some .int) 3 := ⟨⟨"AsteroTone", (List.mem_of_getElem? (i := 614) (by decide +kernel))⟩, (abm 251 (by decide +kernel) rfl), (abm 9 (by decide +kernel) rfl), (abm 51 (by decide +kernel) rfl), (abm 252 (by decide +kernel) rfl), by decide +kernel, by decide +kernel, by decide +kernel⟩
theorem lk_X3_233 : aNV RX3 233 yX1_gather cX1_gather 5 none 2 := ⟨⟨"AsteroTone", (List.mem_of_getElem? (i := 622) (by decide +kernel))⟩, (abm 208 (by decide +kernel) rfl), (abm 2 (by decide +kernel) rfl), (abm 53 (by decide +kernel) rfl), (abm 209 (by decide +kernel) rfl), by decide +kernel, by decide +kernel, by decide +kernel⟩
theorem fa_X3_237 : aFn RX3 237 1 2 := ⟨_, "AsteroTone", rfl, by decide, (List.mem_of_getElem? (i := 150) (by decide +kernel))⟩
theorem lk_X3_240 : aNV RX3 240 yX1_look cX1_look 6 none 4 := ⟨⟨"AsteroTone", (List.mem_of_getElem? (i := 202) (by decide +kernel))⟩, (abm 204 (by decide +kernel) rfl), (abm 1 (by decide +kernel) rfl), (abm 53 (by decide +kernel) rfl), (abm 205 (by decide +kernel) rfl), by decide +kernel, by decide +kernel, by decide +kernel⟩
theorem lk_X3_244 : aNV RX3 244 yX1_valueAt cX1_valueAt 3 (some .long) 1 := ⟨⟨"AsteroTone", (List.mem_of_getElem? (i := 630) (by decide +kernel))⟩, (abm 632 (by decide +kernel) rfl), (abm 24 (by decide +kernel) rfl), (abm 53 (by decide +kernel) rfl), (abm 633 (by decide +kernel) rfl), by decide +kernel, by decide +kernel, by decide +kernel⟩
theorem lk_X3_247 : aLS RX3 247 yX3_lookAtLine cX3_lookAtLine 1 none 1 := ⟨(abm 641 (by decide +kernel) rfl), (abm 642 (by decide +kernel) rfl), (abm 50 (by decide +kernel) rfl), (abm 643 (by decide +kernel) rfl), by decide +kernel, by decide +kernel, by decide +kernel⟩
theorem lk_X3_250 : aNV RX3 250 yX1_flatten cX1_flatten 1 none 0 := ⟨⟨"AsteroTone", (List.mem_of_getElem? (i := 651) (by decide +kernel))⟩, (abm 653 (by decide +kernel) rfl), (abm 25 (by decide +kernel) rfl), (abm 53 (by decide +kernel) rfl), (abm 654 (by decide +kernel) rfl), by decide +kernel, by decide +kernel, by decide +kernel⟩
theorem th_X3_45_253_49 : aTh RX3 45 253 49 "java/lang/IllegalArgumentException" "both lines are the same" := ⟨tf_49.1, tf_49.2.1, tf_49.2.2.1, tf_49.2.2.2, (List.mem_of_getElem? (i := 672) (by decide +kernel)), tw_49, to_49⟩
theorem kl_X3_255 : Cond.constantLong RX3 255 (4) ∈ aBIG := (abm 673 (by decide +kernel) rfl)
theorem th_X3_257_259_261 : aTh RX3 257 259 261 "java/lang/IndexOutOfBoundsException" "there is no such star" := ⟨tf_261.1, tf_261.2.1, tf_261.2.2.1, tf_261.2.2.2, (List.mem_of_getElem? (i := 422) (by decide +kernel)), tw_261, to_261⟩
theorem th_X3_257_262_261 : aTh RX3 257 262 261 "java/lang/IndexOutOfBoundsException" "there is no such claim" := ⟨tf_261.1, tf_261.2.1, tf_261.2.2.1, tf_261.2.2.2, (List.mem_of_getElem? (i := 552) (by decide +kernel)), tw_261, to_261⟩
theorem th_X3_257_264_261 : aTh RX3 257 264 261 "java/lang/IndexOutOfBoundsException" "there is no such site" := ⟨tf_261.1, tf_261.2.1, tf_261.2.2.1, tf_261.2.2.2, (List.mem_of_getElem? (i := 432) (by decide +kernel)), tw_261, to_261⟩
theorem th_X3_257_266_261 : aTh RX3 257 266 261 "java/lang/IndexOutOfBoundsException" "there is no such filter" := ⟨tf_261.1, tf_261.2.1, tf_261.2.2.1, tf_261.2.2.2, (List.mem_of_getElem? (i := 488) (by decide +kernel)), tw_261, to_261⟩
theorem th_X3_45_268_49 : aTh RX3 45 268 49 "java/lang/IllegalArgumentException" "the time is out of range" := ⟨tf_49.1, tf_49.2.1, tf_49.2.2.1, tf_49.2.2.2, (List.mem_of_getElem? (i := 436) (by decide +kernel)), tw_49, to_49⟩
theorem th_X3_55_270_59 : aTh RX3 55 270 59 "java/lang/IllegalStateException" "there are 40 claims" := ⟨tf_59.1, tf_59.2.1, tf_59.2.2.1, tf_59.2.2.2, (List.mem_of_getElem? (i := 493) (by decide +kernel)), tw_59, to_59⟩
theorem gs_X3_272 : Cond.fieldLink RX3 272 "AsteroTone" "COSINES" "[I" ∈ aBIG := by decide +kernel
theorem lk_X3_275 : aLS RX3 275 yX3_cosine cX3_cosine 1 (some .int) 1 := ⟨(abm 237 (by decide +kernel) rfl), (abm 230 (by decide +kernel) rfl), (abm 50 (by decide +kernel) rfl), (abm 231 (by decide +kernel) rfl), by decide +kernel, by decide +kernel, by decide +kernel⟩
theorem kc_X3_280 : Cond.constant RX3 280 (2147483647) ∈ aBIG := (abm 561 (by decide +kernel) rfl)
theorem lk_X3_281 : aLS RX3 281 yJ9_min_7cf53 cJ9_min_7cf53 2 (some .int) 2 := ⟨(abm 199 (by decide +kernel) rfl), (abm 200 (by decide +kernel) rfl), (abm 60 (by decide +kernel) rfl), (abm 201 (by decide +kernel) rfl), by decide +kernel, by decide +kernel, by decide +kernel⟩
theorem lk_X3_285 : aNV RX3 285 yX2_ringsNear cX2_ringsNear 4 (some .boolean) 1 := ⟨⟨"AsteroTone", (List.mem_of_getElem? (i := 245) (by decide +kernel))⟩, (abm 247 (by decide +kernel) rfl), (abm 8 (by decide +kernel) rfl), (abm 51 (by decide +kernel) rfl), (abm 248 (by decide +kernel) rfl), by decide +kernel, by decide +kernel, by decide +kernel⟩
theorem fa_X4_7 : aFo RX4 7 4 1 := ⟨_, rfl, by decide, (abm 699 (by decide +kernel) rfl)⟩
theorem fa_X4_13 : aFo RX4 13 4 2 := ⟨_, rfl, by decide, (abm 700 (by decide +kernel) rfl)⟩
theorem fa_X4_16 : aFo RX4 16 4 3 := ⟨_, rfl, by decide, (abm 701 (by decide +kernel) rfl)⟩
theorem fa_X4_19 : aFo RX4 19 4 5 := ⟨_, rfl, by decide, (abm 703 (by decide +kernel) rfl)⟩
theorem fa_X4_22 : aFo RX4 22 4 6 := ⟨_, rfl, by decide, (abm 704 (by decide +kernel) rfl)⟩
theorem fa_X4_25 : aFo RX4 25 4 7 := ⟨_, rfl, by decide, (abm 705 (by decide +kernel) rfl)⟩
theorem fa_X4_28 : aFo RX4 28 4 8 := ⟨_, rfl, by decide, (abm 706 (by decide +kernel) rfl)⟩
theorem fa_X4_31 : aFo RX4 31 4 9 := ⟨_, rfl, by decide, (abm 707 (by decide +kernel) rfl)⟩
theorem fa_X4_34 : aFo RX4 34 4 10 := ⟨_, rfl, by decide, (abm 708 (by decide +kernel) rfl)⟩
theorem fa_X4_37 : aFo RX4 37 4 11 := ⟨_, rfl, by decide, (abm 709 (by decide +kernel) rfl)⟩
theorem fa_X4_40 : aFo RX4 40 4 12 := ⟨_, rfl, by decide, (abm 710 (by decide +kernel) rfl)⟩
theorem fa_X4_43 : aFo RX4 43 4 13 := ⟨_, rfl, by decide, (abm 711 (by decide +kernel) rfl)⟩
theorem fa_X4_47 : aFo RX4 47 4 14 := ⟨_, rfl, by decide, (abm 712 (by decide +kernel) rfl)⟩
theorem fa_X4_51 : aFo RX4 51 4 15 := ⟨_, rfl, by decide, (abm 713 (by decide +kernel) rfl)⟩
theorem fa_X4_54 : aFo RX4 54 4 16 := ⟨_, rfl, by decide, (abm 714 (by decide +kernel) rfl)⟩
theorem fa_X4_57 : aFo RX4 57 4 17 := ⟨_, rfl, by decide, (abm 715 (by decide +kernel) rfl)⟩
theorem fa_X4_60 : aFo RX4 60 4 19 := ⟨_, rfl, by decide, (abm 717 (by decide +kernel) rfl)⟩
theorem fa_X4_64 : aFo RX4 64 4 20 := ⟨_, rfl, by decide, (abm 718 (by decide +kernel) rfl)⟩
theorem fa_X4_67 : aFo RX4 67 4 22 := ⟨_, rfl, by decide, (abm 720 (by decide +kernel) rfl)⟩
theorem fa_X4_70 : aFo RX4 70 4 23 := ⟨_, rfl, by decide, (abm 721 (by decide +kernel) rfl)⟩
theorem fa_X4_73 : aFo RX4 73 4 24 := ⟨_, rfl, by decide, (abm 722 (by decide +kernel) rfl)⟩
theorem fa_X4_76 : aFo RX4 76 4 25 := ⟨_, rfl, by decide, (abm 723 (by decide +kernel) rfl)⟩
theorem fa_X4_79 : aFo RX4 79 4 26 := ⟨_, rfl, by decide, (abm 724 (by decide +kernel) rfl)⟩
theorem fa_X4_82 : aFo RX4 82 4 27 := ⟨_, rfl, by decide, (abm 725 (by decide +kernel) rfl)⟩
theorem fa_X4_85 : aFo RX4 85 4 28 := ⟨_, rfl, by decide, (abm 726 (by decide +kernel) rfl)⟩
theorem fa_X4_88 : aFo RX4 88 4 29 := ⟨_, rfl, by decide, (abm 727 (by decide +kernel) rfl)⟩
theorem fa_X4_91 : aFo RX4 91 4 30 := ⟨_, rfl, by decide, (abm 728 (by decide +kernel) rfl)⟩
theorem lk_X4_94 : aLV RX4 94 yX4_laysRow cX4_laysRow 6 none 5 := ⟨(abm 694 (by decide +kernel) rfl), (abm 696 (by decide +kernel) rfl), (abm 26 (by decide +kernel) rfl), (abm 54 (by decide +kernel) rfl), (abm 697 (by decide +kernel) rfl), by decide +kernel, by decide +kernel, by decide +kernel⟩
theorem fa_X4_98 : aFo RX4 98 4 31 := ⟨_, rfl, by decide, (abm 729 (by decide +kernel) rfl)⟩
theorem fa_X4_101 : aFo RX4 101 4 4 := ⟨_, rfl, by decide, (abm 702 (by decide +kernel) rfl)⟩
theorem lk_X4_104 : aLS RX4 104 yX4_isIn cX4_isIn 3 (some .boolean) 3 := ⟨(abm 803 (by decide +kernel) rfl), (abm 804 (by decide +kernel) rfl), (abm 54 (by decide +kernel) rfl), (abm 805 (by decide +kernel) rfl), by decide +kernel, by decide +kernel, by decide +kernel⟩
theorem fa_X4_108 : aFo RX4 108 4 21 := ⟨_, rfl, by decide, (abm 719 (by decide +kernel) rfl)⟩
theorem fa_X4_111 : aFo RX4 111 4 0 := ⟨_, rfl, by decide, (abm 698 (by decide +kernel) rfl)⟩
theorem lk_X4_114 : aLV RX4 114 yX4_can cX4_can 2 (some .boolean) 1 := ⟨(abm 806 (by decide +kernel) rfl), (abm 808 (by decide +kernel) rfl), (abm 27 (by decide +kernel) rfl), (abm 54 (by decide +kernel) rfl), (abm 809 (by decide +kernel) rfl), by decide +kernel, by decide +kernel, by decide +kernel⟩
theorem kc_X4_118 : Cond.constant RX4 118 (10000000) ∈ aBIG := (abm 814 (by decide +kernel) rfl)
theorem lk_X4_119 : aLV RX4 119 yX4_isStar cX4_isStar 2 (some .boolean) 1 := ⟨(abm 819 (by decide +kernel) rfl), (abm 821 (by decide +kernel) rfl), (abm 28 (by decide +kernel) rfl), (abm 54 (by decide +kernel) rfl), (abm 822 (by decide +kernel) rfl), by decide +kernel, by decide +kernel, by decide +kernel⟩
theorem lk_X4_122 : aLV RX4 122 yX4_toneOf cX4_toneOf 8 (some .int) 4 := ⟨(abm 831 (by decide +kernel) rfl), (abm 833 (by decide +kernel) rfl), (abm 29 (by decide +kernel) rfl), (abm 54 (by decide +kernel) rfl), (abm 834 (by decide +kernel) rfl), by decide +kernel, by decide +kernel, by decide +kernel⟩
theorem lk_X4_126 : aLS RX4 126 yX4_isTime cX4_isTime 1 (some .boolean) 1 := ⟨(abm 839 (by decide +kernel) rfl), (abm 840 (by decide +kernel) rfl), (abm 54 (by decide +kernel) rfl), (abm 841 (by decide +kernel) rfl), by decide +kernel, by decide +kernel, by decide +kernel⟩
theorem kc_X4_129 : Cond.constant RX4 129 (1000000000) ∈ aBIG := (abm 854 (by decide +kernel) rfl)
theorem lk_X4_130 : aLV RX4 130 yX4_sine cX4_sine 2 (some .long) 1 := ⟨(abm 898 (by decide +kernel) rfl), (abm 900 (by decide +kernel) rfl), (abm 35 (by decide +kernel) rfl), (abm 54 (by decide +kernel) rfl), (abm 901 (by decide +kernel) rfl), by decide +kernel, by decide +kernel, by decide +kernel⟩
theorem lk_X4_134 : aLV RX4 134 yX4_cosine cX4_cosine 2 (some .long) 1 := ⟨(abm 902 (by decide +kernel) rfl), (abm 904 (by decide +kernel) rfl), (abm 36 (by decide +kernel) rfl), (abm 54 (by decide +kernel) rfl), (abm 905 (by decide +kernel) rfl), by decide +kernel, by decide +kernel, by decide +kernel⟩
theorem lk_X4_137 : aLV RX4 137 yX4_sum cX4_sum 6 (some .long) 2 := ⟨(abm 894 (by decide +kernel) rfl), (abm 896 (by decide +kernel) rfl), (abm 34 (by decide +kernel) rfl), (abm 54 (by decide +kernel) rfl), (abm 897 (by decide +kernel) rfl), by decide +kernel, by decide +kernel, by decide +kernel⟩
theorem kl_X4_141 : Cond.constantLong RX4 141 (1000) ∈ aBIG := (abm 906 (by decide +kernel) rfl)
theorem fa_X4_143 : aFo RX4 143 4 18 := ⟨_, rfl, by decide, (abm 716 (by decide +kernel) rfl)⟩
theorem lk_X4_146 : aLS RX4 146 yX4_down cX4_down 4 (some .long) 2 := ⟨(abm 886 (by decide +kernel) rfl), (abm 887 (by decide +kernel) rfl), (abm 54 (by decide +kernel) rfl), (abm 888 (by decide +kernel) rfl), by decide +kernel, by decide +kernel, by decide +kernel⟩
theorem kl_X4_150 : Cond.constantLong RX4 150 (2) ∈ aBIG := (abm 893 (by decide +kernel) rfl)
theorem lk_X4_152 : aLV RX4 152 yX4_lays cX4_lays 5 none 2 := ⟨(abm 867 (by decide +kernel) rfl), (abm 869 (by decide +kernel) rfl), (abm 30 (by decide +kernel) rfl), (abm 54 (by decide +kernel) rfl), (abm 870 (by decide +kernel) rfl), by decide +kernel, by decide +kernel, by decide +kernel⟩
theorem lk_X4_156 : aLV RX4 156 yX4_filters cX4_filters 13 none 1 := ⟨(abm 882 (by decide +kernel) rfl), (abm 884 (by decide +kernel) rfl), (abm 32 (by decide +kernel) rfl), (abm 54 (by decide +kernel) rfl), (abm 885 (by decide +kernel) rfl), by decide +kernel, by decide +kernel, by decide +kernel⟩
theorem lk_X4_160 : aLV RX4 160 yX4_takes cX4_takes 7 none 1 := ⟨(abm 889 (by decide +kernel) rfl), (abm 891 (by decide +kernel) rfl), (abm 33 (by decide +kernel) rfl), (abm 54 (by decide +kernel) rfl), (abm 892 (by decide +kernel) rfl), by decide +kernel, by decide +kernel, by decide +kernel⟩
theorem lk_X4_163 : aLS RX4 163 yX4_isFilter cX4_isFilter 1 (some .boolean) 1 := ⟨(abm 875 (by decide +kernel) rfl), (abm 876 (by decide +kernel) rfl), (abm 54 (by decide +kernel) rfl), (abm 877 (by decide +kernel) rfl), by decide +kernel, by decide +kernel, by decide +kernel⟩
theorem lk_X4_166 : aLV RX4 166 yX4_laysAll cX4_laysAll 5 none 3 := ⟨(abm 878 (by decide +kernel) rfl), (abm 880 (by decide +kernel) rfl), (abm 31 (by decide +kernel) rfl), (abm 54 (by decide +kernel) rfl), (abm 881 (by decide +kernel) rfl), by decide +kernel, by decide +kernel, by decide +kernel⟩
theorem lk_X4_170 : aLS RX4 170 yX4_isLine cX4_isLine 1 (some .boolean) 1 := ⟨(abm 911 (by decide +kernel) rfl), (abm 912 (by decide +kernel) rfl), (abm 54 (by decide +kernel) rfl), (abm 913 (by decide +kernel) rfl), by decide +kernel, by decide +kernel, by decide +kernel⟩
theorem lk_X4_173 : aLV RX4 173 yX4_powerOf cX4_powerOf 6 (some .long) 1 := ⟨(abm 914 (by decide +kernel) rfl), (abm 916 (by decide +kernel) rfl), (abm 37 (by decide +kernel) rfl), (abm 54 (by decide +kernel) rfl), (abm 917 (by decide +kernel) rfl), by decide +kernel, by decide +kernel, by decide +kernel⟩
theorem lk_X4_176 : aLV RX4 176 yX4_windowOf cX4_windowOf 3 (some .long) 2 := ⟨(abm 922 (by decide +kernel) rfl), (abm 924 (by decide +kernel) rfl), (abm 38 (by decide +kernel) rfl), (abm 54 (by decide +kernel) rfl), (abm 925 (by decide +kernel) rfl), by decide +kernel, by decide +kernel, by decide +kernel⟩
theorem lk_X4_180 : aLV RX4 180 yX4_peaks cX4_peaks 6 (some .boolean) 3 := ⟨(abm 930 (by decide +kernel) rfl), (abm 932 (by decide +kernel) rfl), (abm 39 (by decide +kernel) rfl), (abm 54 (by decide +kernel) rfl), (abm 933 (by decide +kernel) rfl), by decide +kernel, by decide +kernel, by decide +kernel⟩
theorem kl_X4_183 : Cond.constantLong RX4 183 (4) ∈ aBIG := (abm 942 (by decide +kernel) rfl)
theorem lk_X4_185 : aLV RX4 185 yX4_seesThrough cX4_seesThrough 8 (some .boolean) 4 := ⟨(abm 938 (by decide +kernel) rfl), (abm 940 (by decide +kernel) rfl), (abm 40 (by decide +kernel) rfl), (abm 54 (by decide +kernel) rfl), (abm 941 (by decide +kernel) rfl), by decide +kernel, by decide +kernel, by decide +kernel⟩
theorem lk_X4_189 : aLV RX4 189 yX4_makes cX4_makes 4 (some .int) 3 := ⟨(abm 947 (by decide +kernel) rfl), (abm 949 (by decide +kernel) rfl), (abm 41 (by decide +kernel) rfl), (abm 54 (by decide +kernel) rfl), (abm 950 (by decide +kernel) rfl), by decide +kernel, by decide +kernel, by decide +kernel⟩
theorem kc_X4_193 : Cond.constant RX4 193 (40000) ∈ aBIG := (abm 963 (by decide +kernel) rfl)
theorem lk_X4_194 : aLS RX4 194 yX4_size cX4_size 2 (some .long) 1 := ⟨(abm 964 (by decide +kernel) rfl), (abm 965 (by decide +kernel) rfl), (abm 54 (by decide +kernel) rfl), (abm 966 (by decide +kernel) rfl), by decide +kernel, by decide +kernel, by decide +kernel⟩
theorem lk_X4_198 : aLV RX4 198 yX4_isClaim cX4_isClaim 2 (some .boolean) 1 := ⟨(abm 955 (by decide +kernel) rfl), (abm 957 (by decide +kernel) rfl), (abm 42 (by decide +kernel) rfl), (abm 54 (by decide +kernel) rfl), (abm 958 (by decide +kernel) rfl), by decide +kernel, by decide +kernel, by decide +kernel⟩
theorem lk_X4_201 : aLV RX4 201 yX4_ageBy cX4_ageBy 4 (some .int) 1 := ⟨(abm 959 (by decide +kernel) rfl), (abm 961 (by decide +kernel) rfl), (abm 43 (by decide +kernel) rfl), (abm 54 (by decide +kernel) rfl), (abm 962 (by decide +kernel) rfl), by decide +kernel, by decide +kernel, by decide +kernel⟩
theorem lk_X4_205 : aLV RX4 205 yX4_citesOf cX4_citesOf 4 (some .int) 1 := ⟨(abm 975 (by decide +kernel) rfl), (abm 977 (by decide +kernel) rfl), (abm 44 (by decide +kernel) rfl), (abm 54 (by decide +kernel) rfl), (abm 978 (by decide +kernel) rfl), by decide +kernel, by decide +kernel, by decide +kernel⟩
theorem lk_X4_208 : aLV RX4 208 yX4_follows cX4_follows 5 (some .int) 0 := ⟨(abm 983 (by decide +kernel) rfl), (abm 985 (by decide +kernel) rfl), (abm 45 (by decide +kernel) rfl), (abm 54 (by decide +kernel) rfl), (abm 986 (by decide +kernel) rfl), by decide +kernel, by decide +kernel, by decide +kernel⟩
theorem kl_X4_212 : Cond.constantLong RX4 212 (20000) ∈ aBIG := (abm 1003 (by decide +kernel) rfl)
theorem lk_X4_214 : aLV RX4 214 yX4_replays cX4_replays 3 (some .boolean) 1 := ⟨(abm 995 (by decide +kernel) rfl), (abm 997 (by decide +kernel) rfl), (abm 47 (by decide +kernel) rfl), (abm 54 (by decide +kernel) rfl), (abm 998 (by decide +kernel) rfl), by decide +kernel, by decide +kernel, by decide +kernel⟩
theorem lk_X4_217 : aLV RX4 217 yX4_isTone cX4_isTone 6 (some .boolean) 2 := ⟨(abm 999 (by decide +kernel) rfl), (abm 1001 (by decide +kernel) rfl), (abm 48 (by decide +kernel) rfl), (abm 54 (by decide +kernel) rfl), (abm 1002 (by decide +kernel) rfl), by decide +kernel, by decide +kernel, by decide +kernel⟩
theorem lk_X4_221 : aLV RX4 221 yX4_sound cX4_sound 2 (some .boolean) 1 := ⟨(abm 991 (by decide +kernel) rfl), (abm 993 (by decide +kernel) rfl), (abm 46 (by decide +kernel) rfl), (abm 54 (by decide +kernel) rfl), (abm 994 (by decide +kernel) rfl), by decide +kernel, by decide +kernel, by decide +kernel⟩
theorem kl_J13_314 : Cond.constantLong RJ13 314 (6148914691236517205) ∈ aBIG := (abm 269 (by decide +kernel) rfl)
theorem kl_J13_316 : Cond.constantLong RJ13 316 (3689348814741910323) ∈ aBIG := (abm 270 (by decide +kernel) rfl)
theorem kl_J13_318 : Cond.constantLong RJ13 318 (1085102592571150095) ∈ aBIG := (abm 271 (by decide +kernel) rfl)
theorem lk_L_7 : aLV RL 7 yX3_shell cX3_shell 4 (some .int) 3 := ⟨(abm 277 (by decide +kernel) rfl), (abm 278 (by decide +kernel) rfl), (abm 279 (by decide +kernel) rfl), (abm 50 (by decide +kernel) rfl), (abm 280 (by decide +kernel) rfl), by decide +kernel, by decide +kernel, by decide +kernel⟩
theorem lk_L_17 : aLV RL 17 yX3_star cX3_star 2 (some .int) 1 := ⟨(abm 375 (by decide +kernel) rfl), (abm 376 (by decide +kernel) rfl), (abm 377 (by decide +kernel) rfl), (abm 50 (by decide +kernel) rfl), (abm 378 (by decide +kernel) rfl), by decide +kernel, by decide +kernel, by decide +kernel⟩
theorem lk_L_21 : aLV RL 21 yX3_frame cX3_frame 7 (some .int) 4 := ⟨(abm 405 (by decide +kernel) rfl), (abm 406 (by decide +kernel) rfl), (abm 407 (by decide +kernel) rfl), (abm 50 (by decide +kernel) rfl), (abm 408 (by decide +kernel) rfl), by decide +kernel, by decide +kernel, by decide +kernel⟩
theorem lk_L_27 : aLV RL 27 yX3_drop cX3_drop 5 (some .int) 2 := ⟨(abm 441 (by decide +kernel) rfl), (abm 442 (by decide +kernel) rfl), (abm 443 (by decide +kernel) rfl), (abm 50 (by decide +kernel) rfl), (abm 444 (by decide +kernel) rfl), by decide +kernel, by decide +kernel, by decide +kernel⟩
theorem lk_L_31 : aLV RL 31 yX3_mask cX3_mask 4 (some .boolean) 2 := ⟨(abm 449 (by decide +kernel) rfl), (abm 450 (by decide +kernel) rfl), (abm 451 (by decide +kernel) rfl), (abm 50 (by decide +kernel) rfl), (abm 452 (by decide +kernel) rfl), by decide +kernel, by decide +kernel, by decide +kernel⟩
theorem lk_L_35 : aLV RL 35 yX3_threshold cX3_threshold 3 (some .int) 1 := ⟨(abm 456 (by decide +kernel) rfl), (abm 457 (by decide +kernel) rfl), (abm 458 (by decide +kernel) rfl), (abm 50 (by decide +kernel) rfl), (abm 459 (by decide +kernel) rfl), by decide +kernel, by decide +kernel, by decide +kernel⟩
theorem lk_L_38 : aLV RL 38 yX3_takeOut cX3_takeOut 4 (some .int) 2 := ⟨(abm 465 (by decide +kernel) rfl), (abm 466 (by decide +kernel) rfl), (abm 467 (by decide +kernel) rfl), (abm 50 (by decide +kernel) rfl), (abm 468 (by decide +kernel) rfl), by decide +kernel, by decide +kernel, by decide +kernel⟩
theorem lk_L_41 : aLV RL 41 yX3_putBack cX3_putBack 4 (some .int) 1 := ⟨(abm 474 (by decide +kernel) rfl), (abm 475 (by decide +kernel) rfl), (abm 476 (by decide +kernel) rfl), (abm 50 (by decide +kernel) rfl), (abm 477 (by decide +kernel) rfl), by decide +kernel, by decide +kernel, by decide +kernel⟩
theorem lk_L_44 : aLV RL 44 yX3_claimTone cX3_claimTone 6 (some .int) 3 := ⟨(abm 481 (by decide +kernel) rfl), (abm 482 (by decide +kernel) rfl), (abm 483 (by decide +kernel) rfl), (abm 50 (by decide +kernel) rfl), (abm 484 (by decide +kernel) rfl), by decide +kernel, by decide +kernel, by decide +kernel⟩
theorem lk_L_47 : aLV RL 47 yX3_claimAge cX3_claimAge 6 (some .int) 2 := ⟨(abm 544 (by decide +kernel) rfl), (abm 545 (by decide +kernel) rfl), (abm 546 (by decide +kernel) rfl), (abm 50 (by decide +kernel) rfl), (abm 547 (by decide +kernel) rfl), by decide +kernel, by decide +kernel, by decide +kernel⟩
theorem lk_L_50 : aLV RL 50 yX3_claimPlanet cX3_claimPlanet 4 (some .int) 1 := ⟨(abm 565 (by decide +kernel) rfl), (abm 566 (by decide +kernel) rfl), (abm 567 (by decide +kernel) rfl), (abm 50 (by decide +kernel) rfl), (abm 568 (by decide +kernel) rfl), by decide +kernel, by decide +kernel, by decide +kernel⟩
theorem lk_L_53 : aLV RL 53 yX3_cite cX3_cite 5 (some .int) 2 := ⟨(abm 574 (by decide +kernel) rfl), (abm 575 (by decide +kernel) rfl), (abm 576 (by decide +kernel) rfl), (abm 50 (by decide +kernel) rfl), (abm 577 (by decide +kernel) rfl), by decide +kernel, by decide +kernel, by decide +kernel⟩
theorem lk_L_56 : aLV RL 56 yX3_withdraw cX3_withdraw 2 (some .int) 1 := ⟨(abm 583 (by decide +kernel) rfl), (abm 584 (by decide +kernel) rfl), (abm 585 (by decide +kernel) rfl), (abm 50 (by decide +kernel) rfl), (abm 586 (by decide +kernel) rfl), by decide +kernel, by decide +kernel, by decide +kernel⟩
theorem lk_L_59 : aLV RL 59 yX3_ofStar cX3_ofStar 4 (some .int) 2 := ⟨(abm 590 (by decide +kernel) rfl), (abm 591 (by decide +kernel) rfl), (abm 592 (by decide +kernel) rfl), (abm 50 (by decide +kernel) rfl), (abm 593 (by decide +kernel) rfl), by decide +kernel, by decide +kernel, by decide +kernel⟩
theorem lk_L_62 : aLV RL 62 yX3_crossingAnew cX3_crossingAnew 2 (some .int) 1 := ⟨(abm 598 (by decide +kernel) rfl), (abm 599 (by decide +kernel) rfl), (abm 600 (by decide +kernel) rfl), (abm 50 (by decide +kernel) rfl), (abm 601 (by decide +kernel) rfl), by decide +kernel, by decide +kernel, by decide +kernel⟩
theorem lk_L_65 : aLV RL 65 yX3_tone cX3_tone 6 (some .int) 4 := ⟨(abm 609 (by decide +kernel) rfl), (abm 610 (by decide +kernel) rfl), (abm 611 (by decide +kernel) rfl), (abm 50 (by decide +kernel) rfl), (abm 612 (by decide +kernel) rfl), by decide +kernel, by decide +kernel, by decide +kernel⟩
theorem lk_L_68 : aLV RL 68 yX3_frames cX3_frames 2 (some .int) 1 := ⟨(abm 618 (by decide +kernel) rfl), (abm 619 (by decide +kernel) rfl), (abm 620 (by decide +kernel) rfl), (abm 50 (by decide +kernel) rfl), (abm 621 (by decide +kernel) rfl), by decide +kernel, by decide +kernel, by decide +kernel⟩
theorem lk_L_71 : aLV RL 71 yX3_value cX3_value 5 (some .int) 3 := ⟨(abm 626 (by decide +kernel) rfl), (abm 627 (by decide +kernel) rfl), (abm 628 (by decide +kernel) rfl), (abm 50 (by decide +kernel) rfl), (abm 629 (by decide +kernel) rfl), by decide +kernel, by decide +kernel, by decide +kernel⟩
theorem lk_L_74 : aLV RL 74 yX3_power cX3_power 5 (some .long) 3 := ⟨(abm 637 (by decide +kernel) rfl), (abm 638 (by decide +kernel) rfl), (abm 639 (by decide +kernel) rfl), (abm 50 (by decide +kernel) rfl), (abm 640 (by decide +kernel) rfl), by decide +kernel, by decide +kernel, by decide +kernel⟩
theorem lk_L_78 : aLV RL 78 yX3_window cX3_window 4 (some .long) 2 := ⟨(abm 647 (by decide +kernel) rfl), (abm 648 (by decide +kernel) rfl), (abm 649 (by decide +kernel) rfl), (abm 50 (by decide +kernel) rfl), (abm 650 (by decide +kernel) rfl), by decide +kernel, by decide +kernel, by decide +kernel⟩
theorem lk_L_82 : aLV RL 82 yX3_isPeak cX3_isPeak 5 (some .boolean) 3 := ⟨(abm 661 (by decide +kernel) rfl), (abm 662 (by decide +kernel) rfl), (abm 663 (by decide +kernel) rfl), (abm 50 (by decide +kernel) rfl), (abm 664 (by decide +kernel) rfl), by decide +kernel, by decide +kernel, by decide +kernel⟩
theorem lk_L_86 : aLV RL 86 yX3_isSeenThrough cX3_isSeenThrough 8 (some .boolean) 4 := ⟨(abm 668 (by decide +kernel) rfl), (abm 669 (by decide +kernel) rfl), (abm 670 (by decide +kernel) rfl), (abm 50 (by decide +kernel) rfl), (abm 671 (by decide +kernel) rfl), by decide +kernel, by decide +kernel, by decide +kernel⟩
theorem lk_L_90 : aLV RL 90 yX3_ofClaim cX3_ofClaim 4 (some .int) 2 := ⟨(abm 677 (by decide +kernel) rfl), (abm 678 (by decide +kernel) rfl), (abm 679 (by decide +kernel) rfl), (abm 50 (by decide +kernel) rfl), (abm 680 (by decide +kernel) rfl), by decide +kernel, by decide +kernel, by decide +kernel⟩
theorem lk_L_93 : aLV RL 93 yX3_isSound cX3_isSound 2 (some .boolean) 1 := ⟨(abm 684 (by decide +kernel) rfl), (abm 685 (by decide +kernel) rfl), (abm 686 (by decide +kernel) rfl), (abm 50 (by decide +kernel) rfl), (abm 687 (by decide +kernel) rfl), by decide +kernel, by decide +kernel, by decide +kernel⟩
theorem nw_L_8 : Cond.classLink RL 8 RX3 ∈ aBIG ∧ Cond.instantiable RX3 8 ∈ aBIG ∧ Cond.initialized RX3 ∈ aBIG ∧ ∀ b, b < 8 → (match atyT 3 b with | .float => false | .double => false | _ => true) = true := ⟨(abm 64 (by decide +kernel) rfl), (abm 65 (by decide +kernel) rfl), (abm 50 (by decide +kernel) rfl), by decide +kernel⟩
theorem lk_L_97 : aLI RL 97 yX3_init cX3_init 1 0 := ⟨(abm 66 (by decide +kernel) rfl), (abm 67 (by decide +kernel) rfl), (abm 50 (by decide +kernel) rfl), (abm 68 (by decide +kernel) rfl), rfl, by decide +kernel, by decide +kernel, by decide +kernel⟩
theorem nw_L_98 : Cond.classLink RL 98 RX4 ∈ aBIG ∧ Cond.instantiable RX4 32 ∈ aBIG ∧ Cond.initialized RX4 ∈ aBIG ∧ ∀ b, b < 32 → (match atyT 4 b with | .float => false | .double => false | _ => true) = true := ⟨(abm 688 (by decide +kernel) rfl), (abm 689 (by decide +kernel) rfl), (abm 54 (by decide +kernel) rfl), by decide +kernel⟩
theorem lk_L_100 : aLI RL 100 yX4_init cX4_init 2 0 := ⟨(abm 690 (by decide +kernel) rfl), (abm 691 (by decide +kernel) rfl), (abm 54 (by decide +kernel) rfl), (abm 692 (by decide +kernel) rfl), rfl, by decide +kernel, by decide +kernel, by decide +kernel⟩
theorem lk_L_101 : aLW RL 101 yL_shell cL_shell 6 (some .int) [(0, 12, 15, 13), (0, 12, 19, 15)] 5 := ⟨(abm 272 (by decide +kernel) rfl), (abm 273 (by decide +kernel) rfl), (abm 49 (by decide +kernel) rfl), (abm 274 (by decide +kernel) rfl), by decide +kernel, by decide +kernel, by decide +kernel⟩
theorem lk_L_106 : aLV RL 106 yX4_shell cX4_shell 5 (some .int) 3 := ⟨(abm 799 (by decide +kernel) rfl), (abm 800 (by decide +kernel) rfl), (abm 801 (by decide +kernel) rfl), (abm 54 (by decide +kernel) rfl), (abm 802 (by decide +kernel) rfl), by decide +kernel, by decide +kernel, by decide +kernel⟩
theorem lk_L_107 : aLV RL 107 yX4_thrown cX4_thrown 1 (some .int) 0 := ⟨(abm 795 (by decide +kernel) rfl), (abm 796 (by decide +kernel) rfl), (abm 797 (by decide +kernel) rfl), (abm 54 (by decide +kernel) rfl), (abm 798 (by decide +kernel) rfl), by decide +kernel, by decide +kernel, by decide +kernel⟩
theorem lk_L_111 : aLW RL 111 yL_star cL_star 4 (some .int) [(0, 9, 12, 13), (0, 9, 15, 15)] 3 := ⟨(abm 372 (by decide +kernel) rfl), (abm 373 (by decide +kernel) rfl), (abm 49 (by decide +kernel) rfl), (abm 374 (by decide +kernel) rfl), by decide +kernel, by decide +kernel, by decide +kernel⟩
theorem lk_L_114 : aLV RL 114 yX4_star cX4_star 7 (some .int) 1 := ⟨(abm 810 (by decide +kernel) rfl), (abm 811 (by decide +kernel) rfl), (abm 812 (by decide +kernel) rfl), (abm 54 (by decide +kernel) rfl), (abm 813 (by decide +kernel) rfl), by decide +kernel, by decide +kernel, by decide +kernel⟩
theorem lk_L_115 : aLW RL 115 yL_frame cL_frame 7 (some .int) [(0, 14, 17, 25), (0, 14, 21, 13)] 6 := ⟨(abm 401 (by decide +kernel) rfl), (abm 402 (by decide +kernel) rfl), (abm 49 (by decide +kernel) rfl), (abm 403 (by decide +kernel) rfl), by decide +kernel, by decide +kernel, by decide +kernel⟩
theorem lk_L_118 : aLV RL 118 yX4_frame cX4_frame 8 (some .int) 4 := ⟨(abm 835 (by decide +kernel) rfl), (abm 836 (by decide +kernel) rfl), (abm 837 (by decide +kernel) rfl), (abm 54 (by decide +kernel) rfl), (abm 838 (by decide +kernel) rfl), by decide +kernel, by decide +kernel, by decide +kernel⟩
theorem lk_L_119 : aLW RL 119 yL_drop cL_drop 5 (some .int) [(0, 10, 13, 25), (0, 10, 17, 13), (0, 10, 21, 15)] 4 := ⟨(abm 438 (by decide +kernel) rfl), (abm 439 (by decide +kernel) rfl), (abm 49 (by decide +kernel) rfl), (abm 440 (by decide +kernel) rfl), by decide +kernel, by decide +kernel, by decide +kernel⟩
theorem lk_L_122 : aLV RL 122 yX4_drop cX4_drop 5 (some .int) 2 := ⟨(abm 842 (by decide +kernel) rfl), (abm 843 (by decide +kernel) rfl), (abm 844 (by decide +kernel) rfl), (abm 54 (by decide +kernel) rfl), (abm 845 (by decide +kernel) rfl), by decide +kernel, by decide +kernel, by decide +kernel⟩
theorem lk_L_123 : aLW RL 123 yL_mask cL_mask 5 (some .int) [(0, 17, 20, 25)] 4 := ⟨(abm 446 (by decide +kernel) rfl), (abm 447 (by decide +kernel) rfl), (abm 49 (by decide +kernel) rfl), (abm 448 (by decide +kernel) rfl), by decide +kernel, by decide +kernel, by decide +kernel⟩
theorem lk_L_126 : aLV RL 126 yX4_mask cX4_mask 4 (some .boolean) 2 := ⟨(abm 846 (by decide +kernel) rfl), (abm 847 (by decide +kernel) rfl), (abm 848 (by decide +kernel) rfl), (abm 54 (by decide +kernel) rfl), (abm 849 (by decide +kernel) rfl), by decide +kernel, by decide +kernel, by decide +kernel⟩
theorem lk_L_127 : aLW RL 127 yL_threshold cL_threshold 4 (some .int) [(0, 9, 12, 13)] 3 := ⟨(abm 453 (by decide +kernel) rfl), (abm 454 (by decide +kernel) rfl), (abm 49 (by decide +kernel) rfl), (abm 455 (by decide +kernel) rfl), by decide +kernel, by decide +kernel, by decide +kernel⟩
theorem lk_L_129 : aLV RL 129 yX4_threshold cX4_threshold 3 (some .int) 1 := ⟨(abm 850 (by decide +kernel) rfl), (abm 851 (by decide +kernel) rfl), (abm 852 (by decide +kernel) rfl), (abm 54 (by decide +kernel) rfl), (abm 853 (by decide +kernel) rfl), by decide +kernel, by decide +kernel, by decide +kernel⟩
theorem lk_L_130 : aLW RL 130 yL_takeOut cL_takeOut 5 (some .int) [(0, 10, 13, 25), (0, 10, 17, 13), (0, 10, 21, 15)] 4 := ⟨(abm 462 (by decide +kernel) rfl), (abm 463 (by decide +kernel) rfl), (abm 49 (by decide +kernel) rfl), (abm 464 (by decide +kernel) rfl), by decide +kernel, by decide +kernel, by decide +kernel⟩
theorem lk_L_132 : aLV RL 132 yX4_takeOut cX4_takeOut 4 (some .int) 2 := ⟨(abm 855 (by decide +kernel) rfl), (abm 856 (by decide +kernel) rfl), (abm 857 (by decide +kernel) rfl), (abm 54 (by decide +kernel) rfl), (abm 858 (by decide +kernel) rfl), by decide +kernel, by decide +kernel, by decide +kernel⟩
theorem lk_L_133 : aLW RL 133 yL_putBack cL_putBack 4 (some .int) [(0, 9, 12, 25)] 3 := ⟨(abm 471 (by decide +kernel) rfl), (abm 472 (by decide +kernel) rfl), (abm 49 (by decide +kernel) rfl), (abm 473 (by decide +kernel) rfl), by decide +kernel, by decide +kernel, by decide +kernel⟩
theorem lk_L_135 : aLV RL 135 yX4_putBack cX4_putBack 3 (some .int) 1 := ⟨(abm 859 (by decide +kernel) rfl), (abm 860 (by decide +kernel) rfl), (abm 861 (by decide +kernel) rfl), (abm 54 (by decide +kernel) rfl), (abm 862 (by decide +kernel) rfl), by decide +kernel, by decide +kernel, by decide +kernel⟩
theorem lk_L_136 : aLW RL 136 yL_claimTone cL_claimTone 6 (some .int) [(0, 12, 15, 25), (0, 12, 19, 15)] 5 := ⟨(abm 478 (by decide +kernel) rfl), (abm 479 (by decide +kernel) rfl), (abm 49 (by decide +kernel) rfl), (abm 480 (by decide +kernel) rfl), by decide +kernel, by decide +kernel, by decide +kernel⟩
theorem lk_L_138 : aLV RL 138 yX4_claimTone cX4_claimTone 6 (some .int) 3 := ⟨(abm 943 (by decide +kernel) rfl), (abm 944 (by decide +kernel) rfl), (abm 945 (by decide +kernel) rfl), (abm 54 (by decide +kernel) rfl), (abm 946 (by decide +kernel) rfl), by decide +kernel, by decide +kernel, by decide +kernel⟩
theorem lk_L_139 : aLW RL 139 yL_claimAge cL_claimAge 5 (some .int) [(0, 10, 13, 25), (0, 10, 17, 13), (0, 10, 21, 15)] 4 := ⟨(abm 541 (by decide +kernel) rfl), (abm 542 (by decide +kernel) rfl), (abm 49 (by decide +kernel) rfl), (abm 543 (by decide +kernel) rfl), by decide +kernel, by decide +kernel, by decide +kernel⟩
theorem lk_L_141 : aLV RL 141 yX4_claimAge cX4_claimAge 6 (some .int) 2 := ⟨(abm 951 (by decide +kernel) rfl), (abm 952 (by decide +kernel) rfl), (abm 953 (by decide +kernel) rfl), (abm 54 (by decide +kernel) rfl), (abm 954 (by decide +kernel) rfl), by decide +kernel, by decide +kernel, by decide +kernel⟩
theorem lk_L_142 : aLW RL 142 yL_claimPlanet cL_claimPlanet 4 (some .int) [(0, 9, 12, 25), (0, 9, 15, 13), (0, 9, 18, 15)] 3 := ⟨(abm 562 (by decide +kernel) rfl), (abm 563 (by decide +kernel) rfl), (abm 49 (by decide +kernel) rfl), (abm 564 (by decide +kernel) rfl), by decide +kernel, by decide +kernel, by decide +kernel⟩
theorem lk_L_144 : aLV RL 144 yX4_claimPlanet cX4_claimPlanet 5 (some .int) 1 := ⟨(abm 967 (by decide +kernel) rfl), (abm 968 (by decide +kernel) rfl), (abm 969 (by decide +kernel) rfl), (abm 54 (by decide +kernel) rfl), (abm 970 (by decide +kernel) rfl), by decide +kernel, by decide +kernel, by decide +kernel⟩
theorem lk_L_145 : aLW RL 145 yL_cite cL_cite 5 (some .int) [(0, 10, 13, 25), (0, 10, 17, 13), (0, 10, 21, 15)] 4 := ⟨(abm 571 (by decide +kernel) rfl), (abm 572 (by decide +kernel) rfl), (abm 49 (by decide +kernel) rfl), (abm 573 (by decide +kernel) rfl), by decide +kernel, by decide +kernel, by decide +kernel⟩
theorem lk_L_147 : aLV RL 147 yX4_cite cX4_cite 6 (some .int) 2 := ⟨(abm 971 (by decide +kernel) rfl), (abm 972 (by decide +kernel) rfl), (abm 973 (by decide +kernel) rfl), (abm 54 (by decide +kernel) rfl), (abm 974 (by decide +kernel) rfl), by decide +kernel, by decide +kernel, by decide +kernel⟩
theorem lk_L_148 : aLW RL 148 yL_withdraw cL_withdraw 4 (some .int) [(0, 9, 12, 25), (0, 9, 15, 15)] 3 := ⟨(abm 580 (by decide +kernel) rfl), (abm 581 (by decide +kernel) rfl), (abm 49 (by decide +kernel) rfl), (abm 582 (by decide +kernel) rfl), by decide +kernel, by decide +kernel, by decide +kernel⟩
theorem lk_L_150 : aLV RL 150 yX4_withdraw cX4_withdraw 3 (some .int) 1 := ⟨(abm 979 (by decide +kernel) rfl), (abm 980 (by decide +kernel) rfl), (abm 981 (by decide +kernel) rfl), (abm 54 (by decide +kernel) rfl), (abm 982 (by decide +kernel) rfl), by decide +kernel, by decide +kernel, by decide +kernel⟩
theorem lk_L_151 : aLV RL 151 yX3_audit cX3_audit 5 (some .int) 0 := ⟨(abm 191 (by decide +kernel) rfl), (abm 192 (by decide +kernel) rfl), (abm 193 (by decide +kernel) rfl), (abm 50 (by decide +kernel) rfl), (abm 194 (by decide +kernel) rfl), by decide +kernel, by decide +kernel, by decide +kernel⟩
theorem lk_L_154 : aLV RL 154 yX4_audit cX4_audit 4 (some .int) 0 := ⟨(abm 987 (by decide +kernel) rfl), (abm 988 (by decide +kernel) rfl), (abm 989 (by decide +kernel) rfl), (abm 54 (by decide +kernel) rfl), (abm 990 (by decide +kernel) rfl), by decide +kernel, by decide +kernel, by decide +kernel⟩
theorem lk_L_155 : aLW RL 155 yL_ofStar cL_ofStar 5 (some .int) [(0, 10, 13, 25), (0, 10, 17, 13)] 4 := ⟨(abm 587 (by decide +kernel) rfl), (abm 588 (by decide +kernel) rfl), (abm 49 (by decide +kernel) rfl), (abm 589 (by decide +kernel) rfl), by decide +kernel, by decide +kernel, by decide +kernel⟩
theorem lk_L_157 : aLV RL 157 yX4_ofStar cX4_ofStar 3 (some .int) 2 := ⟨(abm 815 (by decide +kernel) rfl), (abm 816 (by decide +kernel) rfl), (abm 817 (by decide +kernel) rfl), (abm 54 (by decide +kernel) rfl), (abm 818 (by decide +kernel) rfl), by decide +kernel, by decide +kernel, by decide +kernel⟩
theorem lk_L_158 : aLW RL 158 yL_crossingAnew cL_crossingAnew 4 (some .int) [(0, 9, 12, 25)] 3 := ⟨(abm 595 (by decide +kernel) rfl), (abm 596 (by decide +kernel) rfl), (abm 49 (by decide +kernel) rfl), (abm 597 (by decide +kernel) rfl), by decide +kernel, by decide +kernel, by decide +kernel⟩
theorem lk_L_160 : aLV RL 160 yX4_crossingAnew cX4_crossingAnew 2 (some .int) 1 := ⟨(abm 823 (by decide +kernel) rfl), (abm 824 (by decide +kernel) rfl), (abm 825 (by decide +kernel) rfl), (abm 54 (by decide +kernel) rfl), (abm 826 (by decide +kernel) rfl), by decide +kernel, by decide +kernel, by decide +kernel⟩
theorem lk_L_161 : aLW RL 161 yL_tone cL_tone 7 (some .int) [(0, 14, 17, 25), (0, 14, 21, 13)] 6 := ⟨(abm 606 (by decide +kernel) rfl), (abm 607 (by decide +kernel) rfl), (abm 49 (by decide +kernel) rfl), (abm 608 (by decide +kernel) rfl), by decide +kernel, by decide +kernel, by decide +kernel⟩
theorem lk_L_163 : aLV RL 163 yX4_tone cX4_tone 6 (some .int) 4 := ⟨(abm 827 (by decide +kernel) rfl), (abm 828 (by decide +kernel) rfl), (abm 829 (by decide +kernel) rfl), (abm 54 (by decide +kernel) rfl), (abm 830 (by decide +kernel) rfl), by decide +kernel, by decide +kernel, by decide +kernel⟩
theorem lk_L_164 : aLW RL 164 yL_frames cL_frames 4 (some .int) [(0, 9, 12, 25)] 3 := ⟨(abm 615 (by decide +kernel) rfl), (abm 616 (by decide +kernel) rfl), (abm 49 (by decide +kernel) rfl), (abm 617 (by decide +kernel) rfl), by decide +kernel, by decide +kernel, by decide +kernel⟩
theorem lk_L_166 : aLV RL 166 yX4_frames cX4_frames 2 (some .int) 1 := ⟨(abm 863 (by decide +kernel) rfl), (abm 864 (by decide +kernel) rfl), (abm 865 (by decide +kernel) rfl), (abm 54 (by decide +kernel) rfl), (abm 866 (by decide +kernel) rfl), by decide +kernel, by decide +kernel, by decide +kernel⟩
theorem lk_L_167 : aLW RL 167 yL_value cL_value 6 (some .int) [(0, 12, 15, 25), (0, 12, 19, 13)] 5 := ⟨(abm 623 (by decide +kernel) rfl), (abm 624 (by decide +kernel) rfl), (abm 49 (by decide +kernel) rfl), (abm 625 (by decide +kernel) rfl), by decide +kernel, by decide +kernel, by decide +kernel⟩
theorem lk_L_169 : aLV RL 169 yX4_value cX4_value 5 (some .int) 3 := ⟨(abm 871 (by decide +kernel) rfl), (abm 872 (by decide +kernel) rfl), (abm 873 (by decide +kernel) rfl), (abm 54 (by decide +kernel) rfl), (abm 874 (by decide +kernel) rfl), by decide +kernel, by decide +kernel, by decide +kernel⟩
theorem lk_L_170 : aLW RL 170 yL_power cL_power 6 (some .int) [(0, 11, 14, 25), (0, 11, 18, 13)] 5 := ⟨(abm 634 (by decide +kernel) rfl), (abm 635 (by decide +kernel) rfl), (abm 49 (by decide +kernel) rfl), (abm 636 (by decide +kernel) rfl), by decide +kernel, by decide +kernel, by decide +kernel⟩
theorem lk_L_172 : aLV RL 172 yX4_power cX4_power 5 (some .long) 3 := ⟨(abm 907 (by decide +kernel) rfl), (abm 908 (by decide +kernel) rfl), (abm 909 (by decide +kernel) rfl), (abm 54 (by decide +kernel) rfl), (abm 910 (by decide +kernel) rfl), by decide +kernel, by decide +kernel, by decide +kernel⟩
theorem lk_L_173 : aLW RL 173 yL_window cL_window 5 (some .int) [(0, 9, 12, 25), (0, 9, 16, 13)] 4 := ⟨(abm 644 (by decide +kernel) rfl), (abm 645 (by decide +kernel) rfl), (abm 49 (by decide +kernel) rfl), (abm 646 (by decide +kernel) rfl), by decide +kernel, by decide +kernel, by decide +kernel⟩
theorem lk_L_175 : aLV RL 175 yX4_window cX4_window 3 (some .long) 2 := ⟨(abm 918 (by decide +kernel) rfl), (abm 919 (by decide +kernel) rfl), (abm 920 (by decide +kernel) rfl), (abm 54 (by decide +kernel) rfl), (abm 921 (by decide +kernel) rfl), by decide +kernel, by decide +kernel, by decide +kernel⟩
theorem lk_L_176 : aLW RL 176 yL_isPeak cL_isPeak 6 (some .int) [(0, 19, 22, 25)] 5 := ⟨(abm 658 (by decide +kernel) rfl), (abm 659 (by decide +kernel) rfl), (abm 49 (by decide +kernel) rfl), (abm 660 (by decide +kernel) rfl), by decide +kernel, by decide +kernel, by decide +kernel⟩
theorem lk_L_178 : aLV RL 178 yX4_isPeak cX4_isPeak 4 (some .boolean) 3 := ⟨(abm 926 (by decide +kernel) rfl), (abm 927 (by decide +kernel) rfl), (abm 928 (by decide +kernel) rfl), (abm 54 (by decide +kernel) rfl), (abm 929 (by decide +kernel) rfl), by decide +kernel, by decide +kernel, by decide +kernel⟩
theorem lk_L_179 : aLW RL 179 yL_isSeenThrough cL_isSeenThrough 7 (some .int) [(0, 21, 24, 25), (0, 21, 28, 13)] 6 := ⟨(abm 665 (by decide +kernel) rfl), (abm 666 (by decide +kernel) rfl), (abm 49 (by decide +kernel) rfl), (abm 667 (by decide +kernel) rfl), by decide +kernel, by decide +kernel, by decide +kernel⟩
theorem lk_L_181 : aLV RL 181 yX4_isSeenThrough cX4_isSeenThrough 7 (some .boolean) 4 := ⟨(abm 934 (by decide +kernel) rfl), (abm 935 (by decide +kernel) rfl), (abm 936 (by decide +kernel) rfl), (abm 54 (by decide +kernel) rfl), (abm 937 (by decide +kernel) rfl), by decide +kernel, by decide +kernel, by decide +kernel⟩
theorem lk_L_182 : aLW RL 182 yL_ofClaim cL_ofClaim 5 (some .int) [(0, 10, 13, 25), (0, 10, 17, 13)] 4 := ⟨(abm 674 (by decide +kernel) rfl), (abm 675 (by decide +kernel) rfl), (abm 49 (by decide +kernel) rfl), (abm 676 (by decide +kernel) rfl), by decide +kernel, by decide +kernel, by decide +kernel⟩
theorem lk_L_184 : aLV RL 184 yX4_ofClaim cX4_ofClaim 3 (some .int) 2 := ⟨(abm 1004 (by decide +kernel) rfl), (abm 1005 (by decide +kernel) rfl), (abm 1006 (by decide +kernel) rfl), (abm 54 (by decide +kernel) rfl), (abm 1007 (by decide +kernel) rfl), by decide +kernel, by decide +kernel, by decide +kernel⟩
theorem lk_L_185 : aLW RL 185 yL_isSound cL_isSound 4 (some .int) [(0, 16, 19, 25)] 3 := ⟨(abm 681 (by decide +kernel) rfl), (abm 682 (by decide +kernel) rfl), (abm 49 (by decide +kernel) rfl), (abm 683 (by decide +kernel) rfl), by decide +kernel, by decide +kernel, by decide +kernel⟩
theorem lk_L_187 : aLV RL 187 yX4_isSound cX4_isSound 2 (some .boolean) 1 := ⟨(abm 1008 (by decide +kernel) rfl), (abm 1009 (by decide +kernel) rfl), (abm 1010 (by decide +kernel) rfl), (abm 54 (by decide +kernel) rfl), (abm 1011 (by decide +kernel) rfl), by decide +kernel, by decide +kernel, by decide +kernel⟩
theorem oi_X0 : Cond.methodLink RX0 3 objectInit ∈ aBIG := by decide +kernel
theorem oi_X1 : Cond.methodLink RX1 3 objectInit ∈ aBIG := by decide +kernel
theorem oi_X2 : Cond.methodLink RX2 3 objectInit ∈ aBIG := by decide +kernel
theorem oi_X3 : Cond.methodLink RX3 1 objectInit ∈ aBIG := by decide +kernel
theorem oi_X4 : Cond.methodLink RX4 1 objectInit ∈ aBIG := by decide +kernel
theorem oi_i : Cond.instanceMethod objectInit ∈ aBIG := by decide +kernel
theorem oi_c : Cond.code objectInit ⟨#[0xb1]⟩ 1 none ∈ aBIG := by decide +kernel
theorem ac_i : Cond.arrayClass .int ∈ aBIG := by decide +kernel
theorem ac_l : Cond.arrayClass .long ∈ aBIG := by decide +kernel
theorem ac_z : Cond.arrayClass .boolean ∈ aBIG := by decide +kernel
theorem aStv.mid {v w : Value} (pre t : List Value) {i : Nat} (hi : pre.length = i) (hv : v.category = 1) (hl : ∀ u, pre[i - 1]? = some u → i ≠ 0 → (u.category == 2) = false) : aStv i v (pre ++ w :: t) (pre ++ v :: t) := by
  subst hi
  intro j u hj hk
  by_cases e : j = pre.length
  · subst e
    rw [List.getElem?_append_right (Nat.le_refl _), Nat.sub_self] at hj
    exact Or.inl ⟨rfl, (Option.some.inj hj).symm⟩
  · refine Or.inr ⟨e, ?_, fun e2 => ?_, fun z => by rw [hv] at z; cases z⟩
    · rcases Nat.lt_or_gt_of_ne e with h | h
      · rw [List.getElem?_append_left h] at hj ⊢; exact hj
      · rw [List.getElem?_append_right (Nat.le_of_lt h)] at hj ⊢
        rw [show j - pre.length = (j - pre.length - 1) + 1 by omega, List.getElem?_cons_succ] at hj ⊢
        exact hj
    · rw [List.getElem?_append_left (by omega)] at hj
      have h9 := hl u (by rw [← e2, Nat.add_sub_cancel]; exact hj) (by omega)
      intro z; rw [z] at h9; cases h9
theorem aStv.mid2 {v w w2 : Value} (pre t : List Value) {i : Nat} (hi : pre.length = i) (hl : ∀ u, pre[i - 1]? = some u → i ≠ 0 → (u.category == 2) = false) : aStv i v (pre ++ w :: w2 :: t) (pre ++ v :: aU :: t) := by
  subst hi
  intro j u hj hk
  by_cases e : j = pre.length
  · subst e
    rw [List.getElem?_append_right (Nat.le_refl _), Nat.sub_self] at hj
    exact Or.inl ⟨rfl, (Option.some.inj hj).symm⟩
  · by_cases e1 : j = pre.length + 1
    · subst e1
      rw [List.getElem?_append_right (by omega), show pre.length + 1 - pre.length = 1 by omega] at hj
      cases hj; cases hk
    · refine Or.inr ⟨e, ?_, fun e2 => ?_, fun _ => e1⟩
      · rcases Nat.lt_or_gt_of_ne e with h | h
        · rw [List.getElem?_append_left h] at hj ⊢; exact hj
        · rw [List.getElem?_append_right (Nat.le_of_lt h)] at hj ⊢
          rw [show j - pre.length = (j - pre.length - 2) + 1 + 1 by omega, List.getElem?_cons_succ, List.getElem?_cons_succ] at hj ⊢
          exact hj
      · rw [List.getElem?_append_left (by omega)] at hj
        have h9 := hl u (by rw [← e2, Nat.add_sub_cancel]; exact hj) (by omega)
        intro z; rw [z] at h9; cases h9
section ALS
variable {p : Program} {l : Launch} {e : Env} {R : Room} {s : State} {m : MethodId} {args : Array Value} {below : List Frame} {meth : Method} {c : Code} {E : aE} {io0 : aM} {S0 : aS} {nL : Nat} {Q : State → Prop}
variable {own : String} {cc : ByteArray} {ret : Option FieldType} {pc nx : Nat} {lv st t : List Value} {S : aS} {I : aI} {L : aL} {Rf : aR} {k n : Nat} {p0 p1 p2 p3 p4 p5 p6 p7 p8 p9 p10 p11 p12 w w2 : Value}
theorem g_istore_0 (hx : aCx p l s m args meth c own cc nL ret E) {x : Int32} (d : decode cc pc = .ok (.istore_n 0, 1)) (hn : pc + 1 = nx) (hb : 0 < nL) (kk : aG p l e R s m args below meth c E io0 S0 nL Q nx (.int x :: t) (st) S I L Rf k n) : aG p l e R s m args below meth c E io0 S0 nL Q pc (w :: t) (.int x :: st) S I L Rf k n := g_istoreG_n hx d rfl hn hb (aStv.mid [] t rfl rfl (fun u h z => absurd rfl z)) kk
theorem g_astore_0 (hx : aCx p l s m args meth c own cc nL ret E) {x : Nat} (d : decode cc pc = .ok (.astore_n 0, 1)) (hn : pc + 1 = nx) (hb : 0 < nL) (kk : aG p l e R s m args below meth c E io0 S0 nL Q nx (.ref x :: t) (st) S I L Rf k n) : aG p l e R s m args below meth c E io0 S0 nL Q pc (w :: t) (.ref x :: st) S I L Rf k n := g_astoreG_n hx d rfl hn hb (aStv.mid [] t rfl rfl (fun u h z => absurd rfl z)) kk
theorem g_lstore_0 (hx : aCx p l s m args meth c own cc nL ret E) {x : Int64} (d : decode cc pc = .ok (.lstore_n 0, 1)) (hn : pc + 1 = nx) (hb : 0 + 1 < nL) (kk : aG p l e R s m args below meth c E io0 S0 nL Q nx (.long x :: aU :: t) (st) S I L Rf k n) : aG p l e R s m args below meth c E io0 S0 nL Q pc (w :: w2 :: t) (.long x :: st) S I L Rf k n := g_lstoreG_n hx d rfl hn hb (aStv.mid2 [] t rfl (fun u h z => absurd rfl z)) kk
theorem g_iinc_0 (hx : aCx p l s m args meth c own cc nL ret E) {x v : Int32} {z : Int} (d : decode cc pc = .ok (.iinc 0 z, 3)) (hn : pc + 3 = nx) (hb : 0 < nL) (hv : Int32.ofInt z = v) (kk : aG p l e R s m args below meth c E io0 S0 nL Q nx (.int (x + v) :: t) (st) S I L Rf k n) : aG p l e R s m args below meth c E io0 S0 nL Q pc (.int x :: t) (st) S I L Rf k n := by
  subst hv
  exact g_iincG hx d hn hb (x := x) rfl rfl (aStv.mid [] t rfl rfl (fun u h z => absurd rfl z)) kk
theorem g_iincW_0 (hx : aCx p l s m args meth c own cc nL ret E) {x v : Int32} {z : Int} (d : decode cc pc = .ok (.iinc 0 z, 6)) (hn : pc + 6 = nx) (hb : 0 < nL) (hv : Int32.ofInt z = v) (kk : aG p l e R s m args below meth c E io0 S0 nL Q nx (.int (x + v) :: t) (st) S I L Rf k n) : aG p l e R s m args below meth c E io0 S0 nL Q pc (.int x :: t) (st) S I L Rf k n := by
  subst hv
  exact g_iincGW hx d hn hb (x := x) rfl rfl (aStv.mid [] t rfl rfl (fun u h z => absurd rfl z)) kk
theorem g_istore_1 (hx : aCx p l s m args meth c own cc nL ret E) {x : Int32} (d : decode cc pc = .ok (.istore_n 1, 1)) (hn : pc + 1 = nx) (hb : 1 < nL) (hc : (p0.category == 2) = false := by rfl) (kk : aG p l e R s m args below meth c E io0 S0 nL Q nx (p0 :: .int x :: t) (st) S I L Rf k n) : aG p l e R s m args below meth c E io0 S0 nL Q pc (p0 :: w :: t) (.int x :: st) S I L Rf k n := g_istoreG_n hx d rfl hn hb (aStv.mid [p0] t rfl rfl (fun u h z => by cases h; exact hc)) kk
theorem g_astore_1 (hx : aCx p l s m args meth c own cc nL ret E) {x : Nat} (d : decode cc pc = .ok (.astore_n 1, 1)) (hn : pc + 1 = nx) (hb : 1 < nL) (hc : (p0.category == 2) = false := by rfl) (kk : aG p l e R s m args below meth c E io0 S0 nL Q nx (p0 :: .ref x :: t) (st) S I L Rf k n) : aG p l e R s m args below meth c E io0 S0 nL Q pc (p0 :: w :: t) (.ref x :: st) S I L Rf k n := g_astoreG_n hx d rfl hn hb (aStv.mid [p0] t rfl rfl (fun u h z => by cases h; exact hc)) kk
theorem g_lstore_1 (hx : aCx p l s m args meth c own cc nL ret E) {x : Int64} (d : decode cc pc = .ok (.lstore_n 1, 1)) (hn : pc + 1 = nx) (hb : 1 + 1 < nL) (hc : (p0.category == 2) = false := by rfl) (kk : aG p l e R s m args below meth c E io0 S0 nL Q nx (p0 :: .long x :: aU :: t) (st) S I L Rf k n) : aG p l e R s m args below meth c E io0 S0 nL Q pc (p0 :: w :: w2 :: t) (.long x :: st) S I L Rf k n := g_lstoreG_n hx d rfl hn hb (aStv.mid2 [p0] t rfl (fun u h z => by cases h; exact hc)) kk
theorem g_iinc_1 (hx : aCx p l s m args meth c own cc nL ret E) {x v : Int32} {z : Int} (d : decode cc pc = .ok (.iinc 1 z, 3)) (hn : pc + 3 = nx) (hb : 1 < nL) (hv : Int32.ofInt z = v) (hc : (p0.category == 2) = false := by rfl) (kk : aG p l e R s m args below meth c E io0 S0 nL Q nx (p0 :: .int (x + v) :: t) (st) S I L Rf k n) : aG p l e R s m args below meth c E io0 S0 nL Q pc (p0 :: .int x :: t) (st) S I L Rf k n := by
  subst hv
  exact g_iincG hx d hn hb (x := x) rfl rfl (aStv.mid [p0] t rfl rfl (fun u h z => by cases h; exact hc)) kk
theorem g_iincW_1 (hx : aCx p l s m args meth c own cc nL ret E) {x v : Int32} {z : Int} (d : decode cc pc = .ok (.iinc 1 z, 6)) (hn : pc + 6 = nx) (hb : 1 < nL) (hv : Int32.ofInt z = v) (hc : (p0.category == 2) = false := by rfl) (kk : aG p l e R s m args below meth c E io0 S0 nL Q nx (p0 :: .int (x + v) :: t) (st) S I L Rf k n) : aG p l e R s m args below meth c E io0 S0 nL Q pc (p0 :: .int x :: t) (st) S I L Rf k n := by
  subst hv
  exact g_iincGW hx d hn hb (x := x) rfl rfl (aStv.mid [p0] t rfl rfl (fun u h z => by cases h; exact hc)) kk
theorem g_istore_2 (hx : aCx p l s m args meth c own cc nL ret E) {x : Int32} (d : decode cc pc = .ok (.istore_n 2, 1)) (hn : pc + 1 = nx) (hb : 2 < nL) (hc : (p1.category == 2) = false := by rfl) (kk : aG p l e R s m args below meth c E io0 S0 nL Q nx (p0 :: p1 :: .int x :: t) (st) S I L Rf k n) : aG p l e R s m args below meth c E io0 S0 nL Q pc (p0 :: p1 :: w :: t) (.int x :: st) S I L Rf k n := g_istoreG_n hx d rfl hn hb (aStv.mid [p0, p1] t rfl rfl (fun u h z => by cases h; exact hc)) kk
theorem g_astore_2 (hx : aCx p l s m args meth c own cc nL ret E) {x : Nat} (d : decode cc pc = .ok (.astore_n 2, 1)) (hn : pc + 1 = nx) (hb : 2 < nL) (hc : (p1.category == 2) = false := by rfl) (kk : aG p l e R s m args below meth c E io0 S0 nL Q nx (p0 :: p1 :: .ref x :: t) (st) S I L Rf k n) : aG p l e R s m args below meth c E io0 S0 nL Q pc (p0 :: p1 :: w :: t) (.ref x :: st) S I L Rf k n := g_astoreG_n hx d rfl hn hb (aStv.mid [p0, p1] t rfl rfl (fun u h z => by cases h; exact hc)) kk
theorem g_lstore_2 (hx : aCx p l s m args meth c own cc nL ret E) {x : Int64} (d : decode cc pc = .ok (.lstore_n 2, 1)) (hn : pc + 1 = nx) (hb : 2 + 1 < nL) (hc : (p1.category == 2) = false := by rfl) (kk : aG p l e R s m args below meth c E io0 S0 nL Q nx (p0 :: p1 :: .long x :: aU :: t) (st) S I L Rf k n) : aG p l e R s m args below meth c E io0 S0 nL Q pc (p0 :: p1 :: w :: w2 :: t) (.long x :: st) S I L Rf k n := g_lstoreG_n hx d rfl hn hb (aStv.mid2 [p0, p1] t rfl (fun u h z => by cases h; exact hc)) kk
theorem g_iinc_2 (hx : aCx p l s m args meth c own cc nL ret E) {x v : Int32} {z : Int} (d : decode cc pc = .ok (.iinc 2 z, 3)) (hn : pc + 3 = nx) (hb : 2 < nL) (hv : Int32.ofInt z = v) (hc : (p1.category == 2) = false := by rfl) (kk : aG p l e R s m args below meth c E io0 S0 nL Q nx (p0 :: p1 :: .int (x + v) :: t) (st) S I L Rf k n) : aG p l e R s m args below meth c E io0 S0 nL Q pc (p0 :: p1 :: .int x :: t) (st) S I L Rf k n := by
  subst hv
  exact g_iincG hx d hn hb (x := x) rfl rfl (aStv.mid [p0, p1] t rfl rfl (fun u h z => by cases h; exact hc)) kk
theorem g_iincW_2 (hx : aCx p l s m args meth c own cc nL ret E) {x v : Int32} {z : Int} (d : decode cc pc = .ok (.iinc 2 z, 6)) (hn : pc + 6 = nx) (hb : 2 < nL) (hv : Int32.ofInt z = v) (hc : (p1.category == 2) = false := by rfl) (kk : aG p l e R s m args below meth c E io0 S0 nL Q nx (p0 :: p1 :: .int (x + v) :: t) (st) S I L Rf k n) : aG p l e R s m args below meth c E io0 S0 nL Q pc (p0 :: p1 :: .int x :: t) (st) S I L Rf k n := by
  subst hv
  exact g_iincGW hx d hn hb (x := x) rfl rfl (aStv.mid [p0, p1] t rfl rfl (fun u h z => by cases h; exact hc)) kk
theorem g_istore_3 (hx : aCx p l s m args meth c own cc nL ret E) {x : Int32} (d : decode cc pc = .ok (.istore_n 3, 1)) (hn : pc + 1 = nx) (hb : 3 < nL) (hc : (p2.category == 2) = false := by rfl) (kk : aG p l e R s m args below meth c E io0 S0 nL Q nx (p0 :: p1 :: p2 :: .int x :: t) (st) S I L Rf k n) : aG p l e R s m args below meth c E io0 S0 nL Q pc (p0 :: p1 :: p2 :: w :: t) (.int x :: st) S I L Rf k n := g_istoreG_n hx d rfl hn hb (aStv.mid [p0, p1, p2] t rfl rfl (fun u h z => by cases h; exact hc)) kk
theorem g_astore_3 (hx : aCx p l s m args meth c own cc nL ret E) {x : Nat} (d : decode cc pc = .ok (.astore_n 3, 1)) (hn : pc + 1 = nx) (hb : 3 < nL) (hc : (p2.category == 2) = false := by rfl) (kk : aG p l e R s m args below meth c E io0 S0 nL Q nx (p0 :: p1 :: p2 :: .ref x :: t) (st) S I L Rf k n) : aG p l e R s m args below meth c E io0 S0 nL Q pc (p0 :: p1 :: p2 :: w :: t) (.ref x :: st) S I L Rf k n := g_astoreG_n hx d rfl hn hb (aStv.mid [p0, p1, p2] t rfl rfl (fun u h z => by cases h; exact hc)) kk
theorem g_lstore_3 (hx : aCx p l s m args meth c own cc nL ret E) {x : Int64} (d : decode cc pc = .ok (.lstore_n 3, 1)) (hn : pc + 1 = nx) (hb : 3 + 1 < nL) (hc : (p2.category == 2) = false := by rfl) (kk : aG p l e R s m args below meth c E io0 S0 nL Q nx (p0 :: p1 :: p2 :: .long x :: aU :: t) (st) S I L Rf k n) : aG p l e R s m args below meth c E io0 S0 nL Q pc (p0 :: p1 :: p2 :: w :: w2 :: t) (.long x :: st) S I L Rf k n := g_lstoreG_n hx d rfl hn hb (aStv.mid2 [p0, p1, p2] t rfl (fun u h z => by cases h; exact hc)) kk
theorem g_iinc_3 (hx : aCx p l s m args meth c own cc nL ret E) {x v : Int32} {z : Int} (d : decode cc pc = .ok (.iinc 3 z, 3)) (hn : pc + 3 = nx) (hb : 3 < nL) (hv : Int32.ofInt z = v) (hc : (p2.category == 2) = false := by rfl) (kk : aG p l e R s m args below meth c E io0 S0 nL Q nx (p0 :: p1 :: p2 :: .int (x + v) :: t) (st) S I L Rf k n) : aG p l e R s m args below meth c E io0 S0 nL Q pc (p0 :: p1 :: p2 :: .int x :: t) (st) S I L Rf k n := by
  subst hv
  exact g_iincG hx d hn hb (x := x) rfl rfl (aStv.mid [p0, p1, p2] t rfl rfl (fun u h z => by cases h; exact hc)) kk
theorem g_iincW_3 (hx : aCx p l s m args meth c own cc nL ret E) {x v : Int32} {z : Int} (d : decode cc pc = .ok (.iinc 3 z, 6)) (hn : pc + 6 = nx) (hb : 3 < nL) (hv : Int32.ofInt z = v) (hc : (p2.category == 2) = false := by rfl) (kk : aG p l e R s m args below meth c E io0 S0 nL Q nx (p0 :: p1 :: p2 :: .int (x + v) :: t) (st) S I L Rf k n) : aG p l e R s m args below meth c E io0 S0 nL Q pc (p0 :: p1 :: p2 :: .int x :: t) (st) S I L Rf k n := by
  subst hv
  exact g_iincGW hx d hn hb (x := x) rfl rfl (aStv.mid [p0, p1, p2] t rfl rfl (fun u h z => by cases h; exact hc)) kk
theorem g_istore_4 (hx : aCx p l s m args meth c own cc nL ret E) {x : Int32} (d : decode cc pc = .ok (.istore 4, 2)) (hn : pc + 2 = nx) (hb : 4 < nL) (hc : (p3.category == 2) = false := by rfl) (kk : aG p l e R s m args below meth c E io0 S0 nL Q nx (p0 :: p1 :: p2 :: p3 :: .int x :: t) (st) S I L Rf k n) : aG p l e R s m args below meth c E io0 S0 nL Q pc (p0 :: p1 :: p2 :: p3 :: w :: t) (.int x :: st) S I L Rf k n := g_istoreG hx d hn hb (aStv.mid [p0, p1, p2, p3] t rfl rfl (fun u h z => by cases h; exact hc)) kk
theorem g_astore_4 (hx : aCx p l s m args meth c own cc nL ret E) {x : Nat} (d : decode cc pc = .ok (.astore 4, 2)) (hn : pc + 2 = nx) (hb : 4 < nL) (hc : (p3.category == 2) = false := by rfl) (kk : aG p l e R s m args below meth c E io0 S0 nL Q nx (p0 :: p1 :: p2 :: p3 :: .ref x :: t) (st) S I L Rf k n) : aG p l e R s m args below meth c E io0 S0 nL Q pc (p0 :: p1 :: p2 :: p3 :: w :: t) (.ref x :: st) S I L Rf k n := g_astoreG hx d hn hb (aStv.mid [p0, p1, p2, p3] t rfl rfl (fun u h z => by cases h; exact hc)) kk
theorem g_lstore_4 (hx : aCx p l s m args meth c own cc nL ret E) {x : Int64} (d : decode cc pc = .ok (.lstore 4, 2)) (hn : pc + 2 = nx) (hb : 4 + 1 < nL) (hc : (p3.category == 2) = false := by rfl) (kk : aG p l e R s m args below meth c E io0 S0 nL Q nx (p0 :: p1 :: p2 :: p3 :: .long x :: aU :: t) (st) S I L Rf k n) : aG p l e R s m args below meth c E io0 S0 nL Q pc (p0 :: p1 :: p2 :: p3 :: w :: w2 :: t) (.long x :: st) S I L Rf k n := g_lstoreG hx d hn hb (aStv.mid2 [p0, p1, p2, p3] t rfl (fun u h z => by cases h; exact hc)) kk
theorem g_iinc_4 (hx : aCx p l s m args meth c own cc nL ret E) {x v : Int32} {z : Int} (d : decode cc pc = .ok (.iinc 4 z, 3)) (hn : pc + 3 = nx) (hb : 4 < nL) (hv : Int32.ofInt z = v) (hc : (p3.category == 2) = false := by rfl) (kk : aG p l e R s m args below meth c E io0 S0 nL Q nx (p0 :: p1 :: p2 :: p3 :: .int (x + v) :: t) (st) S I L Rf k n) : aG p l e R s m args below meth c E io0 S0 nL Q pc (p0 :: p1 :: p2 :: p3 :: .int x :: t) (st) S I L Rf k n := by
  subst hv
  exact g_iincG hx d hn hb (x := x) rfl rfl (aStv.mid [p0, p1, p2, p3] t rfl rfl (fun u h z => by cases h; exact hc)) kk
theorem g_iincW_4 (hx : aCx p l s m args meth c own cc nL ret E) {x v : Int32} {z : Int} (d : decode cc pc = .ok (.iinc 4 z, 6)) (hn : pc + 6 = nx) (hb : 4 < nL) (hv : Int32.ofInt z = v) (hc : (p3.category == 2) = false := by rfl) (kk : aG p l e R s m args below meth c E io0 S0 nL Q nx (p0 :: p1 :: p2 :: p3 :: .int (x + v) :: t) (st) S I L Rf k n) : aG p l e R s m args below meth c E io0 S0 nL Q pc (p0 :: p1 :: p2 :: p3 :: .int x :: t) (st) S I L Rf k n := by
  subst hv
  exact g_iincGW hx d hn hb (x := x) rfl rfl (aStv.mid [p0, p1, p2, p3] t rfl rfl (fun u h z => by cases h; exact hc)) kk
theorem g_istore_5 (hx : aCx p l s m args meth c own cc nL ret E) {x : Int32} (d : decode cc pc = .ok (.istore 5, 2)) (hn : pc + 2 = nx) (hb : 5 < nL) (hc : (p4.category == 2) = false := by rfl) (kk : aG p l e R s m args below meth c E io0 S0 nL Q nx (p0 :: p1 :: p2 :: p3 :: p4 :: .int x :: t) (st) S I L Rf k n) : aG p l e R s m args below meth c E io0 S0 nL Q pc (p0 :: p1 :: p2 :: p3 :: p4 :: w :: t) (.int x :: st) S I L Rf k n := g_istoreG hx d hn hb (aStv.mid [p0, p1, p2, p3, p4] t rfl rfl (fun u h z => by cases h; exact hc)) kk
theorem g_astore_5 (hx : aCx p l s m args meth c own cc nL ret E) {x : Nat} (d : decode cc pc = .ok (.astore 5, 2)) (hn : pc + 2 = nx) (hb : 5 < nL) (hc : (p4.category == 2) = false := by rfl) (kk : aG p l e R s m args below meth c E io0 S0 nL Q nx (p0 :: p1 :: p2 :: p3 :: p4 :: .ref x :: t) (st) S I L Rf k n) : aG p l e R s m args below meth c E io0 S0 nL Q pc (p0 :: p1 :: p2 :: p3 :: p4 :: w :: t) (.ref x :: st) S I L Rf k n := g_astoreG hx d hn hb (aStv.mid [p0, p1, p2, p3, p4] t rfl rfl (fun u h z => by cases h; exact hc)) kk
theorem g_lstore_5 (hx : aCx p l s m args meth c own cc nL ret E) {x : Int64} (d : decode cc pc = .ok (.lstore 5, 2)) (hn : pc + 2 = nx) (hb : 5 + 1 < nL) (hc : (p4.category == 2) = false := by rfl) (kk : aG p l e R s m args below meth c E io0 S0 nL Q nx (p0 :: p1 :: p2 :: p3 :: p4 :: .long x :: aU :: t) (st) S I L Rf k n) : aG p l e R s m args below meth c E io0 S0 nL Q pc (p0 :: p1 :: p2 :: p3 :: p4 :: w :: w2 :: t) (.long x :: st) S I L Rf k n := g_lstoreG hx d hn hb (aStv.mid2 [p0, p1, p2, p3, p4] t rfl (fun u h z => by cases h; exact hc)) kk
theorem g_iinc_5 (hx : aCx p l s m args meth c own cc nL ret E) {x v : Int32} {z : Int} (d : decode cc pc = .ok (.iinc 5 z, 3)) (hn : pc + 3 = nx) (hb : 5 < nL) (hv : Int32.ofInt z = v) (hc : (p4.category == 2) = false := by rfl) (kk : aG p l e R s m args below meth c E io0 S0 nL Q nx (p0 :: p1 :: p2 :: p3 :: p4 :: .int (x + v) :: t) (st) S I L Rf k n) : aG p l e R s m args below meth c E io0 S0 nL Q pc (p0 :: p1 :: p2 :: p3 :: p4 :: .int x :: t) (st) S I L Rf k n := by
  subst hv
  exact g_iincG hx d hn hb (x := x) rfl rfl (aStv.mid [p0, p1, p2, p3, p4] t rfl rfl (fun u h z => by cases h; exact hc)) kk
theorem g_iincW_5 (hx : aCx p l s m args meth c own cc nL ret E) {x v : Int32} {z : Int} (d : decode cc pc = .ok (.iinc 5 z, 6)) (hn : pc + 6 = nx) (hb : 5 < nL) (hv : Int32.ofInt z = v) (hc : (p4.category == 2) = false := by rfl) (kk : aG p l e R s m args below meth c E io0 S0 nL Q nx (p0 :: p1 :: p2 :: p3 :: p4 :: .int (x + v) :: t) (st) S I L Rf k n) : aG p l e R s m args below meth c E io0 S0 nL Q pc (p0 :: p1 :: p2 :: p3 :: p4 :: .int x :: t) (st) S I L Rf k n := by
  subst hv
  exact g_iincGW hx d hn hb (x := x) rfl rfl (aStv.mid [p0, p1, p2, p3, p4] t rfl rfl (fun u h z => by cases h; exact hc)) kk
theorem g_istore_6 (hx : aCx p l s m args meth c own cc nL ret E) {x : Int32} (d : decode cc pc = .ok (.istore 6, 2)) (hn : pc + 2 = nx) (hb : 6 < nL) (hc : (p5.category == 2) = false := by rfl) (kk : aG p l e R s m args below meth c E io0 S0 nL Q nx (p0 :: p1 :: p2 :: p3 :: p4 :: p5 :: .int x :: t) (st) S I L Rf k n) : aG p l e R s m args below meth c E io0 S0 nL Q pc (p0 :: p1 :: p2 :: p3 :: p4 :: p5 :: w :: t) (.int x :: st) S I L Rf k n := g_istoreG hx d hn hb (aStv.mid [p0, p1, p2, p3, p4, p5] t rfl rfl (fun u h z => by cases h; exact hc)) kk
theorem g_astore_6 (hx : aCx p l s m args meth c own cc nL ret E) {x : Nat} (d : decode cc pc = .ok (.astore 6, 2)) (hn : pc + 2 = nx) (hb : 6 < nL) (hc : (p5.category == 2) = false := by rfl) (kk : aG p l e R s m args below meth c E io0 S0 nL Q nx (p0 :: p1 :: p2 :: p3 :: p4 :: p5 :: .ref x :: t) (st) S I L Rf k n) : aG p l e R s m args below meth c E io0 S0 nL Q pc (p0 :: p1 :: p2 :: p3 :: p4 :: p5 :: w :: t) (.ref x :: st) S I L Rf k n := g_astoreG hx d hn hb (aStv.mid [p0, p1, p2, p3, p4, p5] t rfl rfl (fun u h z => by cases h; exact hc)) kk
theorem g_lstore_6 (hx : aCx p l s m args meth c own cc nL ret E) {x : Int64} (d : decode cc pc = .ok (.lstore 6, 2)) (hn : pc + 2 = nx) (hb : 6 + 1 < nL) (hc : (p5.category == 2) = false := by rfl) (kk : aG p l e R s m args below meth c E io0 S0 nL Q nx (p0 :: p1 :: p2 :: p3 :: p4 :: p5 :: .long x :: aU :: t) (st) S I L Rf k n) : aG p l e R s m args below meth c E io0 S0 nL Q pc (p0 :: p1 :: p2 :: p3 :: p4 :: p5 :: w :: w2 :: t) (.long x :: st) S I L Rf k n := g_lstoreG hx d hn hb (aStv.mid2 [p0, p1, p2, p3, p4, p5] t rfl (fun u h z => by cases h; exact hc)) kk
theorem g_iinc_6 (hx : aCx p l s m args meth c own cc nL ret E) {x v : Int32} {z : Int} (d : decode cc pc = .ok (.iinc 6 z, 3)) (hn : pc + 3 = nx) (hb : 6 < nL) (hv : Int32.ofInt z = v) (hc : (p5.category == 2) = false := by rfl) (kk : aG p l e R s m args below meth c E io0 S0 nL Q nx (p0 :: p1 :: p2 :: p3 :: p4 :: p5 :: .int (x + v) :: t) (st) S I L Rf k n) : aG p l e R s m args below meth c E io0 S0 nL Q pc (p0 :: p1 :: p2 :: p3 :: p4 :: p5 :: .int x :: t) (st) S I L Rf k n := by
  subst hv
  exact g_iincG hx d hn hb (x := x) rfl rfl (aStv.mid [p0, p1, p2, p3, p4, p5] t rfl rfl (fun u h z => by cases h; exact hc)) kk
theorem g_iincW_6 (hx : aCx p l s m args meth c own cc nL ret E) {x v : Int32} {z : Int} (d : decode cc pc = .ok (.iinc 6 z, 6)) (hn : pc + 6 = nx) (hb : 6 < nL) (hv : Int32.ofInt z = v) (hc : (p5.category == 2) = false := by rfl) (kk : aG p l e R s m args below meth c E io0 S0 nL Q nx (p0 :: p1 :: p2 :: p3 :: p4 :: p5 :: .int (x + v) :: t) (st) S I L Rf k n) : aG p l e R s m args below meth c E io0 S0 nL Q pc (p0 :: p1 :: p2 :: p3 :: p4 :: p5 :: .int x :: t) (st) S I L Rf k n := by
  subst hv
  exact g_iincGW hx d hn hb (x := x) rfl rfl (aStv.mid [p0, p1, p2, p3, p4, p5] t rfl rfl (fun u h z => by cases h; exact hc)) kk
theorem g_istore_7 (hx : aCx p l s m args meth c own cc nL ret E) {x : Int32} (d : decode cc pc = .ok (.istore 7, 2)) (hn : pc + 2 = nx) (hb : 7 < nL) (hc : (p6.category == 2) = false := by rfl) (kk : aG p l e R s m args below meth c E io0 S0 nL Q nx (p0 :: p1 :: p2 :: p3 :: p4 :: p5 :: p6 :: .int x :: t) (st) S I L Rf k n) : aG p l e R s m args below meth c E io0 S0 nL Q pc (p0 :: p1 :: p2 :: p3 :: p4 :: p5 :: p6 :: w :: t) (.int x :: st) S I L Rf k n := g_istoreG hx d hn hb (aStv.mid [p0, p1, p2, p3, p4, p5, p6] t rfl rfl (fun u h z => by cases h; exact hc)) kk
theorem g_astore_7 (hx : aCx p l s m args meth c own cc nL ret E) {x : Nat} (d : decode cc pc = .ok (.astore 7, 2)) (hn : pc + 2 = nx) (hb : 7 < nL) (hc : (p6.category == 2) = false := by rfl) (kk : aG p l e R s m args below meth c E io0 S0 nL Q nx (p0 :: p1 :: p2 :: p3 :: p4 :: p5 :: p6 :: .ref x :: t) (st) S I L Rf k n) : aG p l e R s m args below meth c E io0 S0 nL Q pc (p0 :: p1 :: p2 :: p3 :: p4 :: p5 :: p6 :: w :: t) (.ref x :: st) S I L Rf k n := g_astoreG hx d hn hb (aStv.mid [p0, p1, p2, p3, p4, p5, p6] t rfl rfl (fun u h z => by cases h; exact hc)) kk
theorem g_lstore_7 (hx : aCx p l s m args meth c own cc nL ret E) {x : Int64} (d : decode cc pc = .ok (.lstore 7, 2)) (hn : pc + 2 = nx) (hb : 7 + 1 < nL) (hc : (p6.category == 2) = false := by rfl) (kk : aG p l e R s m args below meth c E io0 S0 nL Q nx (p0 :: p1 :: p2 :: p3 :: p4 :: p5 :: p6 :: .long x :: aU :: t) (st) S I L Rf k n) : aG p l e R s m args below meth c E io0 S0 nL Q pc (p0 :: p1 :: p2 :: p3 :: p4 :: p5 :: p6 :: w :: w2 :: t) (.long x :: st) S I L Rf k n := g_lstoreG hx d hn hb (aStv.mid2 [p0, p1, p2, p3, p4, p5, p6] t rfl (fun u h z => by cases h; exact hc)) kk
theorem g_iinc_7 (hx : aCx p l s m args meth c own cc nL ret E) {x v : Int32} {z : Int} (d : decode cc pc = .ok (.iinc 7 z, 3)) (hn : pc + 3 = nx) (hb : 7 < nL) (hv : Int32.ofInt z = v) (hc : (p6.category == 2) = false := by rfl) (kk : aG p l e R s m args below meth c E io0 S0 nL Q nx (p0 :: p1 :: p2 :: p3 :: p4 :: p5 :: p6 :: .int (x + v) :: t) (st) S I L Rf k n) : aG p l e R s m args below meth c E io0 S0 nL Q pc (p0 :: p1 :: p2 :: p3 :: p4 :: p5 :: p6 :: .int x :: t) (st) S I L Rf k n := by
  subst hv
  exact g_iincG hx d hn hb (x := x) rfl rfl (aStv.mid [p0, p1, p2, p3, p4, p5, p6] t rfl rfl (fun u h z => by cases h; exact hc)) kk
theorem g_iincW_7 (hx : aCx p l s m args meth c own cc nL ret E) {x v : Int32} {z : Int} (d : decode cc pc = .ok (.iinc 7 z, 6)) (hn : pc + 6 = nx) (hb : 7 < nL) (hv : Int32.ofInt z = v) (hc : (p6.category == 2) = false := by rfl) (kk : aG p l e R s m args below meth c E io0 S0 nL Q nx (p0 :: p1 :: p2 :: p3 :: p4 :: p5 :: p6 :: .int (x + v) :: t) (st) S I L Rf k n) : aG p l e R s m args below meth c E io0 S0 nL Q pc (p0 :: p1 :: p2 :: p3 :: p4 :: p5 :: p6 :: .int x :: t) (st) S I L Rf k n := by
  subst hv
  exact g_iincGW hx d hn hb (x := x) rfl rfl (aStv.mid [p0, p1, p2, p3, p4, p5, p6] t rfl rfl (fun u h z => by cases h; exact hc)) kk
theorem g_istore_8 (hx : aCx p l s m args meth c own cc nL ret E) {x : Int32} (d : decode cc pc = .ok (.istore 8, 2)) (hn : pc + 2 = nx) (hb : 8 < nL) (hc : (p7.category == 2) = false := by rfl) (kk : aG p l e R s m args below meth c E io0 S0 nL Q nx (p0 :: p1 :: p2 :: p3 :: p4 :: p5 :: p6 :: p7 :: .int x :: t) (st) S I L Rf k n) : aG p l e R s m args below meth c E io0 S0 nL Q pc (p0 :: p1 :: p2 :: p3 :: p4 :: p5 :: p6 :: p7 :: w :: t) (.int x :: st) S I L Rf k n := g_istoreG hx d hn hb (aStv.mid [p0, p1, p2, p3, p4, p5, p6, p7] t rfl rfl (fun u h z => by cases h; exact hc)) kk
theorem g_astore_8 (hx : aCx p l s m args meth c own cc nL ret E) {x : Nat} (d : decode cc pc = .ok (.astore 8, 2)) (hn : pc + 2 = nx) (hb : 8 < nL) (hc : (p7.category == 2) = false := by rfl) (kk : aG p l e R s m args below meth c E io0 S0 nL Q nx (p0 :: p1 :: p2 :: p3 :: p4 :: p5 :: p6 :: p7 :: .ref x :: t) (st) S I L Rf k n) : aG p l e R s m args below meth c E io0 S0 nL Q pc (p0 :: p1 :: p2 :: p3 :: p4 :: p5 :: p6 :: p7 :: w :: t) (.ref x :: st) S I L Rf k n := g_astoreG hx d hn hb (aStv.mid [p0, p1, p2, p3, p4, p5, p6, p7] t rfl rfl (fun u h z => by cases h; exact hc)) kk
theorem g_lstore_8 (hx : aCx p l s m args meth c own cc nL ret E) {x : Int64} (d : decode cc pc = .ok (.lstore 8, 2)) (hn : pc + 2 = nx) (hb : 8 + 1 < nL) (hc : (p7.category == 2) = false := by rfl) (kk : aG p l e R s m args below meth c E io0 S0 nL Q nx (p0 :: p1 :: p2 :: p3 :: p4 :: p5 :: p6 :: p7 :: .long x :: aU :: t) (st) S I L Rf k n) : aG p l e R s m args below meth c E io0 S0 nL Q pc (p0 :: p1 :: p2 :: p3 :: p4 :: p5 :: p6 :: p7 :: w :: w2 :: t) (.long x :: st) S I L Rf k n := g_lstoreG hx d hn hb (aStv.mid2 [p0, p1, p2, p3, p4, p5, p6, p7] t rfl (fun u h z => by cases h; exact hc)) kk
theorem g_iinc_8 (hx : aCx p l s m args meth c own cc nL ret E) {x v : Int32} {z : Int} (d : decode cc pc = .ok (.iinc 8 z, 3)) (hn : pc + 3 = nx) (hb : 8 < nL) (hv : Int32.ofInt z = v) (hc : (p7.category == 2) = false := by rfl) (kk : aG p l e R s m args below meth c E io0 S0 nL Q nx (p0 :: p1 :: p2 :: p3 :: p4 :: p5 :: p6 :: p7 :: .int (x + v) :: t) (st) S I L Rf k n) : aG p l e R s m args below meth c E io0 S0 nL Q pc (p0 :: p1 :: p2 :: p3 :: p4 :: p5 :: p6 :: p7 :: .int x :: t) (st) S I L Rf k n := by
  subst hv
  exact g_iincG hx d hn hb (x := x) rfl rfl (aStv.mid [p0, p1, p2, p3, p4, p5, p6, p7] t rfl rfl (fun u h z => by cases h; exact hc)) kk
theorem g_iincW_8 (hx : aCx p l s m args meth c own cc nL ret E) {x v : Int32} {z : Int} (d : decode cc pc = .ok (.iinc 8 z, 6)) (hn : pc + 6 = nx) (hb : 8 < nL) (hv : Int32.ofInt z = v) (hc : (p7.category == 2) = false := by rfl) (kk : aG p l e R s m args below meth c E io0 S0 nL Q nx (p0 :: p1 :: p2 :: p3 :: p4 :: p5 :: p6 :: p7 :: .int (x + v) :: t) (st) S I L Rf k n) : aG p l e R s m args below meth c E io0 S0 nL Q pc (p0 :: p1 :: p2 :: p3 :: p4 :: p5 :: p6 :: p7 :: .int x :: t) (st) S I L Rf k n := by
  subst hv
  exact g_iincGW hx d hn hb (x := x) rfl rfl (aStv.mid [p0, p1, p2, p3, p4, p5, p6, p7] t rfl rfl (fun u h z => by cases h; exact hc)) kk
theorem g_istore_9 (hx : aCx p l s m args meth c own cc nL ret E) {x : Int32} (d : decode cc pc = .ok (.istore 9, 2)) (hn : pc + 2 = nx) (hb : 9 < nL) (hc : (p8.category == 2) = false := by rfl) (kk : aG p l e R s m args below meth c E io0 S0 nL Q nx (p0 :: p1 :: p2 :: p3 :: p4 :: p5 :: p6 :: p7 :: p8 :: .int x :: t) (st) S I L Rf k n) : aG p l e R s m args below meth c E io0 S0 nL Q pc (p0 :: p1 :: p2 :: p3 :: p4 :: p5 :: p6 :: p7 :: p8 :: w :: t) (.int x :: st) S I L Rf k n := g_istoreG hx d hn hb (aStv.mid [p0, p1, p2, p3, p4, p5, p6, p7, p8] t rfl rfl (fun u h z => by cases h; exact hc)) kk
theorem g_astore_9 (hx : aCx p l s m args meth c own cc nL ret E) {x : Nat} (d : decode cc pc = .ok (.astore 9, 2)) (hn : pc + 2 = nx) (hb : 9 < nL) (hc : (p8.category == 2) = false := by rfl) (kk : aG p l e R s m args below meth c E io0 S0 nL Q nx (p0 :: p1 :: p2 :: p3 :: p4 :: p5 :: p6 :: p7 :: p8 :: .ref x :: t) (st) S I L Rf k n) : aG p l e R s m args below meth c E io0 S0 nL Q pc (p0 :: p1 :: p2 :: p3 :: p4 :: p5 :: p6 :: p7 :: p8 :: w :: t) (.ref x :: st) S I L Rf k n := g_astoreG hx d hn hb (aStv.mid [p0, p1, p2, p3, p4, p5, p6, p7, p8] t rfl rfl (fun u h z => by cases h; exact hc)) kk
theorem g_lstore_9 (hx : aCx p l s m args meth c own cc nL ret E) {x : Int64} (d : decode cc pc = .ok (.lstore 9, 2)) (hn : pc + 2 = nx) (hb : 9 + 1 < nL) (hc : (p8.category == 2) = false := by rfl) (kk : aG p l e R s m args below meth c E io0 S0 nL Q nx (p0 :: p1 :: p2 :: p3 :: p4 :: p5 :: p6 :: p7 :: p8 :: .long x :: aU :: t) (st) S I L Rf k n) : aG p l e R s m args below meth c E io0 S0 nL Q pc (p0 :: p1 :: p2 :: p3 :: p4 :: p5 :: p6 :: p7 :: p8 :: w :: w2 :: t) (.long x :: st) S I L Rf k n := g_lstoreG hx d hn hb (aStv.mid2 [p0, p1, p2, p3, p4, p5, p6, p7, p8] t rfl (fun u h z => by cases h; exact hc)) kk
theorem g_iinc_9 (hx : aCx p l s m args meth c own cc nL ret E) {x v : Int32} {z : Int} (d : decode cc pc = .ok (.iinc 9 z, 3)) (hn : pc + 3 = nx) (hb : 9 < nL) (hv : Int32.ofInt z = v) (hc : (p8.category == 2) = false := by rfl) (kk : aG p l e R s m args below meth c E io0 S0 nL Q nx (p0 :: p1 :: p2 :: p3 :: p4 :: p5 :: p6 :: p7 :: p8 :: .int (x + v) :: t) (st) S I L Rf k n) : aG p l e R s m args below meth c E io0 S0 nL Q pc (p0 :: p1 :: p2 :: p3 :: p4 :: p5 :: p6 :: p7 :: p8 :: .int x :: t) (st) S I L Rf k n := by
  subst hv
  exact g_iincG hx d hn hb (x := x) rfl rfl (aStv.mid [p0, p1, p2, p3, p4, p5, p6, p7, p8] t rfl rfl (fun u h z => by cases h; exact hc)) kk
theorem g_iincW_9 (hx : aCx p l s m args meth c own cc nL ret E) {x v : Int32} {z : Int} (d : decode cc pc = .ok (.iinc 9 z, 6)) (hn : pc + 6 = nx) (hb : 9 < nL) (hv : Int32.ofInt z = v) (hc : (p8.category == 2) = false := by rfl) (kk : aG p l e R s m args below meth c E io0 S0 nL Q nx (p0 :: p1 :: p2 :: p3 :: p4 :: p5 :: p6 :: p7 :: p8 :: .int (x + v) :: t) (st) S I L Rf k n) : aG p l e R s m args below meth c E io0 S0 nL Q pc (p0 :: p1 :: p2 :: p3 :: p4 :: p5 :: p6 :: p7 :: p8 :: .int x :: t) (st) S I L Rf k n := by
  subst hv
  exact g_iincGW hx d hn hb (x := x) rfl rfl (aStv.mid [p0, p1, p2, p3, p4, p5, p6, p7, p8] t rfl rfl (fun u h z => by cases h; exact hc)) kk
theorem g_istore_10 (hx : aCx p l s m args meth c own cc nL ret E) {x : Int32} (d : decode cc pc = .ok (.istore 10, 2)) (hn : pc + 2 = nx) (hb : 10 < nL) (hc : (p9.category == 2) = false := by rfl) (kk : aG p l e R s m args below meth c E io0 S0 nL Q nx (p0 :: p1 :: p2 :: p3 :: p4 :: p5 :: p6 :: p7 :: p8 :: p9 :: .int x :: t) (st) S I L Rf k n) : aG p l e R s m args below meth c E io0 S0 nL Q pc (p0 :: p1 :: p2 :: p3 :: p4 :: p5 :: p6 :: p7 :: p8 :: p9 :: w :: t) (.int x :: st) S I L Rf k n := g_istoreG hx d hn hb (aStv.mid [p0, p1, p2, p3, p4, p5, p6, p7, p8, p9] t rfl rfl (fun u h z => by cases h; exact hc)) kk
theorem g_astore_10 (hx : aCx p l s m args meth c own cc nL ret E) {x : Nat} (d : decode cc pc = .ok (.astore 10, 2)) (hn : pc + 2 = nx) (hb : 10 < nL) (hc : (p9.category == 2) = false := by rfl) (kk : aG p l e R s m args below meth c E io0 S0 nL Q nx (p0 :: p1 :: p2 :: p3 :: p4 :: p5 :: p6 :: p7 :: p8 :: p9 :: .ref x :: t) (st) S I L Rf k n) : aG p l e R s m args below meth c E io0 S0 nL Q pc (p0 :: p1 :: p2 :: p3 :: p4 :: p5 :: p6 :: p7 :: p8 :: p9 :: w :: t) (.ref x :: st) S I L Rf k n := g_astoreG hx d hn hb (aStv.mid [p0, p1, p2, p3, p4, p5, p6, p7, p8, p9] t rfl rfl (fun u h z => by cases h; exact hc)) kk
theorem g_lstore_10 (hx : aCx p l s m args meth c own cc nL ret E) {x : Int64} (d : decode cc pc = .ok (.lstore 10, 2)) (hn : pc + 2 = nx) (hb : 10 + 1 < nL) (hc : (p9.category == 2) = false := by rfl) (kk : aG p l e R s m args below meth c E io0 S0 nL Q nx (p0 :: p1 :: p2 :: p3 :: p4 :: p5 :: p6 :: p7 :: p8 :: p9 :: .long x :: aU :: t) (st) S I L Rf k n) : aG p l e R s m args below meth c E io0 S0 nL Q pc (p0 :: p1 :: p2 :: p3 :: p4 :: p5 :: p6 :: p7 :: p8 :: p9 :: w :: w2 :: t) (.long x :: st) S I L Rf k n := g_lstoreG hx d hn hb (aStv.mid2 [p0, p1, p2, p3, p4, p5, p6, p7, p8, p9] t rfl (fun u h z => by cases h; exact hc)) kk
theorem g_iinc_10 (hx : aCx p l s m args meth c own cc nL ret E) {x v : Int32} {z : Int} (d : decode cc pc = .ok (.iinc 10 z, 3)) (hn : pc + 3 = nx) (hb : 10 < nL) (hv : Int32.ofInt z = v) (hc : (p9.category == 2) = false := by rfl) (kk : aG p l e R s m args below meth c E io0 S0 nL Q nx (p0 :: p1 :: p2 :: p3 :: p4 :: p5 :: p6 :: p7 :: p8 :: p9 :: .int (x + v) :: t) (st) S I L Rf k n) : aG p l e R s m args below meth c E io0 S0 nL Q pc (p0 :: p1 :: p2 :: p3 :: p4 :: p5 :: p6 :: p7 :: p8 :: p9 :: .int x :: t) (st) S I L Rf k n := by
  subst hv
  exact g_iincG hx d hn hb (x := x) rfl rfl (aStv.mid [p0, p1, p2, p3, p4, p5, p6, p7, p8, p9] t rfl rfl (fun u h z => by cases h; exact hc)) kk
theorem g_iincW_10 (hx : aCx p l s m args meth c own cc nL ret E) {x v : Int32} {z : Int} (d : decode cc pc = .ok (.iinc 10 z, 6)) (hn : pc + 6 = nx) (hb : 10 < nL) (hv : Int32.ofInt z = v) (hc : (p9.category == 2) = false := by rfl) (kk : aG p l e R s m args below meth c E io0 S0 nL Q nx (p0 :: p1 :: p2 :: p3 :: p4 :: p5 :: p6 :: p7 :: p8 :: p9 :: .int (x + v) :: t) (st) S I L Rf k n) : aG p l e R s m args below meth c E io0 S0 nL Q pc (p0 :: p1 :: p2 :: p3 :: p4 :: p5 :: p6 :: p7 :: p8 :: p9 :: .int x :: t) (st) S I L Rf k n := by
  subst hv
  exact g_iincGW hx d hn hb (x := x) rfl rfl (aStv.mid [p0, p1, p2, p3, p4, p5, p6, p7, p8, p9] t rfl rfl (fun u h z => by cases h; exact hc)) kk
theorem g_istore_11 (hx : aCx p l s m args meth c own cc nL ret E) {x : Int32} (d : decode cc pc = .ok (.istore 11, 2)) (hn : pc + 2 = nx) (hb : 11 < nL) (hc : (p10.category == 2) = false := by rfl) (kk : aG p l e R s m args below meth c E io0 S0 nL Q nx (p0 :: p1 :: p2 :: p3 :: p4 :: p5 :: p6 :: p7 :: p8 :: p9 :: p10 :: .int x :: t) (st) S I L Rf k n) : aG p l e R s m args below meth c E io0 S0 nL Q pc (p0 :: p1 :: p2 :: p3 :: p4 :: p5 :: p6 :: p7 :: p8 :: p9 :: p10 :: w :: t) (.int x :: st) S I L Rf k n := g_istoreG hx d hn hb (aStv.mid [p0, p1, p2, p3, p4, p5, p6, p7, p8, p9, p10] t rfl rfl (fun u h z => by cases h; exact hc)) kk
theorem g_astore_11 (hx : aCx p l s m args meth c own cc nL ret E) {x : Nat} (d : decode cc pc = .ok (.astore 11, 2)) (hn : pc + 2 = nx) (hb : 11 < nL) (hc : (p10.category == 2) = false := by rfl) (kk : aG p l e R s m args below meth c E io0 S0 nL Q nx (p0 :: p1 :: p2 :: p3 :: p4 :: p5 :: p6 :: p7 :: p8 :: p9 :: p10 :: .ref x :: t) (st) S I L Rf k n) : aG p l e R s m args below meth c E io0 S0 nL Q pc (p0 :: p1 :: p2 :: p3 :: p4 :: p5 :: p6 :: p7 :: p8 :: p9 :: p10 :: w :: t) (.ref x :: st) S I L Rf k n := g_astoreG hx d hn hb (aStv.mid [p0, p1, p2, p3, p4, p5, p6, p7, p8, p9, p10] t rfl rfl (fun u h z => by cases h; exact hc)) kk
theorem g_lstore_11 (hx : aCx p l s m args meth c own cc nL ret E) {x : Int64} (d : decode cc pc = .ok (.lstore 11, 2)) (hn : pc + 2 = nx) (hb : 11 + 1 < nL) (hc : (p10.category == 2) = false := by rfl) (kk : aG p l e R s m args below meth c E io0 S0 nL Q nx (p0 :: p1 :: p2 :: p3 :: p4 :: p5 :: p6 :: p7 :: p8 :: p9 :: p10 :: .long x :: aU :: t) (st) S I L Rf k n) : aG p l e R s m args below meth c E io0 S0 nL Q pc (p0 :: p1 :: p2 :: p3 :: p4 :: p5 :: p6 :: p7 :: p8 :: p9 :: p10 :: w :: w2 :: t) (.long x :: st) S I L Rf k n := g_lstoreG hx d hn hb (aStv.mid2 [p0, p1, p2, p3, p4, p5, p6, p7, p8, p9, p10] t rfl (fun u h z => by cases h; exact hc)) kk
theorem g_iinc_11 (hx : aCx p l s m args meth c own cc nL ret E) {x v : Int32} {z : Int} (d : decode cc pc = .ok (.iinc 11 z, 3)) (hn : pc + 3 = nx) (hb : 11 < nL) (hv : Int32.ofInt z = v) (hc : (p10.category == 2) = false := by rfl) (kk : aG p l e R s m args below meth c E io0 S0 nL Q nx (p0 :: p1 :: p2 :: p3 :: p4 :: p5 :: p6 :: p7 :: p8 :: p9 :: p10 :: .int (x + v) :: t) (st) S I L Rf k n) : aG p l e R s m args below meth c E io0 S0 nL Q pc (p0 :: p1 :: p2 :: p3 :: p4 :: p5 :: p6 :: p7 :: p8 :: p9 :: p10 :: .int x :: t) (st) S I L Rf k n := by
  subst hv
  exact g_iincG hx d hn hb (x := x) rfl rfl (aStv.mid [p0, p1, p2, p3, p4, p5, p6, p7, p8, p9, p10] t rfl rfl (fun u h z => by cases h; exact hc)) kk
theorem g_iincW_11 (hx : aCx p l s m args meth c own cc nL ret E) {x v : Int32} {z : Int} (d : decode cc pc = .ok (.iinc 11 z, 6)) (hn : pc + 6 = nx) (hb : 11 < nL) (hv : Int32.ofInt z = v) (hc : (p10.category == 2) = false := by rfl) (kk : aG p l e R s m args below meth c E io0 S0 nL Q nx (p0 :: p1 :: p2 :: p3 :: p4 :: p5 :: p6 :: p7 :: p8 :: p9 :: p10 :: .int (x + v) :: t) (st) S I L Rf k n) : aG p l e R s m args below meth c E io0 S0 nL Q pc (p0 :: p1 :: p2 :: p3 :: p4 :: p5 :: p6 :: p7 :: p8 :: p9 :: p10 :: .int x :: t) (st) S I L Rf k n := by
  subst hv
  exact g_iincGW hx d hn hb (x := x) rfl rfl (aStv.mid [p0, p1, p2, p3, p4, p5, p6, p7, p8, p9, p10] t rfl rfl (fun u h z => by cases h; exact hc)) kk
theorem g_istore_12 (hx : aCx p l s m args meth c own cc nL ret E) {x : Int32} (d : decode cc pc = .ok (.istore 12, 2)) (hn : pc + 2 = nx) (hb : 12 < nL) (hc : (p11.category == 2) = false := by rfl) (kk : aG p l e R s m args below meth c E io0 S0 nL Q nx (p0 :: p1 :: p2 :: p3 :: p4 :: p5 :: p6 :: p7 :: p8 :: p9 :: p10 :: p11 :: .int x :: t) (st) S I L Rf k n) : aG p l e R s m args below meth c E io0 S0 nL Q pc (p0 :: p1 :: p2 :: p3 :: p4 :: p5 :: p6 :: p7 :: p8 :: p9 :: p10 :: p11 :: w :: t) (.int x :: st) S I L Rf k n := g_istoreG hx d hn hb (aStv.mid [p0, p1, p2, p3, p4, p5, p6, p7, p8, p9, p10, p11] t rfl rfl (fun u h z => by cases h; exact hc)) kk
theorem g_astore_12 (hx : aCx p l s m args meth c own cc nL ret E) {x : Nat} (d : decode cc pc = .ok (.astore 12, 2)) (hn : pc + 2 = nx) (hb : 12 < nL) (hc : (p11.category == 2) = false := by rfl) (kk : aG p l e R s m args below meth c E io0 S0 nL Q nx (p0 :: p1 :: p2 :: p3 :: p4 :: p5 :: p6 :: p7 :: p8 :: p9 :: p10 :: p11 :: .ref x :: t) (st) S I L Rf k n) : aG p l e R s m args below meth c E io0 S0 nL Q pc (p0 :: p1 :: p2 :: p3 :: p4 :: p5 :: p6 :: p7 :: p8 :: p9 :: p10 :: p11 :: w :: t) (.ref x :: st) S I L Rf k n := g_astoreG hx d hn hb (aStv.mid [p0, p1, p2, p3, p4, p5, p6, p7, p8, p9, p10, p11] t rfl rfl (fun u h z => by cases h; exact hc)) kk
theorem g_iinc_12 (hx : aCx p l s m args meth c own cc nL ret E) {x v : Int32} {z : Int} (d : decode cc pc = .ok (.iinc 12 z, 3)) (hn : pc + 3 = nx) (hb : 12 < nL) (hv : Int32.ofInt z = v) (hc : (p11.category == 2) = false := by rfl) (kk : aG p l e R s m args below meth c E io0 S0 nL Q nx (p0 :: p1 :: p2 :: p3 :: p4 :: p5 :: p6 :: p7 :: p8 :: p9 :: p10 :: p11 :: .int (x + v) :: t) (st) S I L Rf k n) : aG p l e R s m args below meth c E io0 S0 nL Q pc (p0 :: p1 :: p2 :: p3 :: p4 :: p5 :: p6 :: p7 :: p8 :: p9 :: p10 :: p11 :: .int x :: t) (st) S I L Rf k n := by
  subst hv
  exact g_iincG hx d hn hb (x := x) rfl rfl (aStv.mid [p0, p1, p2, p3, p4, p5, p6, p7, p8, p9, p10, p11] t rfl rfl (fun u h z => by cases h; exact hc)) kk
theorem g_iincW_12 (hx : aCx p l s m args meth c own cc nL ret E) {x v : Int32} {z : Int} (d : decode cc pc = .ok (.iinc 12 z, 6)) (hn : pc + 6 = nx) (hb : 12 < nL) (hv : Int32.ofInt z = v) (hc : (p11.category == 2) = false := by rfl) (kk : aG p l e R s m args below meth c E io0 S0 nL Q nx (p0 :: p1 :: p2 :: p3 :: p4 :: p5 :: p6 :: p7 :: p8 :: p9 :: p10 :: p11 :: .int (x + v) :: t) (st) S I L Rf k n) : aG p l e R s m args below meth c E io0 S0 nL Q pc (p0 :: p1 :: p2 :: p3 :: p4 :: p5 :: p6 :: p7 :: p8 :: p9 :: p10 :: p11 :: .int x :: t) (st) S I L Rf k n := by
  subst hv
  exact g_iincGW hx d hn hb (x := x) rfl rfl (aStv.mid [p0, p1, p2, p3, p4, p5, p6, p7, p8, p9, p10, p11] t rfl rfl (fun u h z => by cases h; exact hc)) kk
end ALS
end
section
/-! where things lie -/
def xT : Nat → Option ((FieldType × Nat) ⊕ Nat) := fun j => match j with
  | 0 => some (.inr 3)
  | 1 => some (.inl (.object "AsteroTone$Star", 6))
  | 2 => some (.inl (.boolean, 4))
  | 3 => some (.inl (.object "AsteroTone$Claim", 40))
  | 4 => some (.inr 1)
  | 5 => some (.inl (.int, 256))
  | 6 => some (.inl (.long, 256))
  | _ => none
/-- the class's object, its rows, its light -/
def lyX (S : aS) (R : aR) : Prop := (∀ j x, xT j = some x → S (3 + j) = some x) ∧ R 3 0 = some 4 ∧ R 3 3 = some 5 ∧ R 3 5 = some 6 ∧ R 3 7 = some 7 ∧ R 7 0 = some 8 ∧ R 7 1 = some 9 ∧ S 2 = some (.inl (.float, 64))
def mT : Nat → Option ((FieldType × Nat) ⊕ Nat) := fun j => match j with
  | 0 => some (.inr 4)
  | 1 => some (.inl (.int, 8))
  | 2 => some (.inl (.int, 8))
  | 3 => some (.inl (.int, 8))
  | 5 => some (.inl (.int, 6))
  | 6 => some (.inl (.int, 6))
  | 7 => some (.inl (.int, 6))
  | 8 => some (.inl (.int, 6))
  | 9 => some (.inl (.int, 6))
  | 10 => some (.inl (.int, 6))
  | 11 => some (.inl (.int, 1536))
  | 12 => some (.inl (.int, 1536))
  | 13 => some (.inl (.boolean, 4))
  | 15 => some (.inl (.int, 6))
  | 16 => some (.inl (.int, 36))
  | 17 => some (.inl (.int, 64))
  | 19 => some (.inl (.long, 256))
  | 20 => some (.inl (.boolean, 256))
  | 22 => some (.inl (.int, 40))
  | 23 => some (.inl (.int, 40))
  | 24 => some (.inl (.int, 40))
  | 25 => some (.inl (.int, 40))
  | 26 => some (.inl (.int, 40))
  | 27 => some (.inl (.long, 40))
  | 28 => some (.inl (.int, 40))
  | 29 => some (.inl (.long, 40))
  | 30 => some (.inl (.boolean, 40))
  | _ => none
def mA (j : Nat) : Bool := match j with
  | 0 => false
  | j + 1 => (mT (j + 1)).isSome
/-- the reference's -/
def lyM (S : aS) (R : aR) : Prop := (∀ j x, mT j = some x → S (20 + j) = some x) ∧ ∀ j, mA j = true → R 20 j = some (20 + j)
def sT : Nat → Option ((FieldType × Nat) ⊕ Nat) := fun j => match j with
  | 0 => some (.inr 2)
  | 1 => some (.inl (.int, 8))
  | 2 => some (.inl (.int, 8))
  | 3 => some (.inl (.int, 8))
  | 4 => some (.inl (.int, 256))
  | 5 => some (.inl (.int, 256))
  | 6 => some (.inl (.int, 6))
  | _ => none
def sO : Nat → Nat → Bool := fun k j => (k == 0 && j == 1) || (k == 1 && j == 2) || (k == 2 && j == 3) || (k == 10 && j == 4) || (k == 11 && j == 5) || (k == 12 && j == 6)
/-- a star at b -/
def lyS (S : aS) (R : aR) (b : Nat) : Prop := (∀ j x, sT j = some x → S (b + j) = some x) ∧ (∀ k j, sO k j = true → R b k = some (b + j)) ∧ 100 ≤ b
section AX
variable {p : Program} {l : Launch} {e : Env} {R : Room} {s : State} {m : MethodId} {args : Array Value} {below : List Frame} {meth : Method} {c : Code} {E : aE} {io0 : aM} {S0 : aS} {nL : Nat} {Q : State → Prop}
variable {own : String} {cc : ByteArray} {ret : Option FieldType} {pc nx : Nat} {lv st : List Value} {S : aS} {I : aI} {L : aL} {Rf : aR} {k n : Nat}
theorem g_ifnull_R (hx : aCx p l s m args meth c own cc nL ret E) {q : Nat} {off : Int} {tg : Nat} (d : decode cc pc = .ok (.ifnull off, 3)) (ht : (pc : Int) + off = (tg : Int)) (hn : pc + 3 = nx) (kk : aG p l e R s m args below meth c E io0 S0 nL Q nx lv (st) S I L Rf k n) : aG p l e R s m args below meth c E io0 S0 nL Q pc lv (.ref q :: st) S I L Rf k n := g_ifnull hx d ht hn (fun h => by cases h) (fun _ _ => kk) (Or.inr ⟨_, rfl⟩)
theorem g_ifnull_N (hx : aCx p l s m args meth c own cc nL ret E) {q : Nat} {off : Int} {tg : Nat} (d : decode cc pc = .ok (.ifnull off, 3)) (ht : (pc : Int) + off = (tg : Int)) (hn : pc + 3 = nx) (kk : aG p l e R s m args below meth c E io0 S0 nL Q tg lv (st) S I L Rf k n) : aG p l e R s m args below meth c E io0 S0 nL Q pc lv (.null :: st) S I L Rf k n := g_ifnull hx d ht hn (fun _ => kk) (fun _ h => by cases h) (Or.inl rfl)
theorem g_ifnonnull_R (hx : aCx p l s m args meth c own cc nL ret E) {q : Nat} {off : Int} {tg : Nat} (d : decode cc pc = .ok (.ifnonnull off, 3)) (ht : (pc : Int) + off = (tg : Int)) (hn : pc + 3 = nx) (kk : aG p l e R s m args below meth c E io0 S0 nL Q tg lv (st) S I L Rf k n) : aG p l e R s m args below meth c E io0 S0 nL Q pc lv (.ref q :: st) S I L Rf k n := g_ifnonnull hx d ht hn (fun _ _ => kk) (fun h => by cases h) (Or.inr ⟨_, rfl⟩)
theorem g_ifnonnull_N (hx : aCx p l s m args meth c own cc nL ret E) {q : Nat} {off : Int} {tg : Nat} (d : decode cc pc = .ok (.ifnonnull off, 3)) (ht : (pc : Int) + off = (tg : Int)) (hn : pc + 3 = nx) (kk : aG p l e R s m args below meth c E io0 S0 nL Q nx lv (st) S I L Rf k n) : aG p l e R s m args below meth c E io0 S0 nL Q pc lv (.null :: st) S I L Rf k n := g_ifnonnull hx d ht hn (fun _ h => by cases h) (fun _ => kk) (Or.inl rfl)
end AX
/-! small methods of the class -/
def iout (x y z : Int32) : Int32 := if x < y ∨ z < x then 1 else 0
theorem iout_1l {x y z : Int32} (h : x < y) : iout x y z = 1 := if_pos (Or.inl h)
theorem iout_1r {x y z : Int32} (h : ¬ x ≤ z) : iout x y z = 1 := if_pos (Or.inr (Int32.not_le.mp h))
theorem iout_0 {x y z : Int32} (h : ¬ x < y) (h2 : x ≤ z) : iout x y z = 0 := if_neg (fun q => q.elim h (fun q => absurd h2 (Int32.not_le.mpr q)))
abbrev rmX3_isOutside : Room := { frames := 0, cells := 0, slots := 0, locals := 0 }
set_option maxHeartbeats 4000000 in
set_option maxRecDepth 100000 in
theorem s_X3_isOutside {l : Launch} {E : aE} {S : aS} {I : aI} {L : aL} {Rf : aR} {Kr : aK} {Kx : aX} (hst : l.stackTraces = false) {x y z : Int32} (hk : Kr (some (.int (iout x y z))) S I L Rf) : aMet l E yX3_isOutside cX3_isOutside 3 (some .boolean) rmX3_isOutside [.int x, .int y, .int z] (S) (I) (L) (Rf) Kr Kx := by
  refine aMet.of (lv0 := [.int x, .int y, .int z]) (z := 0) (by decide +kernel) hst rfl (Nat.le_of_ble_eq_true rfl) ?_
  intro p e s m args below meth c io0 hx hin hno
  have hx : aCx p l s m args meth c RX3 cX3_isOutside 3 (some .boolean) E := hx
  refine g_iloadG_n hx dX3_isOutside_0 rfl (nx := 1) rfl rfl ?_
  refine g_iloadG_n hx dX3_isOutside_1 rfl (nx := 2) rfl rfl ?_
  refine g_icmp_lt hx dX3_isOutside_2 (tg := 10) (by decide) (nx := 5) rfl (fun c2 => ?_) (fun c2 => ?_)
  · refine g_iconst hx dX3_isOutside_10 (nx := 11) rfl (v := 1) (by decide) ?_
    refine g_goto hx dX3_isOutside_11 (tg := 15) (by decide) ?_
    refine g_iret hx dX3_isOutside_15 rfl rfl (Nat.le_of_ble_eq_true rfl) (Nat.le_of_ble_eq_true rfl) ?_
    first | (rw [iout_1l c2] at hk; exact hk) | (rw [iout_0 c2 c7] at hk; exact hk) | (rw [iout_1r c7] at hk; exact hk)
  · refine g_iloadG_n hx dX3_isOutside_5 rfl (nx := 6) rfl rfl ?_
    refine g_iloadG_n hx dX3_isOutside_6 rfl (nx := 7) rfl rfl ?_
    refine g_icmp_le hx dX3_isOutside_7 (tg := 14) (by decide) (nx := 10) rfl (fun c7 => ?_) (fun c7 => ?_)
    · refine g_iconst hx dX3_isOutside_14 (nx := 15) rfl (v := 0) (by decide) ?_
      refine g_iret hx dX3_isOutside_15 rfl rfl (Nat.le_of_ble_eq_true rfl) (Nat.le_of_ble_eq_true rfl) ?_
      first | (rw [iout_1l c2] at hk; exact hk) | (rw [iout_0 c2 c7] at hk; exact hk) | (rw [iout_1r c7] at hk; exact hk)
    · refine g_iconst hx dX3_isOutside_10 (nx := 11) rfl (v := 1) (by decide) ?_
      refine g_goto hx dX3_isOutside_11 (tg := 15) (by decide) ?_
      refine g_iret hx dX3_isOutside_15 rfl rfl (Nat.le_of_ble_eq_true rfl) (Nat.le_of_ble_eq_true rfl) ?_
      first | (rw [iout_1l c2] at hk; exact hk) | (rw [iout_0 c2 c7] at hk; exact hk) | (rw [iout_1r c7] at hk; exact hk)

def icos (x : Int32) : Int32 := acos (x &&& 63).toNatClampNeg
def isin (x : Int32) : Int32 := icos (x - 16)
theorem in64 (x : Int32) : vp_in (x &&& 63) 64 := pk_andIn x 6 (by decide) (by decide)
abbrev rmX3_cosine : Room := { frames := 0, cells := 0, slots := 0, locals := 0 }
set_option maxHeartbeats 4000000 in
set_option maxRecDepth 100000 in
theorem s_X3_cosine {l : Launch} {E : aE} {S : aS} {I : aI} {L : aL} {Rf : aR} {Kr : aK} {Kx : aX} (hst : l.stackTraces = false) {x : Int32} (hX : lyX S Rf) (hk : Kr (some (.int (icos x))) S I L Rf) : aMet l E yX3_cosine cX3_cosine 1 (some .int) rmX3_cosine [.int x] (S) (I) (L) (Rf) Kr Kx := by
  refine aMet.of (lv0 := [.int x]) (z := 0) (by decide +kernel) hst rfl (Nat.le_of_ble_eq_true rfl) ?_
  intro p e s m args below meth c io0 hx hin hno
  have hx : aCx p l s m args meth c RX3 cX3_cosine 1 (some .int) E := hx
  refine g_cosT hx dX3_cosine_0 (nx := 3) rfl gs_X3_272 (by rw [hX.2.2.2.2.2.2.2]; simp) ?_
  refine g_iloadG_n hx dX3_cosine_3 rfl (nx := 4) rfl rfl ?_
  refine g_bipush hx dX3_cosine_4 (nx := 6) rfl (v := 63) (by decide) ?_
  refine g_iand hx dX3_cosine_6 (nx := 7) rfl ?_
  refine g_cosA hx dX3_cosine_7 (nx := 8) rfl (in64 _) ?_
  refine g_iret hx dX3_cosine_8 rfl rfl (Nat.le_of_ble_eq_true rfl) (Nat.le_of_ble_eq_true rfl) ?_
  exact hk

abbrev rmX3_sine : Room := { frames := 1, cells := 0, slots := 0, locals := 20 }
set_option maxHeartbeats 4000000 in
set_option maxRecDepth 100000 in
theorem s_X3_sine {l : Launch} {E : aE} {S : aS} {I : aI} {L : aL} {Rf : aR} {Kr : aK} {Kx : aX} (hst : l.stackTraces = false) {x : Int32} (hX : lyX S Rf) (hk : Kr (some (.int (isin x))) S I L Rf) : aMet l E yX3_sine cX3_sine 1 (some .int) rmX3_sine [.int x] (S) (I) (L) (Rf) Kr Kx := by
  refine aMet.of (lv0 := [.int x]) (z := 0) (by decide +kernel) hst rfl (Nat.le_of_ble_eq_true rfl) ?_
  intro p e s m args below meth c io0 hx hin hno
  have hx : aCx p l s m args meth c RX3 cX3_sine 1 (some .int) E := hx
  refine g_iloadG_n hx dX3_sine_0 rfl (nx := 1) rfl rfl ?_
  refine g_bipush hx dX3_sine_1 (nx := 3) rfl (v := 16) (by decide) ?_
  refine g_isub hx dX3_sine_3 (nx := 4) rfl ?_
  refine g_callS_M hx [_] (k' := 0) (n' := 0) dX3_sine_4 (nx := 7) rfl lk_X3_275 rfl (Nat.le_of_ble_eq_true rfl) (Nat.le_of_ble_eq_true rfl) (Nat.le_of_ble_eq_true rfl) (Nat.le_of_ble_eq_true rfl) (Nat.le_of_ble_eq_true rfl) (Nat.le_of_ble_eq_true rfl) (Nat.le_of_ble_eq_true rfl) (s_X3_cosine hst hX ?_)
  refine g_iret hx dX3_sine_7 rfl rfl (Nat.le_of_ble_eq_true rfl) (Nat.le_of_ble_eq_true rfl) ?_
  exact hk
end
section
/-! sums over the times that are there -/
def lsum (ts : List Nat) (f : Nat → Int64) : Int64 := ts.foldl (fun a t => a + f t) 0
theorem lsum_nil (f : Nat → Int64) : lsum [] f = 0 := rfl
theorem lsum_snoc (ts : List Nat) (t : Nat) (f : Nat → Int64) : lsum (ts ++ [t]) f = lsum ts f + f t := by
  unfold lsum; rw [List.foldl_append]; rfl
def tl (p : Nat → Bool) (n : Nat) : List Nat := (List.range n).filter p
theorem tl_0 (p : Nat → Bool) : tl p 0 = [] := rfl
theorem tl_t {p : Nat → Bool} {n : Nat} (h : p n = true) : tl p (n + 1) = tl p n ++ [n] := by
  unfold tl; rw [List.range_succ, List.filter_append]; simp [h]
theorem tl_f {p : Nat → Bool} {n : Nat} (h : p n = false) : tl p (n + 1) = tl p n := by
  unfold tl; rw [List.range_succ, List.filter_append]; simp [h]
abbrev aT (p : Nat → Bool) : List Nat := tl p 256
theorem tl_len (p : Nat → Bool) (n : Nat) : (tl p n).length ≤ n := by
  unfold tl; exact Nat.le_trans (List.length_filter_le _ _) (by simp)
theorem aT_len (p : Nat → Bool) : (aT p).length ≤ 256 := tl_len p 256
theorem tl_mem {p : Nat → Bool} {n t : Nat} : t ∈ tl p n ↔ t < n ∧ p t = true := by
  unfold tl; rw [List.mem_filter, List.mem_range]
theorem aT_at {p : Nat → Bool} {i t : Nat} (h : (aT p)[i]? = some t) : t < 256 ∧ p t = true := tl_mem.mp (List.mem_of_getElem? h)
theorem take_snoc {ts : List Nat} {i t : Nat} (h : ts[i]? = some t) : ts.take (i + 1) = ts.take i ++ [t] := by
  rw [List.take_succ, h]; rfl
def cosL (x : Int32) (t : Nat) : Int64 := (icos (x * nI t)).toInt64
def sinL (x : Int32) (t : Nat) : Int64 := (isin (x * nI t)).toInt64
def sC (p : Nat → Bool) (V : Nat → Int64) (x : Int32) : Int64 := lsum (aT p) (fun t => V t * cosL x t)
def sS (p : Nat → Bool) (V : Nat → Int64) (x : Int32) : Int64 := lsum (aT p) (fun t => V t * sinL x t)
def pw (p : Nat → Bool) (V : Nat → Int64) (x : Int32) : Int64 := sC p V x / 1000 * (sC p V x / 1000) + sS p V x / 1000 * (sS p V x / 1000)
/-- the class's light holds the values V at the times that p tells -/
def Lrep (I : aI) (L : aL) (p : Nat → Bool) (V : Nat → Int64) : Prop := I 7 2 = nI (aT p).length ∧ ∀ i t, (aT p)[i]? = some t → I 8 i = nI t ∧ L 9 i = V t
end
section
/-! the class's light -/
abbrev rmX1_sumUp : Room := { frames := 2, cells := 0, slots := 0, locals := 40 }
set_option maxHeartbeats 4000000 in
set_option maxRecDepth 100000 in
theorem s_X1_sumUp {l : Launch} {E : aE} {S : aS} {I : aI} {L : aL} {Rf : aR} {Kr : aK} {Kx : aX} (hst : l.stackTraces = false) {x : Int32} {q : Nat → Bool} {V : Nat → Int64} (hX : lyX S Rf) (hL : Lrep I L q V) (hk : ∀ L', (∀ a b, a ≠ 7 → L' a b = L a b) → L' 7 3 = sC q V x → L' 7 4 = sS q V x → Kr none S I L' Rf) : aMet l E yX1_sumUp cX1_sumUp 4 none rmX1_sumUp [.ref 7, .int x] (S) (I) (L) (Rf) Kr Kx := by
  refine aMet.of (lv0 := [.ref 7, .int x, aU, aU]) (z := 2) (by decide +kernel) hst rfl (Nat.le_of_ble_eq_true rfl) ?_
  intro p e s m args below meth c io0 hx hin hno
  have hx : aCx p l s m args meth c RX1 cX1_sumUp 4 none E := hx
  have hlen := aT_len q
  have loop : ∀ (r i : Nat) (L' : aL) (w : Value), i + r = (aT q).length → (∀ a b, a ≠ 7 → L' a b = L a b) → L' 7 3 = lsum ((aT q).take i) (fun t => V t * cosL x t) → L' 7 4 = lsum ((aT q).take i) (fun t => V t * sinL x t) → aG p l e rmX1_sumUp s m args below meth c E io0 S 4 (vx_MQ below (aQc E io0 S Kr) (aXC E io0 S Kx) args s rmX1_sumUp.cells rmX1_sumUp.slots (aW E)) 12 [.ref 7, .int x, .int (nI i), w] [] (S) (I) (L') (Rf) 0 0 := by
    intro r
    induction r with
    | zero =>
      intro i L' w hi h1 h2 h3
      have hi : i = (aT q).length := by omega
      refine g_iloadG_n hx dX1_sumUp_12 rfl (nx := 13) rfl rfl ?_
      refine g_aloadG_n hx dX1_sumUp_13 rfl (nx := 14) rfl rfl ?_
      refine g_getfo_i hx dX1_sumUp_14 (nx := 17) rfl fa_X1_38 rfl (hX.1 4 _ rfl) (by decide) ?_
      refine g_icmp_ge hx dX1_sumUp_17 (tg := 77) (by decide) (nx := 20) rfl (fun c17 => ?_) (fun c17 => ?_)
      · refine g_vret hx dX1_sumUp_77 rfl (Nat.le_of_ble_eq_true rfl) (Nat.le_of_ble_eq_true rfl) ?_
        exact hk L' h1 (by rw [h2, hi, List.take_length]; rfl) (by rw [h3, hi, List.take_length]; rfl)
      · exact absurd (by rw [hL.1, hi]; exact Int32.le_refl _) c17
    | succ r ih =>
      intro i L' w hi h1 h2 h3
      have hlt : i < (aT q).length := by omega
      obtain ⟨t, ht⟩ : ∃ t, (aT q)[i]? = some t := ⟨_, List.getElem?_eq_getElem hlt⟩
      have ha := hL.2 i t ht
      have hn : (nI i).toNatClampNeg = i := nI_clamp (by omega)
      have hin : vp_in (nI i) 256 := vp_in_nI (by omega) (by omega)
      refine g_iloadG_n hx dX1_sumUp_12 rfl (nx := 13) rfl rfl ?_
      refine g_aloadG_n hx dX1_sumUp_13 rfl (nx := 14) rfl rfl ?_
      refine g_getfo_i hx dX1_sumUp_14 (nx := 17) rfl fa_X1_38 rfl (hX.1 4 _ rfl) (by decide) ?_
      refine g_icmp_ge hx dX1_sumUp_17 (tg := 77) (by decide) (nx := 20) rfl (fun c17 => ?_) (fun c17 => ?_)
      · exact absurd c17 (by rw [hL.1]; exact nI_ge hlt (by omega))
      · refine g_iloadG_n hx dX1_sumUp_20 rfl (nx := 21) rfl rfl ?_
        refine g_aloadG_n hx dX1_sumUp_21 rfl (nx := 22) rfl rfl ?_
        refine g_getfo_R hx dX1_sumUp_22 (nx := 25) rfl fa_X1_9 rfl (r9 := 8) hX.2.2.2.2.2.1 (hX.1 4 _ rfl) (by decide) ?_
        refine g_iloadG_n hx dX1_sumUp_25 rfl (nx := 26) rfl rfl ?_
        refine g_iaload hx dX1_sumUp_26 (nx := 27) rfl (hX.1 5 _ rfl) (by decide) hin ?_
        refine g_imul hx dX1_sumUp_27 (nx := 28) rfl ?_
        refine g_istore_3 hx dX1_sumUp_28 (nx := 29) rfl (by decide) rfl ?_
        refine g_aloadG_n hx dX1_sumUp_29 rfl (nx := 30) rfl rfl ?_
        refine g_dup hx dX1_sumUp_30 (nx := 31) rfl rfl ?_
        refine g_getfo_l hx dX1_sumUp_31 (nx := 34) rfl fa_X1_67 rfl (hX.1 4 _ rfl) (by decide) ?_
        refine g_aloadG_n hx dX1_sumUp_34 rfl (nx := 35) rfl rfl ?_
        refine g_getfo_R hx dX1_sumUp_35 (nx := 38) rfl fa_X1_15 rfl (r9 := 9) hX.2.2.2.2.2.2.1 (hX.1 4 _ rfl) (by decide) ?_
        refine g_iloadG_n hx dX1_sumUp_38 rfl (nx := 39) rfl rfl ?_
        refine g_laload hx dX1_sumUp_39 (nx := 40) rfl (hX.1 6 _ rfl) (by decide) hin ?_
        refine g_iloadG_n hx dX1_sumUp_40 rfl (nx := 41) rfl rfl ?_
        refine g_callNS_M hx [_] (k' := 0) (n' := 0) dX1_sumUp_41 (nx := 44) rfl lk_X1_74 rfl (Nat.le_of_ble_eq_true rfl) (Nat.le_of_ble_eq_true rfl) (Nat.le_of_ble_eq_true rfl) (Nat.le_of_ble_eq_true rfl) (Nat.le_of_ble_eq_true rfl) (Nat.le_of_ble_eq_true rfl) (Nat.le_of_ble_eq_true rfl) (s_X3_cosine hst hX ?_)
        refine g_i2l hx dX1_sumUp_44 (nx := 45) rfl ?_
        refine g_lmul hx dX1_sumUp_45 (nx := 46) rfl ?_
        refine g_ladd hx dX1_sumUp_46 (nx := 47) rfl ?_
        refine g_putfo_l hx dX1_sumUp_47 (nx := 50) rfl fa_X1_67 rfl (fun r h => by cases h; rfl) (hX.1 4 _ rfl) (by decide) ?_
        refine g_aloadG_n hx dX1_sumUp_50 rfl (nx := 51) rfl rfl ?_
        refine g_dup hx dX1_sumUp_51 (nx := 52) rfl rfl ?_
        refine g_getfo_l hx dX1_sumUp_52 (nx := 55) rfl fa_X1_71 rfl (hX.1 4 _ rfl) (by decide) ?_
        refine g_aloadG_n hx dX1_sumUp_55 rfl (nx := 56) rfl rfl ?_
        refine g_getfo_R hx dX1_sumUp_56 (nx := 59) rfl fa_X1_15 rfl (r9 := 9) hX.2.2.2.2.2.2.1 (hX.1 4 _ rfl) (by decide) ?_
        refine g_iloadG_n hx dX1_sumUp_59 rfl (nx := 60) rfl rfl ?_
        refine g_laload hx dX1_sumUp_60 (nx := 61) rfl (hX.1 6 _ rfl) (by decide) hin ?_
        refine g_iloadG_n hx dX1_sumUp_61 rfl (nx := 62) rfl rfl ?_
        refine g_callNS_M hx [_] (k' := 0) (n' := 0) dX1_sumUp_62 (nx := 65) rfl lk_X1_78 rfl (Nat.le_of_ble_eq_true rfl) (Nat.le_of_ble_eq_true rfl) (Nat.le_of_ble_eq_true rfl) (Nat.le_of_ble_eq_true rfl) (Nat.le_of_ble_eq_true rfl) (Nat.le_of_ble_eq_true rfl) (Nat.le_of_ble_eq_true rfl) (s_X3_sine hst hX ?_)
        refine g_i2l hx dX1_sumUp_65 (nx := 66) rfl ?_
        refine g_lmul hx dX1_sumUp_66 (nx := 67) rfl ?_
        refine g_ladd hx dX1_sumUp_67 (nx := 68) rfl ?_
        refine g_putfo_l hx dX1_sumUp_68 (nx := 71) rfl fa_X1_71 rfl (fun r h => by cases h; rfl) (hX.1 4 _ rfl) (by decide) ?_
        refine g_iinc_2 hx dX1_sumUp_71 (nx := 74) rfl (by decide) (v := 1) (by decide) rfl ?_
        refine g_goto hx dX1_sumUp_74 (tg := 12) (by decide) ?_
        rw [← nI_succ]
        refine ih (i + 1) _ _ (by omega) (fun a b h => ?_) ?_ ?_
        · rw [au2_n (fun z => h z.1), au2_n (fun z => h z.1)]; exact h1 a b h
        · rw [au2_n (by omega), au2_s, take_snoc ht, lsum_snoc, h2, hn, ha.1, h1 9 i (by decide), ha.2]; rfl
        · rw [au2_s, au2_n (by omega), take_snoc ht, lsum_snoc, h3, hn, ha.1, au2_n (by omega), h1 9 i (by decide), ha.2]; rfl
  refine g_aloadG_n hx dX1_sumUp_0 rfl (nx := 1) rfl rfl ?_
  refine g_lconst hx dX1_sumUp_1 (nx := 2) rfl (v := 0) (by decide) ?_
  refine g_putfo_l hx dX1_sumUp_2 (nx := 5) rfl fa_X1_67 rfl (fun r h => by cases h; rfl) (hX.1 4 _ rfl) (by decide) ?_
  refine g_aloadG_n hx dX1_sumUp_5 rfl (nx := 6) rfl rfl ?_
  refine g_lconst hx dX1_sumUp_6 (nx := 7) rfl (v := 0) (by decide) ?_
  refine g_putfo_l hx dX1_sumUp_7 (nx := 10) rfl fa_X1_71 rfl (fun r h => by cases h; rfl) (hX.1 4 _ rfl) (by decide) ?_
  refine g_iconst hx dX1_sumUp_10 (nx := 11) rfl (v := 0) (by decide) ?_
  refine g_istore_2 hx dX1_sumUp_11 (nx := 12) rfl (by decide) rfl ?_
  exact loop _ 0 _ _ (Nat.zero_add _) (fun a b h => by rw [au2_n (fun z => h z.1), au2_n (fun z => h z.1)]) (by rw [au2_n (by omega), au2_s]; rfl) (by rw [au2_s]; rfl)

abbrev rmX1_strength : Room := { frames := 3, cells := 0, slots := 0, locals := 63 }
set_option maxHeartbeats 4000000 in
set_option maxRecDepth 100000 in
theorem s_X1_strength {l : Launch} {E : aE} {S : aS} {I : aI} {L : aL} {Rf : aR} {Kr : aK} {Kx : aX} (hst : l.stackTraces = false) {x : Int32} {q : Nat → Bool} {V : Nat → Int64} (hX : lyX S Rf) (hL : Lrep I L q V) (hk : ∀ L', (∀ a b, a ≠ 7 → L' a b = L a b) → Kr (some (.long (pw q V x))) S I L' Rf) : aMet l E yX1_strength cX1_strength 6 (some .long) rmX1_strength [.ref 7, .int x] (S) (I) (L) (Rf) Kr Kx := by
  refine aMet.of (lv0 := [.ref 7, .int x, aU, aU, aU, aU]) (z := 4) (by decide +kernel) hst rfl (Nat.le_of_ble_eq_true rfl) ?_
  intro p e s m args below meth c io0 hx hin hno
  have hx : aCx p l s m args meth c RX1 cX1_strength 6 (some .long) E := hx
  refine g_aloadG_n hx dX1_strength_0 rfl (nx := 1) rfl rfl ?_
  refine g_iloadG_n hx dX1_strength_1 rfl (nx := 2) rfl rfl ?_
  refine g_callV_M hx [_] (k' := 0) (n' := 0) dX1_strength_2 (nx := 5) rfl lk_X1_60 (hX.1 4 _ rfl) (by decide) rfl rfl (Nat.le_of_ble_eq_true rfl) (Nat.le_of_ble_eq_true rfl) (Nat.le_of_ble_eq_true rfl) (Nat.le_of_ble_eq_true rfl) (Nat.le_of_ble_eq_true rfl) (Nat.le_of_ble_eq_true rfl) (Nat.le_of_ble_eq_true rfl) (s_X1_sumUp hst hX hL (fun L' h1 h2 h3 => ?_))
  refine g_aloadG_n hx dX1_strength_5 rfl (nx := 6) rfl rfl ?_
  refine g_getfo_l hx dX1_strength_6 (nx := 9) rfl fa_X1_67 rfl (hX.1 4 _ rfl) (by decide) ?_
  refine g_ldc2 hx dX1_strength_9 (nx := 12) rfl kl_X1_63 ?_
  refine g_ldiv hx dX1_strength_12 (nx := 13) rfl (by decide) ?_
  refine g_lstore_2 hx dX1_strength_13 (nx := 14) rfl (by decide) rfl ?_
  refine g_aloadG_n hx dX1_strength_14 rfl (nx := 15) rfl rfl ?_
  refine g_getfo_l hx dX1_strength_15 (nx := 18) rfl fa_X1_71 rfl (hX.1 4 _ rfl) (by decide) ?_
  refine g_ldc2 hx dX1_strength_18 (nx := 21) rfl kl_X1_63 ?_
  refine g_ldiv hx dX1_strength_21 (nx := 22) rfl (by decide) ?_
  refine g_lstore_4 hx dX1_strength_22 (nx := 24) rfl (by decide) rfl ?_
  refine g_lloadG_n hx dX1_strength_24 rfl (nx := 25) rfl rfl ?_
  refine g_lloadG_n hx dX1_strength_25 rfl (nx := 26) rfl rfl ?_
  refine g_lmul hx dX1_strength_26 (nx := 27) rfl ?_
  refine g_lloadG hx dX1_strength_27 (nx := 29) rfl rfl ?_
  refine g_lloadG hx dX1_strength_29 (nx := 31) rfl rfl ?_
  refine g_lmul hx dX1_strength_31 (nx := 32) rfl ?_
  refine g_ladd hx dX1_strength_32 (nx := 33) rfl ?_
  refine g_lret hx dX1_strength_33 rfl (Nat.le_of_ble_eq_true rfl) (Nat.le_of_ble_eq_true rfl) ?_
  rw [h2, h3]; exact hk L' h1
end
