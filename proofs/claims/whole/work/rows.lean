section
-- ===== PART A: goes FIRST, ahead of the names: the tables' words, and 'selects' of the private methods out of them =====
/-- a private method of a class that the tables say can be made, by its rows of tables_1 -/
def lw_okq (q : MethodName × Nat) : Prop := (q.1.cls ≠ "java/lang/invoke/MethodHandle" ∧ q.1.cls ≠ "java/lang/invoke/VarHandle") ∧ Cond.instantiable q.1.cls q.2 ∈ tables_1 ∧ Cond.privateMethod q.1 ∈ tables_1 ∧ Cond.instanceMethod q.1 ∈ tables_1
theorem lw_p0 : lw_okq (⟨"SiloPads", "daysUntilStiff", "(I)I"⟩, 8) := ⟨⟨by decide +kernel, by decide +kernel⟩, List.mem_of_getElem? (i := 16) (by decide +kernel), List.mem_of_getElem? (i := 257) (by decide +kernel), List.mem_of_getElem? (i := 258) (by decide +kernel)⟩
theorem lw_p1 : lw_okq (⟨"SiloPads", "softTonnes", "(LSiloPads$Silo;)I"⟩, 8) := ⟨⟨by decide +kernel, by decide +kernel⟩, List.mem_of_getElem? (i := 16) (by decide +kernel), List.mem_of_getElem? (i := 276) (by decide +kernel), List.mem_of_getElem? (i := 277) (by decide +kernel)⟩
theorem lw_p2 : lw_okq (⟨"SiloPads", "hardnessAt", "(I)I"⟩, 8) := ⟨⟨by decide +kernel, by decide +kernel⟩, List.mem_of_getElem? (i := 16) (by decide +kernel), List.mem_of_getElem? (i := 280) (by decide +kernel), List.mem_of_getElem? (i := 281) (by decide +kernel)⟩
theorem lw_p3 : lw_okq (⟨"java/lang/Throwable", "fillInStackTrace", "(I)Ljava/lang/Throwable;"⟩, 6) := ⟨⟨by decide +kernel, by decide +kernel⟩, List.mem_of_getElem? (i := 344) (by decide +kernel), List.mem_of_getElem? (i := 342) (by decide +kernel), List.mem_of_getElem? (i := 343) (by decide +kernel)⟩
theorem lw_p4 : lw_okq (⟨"SiloPads", "hashWithSilo", "(JI)J"⟩, 8) := ⟨⟨by decide +kernel, by decide +kernel⟩, List.mem_of_getElem? (i := 16) (by decide +kernel), List.mem_of_getElem? (i := 374) (by decide +kernel), List.mem_of_getElem? (i := 375) (by decide +kernel)⟩
theorem lw_p5 : lw_okq (⟨"SiloPads", "outInHour", "(LSiloPads$Silo;I)I"⟩, 8) := ⟨⟨by decide +kernel, by decide +kernel⟩, List.mem_of_getElem? (i := 16) (by decide +kernel), List.mem_of_getElem? (i := 399) (by decide +kernel), List.mem_of_getElem? (i := 400) (by decide +kernel)⟩
theorem lw_p6 : lw_okq (⟨"SiloPads", "shakesToBreak", "(LSiloPads$Silo;)I"⟩, 8) := ⟨⟨by decide +kernel, by decide +kernel⟩, List.mem_of_getElem? (i := 16) (by decide +kernel), List.mem_of_getElem? (i := 414) (by decide +kernel), List.mem_of_getElem? (i := 415) (by decide +kernel)⟩
theorem lw_p7 : lw_okq (⟨"SiloPads", "pour", "(LSiloPads$Silo;LSiloPads$Ship;I)I"⟩, 8) := ⟨⟨by decide +kernel, by decide +kernel⟩, List.mem_of_getElem? (i := 16) (by decide +kernel), List.mem_of_getElem? (i := 445) (by decide +kernel), List.mem_of_getElem? (i := 446) (by decide +kernel)⟩
theorem lw_p8 : lw_okq (⟨"SiloPads", "pourForHour", "(LSiloPads$Silo;LSiloPads$Ship;)I"⟩, 8) := ⟨⟨by decide +kernel, by decide +kernel⟩, List.mem_of_getElem? (i := 16) (by decide +kernel), List.mem_of_getElem? (i := 449) (by decide +kernel), List.mem_of_getElem? (i := 450) (by decide +kernel)⟩
theorem lw_p9 : lw_okq (⟨"SiloPads", "dustOf", "(I)I"⟩, 8) := ⟨⟨by decide +kernel, by decide +kernel⟩, List.mem_of_getElem? (i := 16) (by decide +kernel), List.mem_of_getElem? (i := 453) (by decide +kernel), List.mem_of_getElem? (i := 454) (by decide +kernel)⟩
theorem lw_p10 : lw_okq (⟨"SiloPads", "saveState", "()V"⟩, 8) := ⟨⟨by decide +kernel, by decide +kernel⟩, List.mem_of_getElem? (i := 16) (by decide +kernel), List.mem_of_getElem? (i := 486) (by decide +kernel), List.mem_of_getElem? (i := 487) (by decide +kernel)⟩
theorem lw_p11 : lw_okq (⟨"SiloPads", "bringIn", "(LSiloPads$Silo;LSiloPads$Ship;I)I"⟩, 8) := ⟨⟨by decide +kernel, by decide +kernel⟩, List.mem_of_getElem? (i := 16) (by decide +kernel), List.mem_of_getElem? (i := 504) (by decide +kernel), List.mem_of_getElem? (i := 505) (by decide +kernel)⟩
theorem lw_p12 : lw_okq (⟨"SiloPads", "letOut", "(LSiloPads$Silo;LSiloPads$Ship;I)I"⟩, 8) := ⟨⟨by decide +kernel, by decide +kernel⟩, List.mem_of_getElem? (i := 16) (by decide +kernel), List.mem_of_getElem? (i := 530) (by decide +kernel), List.mem_of_getElem? (i := 531) (by decide +kernel)⟩
theorem lw_p13 : lw_okq (⟨"SiloPads", "passDays", "(I)I"⟩, 8) := ⟨⟨by decide +kernel, by decide +kernel⟩, List.mem_of_getElem? (i := 16) (by decide +kernel), List.mem_of_getElem? (i := 580) (by decide +kernel), List.mem_of_getElem? (i := 581) (by decide +kernel)⟩
theorem lw_p14 : lw_okq (⟨"SiloPads", "passDayIn", "(LSiloPads$Silo;)I"⟩, 8) := ⟨⟨by decide +kernel, by decide +kernel⟩, List.mem_of_getElem? (i := 16) (by decide +kernel), List.mem_of_getElem? (i := 584) (by decide +kernel), List.mem_of_getElem? (i := 585) (by decide +kernel)⟩
theorem lw_p15 : lw_okq (⟨"SiloPads", "playParts", "()I"⟩, 8) := ⟨⟨by decide +kernel, by decide +kernel⟩, List.mem_of_getElem? (i := 16) (by decide +kernel), List.mem_of_getElem? (i := 628) (by decide +kernel), List.mem_of_getElem? (i := 629) (by decide +kernel)⟩
def lw_privs_1 : List (MethodName × Nat) := [(⟨"SiloPads", "daysUntilStiff", "(I)I"⟩, 8), (⟨"SiloPads", "softTonnes", "(LSiloPads$Silo;)I"⟩, 8), (⟨"SiloPads", "hardnessAt", "(I)I"⟩, 8), (⟨"java/lang/Throwable", "fillInStackTrace", "(I)Ljava/lang/Throwable;"⟩, 6), (⟨"SiloPads", "hashWithSilo", "(JI)J"⟩, 8), (⟨"SiloPads", "outInHour", "(LSiloPads$Silo;I)I"⟩, 8), (⟨"SiloPads", "shakesToBreak", "(LSiloPads$Silo;)I"⟩, 8), (⟨"SiloPads", "pour", "(LSiloPads$Silo;LSiloPads$Ship;I)I"⟩, 8), (⟨"SiloPads", "pourForHour", "(LSiloPads$Silo;LSiloPads$Ship;)I"⟩, 8), (⟨"SiloPads", "dustOf", "(I)I"⟩, 8), (⟨"SiloPads", "saveState", "()V"⟩, 8), (⟨"SiloPads", "bringIn", "(LSiloPads$Silo;LSiloPads$Ship;I)I"⟩, 8), (⟨"SiloPads", "letOut", "(LSiloPads$Silo;LSiloPads$Ship;I)I"⟩, 8), (⟨"SiloPads", "passDays", "(I)I"⟩, 8), (⟨"SiloPads", "passDayIn", "(LSiloPads$Silo;)I"⟩, 8), (⟨"SiloPads", "playParts", "()I"⟩, 8)]
theorem lw_r1 : ∀ q ∈ lw_privs_1, lw_okq q := List.forall_mem_cons.mpr ⟨lw_p0, List.forall_mem_cons.mpr ⟨lw_p1, List.forall_mem_cons.mpr ⟨lw_p2, List.forall_mem_cons.mpr ⟨lw_p3, List.forall_mem_cons.mpr ⟨lw_p4, List.forall_mem_cons.mpr ⟨lw_p5, List.forall_mem_cons.mpr ⟨lw_p6, List.forall_mem_cons.mpr ⟨lw_p7, List.forall_mem_cons.mpr ⟨lw_p8, List.forall_mem_cons.mpr ⟨lw_p9, List.forall_mem_cons.mpr ⟨lw_p10, List.forall_mem_cons.mpr ⟨lw_p11, List.forall_mem_cons.mpr ⟨lw_p12, List.forall_mem_cons.mpr ⟨lw_p13, List.forall_mem_cons.mpr ⟨lw_p14, List.forall_mem_cons.mpr ⟨lw_p15, fun _ h => absurd h List.not_mem_nil⟩⟩⟩⟩⟩⟩⟩⟩⟩⟩⟩⟩⟩⟩⟩⟩
theorem lw_p16 : lw_okq (⟨"SiloPads", "playPart", "()I"⟩, 8) := ⟨⟨by decide +kernel, by decide +kernel⟩, List.mem_of_getElem? (i := 16) (by decide +kernel), List.mem_of_getElem? (i := 632) (by decide +kernel), List.mem_of_getElem? (i := 633) (by decide +kernel)⟩
theorem lw_p17 : lw_okq (⟨"SiloPadsModel", "fails", "(I)I"⟩, 12) := ⟨⟨by decide +kernel, by decide +kernel⟩, List.mem_of_getElem? (i := 672) (by decide +kernel), List.mem_of_getElem? (i := 729) (by decide +kernel), List.mem_of_getElem? (i := 730) (by decide +kernel)⟩
theorem lw_p18 : lw_okq (⟨"SiloPadsModel", "saves", "()V"⟩, 12) := ⟨⟨by decide +kernel, by decide +kernel⟩, List.mem_of_getElem? (i := 672) (by decide +kernel), List.mem_of_getElem? (i := 733) (by decide +kernel), List.mem_of_getElem? (i := 734) (by decide +kernel)⟩
theorem lw_p19 : lw_okq (⟨"SiloPadsModel", "unloads", "(III)I"⟩, 12) := ⟨⟨by decide +kernel, by decide +kernel⟩, List.mem_of_getElem? (i := 672) (by decide +kernel), List.mem_of_getElem? (i := 744) (by decide +kernel), List.mem_of_getElem? (i := 745) (by decide +kernel)⟩
theorem lw_p20 : lw_okq (⟨"SiloPadsModel", "comes", "(II)I"⟩, 12) := ⟨⟨by decide +kernel, by decide +kernel⟩, List.mem_of_getElem? (i := 672) (by decide +kernel), List.mem_of_getElem? (i := 751) (by decide +kernel), List.mem_of_getElem? (i := 752) (by decide +kernel)⟩
theorem lw_p21 : lw_okq (⟨"SiloPadsModel", "sumFrom", "(II)I"⟩, 12) := ⟨⟨by decide +kernel, by decide +kernel⟩, List.mem_of_getElem? (i := 672) (by decide +kernel), List.mem_of_getElem? (i := 755) (by decide +kernel), List.mem_of_getElem? (i := 756) (by decide +kernel)⟩
theorem lw_p22 : lw_okq (⟨"SiloPadsModel", "of", "(II)I"⟩, 12) := ⟨⟨by decide +kernel, by decide +kernel⟩, List.mem_of_getElem? (i := 672) (by decide +kernel), List.mem_of_getElem? (i := 759) (by decide +kernel), List.mem_of_getElem? (i := 760) (by decide +kernel)⟩
theorem lw_p23 : lw_okq (⟨"SiloPadsModel", "tonnes", "(II)I"⟩, 12) := ⟨⟨by decide +kernel, by decide +kernel⟩, List.mem_of_getElem? (i := 672) (by decide +kernel), List.mem_of_getElem? (i := 763) (by decide +kernel), List.mem_of_getElem? (i := 764) (by decide +kernel)⟩
theorem lw_p24 : lw_okq (⟨"SiloPadsModel", "age", "(II)I"⟩, 12) := ⟨⟨by decide +kernel, by decide +kernel⟩, List.mem_of_getElem? (i := 672) (by decide +kernel), List.mem_of_getElem? (i := 767) (by decide +kernel), List.mem_of_getElem? (i := 768) (by decide +kernel)⟩
theorem lw_p25 : lw_okq (⟨"SiloPadsModel", "lay", "(III)V"⟩, 12) := ⟨⟨by decide +kernel, by decide +kernel⟩, List.mem_of_getElem? (i := 672) (by decide +kernel), List.mem_of_getElem? (i := 771) (by decide +kernel), List.mem_of_getElem? (i := 772) (by decide +kernel)⟩
theorem lw_p26 : lw_okq (⟨"SiloPadsModel", "flowsAll", "(III)I"⟩, 12) := ⟨⟨by decide +kernel, by decide +kernel⟩, List.mem_of_getElem? (i := 672) (by decide +kernel), List.mem_of_getElem? (i := 779) (by decide +kernel), List.mem_of_getElem? (i := 780) (by decide +kernel)⟩
theorem lw_p27 : lw_okq (⟨"SiloPadsModel", "flowsHour", "(II)I"⟩, 12) := ⟨⟨by decide +kernel, by decide +kernel⟩, List.mem_of_getElem? (i := 672) (by decide +kernel), List.mem_of_getElem? (i := 783) (by decide +kernel), List.mem_of_getElem? (i := 784) (by decide +kernel)⟩
theorem lw_p28 : lw_okq (⟨"SiloPadsModel", "flows", "(I)I"⟩, 12) := ⟨⟨by decide +kernel, by decide +kernel⟩, List.mem_of_getElem? (i := 672) (by decide +kernel), List.mem_of_getElem? (i := 787) (by decide +kernel), List.mem_of_getElem? (i := 788) (by decide +kernel)⟩
theorem lw_p29 : lw_okq (⟨"SiloPadsModel", "setOf", "(II)I"⟩, 12) := ⟨⟨by decide +kernel, by decide +kernel⟩, List.mem_of_getElem? (i := 672) (by decide +kernel), List.mem_of_getElem? (i := 791) (by decide +kernel), List.mem_of_getElem? (i := 792) (by decide +kernel)⟩
theorem lw_p30 : lw_okq (⟨"SiloPadsModel", "room", "(I)I"⟩, 12) := ⟨⟨by decide +kernel, by decide +kernel⟩, List.mem_of_getElem? (i := 672) (by decide +kernel), List.mem_of_getElem? (i := 795) (by decide +kernel), List.mem_of_getElem? (i := 796) (by decide +kernel)⟩
theorem lw_p31 : lw_okq (⟨"SiloPadsModel", "drops", "(I)V"⟩, 12) := ⟨⟨by decide +kernel, by decide +kernel⟩, List.mem_of_getElem? (i := 672) (by decide +kernel), List.mem_of_getElem? (i := 799) (by decide +kernel), List.mem_of_getElem? (i := 800) (by decide +kernel)⟩
def lw_privs_2 : List (MethodName × Nat) := [(⟨"SiloPads", "playPart", "()I"⟩, 8), (⟨"SiloPadsModel", "fails", "(I)I"⟩, 12), (⟨"SiloPadsModel", "saves", "()V"⟩, 12), (⟨"SiloPadsModel", "unloads", "(III)I"⟩, 12), (⟨"SiloPadsModel", "comes", "(II)I"⟩, 12), (⟨"SiloPadsModel", "sumFrom", "(II)I"⟩, 12), (⟨"SiloPadsModel", "of", "(II)I"⟩, 12), (⟨"SiloPadsModel", "tonnes", "(II)I"⟩, 12), (⟨"SiloPadsModel", "age", "(II)I"⟩, 12), (⟨"SiloPadsModel", "lay", "(III)V"⟩, 12), (⟨"SiloPadsModel", "flowsAll", "(III)I"⟩, 12), (⟨"SiloPadsModel", "flowsHour", "(II)I"⟩, 12), (⟨"SiloPadsModel", "flows", "(I)I"⟩, 12), (⟨"SiloPadsModel", "setOf", "(II)I"⟩, 12), (⟨"SiloPadsModel", "room", "(I)I"⟩, 12), (⟨"SiloPadsModel", "drops", "(I)V"⟩, 12)]
theorem lw_r2 : ∀ q ∈ lw_privs_2, lw_okq q := List.forall_mem_cons.mpr ⟨lw_p16, List.forall_mem_cons.mpr ⟨lw_p17, List.forall_mem_cons.mpr ⟨lw_p18, List.forall_mem_cons.mpr ⟨lw_p19, List.forall_mem_cons.mpr ⟨lw_p20, List.forall_mem_cons.mpr ⟨lw_p21, List.forall_mem_cons.mpr ⟨lw_p22, List.forall_mem_cons.mpr ⟨lw_p23, List.forall_mem_cons.mpr ⟨lw_p24, List.forall_mem_cons.mpr ⟨lw_p25, List.forall_mem_cons.mpr ⟨lw_p26, List.forall_mem_cons.mpr ⟨lw_p27, List.forall_mem_cons.mpr ⟨lw_p28, List.forall_mem_cons.mpr ⟨lw_p29, List.forall_mem_cons.mpr ⟨lw_p30, List.forall_mem_cons.mpr ⟨lw_p31, fun _ h => absurd h List.not_mem_nil⟩⟩⟩⟩⟩⟩⟩⟩⟩⟩⟩⟩⟩⟩⟩⟩
theorem lw_p32 : lw_okq (⟨"SiloPadsModel", "padsOn", "()I"⟩, 12) := ⟨⟨by decide +kernel, by decide +kernel⟩, List.mem_of_getElem? (i := 672) (by decide +kernel), List.mem_of_getElem? (i := 807) (by decide +kernel), List.mem_of_getElem? (i := 808) (by decide +kernel)⟩
theorem lw_p33 : lw_okq (⟨"SiloPadsModel", "shakes", "(I)I"⟩, 12) := ⟨⟨by decide +kernel, by decide +kernel⟩, List.mem_of_getElem? (i := 672) (by decide +kernel), List.mem_of_getElem? (i := 815) (by decide +kernel), List.mem_of_getElem? (i := 816) (by decide +kernel)⟩
theorem lw_p34 : lw_okq (⟨"SiloPadsModel", "isHeavy", "(I)Z"⟩, 12) := ⟨⟨by decide +kernel, by decide +kernel⟩, List.mem_of_getElem? (i := 672) (by decide +kernel), List.mem_of_getElem? (i := 819) (by decide +kernel), List.mem_of_getElem? (i := 820) (by decide +kernel)⟩
theorem lw_p35 : lw_okq (⟨"SiloPadsModel", "passes", "(I)I"⟩, 12) := ⟨⟨by decide +kernel, by decide +kernel⟩, List.mem_of_getElem? (i := 672) (by decide +kernel), List.mem_of_getElem? (i := 827) (by decide +kernel), List.mem_of_getElem? (i := 828) (by decide +kernel)⟩
theorem lw_p36 : lw_okq (⟨"SiloPadsModel", "passesDay", "()I"⟩, 12) := ⟨⟨by decide +kernel, by decide +kernel⟩, List.mem_of_getElem? (i := 672) (by decide +kernel), List.mem_of_getElem? (i := 831) (by decide +kernel), List.mem_of_getElem? (i := 832) (by decide +kernel)⟩
theorem lw_p37 : lw_okq (⟨"SiloPadsModel", "forms", "(I)Z"⟩, 12) := ⟨⟨by decide +kernel, by decide +kernel⟩, List.mem_of_getElem? (i := 672) (by decide +kernel), List.mem_of_getElem? (i := 835) (by decide +kernel), List.mem_of_getElem? (i := 836) (by decide +kernel)⟩
theorem lw_p38 : lw_okq (⟨"SiloPadsModel", "readsAll", "()V"⟩, 12) := ⟨⟨by decide +kernel, by decide +kernel⟩, List.mem_of_getElem? (i := 672) (by decide +kernel), List.mem_of_getElem? (i := 861) (by decide +kernel), List.mem_of_getElem? (i := 862) (by decide +kernel)⟩
theorem lw_p39 : lw_okq (⟨"SiloPadsModel", "readsPart", "()V"⟩, 12) := ⟨⟨by decide +kernel, by decide +kernel⟩, List.mem_of_getElem? (i := 672) (by decide +kernel), List.mem_of_getElem? (i := 865) (by decide +kernel), List.mem_of_getElem? (i := 866) (by decide +kernel)⟩
theorem lw_p40 : lw_okq (⟨"SiloPadsModel", "sign", "()I"⟩, 12) := ⟨⟨by decide +kernel, by decide +kernel⟩, List.mem_of_getElem? (i := 672) (by decide +kernel), List.mem_of_getElem? (i := 869) (by decide +kernel), List.mem_of_getElem? (i := 870) (by decide +kernel)⟩
theorem lw_p41 : lw_okq (⟨"SiloPadsModel", "takes", "(II)I"⟩, 12) := ⟨⟨by decide +kernel, by decide +kernel⟩, List.mem_of_getElem? (i := 672) (by decide +kernel), List.mem_of_getElem? (i := 873) (by decide +kernel), List.mem_of_getElem? (i := 874) (by decide +kernel)⟩
theorem lw_p42 : lw_okq (⟨"SiloPadsModel", "number", "(I)I"⟩, 12) := ⟨⟨by decide +kernel, by decide +kernel⟩, List.mem_of_getElem? (i := 672) (by decide +kernel), List.mem_of_getElem? (i := 877) (by decide +kernel), List.mem_of_getElem? (i := 878) (by decide +kernel)⟩
theorem lw_p43 : lw_okq (⟨"SiloPadsModel", "plays", "(I)I"⟩, 12) := ⟨⟨by decide +kernel, by decide +kernel⟩, List.mem_of_getElem? (i := 672) (by decide +kernel), List.mem_of_getElem? (i := 885) (by decide +kernel), List.mem_of_getElem? (i := 886) (by decide +kernel)⟩
theorem lw_p44 : lw_okq (⟨"SiloPadsModel", "tellsSilo", "(II)I"⟩, 12) := ⟨⟨by decide +kernel, by decide +kernel⟩, List.mem_of_getElem? (i := 672) (by decide +kernel), List.mem_of_getElem? (i := 897) (by decide +kernel), List.mem_of_getElem? (i := 898) (by decide +kernel)⟩
theorem lw_p45 : lw_okq (⟨"SiloPadsModel", "tellsLayer", "(III)I"⟩, 12) := ⟨⟨by decide +kernel, by decide +kernel⟩, List.mem_of_getElem? (i := 672) (by decide +kernel), List.mem_of_getElem? (i := 905) (by decide +kernel), List.mem_of_getElem? (i := 906) (by decide +kernel)⟩
theorem lw_p46 : lw_okq (⟨"SiloPadsModel", "tellsCount", "(I)I"⟩, 12) := ⟨⟨by decide +kernel, by decide +kernel⟩, List.mem_of_getElem? (i := 672) (by decide +kernel), List.mem_of_getElem? (i := 917) (by decide +kernel), List.mem_of_getElem? (i := 918) (by decide +kernel)⟩
theorem lw_p47 : lw_okq (⟨"SiloPadsModel", "inSilos", "()I"⟩, 12) := ⟨⟨by decide +kernel, by decide +kernel⟩, List.mem_of_getElem? (i := 672) (by decide +kernel), List.mem_of_getElem? (i := 921) (by decide +kernel), List.mem_of_getElem? (i := 922) (by decide +kernel)⟩
def lw_privs_3 : List (MethodName × Nat) := [(⟨"SiloPadsModel", "padsOn", "()I"⟩, 12), (⟨"SiloPadsModel", "shakes", "(I)I"⟩, 12), (⟨"SiloPadsModel", "isHeavy", "(I)Z"⟩, 12), (⟨"SiloPadsModel", "passes", "(I)I"⟩, 12), (⟨"SiloPadsModel", "passesDay", "()I"⟩, 12), (⟨"SiloPadsModel", "forms", "(I)Z"⟩, 12), (⟨"SiloPadsModel", "readsAll", "()V"⟩, 12), (⟨"SiloPadsModel", "readsPart", "()V"⟩, 12), (⟨"SiloPadsModel", "sign", "()I"⟩, 12), (⟨"SiloPadsModel", "takes", "(II)I"⟩, 12), (⟨"SiloPadsModel", "number", "(I)I"⟩, 12), (⟨"SiloPadsModel", "plays", "(I)I"⟩, 12), (⟨"SiloPadsModel", "tellsSilo", "(II)I"⟩, 12), (⟨"SiloPadsModel", "tellsLayer", "(III)I"⟩, 12), (⟨"SiloPadsModel", "tellsCount", "(I)I"⟩, 12), (⟨"SiloPadsModel", "inSilos", "()I"⟩, 12)]
theorem lw_r3 : ∀ q ∈ lw_privs_3, lw_okq q := List.forall_mem_cons.mpr ⟨lw_p32, List.forall_mem_cons.mpr ⟨lw_p33, List.forall_mem_cons.mpr ⟨lw_p34, List.forall_mem_cons.mpr ⟨lw_p35, List.forall_mem_cons.mpr ⟨lw_p36, List.forall_mem_cons.mpr ⟨lw_p37, List.forall_mem_cons.mpr ⟨lw_p38, List.forall_mem_cons.mpr ⟨lw_p39, List.forall_mem_cons.mpr ⟨lw_p40, List.forall_mem_cons.mpr ⟨lw_p41, List.forall_mem_cons.mpr ⟨lw_p42, List.forall_mem_cons.mpr ⟨lw_p43, List.forall_mem_cons.mpr ⟨lw_p44, List.forall_mem_cons.mpr ⟨lw_p45, List.forall_mem_cons.mpr ⟨lw_p46, List.forall_mem_cons.mpr ⟨lw_p47, fun _ h => absurd h List.not_mem_nil⟩⟩⟩⟩⟩⟩⟩⟩⟩⟩⟩⟩⟩⟩⟩⟩
theorem lw_p48 : lw_okq (⟨"SiloPadsModel", "inShips", "()I"⟩, 12) := ⟨⟨by decide +kernel, by decide +kernel⟩, List.mem_of_getElem? (i := 672) (by decide +kernel), List.mem_of_getElem? (i := 925) (by decide +kernel), List.mem_of_getElem? (i := 926) (by decide +kernel)⟩
theorem lw_p49 : lw_okq (⟨"SiloPadsModel", "arches", "()I"⟩, 12) := ⟨⟨by decide +kernel, by decide +kernel⟩, List.mem_of_getElem? (i := 672) (by decide +kernel), List.mem_of_getElem? (i := 929) (by decide +kernel), List.mem_of_getElem? (i := 930) (by decide +kernel)⟩
theorem lw_p50 : lw_okq (⟨"SiloPadsModel", "reason", "(II)I"⟩, 12) := ⟨⟨by decide +kernel, by decide +kernel⟩, List.mem_of_getElem? (i := 672) (by decide +kernel), List.mem_of_getElem? (i := 937) (by decide +kernel), List.mem_of_getElem? (i := 938) (by decide +kernel)⟩
theorem lw_p51 : lw_okq (⟨"SiloPadsModel", "wouldFlow", "(IIII)I"⟩, 12) := ⟨⟨by decide +kernel, by decide +kernel⟩, List.mem_of_getElem? (i := 672) (by decide +kernel), List.mem_of_getElem? (i := 945) (by decide +kernel), List.mem_of_getElem? (i := 946) (by decide +kernel)⟩
theorem lw_p52 : lw_okq (⟨"SiloPadsModel", "putAside", "()V"⟩, 12) := ⟨⟨by decide +kernel, by decide +kernel⟩, List.mem_of_getElem? (i := 672) (by decide +kernel), List.mem_of_getElem? (i := 949) (by decide +kernel), List.mem_of_getElem? (i := 950) (by decide +kernel)⟩
theorem lw_p53 : lw_okq (⟨"SiloPadsModel", "takeBack", "()V"⟩, 12) := ⟨⟨by decide +kernel, by decide +kernel⟩, List.mem_of_getElem? (i := 672) (by decide +kernel), List.mem_of_getElem? (i := 953) (by decide +kernel), List.mem_of_getElem? (i := 954) (by decide +kernel)⟩
theorem lw_p54 : lw_okq (⟨"SiloPadsModel", "mostUrgent", "()I"⟩, 12) := ⟨⟨by decide +kernel, by decide +kernel⟩, List.mem_of_getElem? (i := 672) (by decide +kernel), List.mem_of_getElem? (i := 961) (by decide +kernel), List.mem_of_getElem? (i := 962) (by decide +kernel)⟩
theorem lw_p55 : lw_okq (⟨"SiloPadsModel", "isMoreUrgent", "(II)Z"⟩, 12) := ⟨⟨by decide +kernel, by decide +kernel⟩, List.mem_of_getElem? (i := 672) (by decide +kernel), List.mem_of_getElem? (i := 965) (by decide +kernel), List.mem_of_getElem? (i := 966) (by decide +kernel)⟩
theorem lw_p56 : lw_okq (⟨"SiloPadsModel", "archAhead", "()I"⟩, 12) := ⟨⟨by decide +kernel, by decide +kernel⟩, List.mem_of_getElem? (i := 672) (by decide +kernel), List.mem_of_getElem? (i := 973) (by decide +kernel), List.mem_of_getElem? (i := 974) (by decide +kernel)⟩
theorem lw_p57 : lw_okq (⟨"SiloPadsModel", "needed", "(I)I"⟩, 12) := ⟨⟨by decide +kernel, by decide +kernel⟩, List.mem_of_getElem? (i := 672) (by decide +kernel), List.mem_of_getElem? (i := 981) (by decide +kernel), List.mem_of_getElem? (i := 982) (by decide +kernel)⟩
theorem lw_p58 : lw_okq (⟨"SiloPadsModel", "soft", "()D"⟩, 12) := ⟨⟨by decide +kernel, by decide +kernel⟩, List.mem_of_getElem? (i := 672) (by decide +kernel), List.mem_of_getElem? (i := 989) (by decide +kernel), List.mem_of_getElem? (i := 990) (by decide +kernel)⟩
theorem lw_p59 : lw_okq (⟨"SiloPadsModel", "hashes", "(J)V"⟩, 12) := ⟨⟨by decide +kernel, by decide +kernel⟩, List.mem_of_getElem? (i := 672) (by decide +kernel), List.mem_of_getElem? (i := 998) (by decide +kernel), List.mem_of_getElem? (i := 999) (by decide +kernel)⟩
theorem lw_p60 : lw_okq (⟨"SiloPadsModel", "hashesSilo", "(I)V"⟩, 12) := ⟨⟨by decide +kernel, by decide +kernel⟩, List.mem_of_getElem? (i := 672) (by decide +kernel), List.mem_of_getElem? (i := 1003) (by decide +kernel), List.mem_of_getElem? (i := 1004) (by decide +kernel)⟩
def lw_privs_4 : List (MethodName × Nat) := [(⟨"SiloPadsModel", "inShips", "()I"⟩, 12), (⟨"SiloPadsModel", "arches", "()I"⟩, 12), (⟨"SiloPadsModel", "reason", "(II)I"⟩, 12), (⟨"SiloPadsModel", "wouldFlow", "(IIII)I"⟩, 12), (⟨"SiloPadsModel", "putAside", "()V"⟩, 12), (⟨"SiloPadsModel", "takeBack", "()V"⟩, 12), (⟨"SiloPadsModel", "mostUrgent", "()I"⟩, 12), (⟨"SiloPadsModel", "isMoreUrgent", "(II)Z"⟩, 12), (⟨"SiloPadsModel", "archAhead", "()I"⟩, 12), (⟨"SiloPadsModel", "needed", "(I)I"⟩, 12), (⟨"SiloPadsModel", "soft", "()D"⟩, 12), (⟨"SiloPadsModel", "hashes", "(J)V"⟩, 12), (⟨"SiloPadsModel", "hashesSilo", "(I)V"⟩, 12)]
theorem lw_r4 : ∀ q ∈ lw_privs_4, lw_okq q := List.forall_mem_cons.mpr ⟨lw_p48, List.forall_mem_cons.mpr ⟨lw_p49, List.forall_mem_cons.mpr ⟨lw_p50, List.forall_mem_cons.mpr ⟨lw_p51, List.forall_mem_cons.mpr ⟨lw_p52, List.forall_mem_cons.mpr ⟨lw_p53, List.forall_mem_cons.mpr ⟨lw_p54, List.forall_mem_cons.mpr ⟨lw_p55, List.forall_mem_cons.mpr ⟨lw_p56, List.forall_mem_cons.mpr ⟨lw_p57, List.forall_mem_cons.mpr ⟨lw_p58, List.forall_mem_cons.mpr ⟨lw_p59, List.forall_mem_cons.mpr ⟨lw_p60, fun _ h => absurd h List.not_mem_nil⟩⟩⟩⟩⟩⟩⟩⟩⟩⟩⟩⟩⟩
def lw_privs : List (MethodName × Nat) := lw_privs_1 ++ (lw_privs_2 ++ (lw_privs_3 ++ (lw_privs_4)))
def lw_tbl : List Cond := k2_sels lw_privs ++ tables_1
theorem lw_privs_ok : ∀ q ∈ lw_privs, lw_okq q := by
  show ∀ q ∈ lw_privs_1 ++ (lw_privs_2 ++ (lw_privs_3 ++ (lw_privs_4))), lw_okq q
  exact List.forall_mem_append.mpr ⟨lw_r1, List.forall_mem_append.mpr ⟨lw_r2, List.forall_mem_append.mpr ⟨lw_r3, lw_r4⟩⟩⟩
/-- the streams that the claim lets the run draw from -/
abbrev lw_cs : List Choice := [Jvm.Choice.named "NaN.bits"]
theorem lw_bits : nanBits ∈ lw_cs := by first | decide | exact List.mem_cons_self | simp [lw_cs, nanBits]
-- ===== end of PART A; then your names; then what follows =====
end
section
/-! ===== BEGIN words of one list among another's, by their places ===== -/
theorem goodIn_r {big : List Cond} (ws : List Cond) (ps : List Nat) (hp : ws = ps.filterMap (fun i => big[i]?)) (h : ws.all goodWord = true) : GoodIn big ws := by
  intro w hw
  have h1 := List.all_eq_true.mp h w hw
  rw [hp] at hw
  obtain ⟨i, -, hi⟩ := List.mem_filterMap.mp hw
  have hm : w ∈ big := by first | exact List.mem_of_getElem? hi | exact List.getElem?_mem hi
  exact ⟨hm, good_of_word h1⟩
theorem goodIn_app {big a b : List Cond} (ha : GoodIn big a) (hb : GoodIn big b) : GoodIn big (a ++ b) := fun w h => (List.mem_append.mp h).elim (ha w) (hb w)
theorem goodIn_ca {big a b : List Cond} {c : Cond} (ha : GoodIn big (c :: a)) (hb : GoodIn big b) : GoodIn big (c :: (a ++ b)) := fun w h => (List.mem_cons.mp h).elim (fun e => ha w (List.mem_cons.mpr (Or.inl e))) (fun h => (List.mem_append.mp h).elim (fun h => ha w (List.mem_cons.mpr (Or.inr h))) (hb w))
theorem goodIn_sub {big ws : List Cond} (hm : ∀ w ∈ ws, w ∈ big) (h : ws.all goodWord = true) : GoodIn big ws := fun w hw => ⟨hm w hw, good_of_word (List.all_eq_true.mp h w hw)⟩
/-! ===== END ===== -/

/-! ===== BEGIN exceptions that leave a method, and their catching by the caller (launches without stack traces) ===== -/
section VXA
/-! The laws vx_back, vx_callV, vx_callS, vx_callSW, vx_throw0, vx_throwS follow proofs of the library, with one case more: JvmDerived/Free/Laws.lean (Back.of_free), Shelf42/LK1.lean (callV, callS), Shelf/KitTraced.lean (throwNew0V, throwNewS). -/
/-- where a method has thrown q: the class by its name, the cell, what was written, the world -/
def vx_T (XC : String → State → State → Prop) (st : State) (q : Addr) (t : State) (mc ms : Nat) (free : Addr → Prop) : Prop :=
  ∃ (E : String) (ce : Cell) (L : List Loc), XC E st t ∧ t.heap[q]? = some ce ∧ ce.vm = .none ∧ st.vm.findClass E = some ce.cls ∧ st.WarmedH t.vm ∧ st.sameButNew ({ t with vm := st.vm } : State) L mc ms ∧ ∀ z ∈ L, free z.base
def vx_Q (Qc : Array Value → State → Outcome → State → Prop) (XC : String → State → State → Prop) (mc ms : Nat) (free : Addr → Prop) : Array Value → State → Outcome → State → Prop := fun a st o t =>
  (Qc a st o t ∧ ∃ L, FrameEnd st o t L mc ms ∧ ∀ q ∈ L, free q.base) ∨ ∃ q, o = .threw q ∧ vx_T XC st q t mc ms free
/-- a callee that returns or throws -/
def vx_Met (l : Launch) (y : MethodName) (ws : List Cond) (rm : Room) (Pc : Array Value → State → Prop) (Qc : Array Value → State → Outcome → State → Prop) (XC : String → State → State → Prop) (mc ms : Nat) (free : Addr → Prop) : Prop :=
  MetFree l y (headSpec ws rm) Pc (fun _ _ _ _ _ => True) (vx_Q Qc XC mc ms free)
def vx_Post (XC : String → State → State → Prop) (mc ms : Nat) (free : Addr → Prop) : Pt → Array Value → Addr → Pt → Prop := fun A a q B =>
  ∃ (g : JFrame) (mk : MethodId) (t : State) (L : List Loc) (E : String) (ce : Cell), B.U.heap = t.heap ∧ B.U.vm = t.vm ∧ XC E (A.U.calling g mk a) t ∧ t.heap[q]? = some ce ∧ ce.vm = .none ∧ A.U.vm.findClass E = some ce.cls ∧ B.locs = A.locs ++ L ∧ (∀ z ∈ L, free z.base) ∧ B.cells = A.cells + mc ∧ B.slots = A.slots + ms
def vx_Back (l : Launch) (R : Room) (p : Program) (e : Env) (below : List Frame) (s : State) (sargs : Array Value) (y : MethodName) (len W9 : Nat)
    (Pre : Pt → Array Value → Prop) (Post : Pt → Array Value → Option Value → Pt → Prop) (PostX : Pt → Array Value → Addr → Pt → Prop) : Prop :=
  ∀ (m : MethodId) (meth : Method) (c : Code) (A : Pt) (g : JFrame) (ig : Instr) (mk : MethodId) (a : Array Value),
    Stand p l e R s m sargs below meth c A.U A.locs A.cells A.slots → g.method = m → g.locals.size = c.maxLocals → decode c.code g.pc = .ok (ig, len) →
    2 * g.monitorRoom + (g.stack.map fun v => v.category).sum ≤ W9 → A.U.methodNamed? y = some mk → Pre A a →
    (∃ (v : Option Value) (B : Pt), Stand p l e R s m sargs below meth c B.U B.locs B.cells B.slots ∧ Post A a v B ∧
      Steps p.tables e below (doInvoke e (A.U.setTop g) [] mk a).1 (B.U.setTop { g with pc := g.pc + len, stack := v.toList ++ g.stack })) ∨
    (∃ (q : Addr) (B : Pt), Stand p l e R s m sargs below meth c B.U B.locs B.cells B.slots ∧ PostX A a q B ∧
      Steps p.tables e below (doInvoke e (A.U.setTop g) [] mk a).1 ((B.U.setTop g).pushFrame (.throwing q)))
section Payer
variable {l : Launch} {R : Room} {p : Program} {e : Env} {below : List Frame} {s : State} {sargs : Array Value} {y : MethodName} {len W9 : Nat}
theorem vx_back {ws : List Cond} {rm : Room} {Pc : Array Value → State → Prop} {Qc : Array Value → State → Outcome → State → Prop} {XC : String → State → State → Prop} {mc ms : Nat} {free : Addr → Prop} {bytes : ByteArray} {maxL : Nat} {ret : Option FieldType}
    (hM : vx_Met l y ws rm Pc Qc XC mc ms free) (hblind : FrameBlind Pc) (hrc : rm.cells = mc) (hrs : rm.slots = ms)
    (hframes : rm.frames + 1 ≤ R.frames) (hlocals : W9 + (maxL + 11) + rm.locals ≤ R.locals)
    (hws : ∀ w ∈ ws, ∀ a' U, s.WarmedH U.vm → w.before a' U = true) (hcode : Cond.code y bytes maxL ret ∈ ws) (hinit : ∀ a' U, s.WarmedH U.vm → (Cond.initialized y.cls).before a' U = true) :
    vx_Back l R p e below s sargs y len W9 (PreOf R mc ms Pc) (PostOf Qc mc ms free) (vx_Post XC mc ms free) := by
  intro m meth c A g ig mk a X hg hsize hdg hW hn hp
  have h1 : (headSpec ws rm).pre.before a A.U = true := atoms_intro fun w hw => hws w hw _ _ X.warmed
  have h2 : (Cond.code y bytes maxL ret).before a A.U = true := hws _ hcode _ _ X.warmed
  have h3 : (Cond.initialized y.cls).before a A.U = true := hinit _ _ X.warmed
  have h4 : A.cells + (headSpec ws rm).room.cells ≤ R.cells := by rw [show (headSpec ws rm).room.cells = mc from hrc]; exact hp.1
  have h5 : A.slots + (headSpec ws rm).room.slots ≤ R.slots := by rw [show (headSpec ws rm).room.slots = ms from hrs]; exact hp.2.1
  have hPc : Pc a (A.U.calling g mk a) := hblind _ _ _ _ hp.2.2
  obtain ⟨U, Ls, c0, s0⟩ := A
  dsimp only [Pt.U, Pt.locs, Pt.cells, Pt.slots] at h1 h2 h3 h4 h5 X hn hPc ⊢
  obtain ⟨methY, cY, hmY, hcY, -, hlY, -, -, -, -⟩ := Cond.code_spec hn h2
  obtain ⟨kY, hkY, -⟩ := className_of_methodNamed hn
  have hinitY : kY.init = .initialized := Cond.initialized_spec (findClass_of_methodNamed hn) hkY h3
  have h : At U g.method c below := by rw [hg]; exact X.here
  have hlocals9 : W9 + (maxL + 11) + (headSpec ws rm).room.locals ≤ R.locals := hlocals
  have happ : (headSpec ws rm).appliesLoose y e.platform (U.calling g mk a) = true :=
    Spec.appliesLoose_calling (g := g) h hdg hn hkY hinitY
      (X.room_calling (g := g) (R' := (headSpec ws rm).room) hsize hmY hcY hframes (by rw [hlY]; omega) h4 h5) h1
  obtain ⟨mid, hmid⟩ := h.above
  have hfr : (U.setTop g).frames = (.java g :: mid) ++ below := by rw [State.frames_setTop' g h.top, hmid]; rfl
  obtain ⟨o, s₂, hsteps, -, hend, hq⟩ := Steps.callFree hM p X.admits X.cas X.clock (acts := []) hfr happ hPc trivial
  have hq' : vx_Q Qc XC mc ms free a (U.calling g mk a) o s₂ := hq
  rw [State.frames_setTop' g h.top] at hend
  obtain ⟨g₀, hg0⟩ := Option.isSome_iff_exists.mp h.top
  obtain ⟨r, hr⟩ := State.topJava?_eq_some.mp hg0
  have hr' : (({ U with heap := s₂.heap, slotsUsed := s₂.slotsUsed } : State).setVm s₂.vm).frames = .java g₀ :: r := hr
  rcases hq' with ⟨hqc, L, hfe, hL⟩ | ⟨q, rfl, E, ce, L, hx, hce, hcv, hcl, hW₂, hsm, hL⟩
  · obtain ⟨⟨v, rfl⟩, hW₂, e2, q2, q3, q4, q5, q6⟩ := id hfe
    have e3 : s₂ = ({ (U.calling g mk a).setFrames s₂.frames with heap := s₂.heap, slotsUsed := s₂.slotsUsed } : State).setVm s₂.vm := by
      have : s₂ = ({ s₂ with vm := (U.calling g mk a).vm } : State).setVm s₂.vm := rfl
      rw [e2] at this
      exact this
    obtain ⟨c₂, i₂, len₂, hc₂, hd₂, hf₂⟩ := hend
    have hW' : U.WarmedH s₂.vm := hW₂
    have hcc : c₂ = c := by
      have h1 : s₂.code? g.method = U.code? g.method := by
        rw [State.code?_eq, State.code?_eq, hW'.alike.method?]
      exact Option.some.inj (hc₂.symm.trans (h1.trans h.code))
    subst hcc
    have hlen : len₂ = len := by rw [hdg] at hd₂; cases hd₂; rfl
    subst hlen
    have hs₂ : s₂ = (({ U with heap := s₂.heap, slotsUsed := s₂.slotsUsed } : State).setVm s₂.vm).setTop { g with pc := g.pc + len₂, stack := v.toList ++ g.stack } := by
      refine e3.trans ?_
      rw [hf₂, State.calling_eq h.top, State.setFrames_setFrames, State.setTop_of_frames _ hr', hr]
      rfl
    have hsame : U.sameButNew ({ U with heap := s₂.heap, slotsUsed := s₂.slotsUsed } : State) L mc ms := by
      refine ⟨?_, q2, q3, q4, q5, q6⟩
      obtain ⟨t, ht, -⟩ := State.frames_cons hr
      show ({ U with heap := s₂.heap, slotsUsed := s₂.slotsUsed } : State) = { U.setFrames U.frames with heap := s₂.heap, slotsUsed := s₂.slotsUsed }
      rw [State.setFrames_self ht]
    subst hg
    refine Or.inl ⟨v, ⟨(({ U with heap := s₂.heap, slotsUsed := s₂.slotsUsed } : State).setVm s₂.vm), Ls ++ L, c0 + mc, s0 + ms⟩,
      ⟨X.admits, X.cas, X.clock, X.frames, X.room, X.hears, X.method, X.code, (X.here.setHeapUsed s₂.heap s₂.slotsUsed).setVm hW'.alike, X.tail, State.WarmedH.trans X.warmed hW', X.limits, X.bytes, X.same.trans (hsame.setVm s.vm)⟩,
      ⟨g, mk, s₂, L, rfl, rfl, hqc, rfl, hL, rfl, rfl⟩, ?_⟩
    show Steps p.tables e below _ ((({ U with heap := s₂.heap, slotsUsed := s₂.slotsUsed } : State).setVm s₂.vm).setTop { g with pc := g.pc + len₂, stack := v.toList ++ g.stack })
    rw [← hs₂]
    exact hsteps
  · obtain ⟨e2, q2, q3, q4, q5, q6⟩ := id hsm
    have e3 : s₂ = ({ (U.calling g mk a).setFrames s₂.frames with heap := s₂.heap, slotsUsed := s₂.slotsUsed } : State).setVm s₂.vm := by
      have : s₂ = ({ s₂ with vm := (U.calling g mk a).vm } : State).setVm s₂.vm := rfl
      rw [e2] at this
      exact this
    have hf₂ : s₂.frames = .throwing q :: .java g :: U.frames.tail := hend
    have hW' : U.WarmedH s₂.vm := hW₂
    have hs₂ : s₂ = ((({ U with heap := s₂.heap, slotsUsed := s₂.slotsUsed } : State).setVm s₂.vm).setTop g).pushFrame (.throwing q) := by
      refine e3.trans ?_
      rw [hf₂, State.calling_eq h.top, State.setFrames_setFrames, State.pushFrame, State.frames_setTop _ hr', State.setTop_of_frames _ hr', State.setFrames_setFrames, hr]
      rfl
    have hsame : U.sameButNew ({ U with heap := s₂.heap, slotsUsed := s₂.slotsUsed } : State) L mc ms := by
      refine ⟨?_, q2, q3, q4, q5, q6⟩
      obtain ⟨t, ht, -⟩ := State.frames_cons hr
      show ({ U with heap := s₂.heap, slotsUsed := s₂.slotsUsed } : State) = { U.setFrames U.frames with heap := s₂.heap, slotsUsed := s₂.slotsUsed }
      rw [State.setFrames_self ht]
    subst hg
    refine Or.inr ⟨q, ⟨(({ U with heap := s₂.heap, slotsUsed := s₂.slotsUsed } : State).setVm s₂.vm), Ls ++ L, c0 + mc, s0 + ms⟩,
      ⟨X.admits, X.cas, X.clock, X.frames, X.room, X.hears, X.method, X.code, (X.here.setHeapUsed s₂.heap s₂.slotsUsed).setVm hW'.alike, X.tail, State.WarmedH.trans X.warmed hW', X.limits, X.bytes, X.same.trans (hsame.setVm s.vm)⟩,
      ⟨g, mk, s₂, L, E, ce, rfl, rfl, hx, hce, hcv, hcl, rfl, hL, rfl, rfl⟩, ?_⟩
    show Steps p.tables e below _ (((({ U with heap := s₂.heap, slotsUsed := s₂.slotsUsed } : State).setVm s₂.vm).setTop g).pushFrame (.throwing q))
    rw [← hs₂]
    exact hsteps
end Payer
section Calls
variable {p : Program} {l : Launch} {e : Env} {R : Room} {s : State} {m : MethodId} {args : Array Value} {below : List Frame} {meth : Method} {c : Code} {T : State} {locs : List Loc} {cells slots : Nat}
theorem vx_callV (X : Stand p l e R s m args below meth c T locs cells slots) (hexec : p.tables.exec = Jvm.exec) {own C : String} {index : Nat} {y : MethodName} {bytes : ByteArray} {maxL : Nat} {ret : Option FieldType}
    (hown : s.vm.findClass own = some m.cls) (hlink : (Cond.methodLink own index y).before args s = true) (hinst : (Cond.instanceMethod y).before args s = true) (hsel : (Cond.selects C y y).before args s = true)
    (hcode : (Cond.code y bytes maxL ret).before args s = true) (hy : y.cls ≠ "java/lang/invoke/MethodHandle" ∧ y.cls ≠ "java/lang/invoke/VarHandle")
    {W9 : Nat} {Pre : Pt → Array Value → Prop} {Post : Pt → Array Value → Option Value → Pt → Prop} {PostX : Pt → Array Value → Addr → Pt → Prop} (hK : vx_Back l R p e below s args y 3 W9 Pre Post PostX)
    {b : Addr} {cellB : Cell} (hcell : T.heap[b]? = some cellB) (hobj : cellB.vm.isStatics = false) (hcls : s.vm.findClass C = some cellB.cls)
    {g : JFrame} (hg : g.method = m) (hsize : g.locals.size = c.maxLocals) {argsL rest : List Value} (hlen : ∀ sig, parseMethodDescriptor y.desc = some sig → argsL.length = sig.parameters.length)
    (hstack : g.stack = argsL.reverse ++ .ref b :: rest) (hW : 2 * g.monitorRoom + (rest.map fun v => v.category).sum ≤ W9) (hdg : decode c.code g.pc = .ok (.invokevirtual index, 3))
    (hpre : ∀ vm₁, s.WarmedH vm₁ → Pre ⟨T.setVm vm₁, locs, cells, slots⟩ (Value.ref b :: argsL).toArray) :
    (∃ (v : Option Value) (vm₁ : Vm) (B : Pt), s.WarmedH vm₁ ∧ Stand p l e R s m args below meth c B.U B.locs B.cells B.slots ∧ Post ⟨T.setVm vm₁, locs, cells, slots⟩ (Value.ref b :: argsL).toArray v B ∧
      ∀ target, Steps p.tables e below (B.U.setTop { g with pc := g.pc + 3, stack := v.toList ++ rest }) target → Steps p.tables e below (T.setTop g) target) ∨
    (∃ (q : Addr) (vm₁ : Vm) (B : Pt), s.WarmedH vm₁ ∧ Stand p l e R s m args below meth c B.U B.locs B.cells B.slots ∧ PostX ⟨T.setVm vm₁, locs, cells, slots⟩ (Value.ref b :: argsL).toArray q B ∧
      Steps p.tables e below (T.setTop g) ((B.U.setTop { g with stack := rest }).pushFrame (.throwing q))) := by
  obtain ⟨mk, methM, hnamed, hmethM, hstM, habM⟩ := Cond.instanceMethod_spec hinst
  obtain ⟨methM', cM, hmethM', -, -, -, -, -, -, hsigM⟩ := Cond.code_spec hnamed hcode
  cases hmethM.symm.trans hmethM'
  obtain ⟨c2, r2, m2, q1, q2, q3, q4, kP, hkP, hkPi⟩ := Cond.selects_spec hsel
  cases hcls.symm.trans q1
  cases (State.methodFound?_of_named hnamed hy).symm.trans q2
  cases hnamed.symm.trans q3
  have hselP : selectMethod e.platform s.vm cellB.cls mk = .method mk := by rw [Launch.admits_selectMethod X.admits]; exact q4
  obtain ⟨vm₁, X₁, hstep₁⟩ := X.invokevirtual hexec hown hlink hnamed hmethM hstM hkP hkPi hy (a := b) (cell := cellB) hcell
    (fun z h => by rw [h] at hobj; cases hobj) hselP hmethM habM hkP hkPi (g := g) hg (argsL := argsL) (rest := rest) (hlen _ hsigM) hstack hdg
  rcases hK m meth c ⟨T.setVm vm₁, locs, cells, slots⟩ { g with stack := rest } (.invokevirtual index) mk (Value.ref b :: argsL).toArray X₁ hg hsize hdg hW (X₁.named hnamed) (hpre vm₁ X₁.warmed) with ⟨v, B, X', hpost, hsteps⟩ | ⟨q, B, X', hpost, hsteps⟩
  · exact Or.inl ⟨v, vm₁, B, X₁.warmed, X', hpost, fun target h => hstep₁ _ fun acts => by rw [doInvoke_state]; exact hsteps.trans h⟩
  · exact Or.inr ⟨q, vm₁, B, X₁.warmed, X', hpost, hstep₁ _ fun acts => by rw [doInvoke_state]; exact hsteps⟩
theorem vx_callS (X : Stand p l e R s m args below meth c T locs cells slots) (hexec : p.tables.exec = Jvm.exec) {own : String} {index : Nat} {y : MethodName} {bytes : ByteArray} {maxL : Nat} {ret : Option FieldType}
    (hown : s.vm.findClass own = some m.cls) (hlink : (Cond.methodLink own index y).before args s = true) (hstat : (Cond.static y).before args s = true) (hinit : (Cond.initialized y.cls).before args s = true)
    (hcode : (Cond.code y bytes maxL ret).before args s = true) (hy : y.cls ≠ "java/lang/invoke/MethodHandle" ∧ y.cls ≠ "java/lang/invoke/VarHandle")
    {W9 : Nat} {Pre : Pt → Array Value → Prop} {Post : Pt → Array Value → Option Value → Pt → Prop} {PostX : Pt → Array Value → Addr → Pt → Prop} (hK : vx_Back l R p e below s args y 3 W9 Pre Post PostX)
    {g : JFrame} (hg : g.method = m) (hsize : g.locals.size = c.maxLocals) {argsL rest : List Value} (hlen : ∀ sig, parseMethodDescriptor y.desc = some sig → argsL.length = sig.parameters.length)
    (hstack : g.stack = argsL.reverse ++ rest) (hW : 2 * g.monitorRoom + (rest.map fun v => v.category).sum ≤ W9) (hdg : decode c.code g.pc = .ok (.invokestatic index, 3))
    (hpre : ∀ vm₁, s.WarmedH vm₁ → Pre ⟨T.setVm vm₁, locs, cells, slots⟩ argsL.toArray) :
    (∃ (v : Option Value) (vm₁ : Vm) (B : Pt), s.WarmedH vm₁ ∧ Stand p l e R s m args below meth c B.U B.locs B.cells B.slots ∧ Post ⟨T.setVm vm₁, locs, cells, slots⟩ argsL.toArray v B ∧
      ∀ target, Steps p.tables e below (B.U.setTop { g with pc := g.pc + 3, stack := v.toList ++ rest }) target → Steps p.tables e below (T.setTop g) target) ∨
    (∃ (q : Addr) (vm₁ : Vm) (B : Pt), s.WarmedH vm₁ ∧ Stand p l e R s m args below meth c B.U B.locs B.cells B.slots ∧ PostX ⟨T.setVm vm₁, locs, cells, slots⟩ argsL.toArray q B ∧
      Steps p.tables e below (T.setTop g) ((B.U.setTop { g with stack := rest }).pushFrame (.throwing q))) := by
  obtain ⟨mk, hnamed⟩ := Cond.code_named hcode
  obtain ⟨methM, cM, hmethM, -, -, -, -, -, -, hsigM⟩ := Cond.code_spec hnamed hcode
  have hstatic : methM.isStatic = true := Cond.static_spec hnamed hmethM hstat
  obtain ⟨kP, hkP, -⟩ := className_of_methodNamed hnamed
  have hinitP : kP.init = .initialized := Cond.initialized_spec (findClass_of_methodNamed hnamed) hkP hinit
  obtain ⟨vm₁, X₁, hstep₁⟩ := X.invokestatic hexec hown hlink hnamed hmethM hstatic hkP hinitP hy (g := g) hg (argsL := argsL) (rest := rest) (hlen _ hsigM) hstack hdg
  rcases hK m meth c ⟨T.setVm vm₁, locs, cells, slots⟩ { g with stack := rest } (.invokestatic index) mk argsL.toArray X₁ hg hsize hdg hW (X₁.named hnamed) (hpre vm₁ X₁.warmed) with ⟨v, B, X', hpost, hsteps⟩ | ⟨q, B, X', hpost, hsteps⟩
  · exact Or.inl ⟨v, vm₁, B, X₁.warmed, X', hpost, fun target h => hstep₁ _ fun acts => by rw [doInvoke_state]; exact hsteps.trans h⟩
  · exact Or.inr ⟨q, vm₁, B, X₁.warmed, X', hpost, hstep₁ _ fun acts => by rw [doInvoke_state]; exact hsteps⟩
end Calls
theorem vx_cls {s : State} {T : State} {vm₁ : Vm} {E : String} {k : ClassId} (hW : s.WarmedH vm₁) (h : (T.setVm vm₁).vm.findClass E = some k) : s.vm.findClass E = some k := by
  have h1 : vm₁.findClass E = some k := h
  rw [hW.alike.findClass] at h1
  exact h1
/-- the method's frame g, with q thrown over it -/
def vx_W (p : Program) (l : Launch) (e : Env) (R : Room) (s : State) (m : MethodId) (args : Array Value) (below : List Frame) (meth : Method) (c : Code) (H : Heap) (locs : List Loc) (cells slots : Nat) (Q : State → Prop) (g : JFrame) (q : Addr) : Prop :=
  ∀ T : State, T.heap = H → Stand p l e R s m args below meth c T locs cells slots → ∃ t, Steps p.tables e below ((T.setTop g).pushFrame (.throwing q)) t ∧ Q t
def vx_Run (p : Program) (l : Launch) (e : Env) (R : Room) (s : State) (m : MethodId) (args : Array Value) (below : List Frame) (meth : Method) (c : Code) (H : Heap) (locs : List Loc) (cells slots mc ms : Nat) (g : JFrame) (rest : List Value) (Qa : State → Outcome → State → Prop) (XC : String → State → State → Prop) (free : Addr → Prop) : Prop :=
  ∀ T : State, T.heap = H → Stand p l e R s m args below meth c T locs cells slots →
    (∃ (v : Option Value) (st₀ t T' : State) (L : List Loc), st₀.heap = H ∧ Stand p l e R s m args below meth c T' (locs ++ L) (cells + mc) (slots + ms) ∧ (∀ q ∈ L, free q.base) ∧ T'.heap = t.heap ∧ T'.vm = t.vm ∧ Qa st₀ (.returned v) t ∧
      Goes p e below T g T' { g with pc := g.pc + 3, stack := v.toList ++ rest }) ∨
    (∃ (q : Addr) (st₀ t T' : State) (L : List Loc) (E : String) (ce : Cell), st₀.heap = H ∧ Stand p l e R s m args below meth c T' (locs ++ L) (cells + mc) (slots + ms) ∧ (∀ z ∈ L, free z.base) ∧ T'.heap = t.heap ∧ T'.vm = t.vm ∧ XC E st₀ t ∧ t.heap[q]? = some ce ∧ ce.vm = .none ∧ s.vm.findClass E = some ce.cls ∧
      Steps p.tables e below (T.setTop g) ((T'.setTop { g with stack := rest }).pushFrame (.throwing q)))
def vx_X {S : Type} (px : S → Prop) (B : String → S → State → Prop) (A : Nat → Prop) : String → State → State → Prop := fun E st t => ∃ u : S, px u ∧ B E u t ∧ va_F A st t
section Runs
variable {p : Program} {l : Launch} {e : Env} {R : Room} {s : State} {m : MethodId} {args : Array Value} {below : List Frame} {meth : Method} {c : Code} {H : Heap} {locs : List Loc} {cells slots : Nat}
variable {y : MethodName} {bytes cc : ByteArray} {maxL nL mc ms n index : Nat} {ret : Option FieldType} {ws : List Cond} {rm : Room} {Pc : Array Value → State → Prop} {Qc : Array Value → State → Outcome → State → Prop} {XC : String → State → State → Prop} {free : Addr → Prop} {Ts : List Cond} {own C : String} {b : Addr} {As rest : List Value} {g : JFrame}
theorem vx_callBack (cb : CallB R s args own index y bytes maxL ret ws rm mc ms n) (hM : vx_Met l y ws rm Pc Qc XC mc ms free) (hbl : FrameBlind Pc) : vx_Back l R p e below s args y 3 8 (PreOf R mc ms Pc) (PostOf Qc mc ms free) (vx_Post XC mc ms free) := by
  obtain ⟨hrc, hrs, hfr, hlo, hws, hcw, -, hini, -⟩ := cb
  exact vx_back (bytes := bytes) (maxL := maxL) (ret := ret) hM hbl hrc hrs hfr hlo hws hcw (fun a' U hW => word_at hW (Or.inl (by first | rfl | simp [Cond.onTables, Cond.keeps, Cond.steady])) hini)
theorem vx_runV (S : CallFix p m c cc nL s args Ts own) (hM : vx_Met l y ws rm Pc Qc XC mc ms free) (cw : CallW R s args own C index y bytes maxL ret ws rm mc ms n) (hp : PreV s H C b Pc As)
    (hg : g.method = m) (hn : As.length = n) (hsize : g.locals.size = nL) (hstack : g.stack = As.reverse ++ .ref b :: rest) (hW : 2 * g.monitorRoom + (rest.map fun v => v.category).sum ≤ 8) (hdg : decode cc g.pc = .ok (.invokevirtual index, 3)) (hf : cells + mc ≤ R.cells ∧ slots + ms ≤ R.slots) :
    vx_Run p l e R s m args below meth c H locs cells slots mc ms g rest (Qc (Value.ref b :: As).toArray) XC free := by
  have hK : vx_Back l R p e below s args y 3 8 (PreOf R mc ms Pc) (PostOf Qc mc ms free) (vx_Post XC mc ms free) := vx_callBack cw.1 hM hp.1
  obtain ⟨⟨-, -, -, -, -, -, hcode, -, hy, hlen, hl⟩, hin, hse⟩ := cw
  obtain ⟨hx, hb, hml, ho, -⟩ := S
  obtain ⟨-, ⟨cellB, hcB, hoB, hclB⟩, hPc⟩ := hp
  intro T hT X
  rcases vx_callV X hx (C := C) (bytes := bytes) (maxL := maxL) (ret := ret) ho hl hin hse hcode hy hK (by rw [hT]; exact hcB) hoB hclB hg (hsize.trans hml.symm) (argsL := As) (rest := rest) (fun sig h => hn.trans (hlen sig h)) hstack hW (by rw [hb]; exact hdg)
    (fun vm₁ hW₁ => ⟨hf.1, hf.2, hPc (T.setVm vm₁) hT hW₁⟩) with ⟨v, vm₁, ⟨U', l2, c2, s2⟩, hW₁, X', ⟨g', mk, t, L, e1, e2, hq, h1, hL, h2, h3⟩, st⟩ | ⟨q, vm₁, ⟨U', l2, c2, s2⟩, hW₁, X', ⟨g', mk, t, L, E, ce, e1, e2, hq, hce, hcv, hcl, h1, hL, h2, h3⟩, st⟩
  · dsimp only [Pt.U, Pt.locs, Pt.cells, Pt.slots] at X' e1 e2 h1 h2 h3 st
    subst h1; subst h2; subst h3
    exact Or.inl ⟨v, (T.setVm vm₁).calling g' mk (Value.ref b :: As).toArray, t, U', L, hT, X', hL, e1, e2, hq, st⟩
  · dsimp only [Pt.U, Pt.locs, Pt.cells, Pt.slots] at X' e1 e2 h1 h2 h3 st hcl
    subst h1; subst h2; subst h3
    exact Or.inr ⟨q, (T.setVm vm₁).calling g' mk (Value.ref b :: As).toArray, t, U', L, E, ce, hT, X', hL, e1, e2, hq, hce, hcv, vx_cls hW₁ hcl, st⟩
theorem vx_runS (S : CallFix p m c cc nL s args Ts own) (hM : vx_Met l y ws rm Pc Qc XC mc ms free) (cw : CallB R s args own index y bytes maxL ret ws rm mc ms n ∧ (Cond.static y).before args s = true) (hp : PreS s H Pc As)
    (hg : g.method = m) (hn : As.length = n) (hsize : g.locals.size = nL) (hstack : g.stack = As.reverse ++ rest) (hW : 2 * g.monitorRoom + (rest.map fun v => v.category).sum ≤ 8) (hdg : decode cc g.pc = .ok (.invokestatic index, 3)) (hf : cells + mc ≤ R.cells ∧ slots + ms ≤ R.slots) :
    vx_Run p l e R s m args below meth c H locs cells slots mc ms g rest (Qc As.toArray) XC free := by
  have hK : vx_Back l R p e below s args y 3 8 (PreOf R mc ms Pc) (PostOf Qc mc ms free) (vx_Post XC mc ms free) := vx_callBack cw.1 hM hp.1
  obtain ⟨⟨-, -, -, -, -, -, hcode, hini, hy, hlen, hl⟩, hstt⟩ := cw
  obtain ⟨hx, hb, hml, ho, -⟩ := S
  intro T hT X
  rcases vx_callS X hx (bytes := bytes) (maxL := maxL) (ret := ret) ho hl hstt hini hcode hy hK hg (hsize.trans hml.symm) (argsL := As) (rest := rest) (fun sig h => hn.trans (hlen sig h)) hstack hW (by rw [hb]; exact hdg)
    (fun vm₁ hW₁ => ⟨hf.1, hf.2, hp.2 (T.setVm vm₁) hT hW₁⟩) with ⟨v, vm₁, ⟨U', l2, c2, s2⟩, hW₁, X', ⟨g', mk, t, L, e1, e2, hq, h1, hL, h2, h3⟩, st⟩ | ⟨q, vm₁, ⟨U', l2, c2, s2⟩, hW₁, X', ⟨g', mk, t, L, E, ce, e1, e2, hq, hce, hcv, hcl, h1, hL, h2, h3⟩, st⟩
  · dsimp only [Pt.U, Pt.locs, Pt.cells, Pt.slots] at X' e1 e2 h1 h2 h3 st
    subst h1; subst h2; subst h3
    exact Or.inl ⟨v, (T.setVm vm₁).calling g' mk As.toArray, t, U', L, hT, X', hL, e1, e2, hq, st⟩
  · dsimp only [Pt.U, Pt.locs, Pt.cells, Pt.slots] at X' e1 e2 h1 h2 h3 st hcl
    subst h1; subst h2; subst h3
    exact Or.inr ⟨q, (T.setVm vm₁).calling g' mk As.toArray, t, U', L, E, ce, hT, X', hL, e1, e2, hq, hce, hcv, vx_cls hW₁ hcl, st⟩
end Runs
section Rows
variable {p : Program} {l : Launch} {e : Env} {R : Room} {s : State} {m : MethodId} {args : Array Value} {below : List Frame} {meth : Method} {c : Code} {H : Heap} {locs : List Loc} {cells slots : Nat} {Q : State → Prop}
variable {mc ms : Nat} {free : Addr → Prop} {A0 A1 : Nat → Prop} {H0 : Heap} {a : Array Value} {pc : Nat} {ls : Array Slot} {st0 rest : List Value}
theorem vx_keep {st₀ t T' : State} {L : List Loc} (h0 : st₀.heap = H) (e1 : T'.heap = t.heap) (hS : va_S A0 H0 H locs) (hA : ∀ q, q < H.size → A1 q → A0 q) (hf : ∀ q, free q → A0 q) (hL : ∀ q ∈ L, free q.base) (hF : va_F A1 st₀ t) :
    H.size ≤ T'.heap.size ∧ (∀ q : Nat, q < H.size → ¬ A1 q → T'.heap[q]? = H[q]?) ∧ va_S A0 H0 T'.heap (locs ++ L) := by
  obtain ⟨hz, hk⟩ := hF
  rw [h0] at hz hk
  exact ⟨by rw [e1]; exact hz, fun q h1 h2 => by rw [e1]; exact hk q h1 h2,
    ⟨Nat.le_trans hS.1 (by rw [e1]; exact hz), fun q h1 h2 => by rw [e1, hk q (Nat.lt_of_lt_of_le h1 hS.1) (fun z => h2 (hA q (Nat.lt_of_lt_of_le h1 hS.1) z))]; exact hS.2.1 q h1 h2, fun q hq => by
      rcases List.mem_append.mp hq with h | h
      · exact hS.2.2 q h
      · exact hf _ (hL q h)⟩⟩
theorem vx_calli {S SX : Type} {post : Int32 → S → Prop} {px : SX → Prop} {B : S → State → Prop} {BX : String → SX → State → Prop} {AX : Nat → Prop} (hr : vx_Run p l e R s m args below meth c H locs cells slots mc ms (F0 m pc ls st0) rest (va_Qi post B A1 a) (vx_X px BX AX) free) (hS : va_S A0 H0 H locs) (hA : ∀ q, q < H.size → A1 q → A0 q) (hf : ∀ q, free q → A0 q) (hAX : ∀ q, q < H.size → AX q → A0 q)
    (kx : ∀ (E : String) (ce : Cell) (q9 : Addr) (u : SX) (t : State) (H1 : Heap) (locs1 : List Loc), t.heap = H1 → s.vm.Alike t.vm → px u → BX E u t → H.size ≤ H1.size → (∀ q : Nat, q < H.size → ¬ AX q → H1[q]? = H[q]?) → va_S A0 H0 H1 locs1 → H1[q9]? = some ce → ce.vm = .none → s.vm.findClass E = some ce.cls → vx_W p l e R s m args below meth c H1 locs1 (cells + mc) (slots + ms) Q (F0 m pc ls rest) q9)
    (kk : ∀ (r : Int32) (u : S) (t : State) (H1 : Heap) (locs1 : List Loc), t.heap = H1 → s.vm.Alike t.vm → post r u → B u t → H.size ≤ H1.size → (∀ q : Nat, q < H.size → ¬ A1 q → H1[q]? = H[q]?) → va_S A0 H0 H1 locs1 → W p l e R s m args below meth c H1 locs1 (cells + mc) (slots + ms) Q (F0 m (pc + 3) ls (.int r :: rest))) : W p l e R s m args below meth c H locs cells slots Q (F0 m pc ls st0) := by
  intro T hT X
  rcases hr T hT X with ⟨v, st₀, t, T', L, h0, X', hL, e1, e2, ⟨⟨r, u, hv, hp, hb⟩, hF⟩, st⟩ | ⟨q, st₀, t, T', L, E, ce, h0, X', hL, e1, e2, ⟨u, hp, hb, hF⟩, hce, hcv, hcl, st⟩
  · cases hv
    obtain ⟨k1, k2, k3⟩ := vx_keep h0 e1 hS hA hf hL hF
    obtain ⟨t2, a1, b1⟩ := kk r u t T'.heap (locs ++ L) e1.symm (by rw [← e2]; exact X'.warmed.alike) hp hb k1 k2 k3 T' rfl X'
    exact ⟨t2, st t2 a1, b1⟩
  · obtain ⟨k1, k2, k3⟩ := vx_keep h0 e1 hS hAX hf hL hF
    obtain ⟨t2, a1, b1⟩ := kx E ce q u t T'.heap (locs ++ L) e1.symm (by rw [← e2]; exact X'.warmed.alike) hp hb k1 k2 k3 (by rw [e1]; exact hce) hcv hcl T' rfl X'
    exact ⟨t2, st.trans a1, b1⟩
theorem vx_calll {S SX : Type} {post : Int64 → S → Prop} {px : SX → Prop} {B : S → State → Prop} {BX : String → SX → State → Prop} {AX : Nat → Prop} (hr : vx_Run p l e R s m args below meth c H locs cells slots mc ms (F0 m pc ls st0) rest (va_Ql post B A1 a) (vx_X px BX AX) free) (hS : va_S A0 H0 H locs) (hA : ∀ q, q < H.size → A1 q → A0 q) (hf : ∀ q, free q → A0 q) (hAX : ∀ q, q < H.size → AX q → A0 q)
    (kx : ∀ (E : String) (ce : Cell) (q9 : Addr) (u : SX) (t : State) (H1 : Heap) (locs1 : List Loc), t.heap = H1 → s.vm.Alike t.vm → px u → BX E u t → H.size ≤ H1.size → (∀ q : Nat, q < H.size → ¬ AX q → H1[q]? = H[q]?) → va_S A0 H0 H1 locs1 → H1[q9]? = some ce → ce.vm = .none → s.vm.findClass E = some ce.cls → vx_W p l e R s m args below meth c H1 locs1 (cells + mc) (slots + ms) Q (F0 m pc ls rest) q9)
    (kk : ∀ (r : Int64) (u : S) (t : State) (H1 : Heap) (locs1 : List Loc), t.heap = H1 → s.vm.Alike t.vm → post r u → B u t → H.size ≤ H1.size → (∀ q : Nat, q < H.size → ¬ A1 q → H1[q]? = H[q]?) → va_S A0 H0 H1 locs1 → W p l e R s m args below meth c H1 locs1 (cells + mc) (slots + ms) Q (F0 m (pc + 3) ls (.long r :: rest))) : W p l e R s m args below meth c H locs cells slots Q (F0 m pc ls st0) := by
  intro T hT X
  rcases hr T hT X with ⟨v, st₀, t, T', L, h0, X', hL, e1, e2, ⟨⟨r, u, hv, hp, hb⟩, hF⟩, st⟩ | ⟨q, st₀, t, T', L, E, ce, h0, X', hL, e1, e2, ⟨u, hp, hb, hF⟩, hce, hcv, hcl, st⟩
  · cases hv
    obtain ⟨k1, k2, k3⟩ := vx_keep h0 e1 hS hA hf hL hF
    obtain ⟨t2, a1, b1⟩ := kk r u t T'.heap (locs ++ L) e1.symm (by rw [← e2]; exact X'.warmed.alike) hp hb k1 k2 k3 T' rfl X'
    exact ⟨t2, st t2 a1, b1⟩
  · obtain ⟨k1, k2, k3⟩ := vx_keep h0 e1 hS hAX hf hL hF
    obtain ⟨t2, a1, b1⟩ := kx E ce q u t T'.heap (locs ++ L) e1.symm (by rw [← e2]; exact X'.warmed.alike) hp hb k1 k2 k3 (by rw [e1]; exact hce) hcv hcl T' rfl X'
    exact ⟨t2, st.trans a1, b1⟩
theorem vx_callf {S SX : Type} {post : UInt32 → S → Prop} {px : SX → Prop} {B : S → State → Prop} {BX : String → SX → State → Prop} {AX : Nat → Prop} (hr : vx_Run p l e R s m args below meth c H locs cells slots mc ms (F0 m pc ls st0) rest (va_Qf post B A1 a) (vx_X px BX AX) free) (hS : va_S A0 H0 H locs) (hA : ∀ q, q < H.size → A1 q → A0 q) (hf : ∀ q, free q → A0 q) (hAX : ∀ q, q < H.size → AX q → A0 q)
    (kx : ∀ (E : String) (ce : Cell) (q9 : Addr) (u : SX) (t : State) (H1 : Heap) (locs1 : List Loc), t.heap = H1 → s.vm.Alike t.vm → px u → BX E u t → H.size ≤ H1.size → (∀ q : Nat, q < H.size → ¬ AX q → H1[q]? = H[q]?) → va_S A0 H0 H1 locs1 → H1[q9]? = some ce → ce.vm = .none → s.vm.findClass E = some ce.cls → vx_W p l e R s m args below meth c H1 locs1 (cells + mc) (slots + ms) Q (F0 m pc ls rest) q9)
    (kk : ∀ (r : UInt32) (u : S) (t : State) (H1 : Heap) (locs1 : List Loc), t.heap = H1 → s.vm.Alike t.vm → post r u → B u t → H.size ≤ H1.size → (∀ q : Nat, q < H.size → ¬ A1 q → H1[q]? = H[q]?) → va_S A0 H0 H1 locs1 → W p l e R s m args below meth c H1 locs1 (cells + mc) (slots + ms) Q (F0 m (pc + 3) ls (.float r :: rest))) : W p l e R s m args below meth c H locs cells slots Q (F0 m pc ls st0) := by
  intro T hT X
  rcases hr T hT X with ⟨v, st₀, t, T', L, h0, X', hL, e1, e2, ⟨⟨r, u, hv, hp, hb⟩, hF⟩, st⟩ | ⟨q, st₀, t, T', L, E, ce, h0, X', hL, e1, e2, ⟨u, hp, hb, hF⟩, hce, hcv, hcl, st⟩
  · cases hv
    obtain ⟨k1, k2, k3⟩ := vx_keep h0 e1 hS hA hf hL hF
    obtain ⟨t2, a1, b1⟩ := kk r u t T'.heap (locs ++ L) e1.symm (by rw [← e2]; exact X'.warmed.alike) hp hb k1 k2 k3 T' rfl X'
    exact ⟨t2, st t2 a1, b1⟩
  · obtain ⟨k1, k2, k3⟩ := vx_keep h0 e1 hS hAX hf hL hF
    obtain ⟨t2, a1, b1⟩ := kx E ce q u t T'.heap (locs ++ L) e1.symm (by rw [← e2]; exact X'.warmed.alike) hp hb k1 k2 k3 (by rw [e1]; exact hce) hcv hcl T' rfl X'
    exact ⟨t2, st.trans a1, b1⟩
theorem vx_calld {S SX : Type} {post : UInt64 → S → Prop} {px : SX → Prop} {B : S → State → Prop} {BX : String → SX → State → Prop} {AX : Nat → Prop} (hr : vx_Run p l e R s m args below meth c H locs cells slots mc ms (F0 m pc ls st0) rest (va_Qd post B A1 a) (vx_X px BX AX) free) (hS : va_S A0 H0 H locs) (hA : ∀ q, q < H.size → A1 q → A0 q) (hf : ∀ q, free q → A0 q) (hAX : ∀ q, q < H.size → AX q → A0 q)
    (kx : ∀ (E : String) (ce : Cell) (q9 : Addr) (u : SX) (t : State) (H1 : Heap) (locs1 : List Loc), t.heap = H1 → s.vm.Alike t.vm → px u → BX E u t → H.size ≤ H1.size → (∀ q : Nat, q < H.size → ¬ AX q → H1[q]? = H[q]?) → va_S A0 H0 H1 locs1 → H1[q9]? = some ce → ce.vm = .none → s.vm.findClass E = some ce.cls → vx_W p l e R s m args below meth c H1 locs1 (cells + mc) (slots + ms) Q (F0 m pc ls rest) q9)
    (kk : ∀ (r : UInt64) (u : S) (t : State) (H1 : Heap) (locs1 : List Loc), t.heap = H1 → s.vm.Alike t.vm → post r u → B u t → H.size ≤ H1.size → (∀ q : Nat, q < H.size → ¬ A1 q → H1[q]? = H[q]?) → va_S A0 H0 H1 locs1 → W p l e R s m args below meth c H1 locs1 (cells + mc) (slots + ms) Q (F0 m (pc + 3) ls (.double r :: rest))) : W p l e R s m args below meth c H locs cells slots Q (F0 m pc ls st0) := by
  intro T hT X
  rcases hr T hT X with ⟨v, st₀, t, T', L, h0, X', hL, e1, e2, ⟨⟨r, u, hv, hp, hb⟩, hF⟩, st⟩ | ⟨q, st₀, t, T', L, E, ce, h0, X', hL, e1, e2, ⟨u, hp, hb, hF⟩, hce, hcv, hcl, st⟩
  · cases hv
    obtain ⟨k1, k2, k3⟩ := vx_keep h0 e1 hS hA hf hL hF
    obtain ⟨t2, a1, b1⟩ := kk r u t T'.heap (locs ++ L) e1.symm (by rw [← e2]; exact X'.warmed.alike) hp hb k1 k2 k3 T' rfl X'
    exact ⟨t2, st t2 a1, b1⟩
  · obtain ⟨k1, k2, k3⟩ := vx_keep h0 e1 hS hAX hf hL hF
    obtain ⟨t2, a1, b1⟩ := kx E ce q u t T'.heap (locs ++ L) e1.symm (by rw [← e2]; exact X'.warmed.alike) hp hb k1 k2 k3 (by rw [e1]; exact hce) hcv hcl T' rfl X'
    exact ⟨t2, st.trans a1, b1⟩
theorem vx_callv {S SX : Type} {post : S → Prop} {px : SX → Prop} {B : S → State → Prop} {BX : String → SX → State → Prop} {AX : Nat → Prop} (hr : vx_Run p l e R s m args below meth c H locs cells slots mc ms (F0 m pc ls st0) rest (va_Qv post B A1 a) (vx_X px BX AX) free) (hS : va_S A0 H0 H locs) (hA : ∀ q, q < H.size → A1 q → A0 q) (hf : ∀ q, free q → A0 q) (hAX : ∀ q, q < H.size → AX q → A0 q)
    (kx : ∀ (E : String) (ce : Cell) (q9 : Addr) (u : SX) (t : State) (H1 : Heap) (locs1 : List Loc), t.heap = H1 → s.vm.Alike t.vm → px u → BX E u t → H.size ≤ H1.size → (∀ q : Nat, q < H.size → ¬ AX q → H1[q]? = H[q]?) → va_S A0 H0 H1 locs1 → H1[q9]? = some ce → ce.vm = .none → s.vm.findClass E = some ce.cls → vx_W p l e R s m args below meth c H1 locs1 (cells + mc) (slots + ms) Q (F0 m pc ls rest) q9)
    (kk : ∀ (u : S) (t : State) (H1 : Heap) (locs1 : List Loc), t.heap = H1 → s.vm.Alike t.vm → post u → B u t → H.size ≤ H1.size → (∀ q : Nat, q < H.size → ¬ A1 q → H1[q]? = H[q]?) → va_S A0 H0 H1 locs1 → W p l e R s m args below meth c H1 locs1 (cells + mc) (slots + ms) Q (F0 m (pc + 3) ls (rest))) : W p l e R s m args below meth c H locs cells slots Q (F0 m pc ls st0) := by
  intro T hT X
  rcases hr T hT X with ⟨v, st₀, t, T', L, h0, X', hL, e1, e2, ⟨⟨u, hv, hp, hb⟩, hF⟩, st⟩ | ⟨q, st₀, t, T', L, E, ce, h0, X', hL, e1, e2, ⟨u, hp, hb, hF⟩, hce, hcv, hcl, st⟩
  · cases hv
    obtain ⟨k1, k2, k3⟩ := vx_keep h0 e1 hS hA hf hL hF
    obtain ⟨t2, a1, b1⟩ := kk u t T'.heap (locs ++ L) e1.symm (by rw [← e2]; exact X'.warmed.alike) hp hb k1 k2 k3 T' rfl X'
    exact ⟨t2, st t2 a1, b1⟩
  · obtain ⟨k1, k2, k3⟩ := vx_keep h0 e1 hS hAX hf hL hF
    obtain ⟨t2, a1, b1⟩ := kx E ce q u t T'.heap (locs ++ L) e1.symm (by rw [← e2]; exact X'.warmed.alike) hp hb k1 k2 k3 (by rw [e1]; exact hce) hcv hcl T' rfl X'
    exact ⟨t2, st.trans a1, b1⟩
/-- caught by the row x of this method's table; the rows ahead don't take it -/
theorem vx_catch {own name : String} {E : String} {ce : Cell} {q : Addr} (hown : s.vm.findClass own = some m.cls) (pre : List ExceptionTableEntry) (x : ExceptionTableEntry) (suf : List ExceptionTableEntry) (hsplit : c.exceptionTable.toList = pre ++ x :: suf)
    (hpass : ∀ z ∈ pre, covers z pc = false ∨ (z.catchType ≠ 0 ∧ ∃ nm : String, (Cond.classLink own z.catchType nm).before args s = true ∧ va_Nc E nm s)) (hx : covers x pc = true) (h0 : x.catchType ≠ 0)
    (hlink : (Cond.classLink own x.catchType name).before args s = true) (hcast : (Cond.castable E name).before args s = true) (hcell : H[q]? = some ce) (hv : ce.vm = .none) (hcl : s.vm.findClass E = some ce.cls)
    (kk : W p l e R s m args below meth c H locs cells slots Q (F0 m x.handlerPc ls [.ref q])) : vx_W p l e R s m args below meth c H locs cells slots Q (F0 m pc ls rest) q := by
  intro T hT X
  have hpl : e.platform.magicAccessors = ({} : Platform).magicAccessors := by rw [X.admits.platform]
  obtain ⟨c3, c4, hc3, hc4, hasg⟩ := Cond.castable_spec hcast
  cases Option.some.inj (hc3.symm.trans hcl)
  obtain ⟨c5, hc5, hcl5⟩ := Cond.classLink_spec hown hlink e.platform hpl
  cases Option.some.inj (hc4.symm.trans hc5)
  obtain ⟨vm', X', st⟩ := X.thenCaughtThrough q (g := F0 m pc ls rest) rfl (Steps.refl _) (by rw [hT]; exact hcell) (by rw [hv]; rfl) (by obtain ⟨k9, h9, -⟩ := Vm.findClass_spec hcl; exact ⟨k9, h9⟩) pre x suf hsplit
    (fun z hz => by
      rcases hpass z hz with h | ⟨hz0, nm, hl1, hn1⟩
      · exact Or.inl h
      · obtain ⟨c6, hc6, hcl6⟩ := Cond.classLink_spec hown hl1 e.platform hpl
        obtain ⟨a8, b8, h1, h2, h3⟩ := hn1
        cases Option.some.inj (h1.symm.trans hcl)
        cases Option.some.inj (h2.symm.trans hc6)
        exact Or.inr ⟨hz0, _, hcl6, h3⟩) hx (Or.inr ⟨h0, c4, hcl5, hasg⟩)
  obtain ⟨t, a1, b1⟩ := kk (T.setVm vm') hT X'
  exact ⟨t, st.trans a1, b1⟩
end Rows
section Ends
variable {p : Program} {l : Launch} {e : Env} {R : Room} {s : State} {m : MethodId} {args : Array Value} {below : List Frame} {meth : Method} {c : Code} {H : Heap} {locs : List Loc} {cells slots : Nat} {Q : State → Prop}
variable {mc ms : Nat} {free : Addr → Prop} {A0 A1 : Nat → Prop} {H0 : Heap} {a : Array Value} {ls : Array Slot} {st0 rest : List Value}
variable {Qc : Array Value → State → Outcome → State → Prop} {XC : String → State → State → Prop}
/-- what a body that may throw owes at its end -/
def vx_MQ (below : List Frame) (Qc : Array Value → State → Outcome → State → Prop) (XC : String → State → State → Prop) (a : Array Value) (s : State) (mc ms : Nat) (free : Addr → Prop) : State → Prop := fun t =>
  ∃ o, t.status = .running ∧ Ended t below o ∧ vx_Q Qc XC mc ms free a s o t
theorem vx_ret {g : JFrame} {mc ms : Nat} (k : W p l e R s m args below meth c H locs cells slots (MQ below Qc args s mc ms free) g) : W p l e R s m args below meth c H locs cells slots (vx_MQ below Qc XC args s mc ms free) g := by
  intro T hT X
  obtain ⟨t, a1, o, b1, b2, b3, b4⟩ := k T hT X
  exact ⟨t, a1, o, b1, b2, Or.inl ⟨b3, b4⟩⟩
/-- not caught here: it goes on to the caller -/
theorem vx_widen {g : JFrame} {q : Addr} {k n : Nat} (h1 : cells ≤ k) (h2 : slots ≤ n) (kk : vx_W p l e R s m args below meth c H locs k n Q g q) : vx_W p l e R s m args below meth c H locs cells slots Q g q := fun T hT X => kk T hT (stand_widen X h1 h2)
theorem vx_out {pc : Nat} {E : String} {ce : Cell} {q : Addr} {mc ms : Nat} (hout : ∀ x ∈ c.exceptionTable.toList, covers x pc = false) (hlocks : meth.locks = false) (hcell : H[q]? = some ce) (hv : ce.vm = .none) (hcl : s.vm.findClass E = some ce.cls)
    (hx : ∀ t : State, t.heap = H → s.vm.Alike t.vm → XC E s t) (hf : ∀ z ∈ locs, free z.base) (hc : cells ≤ mc) (hs : slots ≤ ms) :
    vx_W p l e R s m args below meth c H locs cells slots (vx_MQ below Qc XC args s mc ms free) (F0 m pc ls rest) q := by
  intro T hT X
  obtain ⟨st1, hrun, hend, hW, hsm⟩ := X.leaveThrown q (g := F0 m pc ls rest) rfl rfl rfl hout hlocks
  have hcell9 : (T.setFrames (.throwing q :: below)).heap[q]? = some ce := by
    show T.heap[q]? = some ce
    rw [hT]; exact hcell
  exact ⟨_, st1, .threw q, hrun, hend, Or.inr ⟨q, rfl, E, ce, locs, hx _ hT hW.alike, hcell9, hv, hcl, hW, hsm.mono hc hs, hf⟩⟩
theorem vx_frame {U : State} {k n : Nat} (h : s.sameButNew ({ U with vm := s.vm } : State) locs k n) : s.heap.size ≤ U.heap.size ∧ ∀ q : Nat, q < s.heap.size → (∀ z ∈ locs, z.base ≠ q) → U.heap[q]? = s.heap[q]? := by
  obtain ⟨-, h2, -, -, -, h6⟩ := h
  refine ⟨h2, fun q hq hz => ?_⟩
  obtain ⟨c9, e1, e2, e3, e4⟩ := h6 q _ (Array.getElem?_eq_getElem hq)
  have hs : c9.slots = (s.heap[q]).slots := Array.ext_getElem? fun i => e4 i fun hm => hz _ hm rfl
  have h9 : c9 = s.heap[q] := by
    rw [hs] at e2
    exact e2
  have e5 : U.heap[q]? = some c9 := e1
  rw [e5, h9, Array.getElem?_eq_getElem hq]
/-- the words of a throw but the four that speak of the heap -/
def vx_no (w : Cond) : Bool := decide (w ≠ .isRef (.static Bundle.tN "UNASSIGNED_STACK" Bundle.steD)) && decide (w ≠ .isRef (.static Bundle.tN "SUPPRESSED_SENTINEL" Bundle.listD)) && decide (w ≠ .laysStatic Bundle.tN "UNASSIGNED_STACK" Bundle.steD) && decide (w ≠ .laysStatic Bundle.tN "SUPPRESSED_SENTINEL" Bundle.listD)
def vx_at0 (own : String) (ic : Nat) (X : String) (names : List String) : List Cond := (Bundle.ownAtoms0 own ic X names).filter vx_no
def vx_atS (own : String) (ic : Nat) (X : String) (names : List String) : List Cond := (Bundle.ownAtoms own ic X names).filter vx_no
/-- a word that the tables alone decide, or a good one -/
def vx_ot (w : Cond) : Bool := w.onTables || goodWord w
theorem vx_ot_at {args a' : Array Value} {s U : State} {w : Cond} (hW : s.WarmedH U.vm) (hvm : s.vm = U.vm) (hg : vx_ot w = true) (h : w.before args s = true) : w.before a' U = true := by
  simp only [vx_ot, Bool.or_eq_true] at hg
  rcases hg with hg | hg
  · exact va_tabs hg hvm h
  · exact word_at hW (good_of_word hg) h
/-- a list's words: the good ones out of the method's own list, the others by premises of their own -/
theorem vx_hat {args : Array Value} {s : State} {L B : List Cond} (h1 : ∀ w ∈ L.filter goodWord, w.before args s = true) (h2 : ∀ w ∈ L.filter (fun w => !goodWord w), w ∈ B) (h3 : ∀ w ∈ B, w.before args s = true) : ∀ w ∈ L, w.before args s = true := by
  intro w hw
  by_cases g : goodWord w = true
  · exact h1 w (List.mem_filter.mpr ⟨hw, g⟩)
  · refine h3 w (h2 w (List.mem_filter.mpr ⟨hw, ?_⟩))
    show (!goodWord w) = true
    cases hgw : goodWord w
    · rfl
    · exact absurd hgw g
theorem vx_c {args : Array Value} {s : State} {w : Cond} {B : List Cond} (h : w.before args s = true) (t : ∀ w ∈ B, w.before args s = true) : ∀ w' ∈ w :: B, w'.before args s = true := fun w' h' => (List.mem_cons.mp h').elim (fun e => by rw [e]; exact h) (t w')
theorem vx_n {args : Array Value} {s : State} : ∀ w ∈ ([] : List Cond), w.before args s = true := fun _ h => nomatch h
theorem vx_own {args : Array Value} {s : State} {L : List Cond} (h1 : ∀ w ∈ L.filter vx_no, w.before args s = true)
    (hU : (Cond.isRef (.static Bundle.tN "UNASSIGNED_STACK" Bundle.steD)).before args s = true) (hN : (Cond.isRef (.static Bundle.tN "SUPPRESSED_SENTINEL" Bundle.listD)).before args s = true)
    (lU : (Cond.laysStatic Bundle.tN "UNASSIGNED_STACK" Bundle.steD).before args s = true) (lN : (Cond.laysStatic Bundle.tN "SUPPRESSED_SENTINEL" Bundle.listD).before args s = true) : ∀ w ∈ L, w.before args s = true := by
  intro w hw
  by_cases e1 : w = .isRef (.static Bundle.tN "UNASSIGNED_STACK" Bundle.steD)
  · rw [e1]; exact hU
  · by_cases e2 : w = .isRef (.static Bundle.tN "SUPPRESSED_SENTINEL" Bundle.listD)
    · rw [e2]; exact hN
    · by_cases e3 : w = .laysStatic Bundle.tN "UNASSIGNED_STACK" Bundle.steD
      · rw [e3]; exact lU
      · by_cases e4 : w = .laysStatic Bundle.tN "SUPPRESSED_SENTINEL" Bundle.listD
        · rw [e4]; exact lN
        · exact h1 w (List.mem_filter.mpr ⟨hw, by unfold vx_no; rw [decide_eq_true e1, decide_eq_true e2, decide_eq_true e3, decide_eq_true e4]; rfl⟩)
/-- where a static field lies, its class's statics cell in H -/
def vx_L (C n d : String) (A : Nat → Prop) (U : State) (H : Heap) : Prop := ∃ (c : ClassId) (k : Class) (i : Nat) (f : Field) (a : Nat) (cell : Cell), U.vm.findClass C = some c ∧ U.fieldFound? C n d = some (c, k, i, f) ∧ f.isStatic = true ∧ k.statics = some a ∧ H[a]? = some cell ∧ cell.vm.isStatics = true ∧ cell.cls = c ∧ f.slot < cell.slots.size ∧ k.staticTypes[f.slot]? = some f.type ∧ ¬ A a
theorem vx_L.moved {C n d : String} {A : Nat → Prop} {u U : State} {H : Heap} (hvm : u.vm.Alike U.vm) (h : vx_L C n d A u H) : vx_L C n d A U H := by
  obtain ⟨c, k, i, f, a, cell, h1, h2, h3, h4, h5, h6, h7, h8, h9, h10⟩ := h
  obtain ⟨k', hi', he⟩ := State.fieldFound?_setVm hvm h2
  exact ⟨c, k', i, f, a, cell, by rw [hvm.findClass]; exact h1, hi', h3, by rw [he]; exact h4, h5, h6, h7, h8, by rw [he]; exact h9, h10⟩
theorem vx_L.kept {C n d : String} {A : Nat → Prop} {U : State} {H H1 : Heap} (h : vx_L C n d A U H) (hq : ∀ a : Nat, a < H.size → ¬ A a → H1[a]? = H[a]?) : vx_L C n d A U H1 := by
  obtain ⟨c, k, i, f, a, cell, h1, h2, h3, h4, h5, h6, h7, h8, h9, h10⟩ := h
  exact ⟨c, k, i, f, a, cell, h1, h2, h3, h4, by rw [hq a (Array.getElem?_eq_some_iff.mp h5).1 h10]; exact h5, h6, h7, h8, h9, h10⟩
theorem vx_L.narrow {C n d : String} {A B : Nat → Prop} {U : State} {H : Heap} (h : vx_L C n d A U H) (hAB : ∀ q, B q → A q) : vx_L C n d B U H := by
  obtain ⟨c, k, i, f, a, cell, h1, h2, h3, h4, h5, h6, h7, h8, h9, h10⟩ := h
  exact ⟨c, k, i, f, a, cell, h1, h2, h3, h4, h5, h6, h7, h8, h9, fun z => h10 (hAB _ z)⟩
theorem vx_L.word {C n d : String} {A : Nat → Prop} {s : State} {args : Array Value} (h : vx_L C n d A s s.heap) : (Cond.laysStatic C n d).before args s = true := by
  obtain ⟨c, k, i, f, a, cell, h1, h2, h3, h4, h5, h6, h7, h8, h9, -⟩ := h
  show (Cond.laysStatic C n d).holds args s none s [] = true
  exact Cond.laysStatic_of h1 h2 h3 h4 h5 h6 h7 h8 h9
/-- .. and what it holds: null or some reference -/
def vx_Zq (C n d : String) (A : Nat → Prop) (U : State) (H : Heap) : Prop := va_Zq C n d A U H ∧ vx_L C n d A U H
theorem vx_Zq.moved {C n d : String} {A : Nat → Prop} {u U : State} {H : Heap} (hvm : u.vm.Alike U.vm) (h : vx_Zq C n d A u H) : vx_Zq C n d A U H := ⟨va_Zq.moved hvm h.1, vx_L.moved hvm h.2⟩
theorem vx_Zq.kept {C n d : String} {A : Nat → Prop} {U : State} {H H1 : Heap} (h : vx_Zq C n d A U H) (hq : ∀ a : Nat, a < H.size → ¬ A a → H1[a]? = H[a]?) : vx_Zq C n d A U H1 := ⟨va_Zq.kept h.1 hq, vx_L.kept h.2 hq⟩
theorem vx_Zq.narrow {C n d : String} {A B : Nat → Prop} {U : State} {H : Heap} (h : vx_Zq C n d A U H) (hAB : ∀ q, B q → A q) : vx_Zq C n d B U H := ⟨va_Zq.narrow h.1 hAB, vx_L.narrow h.2 hAB⟩
theorem vx_Zqof {args : Array Value} {s : State} {C n d : String} {A : Nat → Prop} (hl : (Cond.laysStatic C n d).before args s = true) (hini : (Cond.initialized C).before args s = true) (h : (Cond.isRef (.static C n d)).before args s = true) (hA : ∀ a : Nat, a < s.heap.size → ¬ A a) : vx_Zq C n d A s s.heap := by
  refine ⟨va_Zqof hl hini h hA, ?_⟩
  obtain ⟨c, k, i, f, a, cell, h1, h2, h3, h4, h5, h6, h7, h8, h9⟩ := Cond.laysStatic_spec hl
  exact ⟨c, k, i, f, a, cell, h1, h2, h3, h4, h5, h6, h7, h8, h9, hA a (Array.getElem?_eq_some_iff.mp h5).1⟩
theorem vx_isRef {C n d : String} {v : Value} {A : Nat → Prop} {s : State} {args : Array Value} (h : va_Z C n d v A s s.heap) (hv : v.isRef = true) : (Cond.isRef (.static C n d)).before args s = true := by
  obtain ⟨cf, kf, fi, f, a, cell, h1, h2, h3, h4, h5, h6, h7, -⟩ := h
  have he : (Term.static C n d).eval args s none [] s = some v := by
    simp [Term.eval, State.fieldNamed?, h1, h2, h4, h5, h6, h7]
  simp only [Cond.before, Cond.holds, Cond.value, he]
  cases v <;> simp_all [Value.isRef]
theorem vx_isRefq {C n d : String} {A : Nat → Prop} {s : State} {args : Array Value} (h : va_Zq C n d A s s.heap) : (Cond.isRef (.static C n d)).before args s = true := by
  rcases h with h | ⟨t, h⟩
  · exact vx_isRef h rfl
  · exact vx_isRef h rfl
/-- the same frame, seen from here: as if the method were called anew in this heap -/
theorem vx_rebase {T : State} (X : Stand p l e R s m args below meth c T locs cells slots) {R' : Room} (hf : R'.frames ≤ R.frames) (hl : R'.locals ≤ R.locals) (hc : cells + R'.cells ≤ R.cells) (hs : slots + R'.slots ≤ R.slots) :
    Stand p l e R' ((T.setVm s.vm).setFrames (.invoking m args :: below)) m args below meth c T [] 0 0 := by
  have htop : (T.setVm s.vm).topJava?.isSome := X.here.top
  have hF : ((T.setVm s.vm).setFrames (.invoking m args :: below)).frames = .invoking m args :: below := State.frames_setFrames _ (State.cur_lt_of_top htop)
  obtain ⟨g₀, hg0⟩ := Option.isSome_iff_exists.mp htop
  obtain ⟨r, hr⟩ := State.topJava?_eq_some.mp hg0
  have hl9 : e.platform.stackLimits (T.setVm s.vm).me = e.platform.stackLimits s.me := X.limits
  have hb9 : (T.setVm s.vm).me.stackBytes = s.me.stackBytes := X.bytes
  refine ⟨X.admits, X.cas, X.clock, hF, ?_, X.hears, X.method, X.code, X.here, X.tail, X.warmed, ?_, ?_, ?_⟩
  · have h := X.room
    have hU : ((T.setVm s.vm).setFrames (.invoking m args :: below)).localsInUse = s.localsInUse := by
      rw [State.localsInUse_invoking hF (meth := meth) (c := c) X.method X.code, State.localsInUse_invoking X.frames X.method X.code]
    simp only [State.hasRoom, Bool.and_eq_true, decide_eq_true_eq] at h ⊢
    obtain ⟨⟨⟨⟨h1, h2, h3, h4, h5, h6⟩, h7⟩, h8⟩, h9⟩ := h
    rw [X.frames, List.length_cons] at h2 h3
    have q1 := X.heapSize
    have q2 := X.used
    simp only [hF, hU, List.length_cons, State.stackLimits_setFrames, State.stackBytes_setFrames, hl9, hb9]
    refine ⟨⟨⟨⟨by omega, by omega, by omega, by omega, by omega, h6⟩, ?_⟩, ?_⟩, X.book⟩
    · show T.heap.size + R'.cells ≤ e.platform.maxCells
      omega
    · show T.slotsUsed + R'.slots ≤ e.platform.maxSlots
      omega
  · rw [State.stackLimits_setFrames]; rfl
  · rw [State.stackBytes_setFrames]; rfl
  · refine ⟨?_, Nat.le_refl _, Nat.le_refl _, ?_, ?_, fun a c9 h9 => ⟨c9, h9, rfl, rfl, fun _ _ => rfl⟩⟩
    · obtain ⟨t, ht, -⟩ := State.frames_cons hr
      show T.setVm s.vm = { ((T.setVm s.vm).setFrames (.invoking m args :: below)).setFrames (T.setVm s.vm).frames with heap := T.heap, slotsUsed := T.slotsUsed }
      rw [State.setFrames_setFrames, State.setFrames_self ht]
      rfl
    · show T.slotsUsed = T.slotsUsed + ((T.heap.toList.drop T.heap.size).map (·.slots.size)).sum
      rw [List.drop_eq_nil_of_le (Nat.le_of_eq Array.length_toList)]
      rfl
    · show ((T.heap.toList.drop T.heap.size).map (·.slots.size)).sum ≤ 0
      rw [List.drop_eq_nil_of_le (Nat.le_of_eq Array.length_toList)]
      exact Nat.le_refl _
/-- 'throw new E()': new; dup; invokespecial; athrow -/
theorem vx_throw0 {cc : ByteArray} {pc : Nat} (hexec : p.tables.exec = Jvm.exec) (hb : c.code = cc) (hl : l.stackTraces = false) {own cls : String} {names : List String} {ik ic mc ms : Nat} {A : Nat → Prop}
    (hown : s.vm.findClass own = some m.cls) (hcls : Bundle.fit cls = true) (hnames : ∀ n ∈ names, Bundle.fit n = true)
    (hk : (Cond.classLink own ik cls).before args s = true) (hini : (Cond.initialized cls).before args s = true) (hat : ∀ w ∈ vx_at0 own ic cls names, w.before args s = true)
    (hgood : ∀ w ∈ Cond.classLink own ik cls :: Cond.initialized cls :: vx_at0 own ic cls names, vx_ot w = true)
    (hU : vx_Zq Bundle.tN "UNASSIGNED_STACK" Bundle.steD A s s.heap) (hN : vx_Zq Bundle.tN "SUPPRESSED_SENTINEL" Bundle.listD A s s.heap) (hS : va_S A s.heap H locs) (hsize : ls.size = c.maxLocals)
    (d0 : decode cc pc = .ok (.new ik, 3)) (d3 : decode cc (pc + 3) = .ok (.dup, 1)) (d4 : decode cc (pc + 4) = .ok (.invokespecial ic, 3)) (d7 : decode cc (pc + 7) = .ok (.athrow, 1))
    (hout : ∀ x ∈ c.exceptionTable.toList, covers x (pc + 7) = false)
    (hRframes : names.length + 3 < R.frames) (hRlocals : (rest.map fun v => v.category).sum + (13 * (names.length + 1) + 42) ≤ R.locals) (hRcells : cells + 1 ≤ R.cells) (hRslots : slots + 6 ≤ R.slots) (hlocks : meth.locks = false)
    (hx : ∀ t : State, s.vm.Alike t.vm → H.size ≤ t.heap.size → (∀ q : Nat, q < H.size → t.heap[q]? = H[q]?) → XC cls s t)
    (hf : ∀ z ∈ locs, free z.base) (hc : cells + 1 ≤ mc) (hs : slots + 6 ≤ ms) :
    W p l e R s m args below meth c H locs cells slots (vx_MQ below Qc XC args s mc ms free) (F0 m pc ls rest) := by
  intro T hT X
  have htr : e.platform.stackTraces = false := (show e.platform.stackTraces = l.stackTraces by rw [X.admits.platform]).trans hl
  have Y := vx_rebase X (R' := { frames := R.frames, locals := R.locals, cells := 1, slots := 6 }) (Nat.le_refl _) (Nat.le_refl _) hRcells hRslots
  obtain ⟨s', hA⟩ : ∃ z, z = (T.setVm s.vm).setFrames (.invoking m args :: below) := ⟨_, rfl⟩
  rw [← hA] at Y
  have hvm : s'.vm = s.vm := by rw [hA]; rfl
  have hhp : s'.heap = H := by rw [hA]; exact hT
  have hW0 : s.WarmedH s'.vm := by rw [hvm]; exact State.WarmedH.refl s
  have hat' : ∀ w ∈ vx_at0 own ic cls names, w.before args s' = true := fun w hw => vx_ot_at hW0 hvm.symm (hgood w (List.mem_cons_of_mem _ (List.mem_cons_of_mem _ hw))) (hat w hw)
  have hk' : (Cond.classLink own ik cls).before args s' = true := vx_ot_at hW0 hvm.symm (hgood _ List.mem_cons_self) hk
  have hini' : (Cond.initialized cls).before args s' = true := vx_ot_at hW0 hvm.symm (hgood _ (List.mem_cons_of_mem _ List.mem_cons_self)) hini
  have hU' : vx_Zq Bundle.tN "UNASSIGNED_STACK" Bundle.steD A s' s'.heap := by rw [hhp]; exact vx_Zq.moved hW0.alike (hU.kept hS.2.1)
  have hN' : vx_Zq Bundle.tN "SUPPRESSED_SENTINEL" Bundle.listD A s' s'.heap := by rw [hhp]; exact vx_Zq.moved hW0.alike (hN.kept hS.2.1)
  have h : ∀ w ∈ Bundle.ownAtoms0 own ic cls names, w.before args s' = true := vx_own hat' (vx_isRefq hU'.1) (vx_isRefq hN'.1) hU'.2.word hN'.2.word
  have hown' : s'.vm.findClass own = some m.cls := by rw [hvm]; exact hown
  have hins : (Cond.instantiable cls 6).before args s' = true := h _ (by simp [Bundle.ownAtoms0])
  obtain ⟨vm₁, cX, kX, hfX, hkX, -, -, X₁, st1⟩ := Y.newCold hexec (own := own) (C := cls) (index := ik) (n := 6) hown' hk' hins hini'
    (g := F0 m pc ls rest) rfl (by rw [hb]; exact d0) (Nat.le_refl _) (Nat.le_refl _)
  generalize hT1 : (T.setVm vm₁).pushCell { cls := cX, slots := kX.instanceTypes.map defaultValue, vm := .none } = T1 at X₁ st1
  have hcat : (Value.ref T.heap.size).category = 1 := rfl
  have hcellA : T1.heap[T.heap.size]? = some (freshCell cX kX) := by rw [← hT1]; exact State.heap_pushCell_size _ _
  have d3' : decode c.code (pc + 3) = .ok (.dup, 1) := by rw [hb]; exact d3
  obtain ⟨U, hsteps, hrun, hend, hW, hsame, ce, hce, hO⟩ := X₁.ctorThrow0 hexec htr (own := own) (cls := cls) (names := names) (ic := ic) hown' hcls hnames h (fun x hx => nomatch hx) hfX hkX hcellA (by rw [hhp, hT]; exact Nat.le_refl _)
    (g := { method := m, pc := pc + 4, locals := ls, stack := .ref T.heap.size :: .ref T.heap.size :: rest, locked := none }) rfl hsize rfl rfl (rest := rest) rfl
    (by rw [hb]; exact d4) (by rw [hb]; exact d7) hout hRframes (by simp only [List.map_cons, List.sum_cons, hcat]; omega) hlocks
  obtain ⟨f1, f2⟩ := vx_frame hsame
  rw [hhp] at f1 f2
  have hWs : s.WarmedH U.vm := State.WarmedH.trans hW0 hW
  have hcl : s.vm.findClass cls = some ce.cls := by
    have h9 := hO.cls
    rw [hvm] at h9
    exact h9
  have hall : s.sameButNew ({ U with vm := s.vm } : State) locs mc ms := by
    subst hA
    obtain ⟨e1, e2⟩ := hsame
    rw [State.setFrames_setFrames] at e1
    have h2 : (T.setVm s.vm).sameButNew ({ U with vm := s.vm } : State) [] (0 + 1) (0 + 6) := ⟨e1, e2⟩
    have h3 := X.same.trans h2
    rw [List.append_nil] at h3
    exact h3.mono hc hs
  refine ⟨U, ?_, .threw T.heap.size, hrun, hend, Or.inr ⟨T.heap.size, rfl, cls, ce, locs, hx U hWs.alike f1 (fun q hq => f2 q hq (fun z hz => nomatch hz)), hce, hO.vm, hcl, hWs, hall, hf⟩⟩
  refine st1 _ ?_
  show Steps p.tables e below (T1.setTop { method := m, pc := pc + 3, locals := ls, stack := .ref T.heap.size :: rest, locked := none }) _
  jvm_step X₁.here [X₁.here.top, hexec, d3', Value.category]
  exact hsteps
/-- 'throw new E("text")': new; dup; ldc; invokespecial; athrow -/
theorem vx_throwS {cc : ByteArray} {pc : Nat} (hexec : p.tables.exec = Jvm.exec) (hb : c.code = cc) (hl : l.stackTraces = false) {own cls text : String} {names : List String} {ik is ic mc ms sa : Nat} {A : Nat → Prop}
    (hown : s.vm.findClass own = some m.cls) (hcls : Bundle.fit cls = true) (hnames : ∀ n ∈ names, Bundle.fit n = true)
    (hk : (Cond.classLink own ik cls).before args s = true) (hini : (Cond.initialized cls).before args s = true) (hstr : vk_R own is text sa s) (hat : ∀ w ∈ vx_atS own ic cls names, w.before args s = true)
    (hgood : ∀ w ∈ Cond.classLink own ik cls :: Cond.initialized cls :: vx_atS own ic cls names, vx_ot w = true)
    (hU : vx_Zq Bundle.tN "UNASSIGNED_STACK" Bundle.steD A s s.heap) (hN : vx_Zq Bundle.tN "SUPPRESSED_SENTINEL" Bundle.listD A s s.heap) (hS : va_S A s.heap H locs) (hsize : ls.size = c.maxLocals)
    (d0 : decode cc pc = .ok (.new ik, 3)) (d3 : decode cc (pc + 3) = .ok (.dup, 1)) (d4 : decode cc (pc + 4) = .ok (.ldc is, 2)) (d6 : decode cc (pc + 6) = .ok (.invokespecial ic, 3)) (d9 : decode cc (pc + 9) = .ok (.athrow, 1))
    (hout : ∀ x ∈ c.exceptionTable.toList, covers x (pc + 9) = false)
    (hRframes : names.length + 3 < R.frames) (hRlocals : (rest.map fun v => v.category).sum + (13 * (names.length + 1) + 43) ≤ R.locals) (hRcells : cells + 1 ≤ R.cells) (hRslots : slots + 6 ≤ R.slots) (hlocks : meth.locks = false)
    (hx : ∀ t : State, s.vm.Alike t.vm → H.size ≤ t.heap.size → (∀ q : Nat, q < H.size → t.heap[q]? = H[q]?) → XC cls s t)
    (hf : ∀ z ∈ locs, free z.base) (hc : cells + 1 ≤ mc) (hs : slots + 6 ≤ ms) :
    W p l e R s m args below meth c H locs cells slots (vx_MQ below Qc XC args s mc ms free) (F0 m pc ls rest) := by
  intro T hT X
  have htr : e.platform.stackTraces = false := (show e.platform.stackTraces = l.stackTraces by rw [X.admits.platform]).trans hl
  have Y := vx_rebase X (R' := { frames := R.frames, locals := R.locals, cells := 1, slots := 6 }) (Nat.le_refl _) (Nat.le_refl _) hRcells hRslots
  obtain ⟨s', hA⟩ : ∃ z, z = (T.setVm s.vm).setFrames (.invoking m args :: below) := ⟨_, rfl⟩
  rw [← hA] at Y
  have hvm : s'.vm = s.vm := by rw [hA]; rfl
  have hhp : s'.heap = H := by rw [hA]; exact hT
  have hW0 : s.WarmedH s'.vm := by rw [hvm]; exact State.WarmedH.refl s
  have hat' : ∀ w ∈ vx_atS own ic cls names, w.before args s' = true := fun w hw => vx_ot_at hW0 hvm.symm (hgood w (List.mem_cons_of_mem _ (List.mem_cons_of_mem _ hw))) (hat w hw)
  have hk' : (Cond.classLink own ik cls).before args s' = true := vx_ot_at hW0 hvm.symm (hgood _ List.mem_cons_self) hk
  have hini' : (Cond.initialized cls).before args s' = true := vx_ot_at hW0 hvm.symm (hgood _ (List.mem_cons_of_mem _ List.mem_cons_self)) hini
  have hU' : vx_Zq Bundle.tN "UNASSIGNED_STACK" Bundle.steD A s' s'.heap := by rw [hhp]; exact vx_Zq.moved hW0.alike (hU.kept hS.2.1)
  have hN' : vx_Zq Bundle.tN "SUPPRESSED_SENTINEL" Bundle.listD A s' s'.heap := by rw [hhp]; exact vx_Zq.moved hW0.alike (hN.kept hS.2.1)
  have h : ∀ w ∈ Bundle.ownAtoms own ic cls names, w.before args s' = true := vx_own hat' (vx_isRefq hU'.1) (vx_isRefq hN'.1) hU'.2.word hN'.2.word
  have hown' : s'.vm.findClass own = some m.cls := by rw [hvm]; exact hown
  have hins : (Cond.instantiable cls 6).before args s' = true := h _ (by simp [Bundle.ownAtoms])
  obtain ⟨vm₁, cX, kX, hfX, hkX, -, -, X₁, st1⟩ := Y.newCold hexec (own := own) (C := cls) (index := ik) (n := 6) hown' hk' hins hini'
    (g := F0 m pc ls rest) rfl (by rw [hb]; exact d0) (Nat.le_refl _) (Nat.le_refl _)
  generalize hT1 : (T.setVm vm₁).pushCell { cls := cX, slots := kX.instanceTypes.map defaultValue, vm := .none } = T1 at X₁ st1
  have hcat : (Value.ref T.heap.size).category = 1 := rfl
  have hcellA : T1.heap[T.heap.size]? = some (freshCell cX kX) := by rw [← hT1]; exact State.heap_pushCell_size _ _
  have d3' : decode c.code (pc + 3) = .ok (.dup, 1) := by rw [hb]; exact d3
  have d4' : decode c.code (pc + 4) = .ok (.ldc is, 2) := by rw [hb]; exact d4
  have hstr' : vk_R own is text sa s' := vk_R.warm hW0 hstr
  obtain ⟨U, hsteps, hrun, hend, hW, hsame, ce, hce, hO⟩ := X₁.ctorThrowS hexec htr (own := own) (cls := cls) (names := names) (ic := ic) hown' hcls hnames h (fun x hx => nomatch hx) hfX hkX hcellA (by rw [hhp, hT]; exact Nat.le_refl _) (msg := .ref sa) rfl
    (g := { method := m, pc := pc + 6, locals := ls, stack := .ref sa :: .ref T.heap.size :: .ref T.heap.size :: rest, locked := none }) rfl hsize rfl rfl (rest := rest) rfl
    (by rw [hb]; exact d6) (by rw [hb]; exact d9) hout hRframes (by simp only [List.map_cons, List.sum_cons, hcat]; omega) hlocks
  obtain ⟨f1, f2⟩ := vx_frame hsame
  rw [hhp] at f1 f2
  have hWs : s.WarmedH U.vm := State.WarmedH.trans hW0 hW
  have hcl : s.vm.findClass cls = some ce.cls := by
    have h9 := hO.cls
    rw [hvm] at h9
    exact h9
  have hall : s.sameButNew ({ U with vm := s.vm } : State) locs mc ms := by
    subst hA
    obtain ⟨e1, e2⟩ := hsame
    rw [State.setFrames_setFrames] at e1
    have h2 : (T.setVm s.vm).sameButNew ({ U with vm := s.vm } : State) [] (0 + 1) (0 + 6) := ⟨e1, e2⟩
    have h3 := X.same.trans h2
    rw [List.append_nil] at h3
    exact h3.mono hc hs
  refine ⟨U, ?_, .threw T.heap.size, hrun, hend, Or.inr ⟨T.heap.size, rfl, cls, ce, locs, hx U hWs.alike f1 (fun q hq => f2 q hq (fun z hz => nomatch hz)), hce, hO.vm, hcl, hWs, hall, hf⟩⟩
  refine st1 _ ?_
  show Steps p.tables e below (T1.setTop { method := m, pc := pc + 3, locals := ls, stack := .ref T.heap.size :: rest, locked := none }) _
  jvm_step X₁.here [X₁.here.top, hexec, d3', Value.category]
  exact X₁.ldcString hexec (own := own) (text := text) (index := is) (a := sa) hown' hstr'.1 hstr'.2
    (g := { method := m, pc := pc + 4, locals := ls, stack := .ref T.heap.size :: .ref T.heap.size :: rest, locked := none }) rfl d4' _ hsteps
/-- 'throw new E("text")', the text by a wide index -/
theorem vx_throwSW {cc : ByteArray} {pc : Nat} (hexec : p.tables.exec = Jvm.exec) (hb : c.code = cc) (hl : l.stackTraces = false) {own cls text : String} {names : List String} {ik is ic mc ms sa : Nat} {A : Nat → Prop}
    (hown : s.vm.findClass own = some m.cls) (hcls : Bundle.fit cls = true) (hnames : ∀ n ∈ names, Bundle.fit n = true)
    (hk : (Cond.classLink own ik cls).before args s = true) (hini : (Cond.initialized cls).before args s = true) (hstr : vk_R own is text sa s) (hat : ∀ w ∈ vx_atS own ic cls names, w.before args s = true)
    (hgood : ∀ w ∈ Cond.classLink own ik cls :: Cond.initialized cls :: vx_atS own ic cls names, vx_ot w = true)
    (hU : vx_Zq Bundle.tN "UNASSIGNED_STACK" Bundle.steD A s s.heap) (hN : vx_Zq Bundle.tN "SUPPRESSED_SENTINEL" Bundle.listD A s s.heap) (hS : va_S A s.heap H locs) (hsize : ls.size = c.maxLocals)
    (d0 : decode cc pc = .ok (.new ik, 3)) (d3 : decode cc (pc + 3) = .ok (.dup, 1)) (d4 : decode cc (pc + 4) = .ok (.ldc_w is, 3)) (d7 : decode cc (pc + 7) = .ok (.invokespecial ic, 3)) (d10 : decode cc (pc + 10) = .ok (.athrow, 1))
    (hout : ∀ x ∈ c.exceptionTable.toList, covers x (pc + 10) = false)
    (hRframes : names.length + 3 < R.frames) (hRlocals : (rest.map fun v => v.category).sum + (13 * (names.length + 1) + 43) ≤ R.locals) (hRcells : cells + 1 ≤ R.cells) (hRslots : slots + 6 ≤ R.slots) (hlocks : meth.locks = false)
    (hx : ∀ t : State, s.vm.Alike t.vm → H.size ≤ t.heap.size → (∀ q : Nat, q < H.size → t.heap[q]? = H[q]?) → XC cls s t)
    (hf : ∀ z ∈ locs, free z.base) (hc : cells + 1 ≤ mc) (hs : slots + 6 ≤ ms) :
    W p l e R s m args below meth c H locs cells slots (vx_MQ below Qc XC args s mc ms free) (F0 m pc ls rest) := by
  intro T hT X
  have htr : e.platform.stackTraces = false := (show e.platform.stackTraces = l.stackTraces by rw [X.admits.platform]).trans hl
  have Y := vx_rebase X (R' := { frames := R.frames, locals := R.locals, cells := 1, slots := 6 }) (Nat.le_refl _) (Nat.le_refl _) hRcells hRslots
  obtain ⟨s', hA⟩ : ∃ z, z = (T.setVm s.vm).setFrames (.invoking m args :: below) := ⟨_, rfl⟩
  rw [← hA] at Y
  have hvm : s'.vm = s.vm := by rw [hA]; rfl
  have hhp : s'.heap = H := by rw [hA]; exact hT
  have hW0 : s.WarmedH s'.vm := by rw [hvm]; exact State.WarmedH.refl s
  have hat' : ∀ w ∈ vx_atS own ic cls names, w.before args s' = true := fun w hw => vx_ot_at hW0 hvm.symm (hgood w (List.mem_cons_of_mem _ (List.mem_cons_of_mem _ hw))) (hat w hw)
  have hk' : (Cond.classLink own ik cls).before args s' = true := vx_ot_at hW0 hvm.symm (hgood _ List.mem_cons_self) hk
  have hini' : (Cond.initialized cls).before args s' = true := vx_ot_at hW0 hvm.symm (hgood _ (List.mem_cons_of_mem _ List.mem_cons_self)) hini
  have hU' : vx_Zq Bundle.tN "UNASSIGNED_STACK" Bundle.steD A s' s'.heap := by rw [hhp]; exact vx_Zq.moved hW0.alike (hU.kept hS.2.1)
  have hN' : vx_Zq Bundle.tN "SUPPRESSED_SENTINEL" Bundle.listD A s' s'.heap := by rw [hhp]; exact vx_Zq.moved hW0.alike (hN.kept hS.2.1)
  have h : ∀ w ∈ Bundle.ownAtoms own ic cls names, w.before args s' = true := vx_own hat' (vx_isRefq hU'.1) (vx_isRefq hN'.1) hU'.2.word hN'.2.word
  have hown' : s'.vm.findClass own = some m.cls := by rw [hvm]; exact hown
  have hins : (Cond.instantiable cls 6).before args s' = true := h _ (by simp [Bundle.ownAtoms])
  obtain ⟨vm₁, cX, kX, hfX, hkX, -, -, X₁, st1⟩ := Y.newCold hexec (own := own) (C := cls) (index := ik) (n := 6) hown' hk' hins hini'
    (g := F0 m pc ls rest) rfl (by rw [hb]; exact d0) (Nat.le_refl _) (Nat.le_refl _)
  generalize hT1 : (T.setVm vm₁).pushCell { cls := cX, slots := kX.instanceTypes.map defaultValue, vm := .none } = T1 at X₁ st1
  have hcat : (Value.ref T.heap.size).category = 1 := rfl
  have hcellA : T1.heap[T.heap.size]? = some (freshCell cX kX) := by rw [← hT1]; exact State.heap_pushCell_size _ _
  have d3' : decode c.code (pc + 3) = .ok (.dup, 1) := by rw [hb]; exact d3
  have d4' : decode c.code (pc + 4) = .ok (.ldc_w is, 3) := by rw [hb]; exact d4
  have hstr' : vk_R own is text sa s' := vk_R.warm hW0 hstr
  obtain ⟨U, hsteps, hrun, hend, hW, hsame, ce, hce, hO⟩ := X₁.ctorThrowS hexec htr (own := own) (cls := cls) (names := names) (ic := ic) hown' hcls hnames h (fun x hx => nomatch hx) hfX hkX hcellA (by rw [hhp, hT]; exact Nat.le_refl _) (msg := .ref sa) rfl
    (g := { method := m, pc := pc + 7, locals := ls, stack := .ref sa :: .ref T.heap.size :: .ref T.heap.size :: rest, locked := none }) rfl hsize rfl rfl (rest := rest) rfl
    (by rw [hb]; exact d7) (by rw [hb]; exact d10) hout hRframes (by simp only [List.map_cons, List.sum_cons, hcat]; omega) hlocks
  obtain ⟨f1, f2⟩ := vx_frame hsame
  rw [hhp] at f1 f2
  have hWs : s.WarmedH U.vm := State.WarmedH.trans hW0 hW
  have hcl : s.vm.findClass cls = some ce.cls := by
    have h9 := hO.cls
    rw [hvm] at h9
    exact h9
  have hall : s.sameButNew ({ U with vm := s.vm } : State) locs mc ms := by
    subst hA
    obtain ⟨e1, e2⟩ := hsame
    rw [State.setFrames_setFrames] at e1
    have h2 : (T.setVm s.vm).sameButNew ({ U with vm := s.vm } : State) [] (0 + 1) (0 + 6) := ⟨e1, e2⟩
    have h3 := X.same.trans h2
    rw [List.append_nil] at h3
    exact h3.mono hc hs
  refine ⟨U, ?_, .threw T.heap.size, hrun, hend, Or.inr ⟨T.heap.size, rfl, cls, ce, locs, hx U hWs.alike f1 (fun q hq => f2 q hq (fun z hz => nomatch hz)), hce, hO.vm, hcl, hWs, hall, hf⟩⟩
  refine st1 _ ?_
  show Steps p.tables e below (T1.setTop { method := m, pc := pc + 3, locals := ls, stack := .ref T.heap.size :: rest, locked := none }) _
  jvm_step X₁.here [X₁.here.top, hexec, d3', Value.category]
  exact X₁.ldcStringW hexec (own := own) (text := text) (index := is) (a := sa) hown' hstr'.1 hstr'.2
    (g := { method := m, pc := pc + 4, locals := ls, stack := .ref T.heap.size :: .ref T.heap.size :: rest, locked := none }) rfl d4' _ hsteps
end Ends
section Bodies
variable {l : Launch}
theorem vx_ofW {y : MethodName} {ws ws' : List Cond} {rm : Room} {Pc : Array Value → State → Prop} {Qc : Array Value → State → Outcome → State → Prop} {XC : String → State → State → Prop} {mc ms : Nat} {free : Addr → Prop} {cc : ByteArray} {maxL : Nat} {ret : Option FieldType}
    (hy : plainName y.cls = true) (hw : ws = Cond.code y cc maxL ret :: ws')
    (body : ∀ p e s m args below meth c s₁, BodyLoose p l y (headSpec ws rm) cc maxL ret e s m args below meth c s₁ → c.maxLocals = maxL → (∀ x ∈ c.exceptionTable.toList, False) → Pc args s →
      W p l e (headSpec ws rm).room s m args below meth c s.heap [] 0 0 (vx_MQ below Qc XC args s mc ms free) (entryFrame m args maxL)) : vx_Met l y ws rm Pc Qc XC mc ms free := by
  refine MetFree.of_bodyS (code := cc) (maxLocals := maxL) (ret := ret) hy ?_ ?_
  · intro args s m h hn
    obtain ⟨meth, c, h1, h2, h3, h4, h5, h6, -, -⟩ := Cond.code_spec hn (atoms_spec (ws := ws) h _ (by rw [hw]; exact List.mem_cons_self))
    exact ⟨meth, c, h1, h2, h3, h4, h5, h6⟩
  · intro p e s m args below meth c s₁ B hml hP _
    have hh0 : s₁.heap = s.heap := by rw [B.state]; rfl
    have ht : ∀ x ∈ c.exceptionTable.toList, False := by
      obtain ⟨meth9, c9, h1, h2, -, -, -, -, h7, -⟩ := Cond.code_spec B.named (atoms_spec (ws := ws) B.pre _ (by rw [hw]; exact List.mem_cons_self))
      cases Option.some.inj (h1.symm.trans B.method)
      cases Option.some.inj (h2.symm.trans (Stand.of_body B).code)
      intro x hx
      rw [Array.isEmpty_iff.mp h7] at hx
      cases hx
    obtain ⟨t, a1, o, b1, b2, b3⟩ := body p e s m args below meth c s₁ B hml ht hP s₁ hh0 (Stand.of_body B)
    exact ⟨t, o, a1, b1, b2, b3⟩
/-- the table of a body with handlers -/
theorem vx_table {p : Program} {x y : MethodName} {S : Spec} {cc bytes : ByteArray} {maxL maxL' : Nat} {ret ret' : Option FieldType} {e : Env} {s s₁ : State} {m : MethodId} {args : Array Value} {below : List Frame} {meth : Method} {c : Code} {hh : List (Nat × Nat × Nat × Nat)}
    (B : BodyLoose p l y S cc maxL ret e s m args below meth c s₁) (h : (Cond.codeWith y bytes maxL' ret' hh).before args s = true) : c.exceptionTable.toList = tableOf hh := by
  obtain ⟨m9, meth9, c9, hn9, h1, h2, -, -, h6, -⟩ := Cond.codeWith_spec h
  cases Option.some.inj (hn9.symm.trans B.named)
  cases Option.some.inj (h1.symm.trans B.method)
  cases Option.some.inj (h2.symm.trans (Stand.of_body B).code)
  rw [← h6, table_eq]
end Bodies
end VXA
/-! ===== END ===== -/
/-! ===== BEGIN a static call of a method with an exception table ===== -/
section VXS
variable {p : Program} {l : Launch} {e : Env} {R : Room} {s : State} {m : MethodId} {args : Array Value} {below : List Frame} {meth : Method} {c : Code} {T : State} {H : Heap} {locs : List Loc} {cells slots : Nat}
abbrev vx_CSW (R : Room) (s : State) (args : Array Value) (own : String) (index : Nat) (y : MethodName) (bytes : ByteArray) (maxL : Nat) (ret : Option FieldType) (hh : List (Nat × Nat × Nat × Nat)) (ws : List Cond) (rm : Room) (mc ms n : Nat) : Prop :=
  (rm.cells = mc ∧ rm.slots = ms ∧ rm.frames + 1 ≤ R.frames ∧ 8 + (maxL + 11) + rm.locals ≤ R.locals ∧ (∀ w ∈ ws, ∀ (a' : Array Value) (U : State), s.WarmedH U.vm → w.before a' U = true) ∧ Cond.codeWith y bytes maxL ret hh ∈ ws) ∧
  (Cond.codeWith y bytes maxL ret hh).before args s = true ∧ (Cond.initialized y.cls).before args s = true ∧ (y.cls ≠ "java/lang/invoke/MethodHandle" ∧ y.cls ≠ "java/lang/invoke/VarHandle") ∧
  (∀ sig, parseMethodDescriptor y.desc = some sig → n = sig.parameters.length) ∧ (Cond.methodLink own index y).before args s = true ∧ (Cond.static y).before args s = true
theorem vx_cwSW {own : String} {index maxL mc ms : Nat} {y : MethodName} {bytes : ByteArray} {ret : Option FieldType} {hh : List (Nat × Nat × Nat × Nat)} {Ts ws ws' : List Cond} {rm : Room} (n : Nat) (ht : ∀ w ∈ Ts, w.before args s = true) (hT : GoodIn Ts (va_wsS own index y ws)) (hw : ws = Cond.codeWith y bytes maxL ret hh :: ws') (hrc : rm.cells = mc) (hrs : rm.slots = ms)
    (hd : y.cls ≠ "java/lang/invoke/MethodHandle" ∧ y.cls ≠ "java/lang/invoke/VarHandle" ∧ (parseMethodDescriptor y.desc).map (fun d => d.parameters.length) = some n) (hR : rm.frames + 1 ≤ R.frames ∧ 8 + (maxL + 11) + rm.locals ≤ R.locals) :
    vx_CSW R s args own index y bytes maxL ret hh ws rm mc ms n := by
  have ok : ∀ w ∈ va_wsS own index y ws, w.before args s = true := fun w h => ht w (hT w h).1
  have hG : GoodIn Ts ws := fun w h => hT w (by unfold va_wsS; exact List.mem_append_right _ h)
  have hc : Cond.codeWith y bytes maxL ret hh ∈ ws := by rw [hw]; exact List.mem_cons_self
  refine ⟨⟨hrc, hrs, hR.1, hR.2, pay_in ht hG, hc⟩, ht _ (hG _ hc).1, ok _ (by simp [va_wsS]), ⟨hd.1, hd.2.1⟩, fun sig h => ?_, ok _ (by simp [va_wsS]), ok _ (by simp [va_wsS])⟩
  have h2 := hd.2.2
  rw [h] at h2
  exact (Option.some.inj h2).symm
theorem vx_callSW (X : Stand p l e R s m args below meth c T locs cells slots) (hexec : p.tables.exec = Jvm.exec) {own : String} {index : Nat} {y : MethodName} {bytes : ByteArray} {maxL : Nat} {ret : Option FieldType} {hh : List (Nat × Nat × Nat × Nat)}
    (hown : s.vm.findClass own = some m.cls) (hlink : (Cond.methodLink own index y).before args s = true) (hstat : (Cond.static y).before args s = true) (hinit : (Cond.initialized y.cls).before args s = true)
    (hcode : (Cond.codeWith y bytes maxL ret hh).before args s = true) (hy : y.cls ≠ "java/lang/invoke/MethodHandle" ∧ y.cls ≠ "java/lang/invoke/VarHandle")
    {W9 : Nat} {Pre : Pt → Array Value → Prop} {Post : Pt → Array Value → Option Value → Pt → Prop} (hK : Back l R p e below s args y 3 W9 Pre Post)
    {g : JFrame} (hg : g.method = m) (hsize : g.locals.size = c.maxLocals) {argsL rest : List Value} (hlen : ∀ sig, parseMethodDescriptor y.desc = some sig → argsL.length = sig.parameters.length)
    (hstack : g.stack = argsL.reverse ++ rest) (hW : 2 * g.monitorRoom + (rest.map fun v => v.category).sum ≤ W9) (hdg : decode c.code g.pc = .ok (.invokestatic index, 3))
    (hpre : ∀ vm₁, s.WarmedH vm₁ → Pre ⟨T.setVm vm₁, locs, cells, slots⟩ argsL.toArray) :
    ∃ (v : Option Value) (vm₁ : Vm) (B : Pt), s.WarmedH vm₁ ∧ Stand p l e R s m args below meth c B.U B.locs B.cells B.slots ∧ Post ⟨T.setVm vm₁, locs, cells, slots⟩ argsL.toArray v B ∧
      ∀ target, Steps p.tables e below (B.U.setTop { g with pc := g.pc + 3, stack := v.toList ++ rest }) target → Steps p.tables e below (T.setTop g) target := by
  obtain ⟨mk, methM, cM, hnamed, hmethM, -, -, -, -, -, -, hsigM⟩ := Cond.codeWith_spec hcode
  have hstatic : methM.isStatic = true := Cond.static_spec hnamed hmethM hstat
  obtain ⟨kP, hkP, -⟩ := className_of_methodNamed hnamed
  have hinitP : kP.init = .initialized := Cond.initialized_spec (findClass_of_methodNamed hnamed) hkP hinit
  obtain ⟨vm₁, X₁, hstep₁⟩ := X.invokestatic hexec hown hlink hnamed hmethM hstatic hkP hinitP hy (g := g) hg (argsL := argsL) (rest := rest) (hlen _ hsigM) hstack hdg
  obtain ⟨v, B, X', hpost, hsteps⟩ := hK m meth c ⟨T.setVm vm₁, locs, cells, slots⟩ { g with stack := rest } (.invokestatic index) mk argsL.toArray X₁ hg hsize hdg hW (X₁.named hnamed) (hpre vm₁ X₁.warmed)
  exact ⟨v, vm₁, B, X₁.warmed, X', hpost, fun target h => hstep₁ _ fun acts => by rw [doInvoke_state]; exact hsteps.trans h⟩
theorem vx_runSW {y : MethodName} {bytes cc : ByteArray} {maxL nL mc ms n index : Nat} {ret : Option FieldType} {hh : List (Nat × Nat × Nat × Nat)} {ws : List Cond} {rm : Room} {Pc : Array Value → State → Prop} {Qc : Array Value → State → Outcome → State → Prop} {free : Addr → Prop} {Ts : List Cond} {own : String} {As rest : List Value} {g : JFrame}
    (S : CallFix p m c cc nL s args Ts own) (hM : Met l y ws rm Pc Qc mc ms free) (cw : vx_CSW R s args own index y bytes maxL ret hh ws rm mc ms n) (hp : PreS s H Pc As)
    (hg : g.method = m) (hn : As.length = n) (hsize : g.locals.size = nL) (hstack : g.stack = As.reverse ++ rest) (hW : 2 * g.monitorRoom + (rest.map fun v => v.category).sum ≤ 8) (hdg : decode cc g.pc = .ok (.invokestatic index, 3)) (hf : cells + mc ≤ R.cells ∧ slots + ms ≤ R.slots) :
    va_Run p l e R s m args below meth c H locs cells slots mc ms g rest (Qc As.toArray) (free) := by
  obtain ⟨⟨hrc, hrs, hfr, hlo, hws, hcw⟩, hcode, hini, hy, hlen, hl, hstt⟩ := cw
  have hK : Back l R p e below s args y 3 8 (PreOf R mc ms Pc) (PostOf Qc mc ms free) := va_backW (hh := hh) (bytes := bytes) (maxL := maxL) (ret := ret) hM hp.1 hrc hrs hfr hlo hws hcw (fun a' U hW => word_at hW (Or.inl (by first | rfl | simp [Cond.onTables, Cond.keeps, Cond.steady])) hini)
  obtain ⟨hx, hb, hml, ho, -⟩ := S
  intro T hT X
  obtain ⟨v, vm₁, ⟨U', l2, c2, s2⟩, hW₁, X', ⟨g', mk, t, L, e1, e2, hq, h1, hL, h2, h3⟩, st⟩ := vx_callSW X hx (hh := hh) (bytes := bytes) (maxL := maxL) (ret := ret) ho hl hstt hini hcode hy hK hg (hsize.trans hml.symm) (argsL := As) (rest := rest) (fun sig h => hn.trans (hlen sig h)) hstack hW (by rw [hb]; exact hdg)
    (fun vm₁ hW₁ => ⟨hf.1, hf.2, hp.2 (T.setVm vm₁) hT hW₁⟩)
  dsimp only [Pt.U, Pt.locs, Pt.cells, Pt.slots] at X' e1 e2 h1 h2 h3 st
  subst h1; subst h2; subst h3
  exact ⟨v, (T.setVm vm₁).calling g' mk As.toArray, t, U', L, hT, X', hL, e1, e2, hq, st⟩
/-- not caught here, past rows that name other classes: it goes on to the caller -/
theorem vx_outP {p : Program} {l : Launch} {e : Env} {R : Room} {s : State} {m : MethodId} {args : Array Value} {below : List Frame} {meth : Method} {c : Code} {H : Heap} {locs : List Loc} {cells slots : Nat} {free : Addr → Prop} {ls : Array Slot} {rest : List Value} {Qc : Array Value → State → Outcome → State → Prop} {XC : String → State → State → Prop}
    {pc : Nat} {own E : String} {ce : Cell} {q : Addr} {mc ms : Nat} (hown : s.vm.findClass own = some m.cls) (hlocks : meth.locks = false)
    (hpass : ∀ z ∈ c.exceptionTable.toList, covers z pc = false ∨ (z.catchType ≠ 0 ∧ ∃ nm : String, (Cond.classLink own z.catchType nm).before args s = true ∧ va_Nc E nm s)) (hcell : H[q]? = some ce) (hv : ce.vm = .none) (hcl : s.vm.findClass E = some ce.cls)
    (hx : ∀ t : State, t.heap = H → s.vm.Alike t.vm → XC E s t) (hf : ∀ z ∈ locs, free z.base) (hc : cells ≤ mc) (hs : slots ≤ ms) :
    vx_W p l e R s m args below meth c H locs cells slots (vx_MQ below Qc XC args s mc ms free) (F0 m pc ls rest) q := by
  intro T hT X
  have hpl : e.platform.magicAccessors = ({} : Platform).magicAccessors := by rw [X.admits.platform]
  obtain ⟨vm', hW', X', st⟩ := X.outThrough hlocks q (g := F0 m pc ls rest) rfl rfl rfl (cell := ce) (by rw [hT]; exact hcell) (by rw [hv]; rfl)
    (by obtain ⟨k9, h9, -⟩ := Vm.findClass_spec hcl; exact ⟨k9, h9⟩) (fun z hz => by
      rcases hpass z hz with h | ⟨hz0, nm, hl1, hn1⟩
      · exact Or.inl h
      · obtain ⟨c6, hc6, hcl6⟩ := Cond.classLink_spec hown hl1 e.platform hpl
        obtain ⟨a8, b8, h1, h2, h3⟩ := hn1
        cases Option.some.inj (h1.symm.trans hcl)
        cases Option.some.inj (h2.symm.trans hc6)
        exact Or.inr ⟨hz0, _, hcl6, h3⟩)
  obtain ⟨g₀, hfr⟩ := X'.frames_eq
  have hcell9 : ((T.setVm vm').setFrames (.throwing q :: below)).heap[q]? = some ce := by
    show T.heap[q]? = some ce
    rw [hT]; exact hcell
  have hend : Ended ((T.setVm vm').setFrames (.throwing q :: below)) below (.threw q) := State.frames_setFrames _ (State.cur_lt_of_frames hfr)
  refine ⟨(T.setVm vm').setFrames (.throwing q :: below), ?_, .threw q, X'.here.running, hend, Or.inr ⟨q, rfl, E, ce, locs, hx _ hT (X'.ends _).1.alike, hcell9, hv, hcl, (X'.ends _).1, (X'.ends _).2.mono hc hs, hf⟩⟩
  rw [X.pushThrowing_eq]
  exact st
/-- a thing of a world lies in the heap -/
theorem vx_lt {D : va_G} {cl : List vw_C} {ws : va_W} {H1 : Heap} (h : va_P D cl ws H1) {k : Nat} {q : Nat × va_E} (hk : ws[k]? = some q) : q.1 < H1.size := (h k q hk).lt
end VXS
/-! ===== END ===== -/
/-! ===== BEGIN methods with a table of their own: called by a name, returning or throwing ===== -/
section VXH
/-! vx_backW, vx_callVX, vx_callSX, vx_callVW, vx_runVW, vx_runVX, vx_runSX, vx_ofWH follow the same proofs as their sisters above (Free/Laws.lean, Shelf42/LK1.lean); vx_outP calls Shelf42/NT130.lean (outThrough). -/
section
variable {l : Launch} {R : Room} {p : Program} {e : Env} {below : List Frame} {s : State} {sargs : Array Value} {y : MethodName} {len W9 : Nat}
theorem vx_backW {ws : List Cond} {rm : Room} {Pc : Array Value → State → Prop} {Qc : Array Value → State → Outcome → State → Prop} {XC : String → State → State → Prop} {mc ms : Nat} {free : Addr → Prop} {bytes : ByteArray} {maxL : Nat} {ret : Option FieldType} {hh : List (Nat × Nat × Nat × Nat)}
    (hM : vx_Met l y ws rm Pc Qc XC mc ms free) (hblind : FrameBlind Pc) (hrc : rm.cells = mc) (hrs : rm.slots = ms)
    (hframes : rm.frames + 1 ≤ R.frames) (hlocals : W9 + (maxL + 11) + rm.locals ≤ R.locals)
    (hws : ∀ w ∈ ws, ∀ a' U, s.WarmedH U.vm → w.before a' U = true) (hcode : Cond.codeWith y bytes maxL ret hh ∈ ws) (hinit : ∀ a' U, s.WarmedH U.vm → (Cond.initialized y.cls).before a' U = true) :
    vx_Back l R p e below s sargs y len W9 (PreOf R mc ms Pc) (PostOf Qc mc ms free) (vx_Post XC mc ms free) := by
  intro m meth c A g ig mk a X hg hsize hdg hW hn hp
  have h1 : (headSpec ws rm).pre.before a A.U = true := atoms_intro fun w hw => hws w hw _ _ X.warmed
  have h2 : (Cond.codeWith y bytes maxL ret hh).before a A.U = true := hws _ hcode _ _ X.warmed
  have h3 : (Cond.initialized y.cls).before a A.U = true := hinit _ _ X.warmed
  have h4 : A.cells + (headSpec ws rm).room.cells ≤ R.cells := by rw [show (headSpec ws rm).room.cells = mc from hrc]; exact hp.1
  have h5 : A.slots + (headSpec ws rm).room.slots ≤ R.slots := by rw [show (headSpec ws rm).room.slots = ms from hrs]; exact hp.2.1
  have hPc : Pc a (A.U.calling g mk a) := hblind _ _ _ _ hp.2.2
  obtain ⟨U, Ls, c0, s0⟩ := A
  dsimp only [Pt.U, Pt.locs, Pt.cells, Pt.slots] at h1 h2 h3 h4 h5 X hn hPc ⊢
  obtain ⟨m9, methY, cY, hn9, hmY, hcY, -, hlY, -⟩ := Cond.codeWith_spec h2
  cases Option.some.inj (hn9.symm.trans hn)
  obtain ⟨kY, hkY, -⟩ := className_of_methodNamed hn
  have hinitY : kY.init = .initialized := Cond.initialized_spec (findClass_of_methodNamed hn) hkY h3
  have h : At U g.method c below := by rw [hg]; exact X.here
  have hlocals9 : W9 + (maxL + 11) + (headSpec ws rm).room.locals ≤ R.locals := hlocals
  have happ : (headSpec ws rm).appliesLoose y e.platform (U.calling g mk a) = true :=
    Spec.appliesLoose_calling (g := g) h hdg hn hkY hinitY
      (X.room_calling (g := g) (R' := (headSpec ws rm).room) hsize hmY hcY hframes (by rw [hlY]; omega) h4 h5) h1
  obtain ⟨mid, hmid⟩ := h.above
  have hfr : (U.setTop g).frames = (.java g :: mid) ++ below := by rw [State.frames_setTop' g h.top, hmid]; rfl
  obtain ⟨o, s₂, hsteps, -, hend, hq⟩ := Steps.callFree hM p X.admits X.cas X.clock (acts := []) hfr happ hPc trivial
  have hq' : vx_Q Qc XC mc ms free a (U.calling g mk a) o s₂ := hq
  rw [State.frames_setTop' g h.top] at hend
  obtain ⟨g₀, hg0⟩ := Option.isSome_iff_exists.mp h.top
  obtain ⟨r, hr⟩ := State.topJava?_eq_some.mp hg0
  have hr' : (({ U with heap := s₂.heap, slotsUsed := s₂.slotsUsed } : State).setVm s₂.vm).frames = .java g₀ :: r := hr
  rcases hq' with ⟨hqc, L, hfe, hL⟩ | ⟨q, rfl, E, ce, L, hx, hce, hcv, hcl, hW₂, hsm, hL⟩
  · obtain ⟨⟨v, rfl⟩, hW₂, e2, q2, q3, q4, q5, q6⟩ := id hfe
    have e3 : s₂ = ({ (U.calling g mk a).setFrames s₂.frames with heap := s₂.heap, slotsUsed := s₂.slotsUsed } : State).setVm s₂.vm := by
      have : s₂ = ({ s₂ with vm := (U.calling g mk a).vm } : State).setVm s₂.vm := rfl
      rw [e2] at this
      exact this
    obtain ⟨c₂, i₂, len₂, hc₂, hd₂, hf₂⟩ := hend
    have hW' : U.WarmedH s₂.vm := hW₂
    have hcc : c₂ = c := by
      have h1 : s₂.code? g.method = U.code? g.method := by
        rw [State.code?_eq, State.code?_eq, hW'.alike.method?]
      exact Option.some.inj (hc₂.symm.trans (h1.trans h.code))
    subst hcc
    have hlen : len₂ = len := by rw [hdg] at hd₂; cases hd₂; rfl
    subst hlen
    have hs₂ : s₂ = (({ U with heap := s₂.heap, slotsUsed := s₂.slotsUsed } : State).setVm s₂.vm).setTop { g with pc := g.pc + len₂, stack := v.toList ++ g.stack } := by
      refine e3.trans ?_
      rw [hf₂, State.calling_eq h.top, State.setFrames_setFrames, State.setTop_of_frames _ hr', hr]
      rfl
    have hsame : U.sameButNew ({ U with heap := s₂.heap, slotsUsed := s₂.slotsUsed } : State) L mc ms := by
      refine ⟨?_, q2, q3, q4, q5, q6⟩
      obtain ⟨t, ht, -⟩ := State.frames_cons hr
      show ({ U with heap := s₂.heap, slotsUsed := s₂.slotsUsed } : State) = { U.setFrames U.frames with heap := s₂.heap, slotsUsed := s₂.slotsUsed }
      rw [State.setFrames_self ht]
    subst hg
    refine Or.inl ⟨v, ⟨(({ U with heap := s₂.heap, slotsUsed := s₂.slotsUsed } : State).setVm s₂.vm), Ls ++ L, c0 + mc, s0 + ms⟩,
      ⟨X.admits, X.cas, X.clock, X.frames, X.room, X.hears, X.method, X.code, (X.here.setHeapUsed s₂.heap s₂.slotsUsed).setVm hW'.alike, X.tail, State.WarmedH.trans X.warmed hW', X.limits, X.bytes, X.same.trans (hsame.setVm s.vm)⟩,
      ⟨g, mk, s₂, L, rfl, rfl, hqc, rfl, hL, rfl, rfl⟩, ?_⟩
    show Steps p.tables e below _ ((({ U with heap := s₂.heap, slotsUsed := s₂.slotsUsed } : State).setVm s₂.vm).setTop { g with pc := g.pc + len₂, stack := v.toList ++ g.stack })
    rw [← hs₂]
    exact hsteps
  · obtain ⟨e2, q2, q3, q4, q5, q6⟩ := id hsm
    have e3 : s₂ = ({ (U.calling g mk a).setFrames s₂.frames with heap := s₂.heap, slotsUsed := s₂.slotsUsed } : State).setVm s₂.vm := by
      have : s₂ = ({ s₂ with vm := (U.calling g mk a).vm } : State).setVm s₂.vm := rfl
      rw [e2] at this
      exact this
    have hf₂ : s₂.frames = .throwing q :: .java g :: U.frames.tail := hend
    have hW' : U.WarmedH s₂.vm := hW₂
    have hs₂ : s₂ = ((({ U with heap := s₂.heap, slotsUsed := s₂.slotsUsed } : State).setVm s₂.vm).setTop g).pushFrame (.throwing q) := by
      refine e3.trans ?_
      rw [hf₂, State.calling_eq h.top, State.setFrames_setFrames, State.pushFrame, State.frames_setTop _ hr', State.setTop_of_frames _ hr', State.setFrames_setFrames, hr]
      rfl
    have hsame : U.sameButNew ({ U with heap := s₂.heap, slotsUsed := s₂.slotsUsed } : State) L mc ms := by
      refine ⟨?_, q2, q3, q4, q5, q6⟩
      obtain ⟨t, ht, -⟩ := State.frames_cons hr
      show ({ U with heap := s₂.heap, slotsUsed := s₂.slotsUsed } : State) = { U.setFrames U.frames with heap := s₂.heap, slotsUsed := s₂.slotsUsed }
      rw [State.setFrames_self ht]
    subst hg
    refine Or.inr ⟨q, ⟨(({ U with heap := s₂.heap, slotsUsed := s₂.slotsUsed } : State).setVm s₂.vm), Ls ++ L, c0 + mc, s0 + ms⟩,
      ⟨X.admits, X.cas, X.clock, X.frames, X.room, X.hears, X.method, X.code, (X.here.setHeapUsed s₂.heap s₂.slotsUsed).setVm hW'.alike, X.tail, State.WarmedH.trans X.warmed hW', X.limits, X.bytes, X.same.trans (hsame.setVm s.vm)⟩,
      ⟨g, mk, s₂, L, E, ce, rfl, rfl, hx, hce, hcv, hcl, rfl, hL, rfl, rfl⟩, ?_⟩
    show Steps p.tables e below _ (((({ U with heap := s₂.heap, slotsUsed := s₂.slotsUsed } : State).setVm s₂.vm).setTop g).pushFrame (.throwing q))
    rw [← hs₂]
    exact hsteps
end
variable {p : Program} {l : Launch} {e : Env} {R : Room} {s : State} {m : MethodId} {args : Array Value} {below : List Frame} {meth : Method} {c : Code} {T : State} {H : Heap} {locs : List Loc} {cells slots : Nat}
theorem vx_callVX (X : Stand p l e R s m args below meth c T locs cells slots) (hexec : p.tables.exec = Jvm.exec) {own C : String} {index : Nat} {y : MethodName} {bytes : ByteArray} {maxL : Nat} {ret : Option FieldType} {hh : List (Nat × Nat × Nat × Nat)}
    (hown : s.vm.findClass own = some m.cls) (hlink : (Cond.methodLink own index y).before args s = true) (hinst : (Cond.instanceMethod y).before args s = true) (hsel : (Cond.selects C y y).before args s = true)
    (hcode : (Cond.codeWith y bytes maxL ret hh).before args s = true) (hy : y.cls ≠ "java/lang/invoke/MethodHandle" ∧ y.cls ≠ "java/lang/invoke/VarHandle")
    {W9 : Nat} {Pre : Pt → Array Value → Prop} {Post : Pt → Array Value → Option Value → Pt → Prop} {PostX : Pt → Array Value → Addr → Pt → Prop} (hK : vx_Back l R p e below s args y 3 W9 Pre Post PostX)
    {b : Addr} {cellB : Cell} (hcell : T.heap[b]? = some cellB) (hobj : cellB.vm.isStatics = false) (hcls : s.vm.findClass C = some cellB.cls)
    {g : JFrame} (hg : g.method = m) (hsize : g.locals.size = c.maxLocals) {argsL rest : List Value} (hlen : ∀ sig, parseMethodDescriptor y.desc = some sig → argsL.length = sig.parameters.length)
    (hstack : g.stack = argsL.reverse ++ .ref b :: rest) (hW : 2 * g.monitorRoom + (rest.map fun v => v.category).sum ≤ W9) (hdg : decode c.code g.pc = .ok (.invokevirtual index, 3))
    (hpre : ∀ vm₁, s.WarmedH vm₁ → Pre ⟨T.setVm vm₁, locs, cells, slots⟩ (Value.ref b :: argsL).toArray) :
    (∃ (v : Option Value) (vm₁ : Vm) (B : Pt), s.WarmedH vm₁ ∧ Stand p l e R s m args below meth c B.U B.locs B.cells B.slots ∧ Post ⟨T.setVm vm₁, locs, cells, slots⟩ (Value.ref b :: argsL).toArray v B ∧
      ∀ target, Steps p.tables e below (B.U.setTop { g with pc := g.pc + 3, stack := v.toList ++ rest }) target → Steps p.tables e below (T.setTop g) target) ∨
    (∃ (q : Addr) (vm₁ : Vm) (B : Pt), s.WarmedH vm₁ ∧ Stand p l e R s m args below meth c B.U B.locs B.cells B.slots ∧ PostX ⟨T.setVm vm₁, locs, cells, slots⟩ (Value.ref b :: argsL).toArray q B ∧
      Steps p.tables e below (T.setTop g) ((B.U.setTop { g with stack := rest }).pushFrame (.throwing q))) := by
  obtain ⟨mk, methM, hnamed, hmethM, hstM, habM⟩ := Cond.instanceMethod_spec hinst
  obtain ⟨m8, methM', cM, hn8, hmethM', -, -, -, -, -, -, hsigM⟩ := Cond.codeWith_spec hcode
  cases Option.some.inj (hn8.symm.trans hnamed)
  cases hmethM.symm.trans hmethM'
  obtain ⟨c2, r2, m2, q1, q2, q3, q4, kP, hkP, hkPi⟩ := Cond.selects_spec hsel
  cases hcls.symm.trans q1
  cases (State.methodFound?_of_named hnamed hy).symm.trans q2
  cases hnamed.symm.trans q3
  have hselP : selectMethod e.platform s.vm cellB.cls mk = .method mk := by rw [Launch.admits_selectMethod X.admits]; exact q4
  obtain ⟨vm₁, X₁, hstep₁⟩ := X.invokevirtual hexec hown hlink hnamed hmethM hstM hkP hkPi hy (a := b) (cell := cellB) hcell
    (fun z h => by rw [h] at hobj; cases hobj) hselP hmethM habM hkP hkPi (g := g) hg (argsL := argsL) (rest := rest) (hlen _ hsigM) hstack hdg
  rcases hK m meth c ⟨T.setVm vm₁, locs, cells, slots⟩ { g with stack := rest } (.invokevirtual index) mk (Value.ref b :: argsL).toArray X₁ hg hsize hdg hW (X₁.named hnamed) (hpre vm₁ X₁.warmed) with ⟨v, B, X', hpost, hsteps⟩ | ⟨q, B, X', hpost, hsteps⟩
  · exact Or.inl ⟨v, vm₁, B, X₁.warmed, X', hpost, fun target h => hstep₁ _ fun acts => by rw [doInvoke_state]; exact hsteps.trans h⟩
  · exact Or.inr ⟨q, vm₁, B, X₁.warmed, X', hpost, hstep₁ _ fun acts => by rw [doInvoke_state]; exact hsteps⟩
theorem vx_callSX (X : Stand p l e R s m args below meth c T locs cells slots) (hexec : p.tables.exec = Jvm.exec) {own : String} {index : Nat} {y : MethodName} {bytes : ByteArray} {maxL : Nat} {ret : Option FieldType} {hh : List (Nat × Nat × Nat × Nat)}
    (hown : s.vm.findClass own = some m.cls) (hlink : (Cond.methodLink own index y).before args s = true) (hstat : (Cond.static y).before args s = true) (hinit : (Cond.initialized y.cls).before args s = true)
    (hcode : (Cond.codeWith y bytes maxL ret hh).before args s = true) (hy : y.cls ≠ "java/lang/invoke/MethodHandle" ∧ y.cls ≠ "java/lang/invoke/VarHandle")
    {W9 : Nat} {Pre : Pt → Array Value → Prop} {Post : Pt → Array Value → Option Value → Pt → Prop} {PostX : Pt → Array Value → Addr → Pt → Prop} (hK : vx_Back l R p e below s args y 3 W9 Pre Post PostX)
    {g : JFrame} (hg : g.method = m) (hsize : g.locals.size = c.maxLocals) {argsL rest : List Value} (hlen : ∀ sig, parseMethodDescriptor y.desc = some sig → argsL.length = sig.parameters.length)
    (hstack : g.stack = argsL.reverse ++ rest) (hW : 2 * g.monitorRoom + (rest.map fun v => v.category).sum ≤ W9) (hdg : decode c.code g.pc = .ok (.invokestatic index, 3))
    (hpre : ∀ vm₁, s.WarmedH vm₁ → Pre ⟨T.setVm vm₁, locs, cells, slots⟩ argsL.toArray) :
    (∃ (v : Option Value) (vm₁ : Vm) (B : Pt), s.WarmedH vm₁ ∧ Stand p l e R s m args below meth c B.U B.locs B.cells B.slots ∧ Post ⟨T.setVm vm₁, locs, cells, slots⟩ argsL.toArray v B ∧
      ∀ target, Steps p.tables e below (B.U.setTop { g with pc := g.pc + 3, stack := v.toList ++ rest }) target → Steps p.tables e below (T.setTop g) target) ∨
    (∃ (q : Addr) (vm₁ : Vm) (B : Pt), s.WarmedH vm₁ ∧ Stand p l e R s m args below meth c B.U B.locs B.cells B.slots ∧ PostX ⟨T.setVm vm₁, locs, cells, slots⟩ argsL.toArray q B ∧
      Steps p.tables e below (T.setTop g) ((B.U.setTop { g with stack := rest }).pushFrame (.throwing q))) := by
  obtain ⟨mk, methM, cM, hnamed, hmethM, -, -, -, -, -, -, hsigM⟩ := Cond.codeWith_spec hcode
  have hstatic : methM.isStatic = true := Cond.static_spec hnamed hmethM hstat
  obtain ⟨kP, hkP, -⟩ := className_of_methodNamed hnamed
  have hinitP : kP.init = .initialized := Cond.initialized_spec (findClass_of_methodNamed hnamed) hkP hinit
  obtain ⟨vm₁, X₁, hstep₁⟩ := X.invokestatic hexec hown hlink hnamed hmethM hstatic hkP hinitP hy (g := g) hg (argsL := argsL) (rest := rest) (hlen _ hsigM) hstack hdg
  rcases hK m meth c ⟨T.setVm vm₁, locs, cells, slots⟩ { g with stack := rest } (.invokestatic index) mk argsL.toArray X₁ hg hsize hdg hW (X₁.named hnamed) (hpre vm₁ X₁.warmed) with ⟨v, B, X', hpost, hsteps⟩ | ⟨q, B, X', hpost, hsteps⟩
  · exact Or.inl ⟨v, vm₁, B, X₁.warmed, X', hpost, fun target h => hstep₁ _ fun acts => by rw [doInvoke_state]; exact hsteps.trans h⟩
  · exact Or.inr ⟨q, vm₁, B, X₁.warmed, X', hpost, hstep₁ _ fun acts => by rw [doInvoke_state]; exact hsteps⟩
theorem vx_callVW (X : Stand p l e R s m args below meth c T locs cells slots) (hexec : p.tables.exec = Jvm.exec) {own C : String} {index : Nat} {y : MethodName} {bytes : ByteArray} {maxL : Nat} {ret : Option FieldType} {hh : List (Nat × Nat × Nat × Nat)}
    (hown : s.vm.findClass own = some m.cls) (hlink : (Cond.methodLink own index y).before args s = true) (hinst : (Cond.instanceMethod y).before args s = true) (hsel : (Cond.selects C y y).before args s = true)
    (hcode : (Cond.codeWith y bytes maxL ret hh).before args s = true) (hy : y.cls ≠ "java/lang/invoke/MethodHandle" ∧ y.cls ≠ "java/lang/invoke/VarHandle")
    {W9 : Nat} {Pre : Pt → Array Value → Prop} {Post : Pt → Array Value → Option Value → Pt → Prop} (hK : Back l R p e below s args y 3 W9 Pre Post)
    {b : Addr} {cellB : Cell} (hcell : T.heap[b]? = some cellB) (hobj : cellB.vm.isStatics = false) (hcls : s.vm.findClass C = some cellB.cls)
    {g : JFrame} (hg : g.method = m) (hsize : g.locals.size = c.maxLocals) {argsL rest : List Value} (hlen : ∀ sig, parseMethodDescriptor y.desc = some sig → argsL.length = sig.parameters.length)
    (hstack : g.stack = argsL.reverse ++ .ref b :: rest) (hW : 2 * g.monitorRoom + (rest.map fun v => v.category).sum ≤ W9) (hdg : decode c.code g.pc = .ok (.invokevirtual index, 3))
    (hpre : ∀ vm₁, s.WarmedH vm₁ → Pre ⟨T.setVm vm₁, locs, cells, slots⟩ (Value.ref b :: argsL).toArray) :
    ∃ (v : Option Value) (vm₁ : Vm) (B : Pt), s.WarmedH vm₁ ∧ Stand p l e R s m args below meth c B.U B.locs B.cells B.slots ∧ Post ⟨T.setVm vm₁, locs, cells, slots⟩ (Value.ref b :: argsL).toArray v B ∧
      ∀ target, Steps p.tables e below (B.U.setTop { g with pc := g.pc + 3, stack := v.toList ++ rest }) target → Steps p.tables e below (T.setTop g) target := by
  obtain ⟨mk, methM, hnamed, hmethM, hstM, habM⟩ := Cond.instanceMethod_spec hinst
  obtain ⟨m8, methM', cM, hn8, hmethM', -, -, -, -, -, -, hsigM⟩ := Cond.codeWith_spec hcode
  cases Option.some.inj (hn8.symm.trans hnamed)
  cases hmethM.symm.trans hmethM'
  obtain ⟨c2, r2, m2, q1, q2, q3, q4, kP, hkP, hkPi⟩ := Cond.selects_spec hsel
  cases hcls.symm.trans q1
  cases (State.methodFound?_of_named hnamed hy).symm.trans q2
  cases hnamed.symm.trans q3
  have hselP : selectMethod e.platform s.vm cellB.cls mk = .method mk := by rw [Launch.admits_selectMethod X.admits]; exact q4
  obtain ⟨vm₁, X₁, hstep₁⟩ := X.invokevirtual hexec hown hlink hnamed hmethM hstM hkP hkPi hy (a := b) (cell := cellB) hcell
    (fun z h => by rw [h] at hobj; cases hobj) hselP hmethM habM hkP hkPi (g := g) hg (argsL := argsL) (rest := rest) (hlen _ hsigM) hstack hdg
  obtain ⟨v, B, X', hpost, hsteps⟩ := hK m meth c ⟨T.setVm vm₁, locs, cells, slots⟩ { g with stack := rest } (.invokevirtual index) mk (Value.ref b :: argsL).toArray X₁ hg hsize hdg hW (X₁.named hnamed) (hpre vm₁ X₁.warmed)
  exact ⟨v, vm₁, B, X₁.warmed, X', hpost, fun target h => hstep₁ _ fun acts => by rw [doInvoke_state]; exact hsteps.trans h⟩
abbrev vx_CVW (R : Room) (s : State) (args : Array Value) (own C : String) (index : Nat) (y : MethodName) (bytes : ByteArray) (maxL : Nat) (ret : Option FieldType) (hh : List (Nat × Nat × Nat × Nat)) (ws : List Cond) (rm : Room) (mc ms n : Nat) : Prop :=
  (rm.cells = mc ∧ rm.slots = ms ∧ rm.frames + 1 ≤ R.frames ∧ 8 + (maxL + 11) + rm.locals ≤ R.locals ∧ (∀ w ∈ ws, ∀ (a' : Array Value) (U : State), s.WarmedH U.vm → w.before a' U = true) ∧ Cond.codeWith y bytes maxL ret hh ∈ ws) ∧
  (Cond.codeWith y bytes maxL ret hh).before args s = true ∧ (Cond.initialized y.cls).before args s = true ∧ (y.cls ≠ "java/lang/invoke/MethodHandle" ∧ y.cls ≠ "java/lang/invoke/VarHandle") ∧
  (∀ sig, parseMethodDescriptor y.desc = some sig → n = sig.parameters.length) ∧ (Cond.methodLink own index y).before args s = true ∧ (Cond.instanceMethod y).before args s = true ∧ (Cond.selects C y y).before args s = true
theorem vx_cwVW {own C : String} {index maxL mc ms : Nat} {y : MethodName} {bytes : ByteArray} {ret : Option FieldType} {hh : List (Nat × Nat × Nat × Nat)} {Ts ws ws' : List Cond} {rm : Room} (n : Nat) (ht : ∀ w ∈ Ts, w.before args s = true) (hT : GoodIn Ts (wsV own index C y ws)) (hw : ws = Cond.codeWith y bytes maxL ret hh :: ws') (hrc : rm.cells = mc) (hrs : rm.slots = ms)
    (hd : y.cls = C ∧ y.cls ≠ "java/lang/invoke/MethodHandle" ∧ y.cls ≠ "java/lang/invoke/VarHandle" ∧ (parseMethodDescriptor y.desc).map (fun d => d.parameters.length) = some n) (hR : rm.frames + 1 ≤ R.frames ∧ 8 + (maxL + 11) + rm.locals ≤ R.locals) :
    vx_CVW R s args own C index y bytes maxL ret hh ws rm mc ms n := by
  obtain ⟨hC, hd⟩ := hd
  subst hC
  have ok : ∀ w ∈ wsV own index y.cls y ws, w.before args s = true := fun w h => ht w (hT w h).1
  have hG : GoodIn Ts ws := fun w h => hT w (by unfold wsV; exact List.mem_append_right _ h)
  have hc : Cond.codeWith y bytes maxL ret hh ∈ ws := by rw [hw]; exact List.mem_cons_self
  refine ⟨⟨hrc, hrs, hR.1, hR.2, pay_in ht hG, hc⟩, ht _ (hG _ hc).1, ok _ (by simp [wsV]), ⟨hd.1, hd.2.1⟩, fun sig h => ?_, ok _ (by simp [wsV]), ok _ (by simp [wsV]), ok _ (by simp [wsV])⟩
  have h2 := hd.2.2
  rw [h] at h2
  exact (Option.some.inj h2).symm
theorem vx_runVW {y : MethodName} {bytes cc : ByteArray} {maxL nL mc ms n index : Nat} {ret : Option FieldType} {hh : List (Nat × Nat × Nat × Nat)} {ws : List Cond} {rm : Room} {Pc : Array Value → State → Prop} {Qc : Array Value → State → Outcome → State → Prop} {free : Addr → Prop} {Ts : List Cond} {own C : String} {b : Addr} {As rest : List Value} {g : JFrame}
    (S : CallFix p m c cc nL s args Ts own) (hM : Met l y ws rm Pc Qc mc ms free) (cw : vx_CVW R s args own C index y bytes maxL ret hh ws rm mc ms n) (hp : PreV s H C b Pc As)
    (hg : g.method = m) (hn : As.length = n) (hsize : g.locals.size = nL) (hstack : g.stack = As.reverse ++ .ref b :: rest) (hW : 2 * g.monitorRoom + (rest.map fun v => v.category).sum ≤ 8) (hdg : decode cc g.pc = .ok (.invokevirtual index, 3)) (hf : cells + mc ≤ R.cells ∧ slots + ms ≤ R.slots) :
    va_Run p l e R s m args below meth c H locs cells slots mc ms g rest (Qc (Value.ref b :: As).toArray) free := by
  obtain ⟨⟨hrc, hrs, hfr, hlo, hws, hcw⟩, hcode, hini, hy, hlen, hl, hin, hse⟩ := cw
  have hK : Back l R p e below s args y 3 8 (PreOf R mc ms Pc) (PostOf Qc mc ms free) := va_backW (hh := hh) (bytes := bytes) (maxL := maxL) (ret := ret) hM hp.1 hrc hrs hfr hlo hws hcw (fun a' U hW => word_at hW (Or.inl (by first | rfl | simp [Cond.onTables, Cond.keeps, Cond.steady])) hini)
  obtain ⟨hx, hb, hml, ho, -⟩ := S
  obtain ⟨-, ⟨cellB, hcB, hoB, hclB⟩, hPc⟩ := hp
  intro T hT X
  obtain ⟨v, vm₁, ⟨U', l2, c2, s2⟩, hW₁, X', ⟨g', mk, t, L, e1, e2, hq, h1, hL, h2, h3⟩, st⟩ := vx_callVW X hx (C := C) (hh := hh) (bytes := bytes) (maxL := maxL) (ret := ret) ho hl hin hse hcode hy hK (by rw [hT]; exact hcB) hoB hclB hg (hsize.trans hml.symm) (argsL := As) (rest := rest) (fun sig h => hn.trans (hlen sig h)) hstack hW (by rw [hb]; exact hdg)
    (fun vm₁ hW₁ => ⟨hf.1, hf.2, hPc (T.setVm vm₁) hT hW₁⟩)
  dsimp only [Pt.U, Pt.locs, Pt.cells, Pt.slots] at X' e1 e2 h1 h2 h3 st
  subst h1; subst h2; subst h3
  exact ⟨v, (T.setVm vm₁).calling g' mk (Value.ref b :: As).toArray, t, U', L, hT, X', hL, e1, e2, hq, st⟩
section
variable {y : MethodName} {bytes cc : ByteArray} {maxL nL mc ms n index : Nat} {ret : Option FieldType} {ws : List Cond} {rm : Room} {Pc : Array Value → State → Prop} {Qc : Array Value → State → Outcome → State → Prop} {XC : String → State → State → Prop} {free : Addr → Prop} {Ts : List Cond} {own C : String} {b : Addr} {As rest : List Value} {g : JFrame}
theorem vx_runVX {hh : List (Nat × Nat × Nat × Nat)} (S : CallFix p m c cc nL s args Ts own) (hM : vx_Met l y ws rm Pc Qc XC mc ms free) (cw : vx_CVW R s args own C index y bytes maxL ret hh ws rm mc ms n) (hp : PreV s H C b Pc As)
    (hg : g.method = m) (hn : As.length = n) (hsize : g.locals.size = nL) (hstack : g.stack = As.reverse ++ .ref b :: rest) (hW : 2 * g.monitorRoom + (rest.map fun v => v.category).sum ≤ 8) (hdg : decode cc g.pc = .ok (.invokevirtual index, 3)) (hf : cells + mc ≤ R.cells ∧ slots + ms ≤ R.slots) :
    vx_Run p l e R s m args below meth c H locs cells slots mc ms g rest (Qc (Value.ref b :: As).toArray) XC free := by
  obtain ⟨⟨hrc, hrs, hfr, hlo, hws, hcw⟩, hcode, hini, hy, hlen, hl, hin, hse⟩ := cw
  have hK : vx_Back l R p e below s args y 3 8 (PreOf R mc ms Pc) (PostOf Qc mc ms free) (vx_Post XC mc ms free) := vx_backW (hh := hh) (bytes := bytes) (maxL := maxL) (ret := ret) hM hp.1 hrc hrs hfr hlo hws hcw (fun a' U hW => word_at hW (Or.inl (by first | rfl | simp [Cond.onTables, Cond.keeps, Cond.steady])) hini)
  obtain ⟨hx, hb, hml, ho, -⟩ := S
  obtain ⟨-, ⟨cellB, hcB, hoB, hclB⟩, hPc⟩ := hp
  intro T hT X
  rcases vx_callVX X hx (C := C) (hh := hh) (bytes := bytes) (maxL := maxL) (ret := ret) ho hl hin hse hcode hy hK (by rw [hT]; exact hcB) hoB hclB hg (hsize.trans hml.symm) (argsL := As) (rest := rest) (fun sig h => hn.trans (hlen sig h)) hstack hW (by rw [hb]; exact hdg)
    (fun vm₁ hW₁ => ⟨hf.1, hf.2, hPc (T.setVm vm₁) hT hW₁⟩) with ⟨v, vm₁, ⟨U', l2, c2, s2⟩, hW₁, X', ⟨g', mk, t, L, e1, e2, hq, h1, hL, h2, h3⟩, st⟩ | ⟨q, vm₁, ⟨U', l2, c2, s2⟩, hW₁, X', ⟨g', mk, t, L, E, ce, e1, e2, hq, hce, hcv, hcl, h1, hL, h2, h3⟩, st⟩
  · dsimp only [Pt.U, Pt.locs, Pt.cells, Pt.slots] at X' e1 e2 h1 h2 h3 st
    subst h1; subst h2; subst h3
    exact Or.inl ⟨v, (T.setVm vm₁).calling g' mk (Value.ref b :: As).toArray, t, U', L, hT, X', hL, e1, e2, hq, st⟩
  · dsimp only [Pt.U, Pt.locs, Pt.cells, Pt.slots] at X' e1 e2 h1 h2 h3 st hcl
    subst h1; subst h2; subst h3
    exact Or.inr ⟨q, (T.setVm vm₁).calling g' mk (Value.ref b :: As).toArray, t, U', L, E, ce, hT, X', hL, e1, e2, hq, hce, hcv, vx_cls hW₁ hcl, st⟩
theorem vx_runSX {hh : List (Nat × Nat × Nat × Nat)} (S : CallFix p m c cc nL s args Ts own) (hM : vx_Met l y ws rm Pc Qc XC mc ms free) (cw : vx_CSW R s args own index y bytes maxL ret hh ws rm mc ms n) (hp : PreS s H Pc As)
    (hg : g.method = m) (hn : As.length = n) (hsize : g.locals.size = nL) (hstack : g.stack = As.reverse ++ rest) (hW : 2 * g.monitorRoom + (rest.map fun v => v.category).sum ≤ 8) (hdg : decode cc g.pc = .ok (.invokestatic index, 3)) (hf : cells + mc ≤ R.cells ∧ slots + ms ≤ R.slots) :
    vx_Run p l e R s m args below meth c H locs cells slots mc ms g rest (Qc As.toArray) XC free := by
  obtain ⟨⟨hrc, hrs, hfr, hlo, hws, hcw⟩, hcode, hini, hy, hlen, hl, hstt⟩ := cw
  have hK : vx_Back l R p e below s args y 3 8 (PreOf R mc ms Pc) (PostOf Qc mc ms free) (vx_Post XC mc ms free) := vx_backW (hh := hh) (bytes := bytes) (maxL := maxL) (ret := ret) hM hp.1 hrc hrs hfr hlo hws hcw (fun a' U hW => word_at hW (Or.inl (by first | rfl | simp [Cond.onTables, Cond.keeps, Cond.steady])) hini)
  obtain ⟨hx, hb, hml, ho, -⟩ := S
  intro T hT X
  rcases vx_callSX X hx (hh := hh) (bytes := bytes) (maxL := maxL) (ret := ret) ho hl hstt hini hcode hy hK hg (hsize.trans hml.symm) (argsL := As) (rest := rest) (fun sig h => hn.trans (hlen sig h)) hstack hW (by rw [hb]; exact hdg)
    (fun vm₁ hW₁ => ⟨hf.1, hf.2, hp.2 (T.setVm vm₁) hT hW₁⟩) with ⟨v, vm₁, ⟨U', l2, c2, s2⟩, hW₁, X', ⟨g', mk, t, L, e1, e2, hq, h1, hL, h2, h3⟩, st⟩ | ⟨q, vm₁, ⟨U', l2, c2, s2⟩, hW₁, X', ⟨g', mk, t, L, E, ce, e1, e2, hq, hce, hcv, hcl, h1, hL, h2, h3⟩, st⟩
  · dsimp only [Pt.U, Pt.locs, Pt.cells, Pt.slots] at X' e1 e2 h1 h2 h3 st
    subst h1; subst h2; subst h3
    exact Or.inl ⟨v, (T.setVm vm₁).calling g' mk As.toArray, t, U', L, hT, X', hL, e1, e2, hq, st⟩
  · dsimp only [Pt.U, Pt.locs, Pt.cells, Pt.slots] at X' e1 e2 h1 h2 h3 st hcl
    subst h1; subst h2; subst h3
    exact Or.inr ⟨q, (T.setVm vm₁).calling g' mk As.toArray, t, U', L, E, ce, hT, X', hL, e1, e2, hq, hce, hcv, vx_cls hW₁ hcl, st⟩
end
end VXH
theorem vx_ofWH {l : Launch} {y : MethodName} {ws ws' : List Cond} {rm : Room} {Pc : Array Value → State → Prop} {Qc : Array Value → State → Outcome → State → Prop} {XC : String → State → State → Prop} {mc ms : Nat} {free : Addr → Prop} {cc : ByteArray} {maxL : Nat} {ret : Option FieldType} {hh : List (Nat × Nat × Nat × Nat)}
    (hy : plainName y.cls = true) (hw : ws = Cond.codeWith y cc maxL ret hh :: ws')
    (body : ∀ p e s m args below meth c s₁, BodyLoose p l y (headSpec ws rm) cc maxL ret e s m args below meth c s₁ → c.maxLocals = maxL → Pc args s →
      W p l e (headSpec ws rm).room s m args below meth c s.heap [] 0 0 (vx_MQ below Qc XC args s mc ms free) (entryFrame m args maxL)) : vx_Met l y ws rm Pc Qc XC mc ms free := by
  refine MetFree.of_bodyS (code := cc) (maxLocals := maxL) (ret := ret) hy ?_ ?_
  · intro args s m h hn
    obtain ⟨m9, meth, c, hn9, h1, h2, h3, h4, -, h5, h6, -⟩ := Cond.codeWith_spec (atoms_spec (ws := ws) h _ (by rw [hw]; exact List.mem_cons_self))
    cases hn.symm.trans hn9
    exact ⟨meth, c, h1, h2, h3, h4, h5, h6⟩
  · intro p e s m args below meth c s₁ B hml hP _
    have hh0 : s₁.heap = s.heap := by rw [B.state]; rfl
    obtain ⟨t, a1, o, b1, b2, b3⟩ := body p e s m args below meth c s₁ B hml hP s₁ hh0 (Stand.of_body B)
    exact ⟨t, o, a1, b1, b2, b3⟩
/-! ===== END ===== -/

/-! ===== BEGIN printed: names, fields, word lists, decode rows ===== -/
def RX0 : String := "SiloPads$Ship"
def TX0 : u_T := fun k => match k with
  | 0 => ("SiloPads$Ship", "tonnes", "I", false)
  | _ => ("SiloPads$Ship", "hold", "I", false)
def tyX0 : Nat → FieldType := fun k => match k with
  | 0 => .int
  | _ => .int
abbrev wsX00 : List Cond := u_ws RX0 TX0 2
theorem nmX0 : ∀ a, a < 2 → ∀ b, b < 2 → a ≠ b → (TX0 a).2.1 ≠ (TX0 b).2.1 := by decide +kernel
theorem tyX0_ok : ∀ k, k < 2 → parseFieldDescriptor (TX0 k).2.2.1 = some (tyX0 k) := by decide +kernel
abbrev cX0_init : ByteArray := prog_2_method_1_code
def yX0_init : MethodName := ⟨RX0, "<init>", "()V"⟩
abbrev cX0_becomeLike : ByteArray := prog_2_method_2_code
def yX0_becomeLike : MethodName := ⟨RX0, "becomeLike", "(LSiloPads$Ship;)V"⟩
abbrev cX0_room : ByteArray := prog_2_method_3_code
def yX0_room : MethodName := ⟨RX0, "room", "()I"⟩
def RX1 : String := "SiloPads$Silo"
def TX1 : u_T := fun k => match k with
  | 0 => ("SiloPads$Silo", "tonnes", "[I", true)
  | 1 => ("SiloPads$Silo", "ages", "[I", true)
  | 2 => ("SiloPads$Silo", "layers", "I", false)
  | 3 => ("SiloPads$Silo", "padsOn", "I", false)
  | 4 => ("SiloPads$Silo", "arch", "I", false)
  | _ => ("SiloPads$Silo", "shakes", "I", false)
def tyX1 : Nat → FieldType := fun k => match k with
  | 0 => .array .int
  | 1 => .array .int
  | 2 => .int
  | 3 => .int
  | 4 => .int
  | _ => .int
abbrev wsX10 : List Cond := u_ws RX1 TX1 6
theorem nmX1 : ∀ a, a < 6 → ∀ b, b < 6 → a ≠ b → (TX1 a).2.1 ≠ (TX1 b).2.1 := by decide +kernel
theorem tyX1_ok : ∀ k, k < 6 → parseFieldDescriptor (TX1 k).2.2.1 = some (tyX1 k) := by decide +kernel
abbrev cX1_init : ByteArray := prog_3_method_1_code
def yX1_init : MethodName := ⟨RX1, "<init>", "()V"⟩
abbrev cX1_becomeLike : ByteArray := prog_3_method_2_code
def yX1_becomeLike : MethodName := ⟨RX1, "becomeLike", "(LSiloPads$Silo;)V"⟩
abbrev cX1_total : ByteArray := prog_3_method_3_code
def yX1_total : MethodName := ⟨RX1, "total", "()I"⟩
abbrev cX1_totalFrom : ByteArray := prog_3_method_4_code
def yX1_totalFrom : MethodName := ⟨RX1, "totalFrom", "(I)I"⟩
abbrev cX1_tonnesHeld : ByteArray := prog_3_method_5_code
def yX1_tonnesHeld : MethodName := ⟨RX1, "tonnesHeld", "()I"⟩
abbrev cX1_canGetArch : ByteArray := prog_3_method_6_code
def yX1_canGetArch : MethodName := ⟨RX1, "canGetArch", "()Z"⟩
abbrev cX1_placeOnTop : ByteArray := prog_3_method_7_code
def yX1_placeOnTop : MethodName := ⟨RX1, "placeOnTop", "()I"⟩
abbrev cX1_place : ByteArray := prog_3_method_8_code
def yX1_place : MethodName := ⟨RX1, "place", "()I"⟩
abbrev cX1_fill : ByteArray := prog_3_method_9_code
def yX1_fill : MethodName := ⟨RX1, "fill", "(I)V"⟩
abbrev cX1_takeFromLowest : ByteArray := prog_3_method_10_code
def yX1_takeFromLowest : MethodName := ⟨RX1, "takeFromLowest", "(I)V"⟩
abbrev cX1_makeOlder : ByteArray := prog_3_method_11_code
def yX1_makeOlder : MethodName := ⟨RX1, "makeOlder", "()V"⟩
abbrev cX1_makeLowestYounger : ByteArray := prog_3_method_12_code
def yX1_makeLowestYounger : MethodName := ⟨RX1, "makeLowestYounger", "()V"⟩
def RX2 : String := "SiloPads$TextReader"
def TX2 : u_T := fun k => match k with
  | 0 => ("SiloPads$TextReader", "place", "I", false)
  | 1 => ("SiloPads$TextReader", "silo", "I", false)
  | 2 => ("SiloPads$TextReader", "ship", "I", false)
  | 3 => ("SiloPads$TextReader", "kind", "I", false)
  | _ => ("SiloPads$TextReader", "number", "I", false)
def tyX2 : Nat → FieldType := fun k => match k with
  | 0 => .int
  | 1 => .int
  | 2 => .int
  | 3 => .int
  | _ => .int
abbrev wsX20 : List Cond := u_ws RX2 TX2 5
theorem nmX2 : ∀ a, a < 5 → ∀ b, b < 5 → a ≠ b → (TX2 a).2.1 ≠ (TX2 b).2.1 := by decide +kernel
theorem tyX2_ok : ∀ k, k < 5 → parseFieldDescriptor (TX2 k).2.2.1 = some (tyX2 k) := by decide +kernel
abbrev cX2_init : ByteArray := prog_4_method_1_code
def yX2_init : MethodName := ⟨RX2, "<init>", "()V"⟩
abbrev cX2_begin : ByteArray := prog_4_method_2_code
def yX2_begin : MethodName := ⟨RX2, "begin", "()V"⟩
abbrev cX2_isComplete : ByteArray := prog_4_method_3_code
def yX2_isComplete : MethodName := ⟨RX2, "isComplete", "()Z"⟩
abbrev cX2_take : ByteArray := prog_4_method_4_code
def yX2_take : MethodName := ⟨RX2, "take", "(I)Z"⟩
abbrev cX2_takePartStart : ByteArray := prog_4_method_5_code
def yX2_takePartStart : MethodName := ⟨RX2, "takePartStart", "(I)Z"⟩
abbrev cX2_takeSign : ByteArray := prog_4_method_6_code
def yX2_takeSign : MethodName := ⟨RX2, "takeSign", "(I)Z"⟩
abbrev cX2_takeShip : ByteArray := prog_4_method_7_code
def yX2_takeShip : MethodName := ⟨RX2, "takeShip", "(I)Z"⟩
abbrev cX2_takeFirstDigit : ByteArray := prog_4_method_8_code
def yX2_takeFirstDigit : MethodName := ⟨RX2, "takeFirstDigit", "(I)Z"⟩
abbrev cX2_takeNextDigit : ByteArray := prog_4_method_9_code
def yX2_takeNextDigit : MethodName := ⟨RX2, "takeNextDigit", "(I)Z"⟩
abbrev cX2_numberMost : ByteArray := prog_4_method_10_code
def yX2_numberMost : MethodName := ⟨RX2, "numberMost", "()I"⟩
abbrev cX2_moveOn : ByteArray := prog_4_method_11_code
def yX2_moveOn : MethodName := ⟨RX2, "moveOn", "(ZI)Z"⟩
def RX3 : String := "SiloPads$Yard"
def TX3 : u_T := fun k => match k with
  | 0 => ("SiloPads$Yard", "silos", "[LSiloPads$Silo;", true)
  | 1 => ("SiloPads$Yard", "ships", "[LSiloPads$Ship;", true)
  | 2 => ("SiloPads$Yard", "settings", "[I", true)
  | 3 => ("SiloPads$Yard", "days", "I", false)
  | 4 => ("SiloPads$Yard", "dust", "I", false)
  | 5 => ("SiloPads$Yard", "brought", "I", false)
  | 6 => ("SiloPads$Yard", "gone", "I", false)
  | 7 => ("SiloPads$Yard", "shakes", "I", false)
  | _ => ("SiloPads$Yard", "formed", "I", false)
def tyX3 : Nat → FieldType := fun k => match k with
  | 0 => .array (.object "SiloPads$Silo")
  | 1 => .array (.object "SiloPads$Ship")
  | 2 => .array .int
  | 3 => .int
  | 4 => .int
  | 5 => .int
  | 6 => .int
  | 7 => .int
  | _ => .int
abbrev wsX30 : List Cond := u_ws RX3 TX3 9
theorem nmX3 : ∀ a, a < 9 → ∀ b, b < 9 → a ≠ b → (TX3 a).2.1 ≠ (TX3 b).2.1 := by decide +kernel
theorem tyX3_ok : ∀ k, k < 9 → parseFieldDescriptor (TX3 k).2.2.1 = some (tyX3 k) := by decide +kernel
abbrev cX3_init : ByteArray := prog_5_method_1_code
def yX3_init : MethodName := ⟨RX3, "<init>", "()V"⟩
abbrev cX3_becomeLike : ByteArray := prog_5_method_2_code
def yX3_becomeLike : MethodName := ⟨RX3, "becomeLike", "(LSiloPads$Yard;)V"⟩
abbrev cX3_siloTonnes : ByteArray := prog_5_method_3_code
def yX3_siloTonnes : MethodName := ⟨RX3, "siloTonnes", "()I"⟩
abbrev cX3_shipTonnes : ByteArray := prog_5_method_4_code
def yX3_shipTonnes : MethodName := ⟨RX3, "shipTonnes", "()I"⟩
abbrev cX3_padsOn : ByteArray := prog_5_method_5_code
def yX3_padsOn : MethodName := ⟨RX3, "padsOn", "()I"⟩
abbrev cX3_arches : ByteArray := prog_5_method_6_code
def yX3_arches : MethodName := ⟨RX3, "arches", "()I"⟩
def RX4 : String := "SiloPads"
def TX4 : u_T := fun k => match k with
  | 0 => ("SiloPads", "now", "LSiloPads$Yard;", true)
  | 1 => ("SiloPads", "saved", "[LSiloPads$Yard;", true)
  | 2 => ("SiloPads", "savedStates", "I", false)
  | 3 => ("SiloPads", "codes", "[I", true)
  | 4 => ("SiloPads", "length", "I", false)
  | 5 => ("SiloPads", "reader", "LSiloPads$TextReader;", true)
  | 6 => ("SiloPads", "trialSilo", "LSiloPads$Silo;", true)
  | _ => ("SiloPads", "trialShip", "LSiloPads$Ship;", true)
def tyX4 : Nat → FieldType := fun k => match k with
  | 0 => .object "SiloPads$Yard"
  | 1 => .array (.object "SiloPads$Yard")
  | 2 => .int
  | 3 => .array .int
  | 4 => .int
  | 5 => .object "SiloPads$TextReader"
  | 6 => .object "SiloPads$Silo"
  | _ => .object "SiloPads$Ship"
abbrev wsX40 : List Cond := u_ws RX4 TX4 8
theorem nmX4 : ∀ a, a < 8 → ∀ b, b < 8 → a ≠ b → (TX4 a).2.1 ≠ (TX4 b).2.1 := by decide +kernel
theorem tyX4_ok : ∀ k, k < 8 → parseFieldDescriptor (TX4 k).2.2.1 = some (tyX4 k) := by decide +kernel
abbrev cX4_init : ByteArray := prog_1_method_1_code
def yX4_init : MethodName := ⟨RX4, "<init>", "()V"⟩
abbrev cX4_ship : ByteArray := prog_1_method_2_code
def yX4_ship : MethodName := ⟨RX4, "ship", "(III)I"⟩
abbrev cX4_unload : ByteArray := prog_1_method_3_code
def yX4_unload : MethodName := ⟨RX4, "unload", "(III)I"⟩
abbrev cX4_flow : ByteArray := prog_1_method_4_code
def yX4_flow : MethodName := ⟨RX4, "flow", "(III)I"⟩
abbrev cX4_pads : ByteArray := prog_1_method_5_code
def yX4_pads : MethodName := ⟨RX4, "pads", "(II)I"⟩
abbrev cX4_shake : ByteArray := prog_1_method_6_code
def yX4_shake : MethodName := ⟨RX4, "shake", "(I)I"⟩
abbrev cX4_pass : ByteArray := prog_1_method_7_code
def yX4_pass : MethodName := ⟨RX4, "pass", "(I)I"⟩
abbrev cX4_set : ByteArray := prog_1_method_8_code
def yX4_set : MethodName := ⟨RX4, "set", "(II)I"⟩
abbrev cX4_append : ByteArray := prog_1_method_9_code
def yX4_append : MethodName := ⟨RX4, "append", "(I)I"⟩
abbrev cX4_clearBuffer : ByteArray := prog_1_method_10_code
def yX4_clearBuffer : MethodName := ⟨RX4, "clearBuffer", "()I"⟩
abbrev cX4_firstError : ByteArray := prog_1_method_11_code
def yX4_firstError : MethodName := ⟨RX4, "firstError", "()I"⟩
abbrev cX4_play : ByteArray := prog_1_method_12_code
def yX4_play : MethodName := ⟨RX4, "play", "()I"⟩
abbrev cX4_undo : ByteArray := prog_1_method_13_code
def yX4_undo : MethodName := ⟨RX4, "undo", "()I"⟩
abbrev cX4_silo : ByteArray := prog_1_method_14_code
def yX4_silo : MethodName := ⟨RX4, "silo", "(II)I"⟩
abbrev cX4_layer : ByteArray := prog_1_method_15_code
def yX4_layer : MethodName := ⟨RX4, "layer", "(III)I"⟩
abbrev cX4_shipOf : ByteArray := prog_1_method_16_code
def yX4_shipOf : MethodName := ⟨RX4, "shipOf", "(II)I"⟩
abbrev cX4_count : ByteArray := prog_1_method_17_code
def yX4_count : MethodName := ⟨RX4, "count", "(I)I"⟩
abbrev cX4_whyNot : ByteArray := prog_1_method_18_code
def yX4_whyNot : MethodName := ⟨RX4, "whyNot", "(II)I"⟩
abbrev cX4_ifFlowed : ByteArray := prog_1_method_19_code
def yX4_ifFlowed : MethodName := ⟨RX4, "ifFlowed", "(IIII)I"⟩
abbrev cX4_urgent : ByteArray := prog_1_method_20_code
def yX4_urgent : MethodName := ⟨RX4, "urgent", "()I"⟩
abbrev cX4_nextArch : ByteArray := prog_1_method_21_code
def yX4_nextArch : MethodName := ⟨RX4, "nextArch", "()I"⟩
abbrev cX4_shakesNeeded : ByteArray := prog_1_method_22_code
def yX4_shakesNeeded : MethodName := ⟨RX4, "shakesNeeded", "(I)I"⟩
abbrev cX4_softness : ByteArray := prog_1_method_23_code
def yX4_softness : MethodName := ⟨RX4, "softness", "()D"⟩
abbrev cX4_digest : ByteArray := prog_1_method_24_code
def yX4_digest : MethodName := ⟨RX4, "digest", "()J"⟩
abbrev cX4_isNoSilo : ByteArray := prog_1_method_25_code
def yX4_isNoSilo : MethodName := ⟨RX4, "isNoSilo", "(I)Z"⟩
abbrev cX4_isNoShip : ByteArray := prog_1_method_26_code
def yX4_isNoShip : MethodName := ⟨RX4, "isNoShip", "(I)Z"⟩
abbrev cX4_saveState : ByteArray := prog_1_method_27_code
def yX4_saveState : MethodName := ⟨RX4, "saveState", "()V"⟩
abbrev cX4_bringIn : ByteArray := prog_1_method_28_code
def yX4_bringIn : MethodName := ⟨RX4, "bringIn", "(LSiloPads$Silo;LSiloPads$Ship;I)I"⟩
abbrev cX4_letOut : ByteArray := prog_1_method_29_code
def yX4_letOut : MethodName := ⟨RX4, "letOut", "(LSiloPads$Silo;LSiloPads$Ship;I)I"⟩
abbrev cX4_pour : ByteArray := prog_1_method_30_code
def yX4_pour : MethodName := ⟨RX4, "pour", "(LSiloPads$Silo;LSiloPads$Ship;I)I"⟩
abbrev cX4_pourForHour : ByteArray := prog_1_method_31_code
def yX4_pourForHour : MethodName := ⟨RX4, "pourForHour", "(LSiloPads$Silo;LSiloPads$Ship;)I"⟩
abbrev cX4_dustOf : ByteArray := prog_1_method_32_code
def yX4_dustOf : MethodName := ⟨RX4, "dustOf", "(I)I"⟩
abbrev cX4_outInHour : ByteArray := prog_1_method_33_code
def yX4_outInHour : MethodName := ⟨RX4, "outInHour", "(LSiloPads$Silo;I)I"⟩
abbrev cX4_hardnessAt : ByteArray := prog_1_method_34_code
def yX4_hardnessAt : MethodName := ⟨RX4, "hardnessAt", "(I)I"⟩
abbrev cX4_softTonnes : ByteArray := prog_1_method_35_code
def yX4_softTonnes : MethodName := ⟨RX4, "softTonnes", "(LSiloPads$Silo;)I"⟩
abbrev cX4_passDays : ByteArray := prog_1_method_36_code
def yX4_passDays : MethodName := ⟨RX4, "passDays", "(I)I"⟩
abbrev cX4_passDayIn : ByteArray := prog_1_method_37_code
def yX4_passDayIn : MethodName := ⟨RX4, "passDayIn", "(LSiloPads$Silo;)I"⟩
abbrev cX4_daysUntilStiff : ByteArray := prog_1_method_38_code
def yX4_daysUntilStiff : MethodName := ⟨RX4, "daysUntilStiff", "(I)I"⟩
abbrev cX4_shakesToBreak : ByteArray := prog_1_method_39_code
def yX4_shakesToBreak : MethodName := ⟨RX4, "shakesToBreak", "(LSiloPads$Silo;)I"⟩
abbrev cX4_isMoreUrgent : ByteArray := prog_1_method_40_code
def yX4_isMoreUrgent : MethodName := ⟨RX4, "isMoreUrgent", "(LSiloPads$Silo;LSiloPads$Silo;)Z"⟩
abbrev cX4_playParts : ByteArray := prog_1_method_41_code
def yX4_playParts : MethodName := ⟨RX4, "playParts", "()I"⟩
abbrev cX4_playPart : ByteArray := prog_1_method_42_code
def yX4_playPart : MethodName := ⟨RX4, "playPart", "()I"⟩
abbrev cX4_hashWithSilo : ByteArray := prog_1_method_43_code
def yX4_hashWithSilo : MethodName := ⟨RX4, "hashWithSilo", "(JI)J"⟩
abbrev cX4_bitsOfShare : ByteArray := prog_1_method_44_code
def yX4_bitsOfShare : MethodName := ⟨RX4, "bitsOfShare", "(D)J"⟩
def RX5 : String := "SiloPadsModel"
def TX5 : u_T := fun k => match k with
  | 0 => ("SiloPadsModel", "thrown", "I", false)
  | 1 => ("SiloPadsModel", "s", "[I", true)
  | 2 => ("SiloPadsModel", "aside", "[I", true)
  | 3 => ("SiloPadsModel", "saved", "[I", true)
  | 4 => ("SiloPadsModel", "savedMany", "I", false)
  | 5 => ("SiloPadsModel", "buffer", "[I", true)
  | 6 => ("SiloPadsModel", "length", "I", false)
  | 7 => ("SiloPadsModel", "at", "I", false)
  | 8 => ("SiloPadsModel", "isWell", "Z", false)
  | 9 => ("SiloPadsModel", "read", "[I", true)
  | 10 => ("SiloPadsModel", "readMany", "I", false)
  | _ => ("SiloPadsModel", "hash", "J", false)
def tyX5 : Nat → FieldType := fun k => match k with
  | 0 => .int
  | 1 => .array .int
  | 2 => .array .int
  | 3 => .array .int
  | 4 => .int
  | 5 => .array .int
  | 6 => .int
  | 7 => .int
  | 8 => .boolean
  | 9 => .array .int
  | 10 => .int
  | _ => .long
abbrev wsX50 : List Cond := u_ws RX5 TX5 12
theorem nmX5 : ∀ a, a < 12 → ∀ b, b < 12 → a ≠ b → (TX5 a).2.1 ≠ (TX5 b).2.1 := by decide +kernel
theorem tyX5_ok : ∀ k, k < 12 → parseFieldDescriptor (TX5 k).2.2.1 = some (tyX5 k) := by decide +kernel
abbrev cX5_init : ByteArray := prog_7_method_1_code
def yX5_init : MethodName := ⟨RX5, "<init>", "()V"⟩
abbrev cX5_thrown : ByteArray := prog_7_method_2_code
def yX5_thrown : MethodName := ⟨RX5, "thrown", "()I"⟩
abbrev cX5_in : ByteArray := prog_7_method_3_code
def yX5_in : MethodName := ⟨RX5, "in", "(III)Z"⟩
abbrev cX5_fails : ByteArray := prog_7_method_4_code
def yX5_fails : MethodName := ⟨RX5, "fails", "(I)I"⟩
abbrev cX5_lesser : ByteArray := prog_7_method_5_code
def yX5_lesser : MethodName := ⟨RX5, "lesser", "(II)I"⟩
abbrev cX5_isSilo : ByteArray := prog_7_method_6_code
def yX5_isSilo : MethodName := ⟨RX5, "isSilo", "(I)Z"⟩
abbrev cX5_isShip : ByteArray := prog_7_method_7_code
def yX5_isShip : MethodName := ⟨RX5, "isShip", "(I)Z"⟩
abbrev cX5_of : ByteArray := prog_7_method_8_code
def yX5_of : MethodName := ⟨RX5, "of", "(II)I"⟩
abbrev cX5_lay : ByteArray := prog_7_method_9_code
def yX5_lay : MethodName := ⟨RX5, "lay", "(III)V"⟩
abbrev cX5_tonnes : ByteArray := prog_7_method_10_code
def yX5_tonnes : MethodName := ⟨RX5, "tonnes", "(II)I"⟩
abbrev cX5_age : ByteArray := prog_7_method_11_code
def yX5_age : MethodName := ⟨RX5, "age", "(II)I"⟩
abbrev cX5_room : ByteArray := prog_7_method_12_code
def yX5_room : MethodName := ⟨RX5, "room", "(I)I"⟩
abbrev cX5_saves : ByteArray := prog_7_method_13_code
def yX5_saves : MethodName := ⟨RX5, "saves", "()V"⟩
abbrev cX5_putAside : ByteArray := prog_7_method_14_code
def yX5_putAside : MethodName := ⟨RX5, "putAside", "()V"⟩
abbrev cX5_takeBack : ByteArray := prog_7_method_15_code
def yX5_takeBack : MethodName := ⟨RX5, "takeBack", "()V"⟩
abbrev cX5_setOf : ByteArray := prog_7_method_16_code
def yX5_setOf : MethodName := ⟨RX5, "setOf", "(II)I"⟩
abbrev cX5_sumFrom : ByteArray := prog_7_method_17_code
def yX5_sumFrom : MethodName := ⟨RX5, "sumFrom", "(II)I"⟩
abbrev cX5_flows : ByteArray := prog_7_method_18_code
def yX5_flows : MethodName := ⟨RX5, "flows", "(I)I"⟩
abbrev cX5_drops : ByteArray := prog_7_method_19_code
def yX5_drops : MethodName := ⟨RX5, "drops", "(I)V"⟩
abbrev cX5_flowsHour : ByteArray := prog_7_method_20_code
def yX5_flowsHour : MethodName := ⟨RX5, "flowsHour", "(II)I"⟩
abbrev cX5_flowsAll : ByteArray := prog_7_method_21_code
def yX5_flowsAll : MethodName := ⟨RX5, "flowsAll", "(III)I"⟩
abbrev cX5_comes : ByteArray := prog_7_method_22_code
def yX5_comes : MethodName := ⟨RX5, "comes", "(II)I"⟩
abbrev cX5_unloads : ByteArray := prog_7_method_23_code
def yX5_unloads : MethodName := ⟨RX5, "unloads", "(III)I"⟩
abbrev cX5_forms : ByteArray := prog_7_method_24_code
def yX5_forms : MethodName := ⟨RX5, "forms", "(I)Z"⟩
abbrev cX5_passesDay : ByteArray := prog_7_method_25_code
def yX5_passesDay : MethodName := ⟨RX5, "passesDay", "()I"⟩
abbrev cX5_passes : ByteArray := prog_7_method_26_code
def yX5_passes : MethodName := ⟨RX5, "passes", "(I)I"⟩
abbrev cX5_isHeavy : ByteArray := prog_7_method_27_code
def yX5_isHeavy : MethodName := ⟨RX5, "isHeavy", "(I)Z"⟩
abbrev cX5_shakes : ByteArray := prog_7_method_28_code
def yX5_shakes : MethodName := ⟨RX5, "shakes", "(I)I"⟩
abbrev cX5_ship : ByteArray := prog_7_method_29_code
def yX5_ship : MethodName := ⟨RX5, "ship", "(III)I"⟩
abbrev cX5_unload : ByteArray := prog_7_method_30_code
def yX5_unload : MethodName := ⟨RX5, "unload", "(III)I"⟩
abbrev cX5_flow : ByteArray := prog_7_method_31_code
def yX5_flow : MethodName := ⟨RX5, "flow", "(III)I"⟩
abbrev cX5_padsOn : ByteArray := prog_7_method_32_code
def yX5_padsOn : MethodName := ⟨RX5, "padsOn", "()I"⟩
abbrev cX5_pads : ByteArray := prog_7_method_33_code
def yX5_pads : MethodName := ⟨RX5, "pads", "(II)I"⟩
abbrev cX5_shake : ByteArray := prog_7_method_34_code
def yX5_shake : MethodName := ⟨RX5, "shake", "(I)I"⟩
abbrev cX5_pass : ByteArray := prog_7_method_35_code
def yX5_pass : MethodName := ⟨RX5, "pass", "(I)I"⟩
abbrev cX5_leastOf : ByteArray := prog_7_method_36_code
def yX5_leastOf : MethodName := ⟨RX5, "leastOf", "(I)I"⟩
abbrev cX5_mostOf : ByteArray := prog_7_method_37_code
def yX5_mostOf : MethodName := ⟨RX5, "mostOf", "(I)I"⟩
abbrev cX5_set : ByteArray := prog_7_method_38_code
def yX5_set : MethodName := ⟨RX5, "set", "(II)I"⟩
abbrev cX5_append : ByteArray := prog_7_method_39_code
def yX5_append : MethodName := ⟨RX5, "append", "(I)I"⟩
abbrev cX5_clearBuffer : ByteArray := prog_7_method_40_code
def yX5_clearBuffer : MethodName := ⟨RX5, "clearBuffer", "()I"⟩
abbrev cX5_sign : ByteArray := prog_7_method_41_code
def yX5_sign : MethodName := ⟨RX5, "sign", "()I"⟩
abbrev cX5_takes : ByteArray := prog_7_method_42_code
def yX5_takes : MethodName := ⟨RX5, "takes", "(II)I"⟩
abbrev cX5_number : ByteArray := prog_7_method_43_code
def yX5_number : MethodName := ⟨RX5, "number", "(I)I"⟩
abbrev cX5_readsPart : ByteArray := prog_7_method_44_code
def yX5_readsPart : MethodName := ⟨RX5, "readsPart", "()V"⟩
abbrev cX5_readsAll : ByteArray := prog_7_method_45_code
def yX5_readsAll : MethodName := ⟨RX5, "readsAll", "()V"⟩
abbrev cX5_firstError : ByteArray := prog_7_method_46_code
def yX5_firstError : MethodName := ⟨RX5, "firstError", "()I"⟩
abbrev cX5_plays : ByteArray := prog_7_method_47_code
def yX5_plays : MethodName := ⟨RX5, "plays", "(I)I"⟩
abbrev cX5_play : ByteArray := prog_7_method_48_code
def yX5_play : MethodName := ⟨RX5, "play", "()I"⟩
abbrev cX5_undo : ByteArray := prog_7_method_49_code
def yX5_undo : MethodName := ⟨RX5, "undo", "()I"⟩
abbrev cX5_tellsSilo : ByteArray := prog_7_method_50_code
def yX5_tellsSilo : MethodName := ⟨RX5, "tellsSilo", "(II)I"⟩
abbrev cX5_silo : ByteArray := prog_7_method_51_code
def yX5_silo : MethodName := ⟨RX5, "silo", "(II)I"⟩
abbrev cX5_tellsLayer : ByteArray := prog_7_method_52_code
def yX5_tellsLayer : MethodName := ⟨RX5, "tellsLayer", "(III)I"⟩
abbrev cX5_layer : ByteArray := prog_7_method_53_code
def yX5_layer : MethodName := ⟨RX5, "layer", "(III)I"⟩
abbrev cX5_shipOf : ByteArray := prog_7_method_54_code
def yX5_shipOf : MethodName := ⟨RX5, "shipOf", "(II)I"⟩
abbrev cX5_inSilos : ByteArray := prog_7_method_55_code
def yX5_inSilos : MethodName := ⟨RX5, "inSilos", "()I"⟩
abbrev cX5_inShips : ByteArray := prog_7_method_56_code
def yX5_inShips : MethodName := ⟨RX5, "inShips", "()I"⟩
abbrev cX5_arches : ByteArray := prog_7_method_57_code
def yX5_arches : MethodName := ⟨RX5, "arches", "()I"⟩
abbrev cX5_tellsCount : ByteArray := prog_7_method_58_code
def yX5_tellsCount : MethodName := ⟨RX5, "tellsCount", "(I)I"⟩
abbrev cX5_count : ByteArray := prog_7_method_59_code
def yX5_count : MethodName := ⟨RX5, "count", "(I)I"⟩
abbrev cX5_reason : ByteArray := prog_7_method_60_code
def yX5_reason : MethodName := ⟨RX5, "reason", "(II)I"⟩
abbrev cX5_whyNot : ByteArray := prog_7_method_61_code
def yX5_whyNot : MethodName := ⟨RX5, "whyNot", "(II)I"⟩
abbrev cX5_wouldFlow : ByteArray := prog_7_method_62_code
def yX5_wouldFlow : MethodName := ⟨RX5, "wouldFlow", "(IIII)I"⟩
abbrev cX5_ifFlowed : ByteArray := prog_7_method_63_code
def yX5_ifFlowed : MethodName := ⟨RX5, "ifFlowed", "(IIII)I"⟩
abbrev cX5_isMoreUrgent : ByteArray := prog_7_method_64_code
def yX5_isMoreUrgent : MethodName := ⟨RX5, "isMoreUrgent", "(II)Z"⟩
abbrev cX5_mostUrgent : ByteArray := prog_7_method_65_code
def yX5_mostUrgent : MethodName := ⟨RX5, "mostUrgent", "()I"⟩
abbrev cX5_urgent : ByteArray := prog_7_method_66_code
def yX5_urgent : MethodName := ⟨RX5, "urgent", "()I"⟩
abbrev cX5_archAhead : ByteArray := prog_7_method_67_code
def yX5_archAhead : MethodName := ⟨RX5, "archAhead", "()I"⟩
abbrev cX5_nextArch : ByteArray := prog_7_method_68_code
def yX5_nextArch : MethodName := ⟨RX5, "nextArch", "()I"⟩
abbrev cX5_needed : ByteArray := prog_7_method_69_code
def yX5_needed : MethodName := ⟨RX5, "needed", "(I)I"⟩
abbrev cX5_shakesNeeded : ByteArray := prog_7_method_70_code
def yX5_shakesNeeded : MethodName := ⟨RX5, "shakesNeeded", "(I)I"⟩
abbrev cX5_soft : ByteArray := prog_7_method_71_code
def yX5_soft : MethodName := ⟨RX5, "soft", "()D"⟩
abbrev cX5_softness : ByteArray := prog_7_method_72_code
def yX5_softness : MethodName := ⟨RX5, "softness", "()D"⟩
abbrev cX5_hashes : ByteArray := prog_7_method_73_code
def yX5_hashes : MethodName := ⟨RX5, "hashes", "(J)V"⟩
abbrev cX5_hashesSilo : ByteArray := prog_7_method_74_code
def yX5_hashesSilo : MethodName := ⟨RX5, "hashesSilo", "(I)V"⟩
abbrev cX5_digest : ByteArray := prog_7_method_75_code
def yX5_digest : MethodName := ⟨RX5, "digest", "()J"⟩
def RJx8e188 : String := "java/lang/Cloneable"
def TJx8e188 : u_T := fun k => match k with
  | _ => ("", "", "", false)
def tyJx8e188 : Nat → FieldType := fun k => match k with
  | _ => .int
abbrev wsJx8e1880 : List Cond := u_ws RJx8e188 TJx8e188 0
theorem nmJx8e188 : ∀ a, a < 0 → ∀ b, b < 0 → a ≠ b → (TJx8e188 a).2.1 ≠ (TJx8e188 b).2.1 := by decide +kernel
theorem tyJx8e188_ok : ∀ k, k < 0 → parseFieldDescriptor (TJx8e188 k).2.2.1 = some (tyJx8e188 k) := by decide +kernel
def RJxe99ae : String := "java/lang/Double"
def TJxe99ae : u_T := fun k => match k with
  | _ => ("", "", "", false)
def tyJxe99ae : Nat → FieldType := fun k => match k with
  | _ => .int
abbrev wsJxe99ae0 : List Cond := u_ws RJxe99ae TJxe99ae 0
theorem nmJxe99ae : ∀ a, a < 0 → ∀ b, b < 0 → a ≠ b → (TJxe99ae a).2.1 ≠ (TJxe99ae b).2.1 := by decide +kernel
theorem tyJxe99ae_ok : ∀ k, k < 0 → parseFieldDescriptor (TJxe99ae k).2.2.1 = some (tyJxe99ae k) := by decide +kernel
abbrev cJxe99ae_isNaN_b9ae7 : ByteArray := prog_9_method_6_code
def yJxe99ae_isNaN_b9ae7 : MethodName := ⟨RJxe99ae, "isNaN", "(D)Z"⟩
abbrev cJxe99ae_doubleToLongBits_ccdee : ByteArray := prog_9_method_23_code
def yJxe99ae_doubleToLongBits_ccdee : MethodName := ⟨RJxe99ae, "doubleToLongBits", "(D)J"⟩
def RJ9 : String := "java/lang/Math"
def TJ9 : u_T := fun k => match k with
  | _ => ("", "", "", false)
def tyJ9 : Nat → FieldType := fun k => match k with
  | _ => .int
abbrev wsJ90 : List Cond := u_ws RJ9 TJ9 0
theorem nmJ9 : ∀ a, a < 0 → ∀ b, b < 0 → a ≠ b → (TJ9 a).2.1 ≠ (TJ9 b).2.1 := by decide +kernel
theorem tyJ9_ok : ∀ k, k < 0 → parseFieldDescriptor (TJ9 k).2.2.1 = some (tyJ9 k) := by decide +kernel
abbrev cJ9_max_7cf53 : ByteArray := prog_14_method_65_code
def yJ9_max_7cf53 : MethodName := ⟨RJ9, "max", "(II)I"⟩
abbrev cJ9_min_7cf53 : ByteArray := prog_14_method_69_code
def yJ9_min_7cf53 : MethodName := ⟨RJ9, "min", "(II)I"⟩
def RJ0 : String := "java/lang/String"
def TJ0 : u_T := fun k => match k with
  | _ => ("", "", "", false)
def tyJ0 : Nat → FieldType := fun k => match k with
  | _ => .int
abbrev wsJ00 : List Cond := u_ws RJ0 TJ0 0
theorem nmJ0 : ∀ a, a < 0 → ∀ b, b < 0 → a ≠ b → (TJ0 a).2.1 ≠ (TJ0 b).2.1 := by decide +kernel
theorem tyJ0_ok : ∀ k, k < 0 → parseFieldDescriptor (TJ0 k).2.2.1 = some (tyJ0 k) := by decide +kernel
def RL : String := "SiloPadsLaw"
abbrev cL_ship : ByteArray := method_3_code
def yL_ship : MethodName := ⟨RL, "ship", "(LSiloPads;III[J)I"⟩
abbrev cL_unload : ByteArray := method_4_code
def yL_unload : MethodName := ⟨RL, "unload", "(LSiloPads;III[J)I"⟩
abbrev cL_flow : ByteArray := method_5_code
def yL_flow : MethodName := ⟨RL, "flow", "(LSiloPads;III[J)I"⟩
abbrev cL_pads : ByteArray := method_6_code
def yL_pads : MethodName := ⟨RL, "pads", "(LSiloPads;II[J)I"⟩
abbrev cL_shake : ByteArray := method_7_code
def yL_shake : MethodName := ⟨RL, "shake", "(LSiloPads;I[J)I"⟩
abbrev cL_pass : ByteArray := method_8_code
def yL_pass : MethodName := ⟨RL, "pass", "(LSiloPads;I[J)I"⟩
abbrev cL_set : ByteArray := method_9_code
def yL_set : MethodName := ⟨RL, "set", "(LSiloPads;II[J)I"⟩
abbrev cL_append : ByteArray := method_10_code
def yL_append : MethodName := ⟨RL, "append", "(LSiloPads;I[J)I"⟩
abbrev cL_play : ByteArray := method_11_code
def yL_play : MethodName := ⟨RL, "play", "(LSiloPads;[J)I"⟩
abbrev cL_undo : ByteArray := method_12_code
def yL_undo : MethodName := ⟨RL, "undo", "(LSiloPads;[J)I"⟩
abbrev cL_silo : ByteArray := method_13_code
def yL_silo : MethodName := ⟨RL, "silo", "(LSiloPads;II[J)I"⟩
abbrev cL_layer : ByteArray := method_14_code
def yL_layer : MethodName := ⟨RL, "layer", "(LSiloPads;III[J)I"⟩
abbrev cL_shipOf : ByteArray := method_15_code
def yL_shipOf : MethodName := ⟨RL, "shipOf", "(LSiloPads;II[J)I"⟩
abbrev cL_count : ByteArray := method_16_code
def yL_count : MethodName := ⟨RL, "count", "(LSiloPads;I[J)I"⟩
abbrev cL_whyNot : ByteArray := method_17_code
def yL_whyNot : MethodName := ⟨RL, "whyNot", "(LSiloPads;II[J)I"⟩
abbrev cL_ifFlowed : ByteArray := method_18_code
def yL_ifFlowed : MethodName := ⟨RL, "ifFlowed", "(LSiloPads;IIII[J)I"⟩
abbrev cL_shakesNeeded : ByteArray := method_19_code
def yL_shakesNeeded : MethodName := ⟨RL, "shakesNeeded", "(LSiloPads;I[J)I"⟩
abbrev cL_law : ByteArray := code
def yL_law : MethodName := ⟨RL, "law", "([I)Z"⟩
def wsX0_init : List Cond := .code yX0_init cX0_init 1 none :: ([.methodLink RX0 3 objectInit, .instanceMethod objectInit, .code objectInit ⟨#[0xb1]⟩ 1 none, .fieldLink RX0 9 "SiloPads$Ship" "tonnes" "I", .fieldLink RX0 15 "SiloPads$Ship" "hold" "I"] ++ wsX00)
def wsX0_becomeLike : List Cond := .code yX0_becomeLike cX0_becomeLike 2 none :: ([.fieldLink RX0 9 "SiloPads$Ship" "tonnes" "I", .fieldLink RX0 15 "SiloPads$Ship" "hold" "I"] ++ wsX00)
def wsX0_room : List Cond := .code yX0_room cX0_room 1 (some .int) :: ([.fieldLink RX0 15 "SiloPads$Ship" "hold" "I", .fieldLink RX0 9 "SiloPads$Ship" "tonnes" "I"] ++ wsX00)
def wsX1_init : List Cond := .code yX1_init cX1_init 1 none :: ([.methodLink RX1 3 objectInit, .instanceMethod objectInit, .code objectInit ⟨#[0xb1]⟩ 1 none, .arrayClass .int, .fieldLink RX1 9 "SiloPads$Silo" "tonnes" "[I", .fieldLink RX1 15 "SiloPads$Silo" "ages" "[I", .fieldLink RX1 18 "SiloPads$Silo" "layers" "I", .fieldLink RX1 22 "SiloPads$Silo" "padsOn" "I", .fieldLink RX1 25 "SiloPads$Silo" "arch" "I", .fieldLink RX1 28 "SiloPads$Silo" "shakes" "I"] ++ wsX10)
def wsX1_becomeLike : List Cond := .code yX1_becomeLike cX1_becomeLike 3 none :: ([.fieldLink RX1 9 "SiloPads$Silo" "tonnes" "[I", .fieldLink RX1 15 "SiloPads$Silo" "ages" "[I", .fieldLink RX1 18 "SiloPads$Silo" "layers" "I", .fieldLink RX1 22 "SiloPads$Silo" "padsOn" "I", .fieldLink RX1 25 "SiloPads$Silo" "arch" "I", .fieldLink RX1 28 "SiloPads$Silo" "shakes" "I"] ++ wsX10)
def wsX1_totalFrom : List Cond := .code yX1_totalFrom cX1_totalFrom 4 (some .int) :: ([.fieldLink RX1 18 "SiloPads$Silo" "layers" "I", .fieldLink RX1 9 "SiloPads$Silo" "tonnes" "[I"] ++ wsX10)
def wsX1_total : List Cond := .code yX1_total cX1_total 1 (some .int) :: ([.methodLink RX1 31 yX1_totalFrom, .instanceMethod yX1_totalFrom, .selects RX1 yX1_totalFrom yX1_totalFrom, .initialized RX1, .code yX1_totalFrom cX1_totalFrom 4 (some .int), .fieldLink RX1 18 "SiloPads$Silo" "layers" "I", .fieldLink RX1 9 "SiloPads$Silo" "tonnes" "[I"] ++ wsX10)
def wsX1_tonnesHeld : List Cond := .code yX1_tonnesHeld cX1_tonnesHeld 1 (some .int) :: ([.fieldLink RX1 25 "SiloPads$Silo" "arch" "I", .methodLink RX1 31 yX1_totalFrom, .instanceMethod yX1_totalFrom, .selects RX1 yX1_totalFrom yX1_totalFrom, .initialized RX1, .code yX1_totalFrom cX1_totalFrom 4 (some .int), .fieldLink RX1 18 "SiloPads$Silo" "layers" "I", .fieldLink RX1 9 "SiloPads$Silo" "tonnes" "[I"] ++ wsX10)
def wsX1_canGetArch : List Cond := .code yX1_canGetArch cX1_canGetArch 1 (some .boolean) :: ([.fieldLink RX1 18 "SiloPads$Silo" "layers" "I", .fieldLink RX1 25 "SiloPads$Silo" "arch" "I"] ++ wsX10)
def wsX1_placeOnTop : List Cond := .code yX1_placeOnTop cX1_placeOnTop 1 (some .int) :: ([.fieldLink RX1 18 "SiloPads$Silo" "layers" "I", .fieldLink RX1 15 "SiloPads$Silo" "ages" "[I", .fieldLink RX1 9 "SiloPads$Silo" "tonnes" "[I"] ++ wsX10)
def wsX1_place : List Cond := .code yX1_place cX1_place 2 (some .int) :: ([.fieldLink RX1 18 "SiloPads$Silo" "layers" "I", .methodLink RX1 42 Lib.Math.min.name, .static Lib.Math.min.name, .initialized "java/lang/Math", .code Lib.Math.min.name Lib.Math.min.code 2 (some .int), .methodLink RX1 35 yX1_total, .instanceMethod yX1_total, .selects RX1 yX1_total yX1_total, .initialized RX1, .code yX1_total cX1_total 1 (some .int), .methodLink RX1 31 yX1_totalFrom, .instanceMethod yX1_totalFrom, .selects RX1 yX1_totalFrom yX1_totalFrom, .code yX1_totalFrom cX1_totalFrom 4 (some .int), .fieldLink RX1 9 "SiloPads$Silo" "tonnes" "[I", .methodLink RX1 39 yX1_placeOnTop, .instanceMethod yX1_placeOnTop, .selects RX1 yX1_placeOnTop yX1_placeOnTop, .code yX1_placeOnTop cX1_placeOnTop 1 (some .int), .fieldLink RX1 15 "SiloPads$Silo" "ages" "[I"] ++ wsX10)
def wsX1_fill : List Cond := .code yX1_fill cX1_fill 4 none :: ([.methodLink RX1 42 Lib.Math.min.name, .static Lib.Math.min.name, .initialized "java/lang/Math", .code Lib.Math.min.name Lib.Math.min.code 2 (some .int), .fieldLink RX1 18 "SiloPads$Silo" "layers" "I", .fieldLink RX1 9 "SiloPads$Silo" "tonnes" "[I", .fieldLink RX1 15 "SiloPads$Silo" "ages" "[I", .fieldLink RX1 28 "SiloPads$Silo" "shakes" "I", .methodLink RX1 39 yX1_placeOnTop, .instanceMethod yX1_placeOnTop, .selects RX1 yX1_placeOnTop yX1_placeOnTop, .initialized RX1, .code yX1_placeOnTop cX1_placeOnTop 1 (some .int)] ++ wsX10)
def wsX1_takeFromLowest : List Cond := .code yX1_takeFromLowest cX1_takeFromLowest 3 none :: ([.fieldLink RX1 9 "SiloPads$Silo" "tonnes" "[I", .fieldLink RX1 18 "SiloPads$Silo" "layers" "I", .fieldLink RX1 15 "SiloPads$Silo" "ages" "[I", .fieldLink RX1 25 "SiloPads$Silo" "arch" "I"] ++ wsX10)
def wsX1_makeOlder : List Cond := .code yX1_makeOlder cX1_makeOlder 2 none :: ([.fieldLink RX1 18 "SiloPads$Silo" "layers" "I", .fieldLink RX1 15 "SiloPads$Silo" "ages" "[I"] ++ wsX10)
def wsX1_makeLowestYounger : List Cond := .code yX1_makeLowestYounger cX1_makeLowestYounger 1 none :: ([.fieldLink RX1 15 "SiloPads$Silo" "ages" "[I", .methodLink RX1 48 Lib.Math.max.name, .static Lib.Math.max.name, .initialized "java/lang/Math", .code Lib.Math.max.name Lib.Math.max.code 2 (some .int)] ++ wsX10)
def wsX2_init : List Cond := .code yX2_init cX2_init 1 none :: ([.methodLink RX2 3 objectInit, .instanceMethod objectInit, .code objectInit ⟨#[0xb1]⟩ 1 none, .fieldLink RX2 11 "SiloPads$TextReader" "place" "I", .fieldLink RX2 15 "SiloPads$TextReader" "silo" "I", .fieldLink RX2 18 "SiloPads$TextReader" "ship" "I", .fieldLink RX2 21 "SiloPads$TextReader" "kind" "I", .fieldLink RX2 24 "SiloPads$TextReader" "number" "I"] ++ wsX20)
def wsX2_begin : List Cond := .code yX2_begin cX2_begin 1 none :: ([.fieldLink RX2 11 "SiloPads$TextReader" "place" "I"] ++ wsX20)
def wsX2_isComplete : List Cond := .code yX2_isComplete cX2_isComplete 1 (some .boolean) :: ([.fieldLink RX2 11 "SiloPads$TextReader" "place" "I"] ++ wsX20)
def wsX2_moveOn : List Cond := .code yX2_moveOn cX2_moveOn 3 (some .boolean) :: ([.fieldLink RX2 11 "SiloPads$TextReader" "place" "I"] ++ wsX20)
def wsX4_isNoSilo : List Cond := .code yX4_isNoSilo cX4_isNoSilo 1 (some .boolean) :: ([])
def wsX2_takePartStart : List Cond := .code yX2_takePartStart cX2_takePartStart 2 (some .boolean) :: ([.fieldLink RX2 21 "SiloPads$TextReader" "kind" "I", .fieldLink RX2 15 "SiloPads$TextReader" "silo" "I", .methodLink RX2 37 yX2_moveOn, .instanceMethod yX2_moveOn, .selects RX2 yX2_moveOn yX2_moveOn, .initialized RX2, .code yX2_moveOn cX2_moveOn 3 (some .boolean), .fieldLink RX2 11 "SiloPads$TextReader" "place" "I", .static yX4_isNoSilo, .initialized RX4, .code yX4_isNoSilo cX4_isNoSilo 1 (some .boolean)] ++ wsX20)
def wsX2_takeSign : List Cond := .code yX2_takeSign cX2_takeSign 2 (some .boolean) :: ([.fieldLink RX2 21 "SiloPads$TextReader" "kind" "I", .methodLink RX2 37 yX2_moveOn, .instanceMethod yX2_moveOn, .selects RX2 yX2_moveOn yX2_moveOn, .initialized RX2, .code yX2_moveOn cX2_moveOn 3 (some .boolean), .fieldLink RX2 11 "SiloPads$TextReader" "place" "I"] ++ wsX20)
def wsX4_isNoShip : List Cond := .code yX4_isNoShip cX4_isNoShip 1 (some .boolean) :: ([])
def wsX2_takeShip : List Cond := .code yX2_takeShip cX2_takeShip 2 (some .boolean) :: ([.fieldLink RX2 18 "SiloPads$TextReader" "ship" "I", .static yX4_isNoShip, .initialized RX4, .code yX4_isNoShip cX4_isNoShip 1 (some .boolean), .methodLink RX2 37 yX2_moveOn, .instanceMethod yX2_moveOn, .selects RX2 yX2_moveOn yX2_moveOn, .initialized RX2, .code yX2_moveOn cX2_moveOn 3 (some .boolean), .fieldLink RX2 11 "SiloPads$TextReader" "place" "I"] ++ wsX20)
def wsX2_takeFirstDigit : List Cond := .code yX2_takeFirstDigit cX2_takeFirstDigit 2 (some .boolean) :: ([.fieldLink RX2 24 "SiloPads$TextReader" "number" "I", .methodLink RX2 37 yX2_moveOn, .instanceMethod yX2_moveOn, .selects RX2 yX2_moveOn yX2_moveOn, .initialized RX2, .code yX2_moveOn cX2_moveOn 3 (some .boolean), .fieldLink RX2 11 "SiloPads$TextReader" "place" "I"] ++ wsX20)
def wsX2_numberMost : List Cond := .code yX2_numberMost cX2_numberMost 1 (some .int) :: ([.fieldLink RX2 21 "SiloPads$TextReader" "kind" "I"] ++ wsX20)
def wsX2_takeNextDigit : List Cond := .code yX2_takeNextDigit cX2_takeNextDigit 2 (some .boolean) :: ([.fieldLink RX2 24 "SiloPads$TextReader" "number" "I", .methodLink RX2 53 yX2_numberMost, .instanceMethod yX2_numberMost, .selects RX2 yX2_numberMost yX2_numberMost, .initialized RX2, .code yX2_numberMost cX2_numberMost 1 (some .int), .fieldLink RX2 21 "SiloPads$TextReader" "kind" "I"] ++ wsX20)
def wsX2_take_r1 : List Cond := [Cond.fieldLink RX2 11 "SiloPads$TextReader" "place" "I", Cond.methodLink RX2 27 yX2_takePartStart, Cond.instanceMethod yX2_takePartStart, Cond.selects RX2 yX2_takePartStart yX2_takePartStart, Cond.initialized RX2, Cond.code yX2_takePartStart cX2_takePartStart 2 (some .boolean), Cond.fieldLink RX2 21 "SiloPads$TextReader" "kind" "I", Cond.fieldLink RX2 15 "SiloPads$TextReader" "silo" "I", Cond.methodLink RX2 37 yX2_moveOn, Cond.instanceMethod yX2_moveOn, Cond.selects RX2 yX2_moveOn yX2_moveOn, Cond.code yX2_moveOn cX2_moveOn 3 (some .boolean), Cond.static yX4_isNoSilo, Cond.initialized RX4, Cond.code yX4_isNoSilo cX4_isNoSilo 1 (some .boolean), Cond.methodLink RX2 31 yX2_takeSign, Cond.instanceMethod yX2_takeSign, Cond.selects RX2 yX2_takeSign yX2_takeSign, Cond.code yX2_takeSign cX2_takeSign 2 (some .boolean), Cond.methodLink RX2 34 yX2_takeShip, Cond.instanceMethod yX2_takeShip, Cond.selects RX2 yX2_takeShip yX2_takeShip, Cond.code yX2_takeShip cX2_takeShip 2 (some .boolean), Cond.fieldLink RX2 18 "SiloPads$TextReader" "ship" "I"]
def wsX2_take_r2 : List Cond := [Cond.static yX4_isNoShip, Cond.code yX4_isNoShip cX4_isNoShip 1 (some .boolean), Cond.methodLink RX2 41 yX2_takeFirstDigit, Cond.instanceMethod yX2_takeFirstDigit, Cond.selects RX2 yX2_takeFirstDigit yX2_takeFirstDigit, Cond.code yX2_takeFirstDigit cX2_takeFirstDigit 2 (some .boolean), Cond.fieldLink RX2 24 "SiloPads$TextReader" "number" "I", Cond.methodLink RX2 44 yX2_takeNextDigit, Cond.instanceMethod yX2_takeNextDigit, Cond.selects RX2 yX2_takeNextDigit yX2_takeNextDigit, Cond.code yX2_takeNextDigit cX2_takeNextDigit 2 (some .boolean), Cond.methodLink RX2 53 yX2_numberMost, Cond.instanceMethod yX2_numberMost, Cond.selects RX2 yX2_numberMost yX2_numberMost, Cond.code yX2_numberMost cX2_numberMost 1 (some .int)]
def wsX2_take : List Cond := .code yX2_take cX2_take 2 (some .boolean) :: ((wsX2_take_r1 ++ wsX2_take_r2) ++ wsX20)
def wsX3_init_r1 : List Cond := [Cond.methodLink RX3 3 objectInit, Cond.instanceMethod objectInit, Cond.code objectInit ⟨#[0xb1]⟩ 1 none, Cond.classLink RX3 9 RX1, Cond.fieldLink RX3 11 "SiloPads$Yard" "silos" "[LSiloPads$Silo;", Cond.classLink RX3 17 RX0, Cond.fieldLink RX3 19 "SiloPads$Yard" "ships" "[LSiloPads$Ship;", Cond.methodLink RX3 27 ⟨"[I", "clone", "()Ljava/lang/Object;"⟩, Cond.sameMethod "[I" "java/lang/Object" "clone" "()Ljava/lang/Object;", Cond.native ⟨"java/lang/Object", "clone", "()Ljava/lang/Object;"⟩, Cond.instanceMethod ⟨"java/lang/Object", "clone", "()Ljava/lang/Object;"⟩, Cond.selects "[I" ⟨"[I", "clone", "()Ljava/lang/Object;"⟩ ⟨"java/lang/Object", "clone", "()Ljava/lang/Object;"⟩, Cond.classLink RX3 28 "[I", Cond.fieldLink RX3 32 "SiloPads$Yard" "settings" "[I", Cond.fieldLink RX3 35 "SiloPads$Yard" "days" "I", Cond.fieldLink RX3 39 "SiloPads$Yard" "dust" "I", Cond.fieldLink RX3 42 "SiloPads$Yard" "brought" "I", Cond.fieldLink RX3 45 "SiloPads$Yard" "gone" "I", Cond.fieldLink RX3 48 "SiloPads$Yard" "shakes" "I", Cond.fieldLink RX3 51 "SiloPads$Yard" "formed" "I", Cond.instantiable RX1 6, Cond.initialized RX1, Cond.instantiable RX0 2, Cond.initialized RX0]
def wsX3_init_r2 : List Cond := [Cond.instanceMethod yX1_init, Cond.code yX1_init cX1_init 1 none, Cond.methodLink RX1 3 objectInit, Cond.arrayClass .int, Cond.fieldLink RX1 9 "SiloPads$Silo" "tonnes" "[I", Cond.fieldLink RX1 15 "SiloPads$Silo" "ages" "[I", Cond.fieldLink RX1 18 "SiloPads$Silo" "layers" "I", Cond.fieldLink RX1 22 "SiloPads$Silo" "padsOn" "I", Cond.fieldLink RX1 25 "SiloPads$Silo" "arch" "I", Cond.fieldLink RX1 28 "SiloPads$Silo" "shakes" "I", Cond.instanceMethod yX0_init, Cond.code yX0_init cX0_init 1 none, Cond.methodLink RX0 3 objectInit, Cond.fieldLink RX0 9 "SiloPads$Ship" "tonnes" "I", Cond.fieldLink RX0 15 "SiloPads$Ship" "hold" "I"]
def wsX3_init : List Cond := .code yX3_init cX3_init 2 none :: ((wsX3_init_r1 ++ wsX3_init_r2) ++ wsX30 ++ wsX10 ++ wsX00)
def wsX3_becomeLike_r1 : List Cond := [Cond.fieldLink RX3 11 "SiloPads$Yard" "silos" "[LSiloPads$Silo;", Cond.fieldLink RX3 19 "SiloPads$Yard" "ships" "[LSiloPads$Ship;", Cond.fieldLink RX3 32 "SiloPads$Yard" "settings" "[I", Cond.fieldLink RX3 35 "SiloPads$Yard" "days" "I", Cond.fieldLink RX3 39 "SiloPads$Yard" "dust" "I", Cond.fieldLink RX3 42 "SiloPads$Yard" "brought" "I", Cond.fieldLink RX3 45 "SiloPads$Yard" "gone" "I", Cond.fieldLink RX3 48 "SiloPads$Yard" "shakes" "I", Cond.fieldLink RX3 51 "SiloPads$Yard" "formed" "I", Cond.methodLink RX3 56 yX1_becomeLike, Cond.instanceMethod yX1_becomeLike, Cond.selects RX1 yX1_becomeLike yX1_becomeLike, Cond.initialized RX1, Cond.code yX1_becomeLike cX1_becomeLike 3 none, Cond.fieldLink RX1 9 "SiloPads$Silo" "tonnes" "[I", Cond.fieldLink RX1 15 "SiloPads$Silo" "ages" "[I", Cond.fieldLink RX1 18 "SiloPads$Silo" "layers" "I", Cond.fieldLink RX1 22 "SiloPads$Silo" "padsOn" "I", Cond.fieldLink RX1 25 "SiloPads$Silo" "arch" "I", Cond.fieldLink RX1 28 "SiloPads$Silo" "shakes" "I", Cond.methodLink RX3 60 yX0_becomeLike, Cond.instanceMethod yX0_becomeLike, Cond.selects RX0 yX0_becomeLike yX0_becomeLike, Cond.initialized RX0]
def wsX3_becomeLike_r2 : List Cond := [Cond.code yX0_becomeLike cX0_becomeLike 2 none, Cond.fieldLink RX0 9 "SiloPads$Ship" "tonnes" "I", Cond.fieldLink RX0 15 "SiloPads$Ship" "hold" "I"]
def wsX3_becomeLike : List Cond := .code yX3_becomeLike cX3_becomeLike 3 none :: ((wsX3_becomeLike_r1 ++ wsX3_becomeLike_r2) ++ wsX30 ++ wsX10 ++ wsX00)
def wsX3_siloTonnes : List Cond := .code yX3_siloTonnes cX3_siloTonnes 3 (some .int) :: ([.fieldLink RX3 11 "SiloPads$Yard" "silos" "[LSiloPads$Silo;", .methodLink RX3 63 yX1_total, .instanceMethod yX1_total, .selects RX1 yX1_total yX1_total, .initialized RX1, .code yX1_total cX1_total 1 (some .int), .methodLink RX1 31 yX1_totalFrom, .instanceMethod yX1_totalFrom, .selects RX1 yX1_totalFrom yX1_totalFrom, .code yX1_totalFrom cX1_totalFrom 4 (some .int), .fieldLink RX1 18 "SiloPads$Silo" "layers" "I", .fieldLink RX1 9 "SiloPads$Silo" "tonnes" "[I"] ++ wsX30 ++ wsX10)
def wsX3_shipTonnes : List Cond := .code yX3_shipTonnes cX3_shipTonnes 3 (some .int) :: ([.fieldLink RX3 19 "SiloPads$Yard" "ships" "[LSiloPads$Ship;", .fieldLink RX3 67 "SiloPads$Ship" "tonnes" "I"] ++ wsX30 ++ wsX00)
def wsX3_padsOn : List Cond := .code yX3_padsOn cX3_padsOn 3 (some .int) :: ([.fieldLink RX3 11 "SiloPads$Yard" "silos" "[LSiloPads$Silo;", .fieldLink RX3 70 "SiloPads$Silo" "padsOn" "I"] ++ wsX30 ++ wsX10)
def wsX3_arches : List Cond := .code yX3_arches cX3_arches 3 (some .int) :: ([.fieldLink RX3 11 "SiloPads$Yard" "silos" "[LSiloPads$Silo;", .fieldLink RX3 73 "SiloPads$Silo" "arch" "I"] ++ wsX30 ++ wsX10)
def wsX4_init_r1 : List Cond := [Cond.methodLink RX4 1 objectInit, Cond.instanceMethod objectInit, Cond.code objectInit ⟨#[0xb1]⟩ 1 none, Cond.classLink RX4 7 RX3, Cond.instantiable RX3 9, Cond.initialized RX3, Cond.fieldLink RX4 10 "SiloPads" "now" "LSiloPads$Yard;", Cond.fieldLink RX4 16 "SiloPads" "saved" "[LSiloPads$Yard;", Cond.fieldLink RX4 20 "SiloPads" "savedStates" "I", Cond.arrayClass .int, Cond.fieldLink RX4 24 "SiloPads" "codes" "[I", Cond.fieldLink RX4 28 "SiloPads" "length" "I", Cond.classLink RX4 31 RX2, Cond.instantiable RX2 5, Cond.initialized RX2, Cond.fieldLink RX4 34 "SiloPads" "reader" "LSiloPads$TextReader;", Cond.classLink RX4 38 RX1, Cond.instantiable RX1 6, Cond.initialized RX1, Cond.fieldLink RX4 41 "SiloPads" "trialSilo" "LSiloPads$Silo;", Cond.classLink RX4 45 RX0, Cond.instantiable RX0 2, Cond.initialized RX0, Cond.fieldLink RX4 48 "SiloPads" "trialShip" "LSiloPads$Ship;"]
def wsX4_init_r2 : List Cond := [Cond.methodLink RX4 9 yX3_init, Cond.instanceMethod yX3_init, Cond.code yX3_init cX3_init 2 none, Cond.methodLink RX3 3 objectInit, Cond.classLink RX3 9 RX1, Cond.fieldLink RX3 11 "SiloPads$Yard" "silos" "[LSiloPads$Silo;", Cond.classLink RX3 17 RX0, Cond.fieldLink RX3 19 "SiloPads$Yard" "ships" "[LSiloPads$Ship;", Cond.methodLink RX3 27 ⟨"[I", "clone", "()Ljava/lang/Object;"⟩, Cond.sameMethod "[I" "java/lang/Object" "clone" "()Ljava/lang/Object;", Cond.native ⟨"java/lang/Object", "clone", "()Ljava/lang/Object;"⟩, Cond.instanceMethod ⟨"java/lang/Object", "clone", "()Ljava/lang/Object;"⟩, Cond.selects "[I" ⟨"[I", "clone", "()Ljava/lang/Object;"⟩ ⟨"java/lang/Object", "clone", "()Ljava/lang/Object;"⟩, Cond.classLink RX3 28 "[I", Cond.fieldLink RX3 32 "SiloPads$Yard" "settings" "[I", Cond.fieldLink RX3 35 "SiloPads$Yard" "days" "I", Cond.fieldLink RX3 39 "SiloPads$Yard" "dust" "I", Cond.fieldLink RX3 42 "SiloPads$Yard" "brought" "I", Cond.fieldLink RX3 45 "SiloPads$Yard" "gone" "I", Cond.fieldLink RX3 48 "SiloPads$Yard" "shakes" "I", Cond.fieldLink RX3 51 "SiloPads$Yard" "formed" "I", Cond.instanceMethod yX1_init, Cond.code yX1_init cX1_init 1 none, Cond.methodLink RX1 3 objectInit]
def wsX4_init_r3 : List Cond := [Cond.fieldLink RX1 9 "SiloPads$Silo" "tonnes" "[I", Cond.fieldLink RX1 15 "SiloPads$Silo" "ages" "[I", Cond.fieldLink RX1 18 "SiloPads$Silo" "layers" "I", Cond.fieldLink RX1 22 "SiloPads$Silo" "padsOn" "I", Cond.fieldLink RX1 25 "SiloPads$Silo" "arch" "I", Cond.fieldLink RX1 28 "SiloPads$Silo" "shakes" "I", Cond.instanceMethod yX0_init, Cond.code yX0_init cX0_init 1 none, Cond.methodLink RX0 3 objectInit, Cond.fieldLink RX0 9 "SiloPads$Ship" "tonnes" "I", Cond.fieldLink RX0 15 "SiloPads$Ship" "hold" "I", Cond.instanceMethod yX2_init, Cond.code yX2_init cX2_init 1 none, Cond.methodLink RX2 3 objectInit, Cond.fieldLink RX2 11 "SiloPads$TextReader" "place" "I", Cond.fieldLink RX2 15 "SiloPads$TextReader" "silo" "I", Cond.fieldLink RX2 18 "SiloPads$TextReader" "ship" "I", Cond.fieldLink RX2 21 "SiloPads$TextReader" "kind" "I", Cond.fieldLink RX2 24 "SiloPads$TextReader" "number" "I"]
def wsX4_init : List Cond := .code yX4_init cX4_init 2 none :: ((wsX4_init_r1 ++ (wsX4_init_r2 ++ wsX4_init_r3)) ++ wsX30 ++ wsX40 ++ wsX20 ++ wsX10 ++ wsX00)
def wsX4_saveState_r1 : List Cond := [Cond.fieldLink RX4 20 "SiloPads" "savedStates" "I", Cond.fieldLink RX4 16 "SiloPads" "saved" "[LSiloPads$Yard;", Cond.fieldLink RX4 10 "SiloPads" "now" "LSiloPads$Yard;", Cond.methodLink RX4 186 yX3_becomeLike, Cond.instanceMethod yX3_becomeLike, Cond.selects RX3 yX3_becomeLike yX3_becomeLike, Cond.initialized RX3, Cond.code yX3_becomeLike cX3_becomeLike 3 none, Cond.fieldLink RX3 11 "SiloPads$Yard" "silos" "[LSiloPads$Silo;", Cond.fieldLink RX3 19 "SiloPads$Yard" "ships" "[LSiloPads$Ship;", Cond.fieldLink RX3 32 "SiloPads$Yard" "settings" "[I", Cond.fieldLink RX3 35 "SiloPads$Yard" "days" "I", Cond.fieldLink RX3 39 "SiloPads$Yard" "dust" "I", Cond.fieldLink RX3 42 "SiloPads$Yard" "brought" "I", Cond.fieldLink RX3 45 "SiloPads$Yard" "gone" "I", Cond.fieldLink RX3 48 "SiloPads$Yard" "shakes" "I", Cond.fieldLink RX3 51 "SiloPads$Yard" "formed" "I", Cond.methodLink RX3 56 yX1_becomeLike, Cond.instanceMethod yX1_becomeLike, Cond.selects RX1 yX1_becomeLike yX1_becomeLike, Cond.initialized RX1, Cond.code yX1_becomeLike cX1_becomeLike 3 none, Cond.fieldLink RX1 9 "SiloPads$Silo" "tonnes" "[I", Cond.fieldLink RX1 15 "SiloPads$Silo" "ages" "[I"]
def wsX4_saveState_r2 : List Cond := [Cond.fieldLink RX1 18 "SiloPads$Silo" "layers" "I", Cond.fieldLink RX1 22 "SiloPads$Silo" "padsOn" "I", Cond.fieldLink RX1 25 "SiloPads$Silo" "arch" "I", Cond.fieldLink RX1 28 "SiloPads$Silo" "shakes" "I", Cond.methodLink RX3 60 yX0_becomeLike, Cond.instanceMethod yX0_becomeLike, Cond.selects RX0 yX0_becomeLike yX0_becomeLike, Cond.initialized RX0, Cond.code yX0_becomeLike cX0_becomeLike 2 none, Cond.fieldLink RX0 9 "SiloPads$Ship" "tonnes" "I", Cond.fieldLink RX0 15 "SiloPads$Ship" "hold" "I"]
def wsX4_saveState : List Cond := .code yX4_saveState cX4_saveState 3 none :: ((wsX4_saveState_r1 ++ wsX4_saveState_r2) ++ wsX40 ++ wsX30 ++ wsX10 ++ wsX00)
def wsX4_ship_r1 : List Cond := [Cond.classLink RX4 56 "java/lang/IndexOutOfBoundsException", Cond.initialized "java/lang/IndexOutOfBoundsException", Cond.classLink RX4 63 "java/lang/IllegalArgumentException", Cond.initialized "java/lang/IllegalArgumentException", Cond.fieldLink RX4 10 "SiloPads" "now" "LSiloPads$Yard;", Cond.fieldLink RX4 71 "SiloPads$Yard" "ships" "[LSiloPads$Ship;", Cond.fieldLink RX4 75 "SiloPads$Ship" "tonnes" "I", Cond.fieldLink RX4 78 "SiloPads$Ship" "hold" "I", Cond.fieldLink RX4 81 "SiloPads$Yard" "brought" "I", Cond.fieldLink RX4 84 "SiloPads$Yard" "gone" "I", Cond.methodLink RX4 52 yX4_isNoShip, Cond.static yX4_isNoShip, Cond.initialized RX4, Cond.code yX4_isNoShip cX4_isNoShip 1 (some .boolean), Cond.methodLink RX4 68 yX4_saveState, Cond.instanceMethod yX4_saveState, Cond.selects RX4 yX4_saveState yX4_saveState, Cond.code yX4_saveState cX4_saveState 3 none, Cond.fieldLink RX4 20 "SiloPads" "savedStates" "I", Cond.fieldLink RX4 16 "SiloPads" "saved" "[LSiloPads$Yard;", Cond.methodLink RX4 186 yX3_becomeLike, Cond.instanceMethod yX3_becomeLike, Cond.selects RX3 yX3_becomeLike yX3_becomeLike, Cond.initialized RX3]
def wsX4_ship_r2 : List Cond := [Cond.code yX3_becomeLike cX3_becomeLike 3 none, Cond.fieldLink RX3 11 "SiloPads$Yard" "silos" "[LSiloPads$Silo;", Cond.fieldLink RX3 19 "SiloPads$Yard" "ships" "[LSiloPads$Ship;", Cond.fieldLink RX3 32 "SiloPads$Yard" "settings" "[I", Cond.fieldLink RX3 35 "SiloPads$Yard" "days" "I", Cond.fieldLink RX3 39 "SiloPads$Yard" "dust" "I", Cond.fieldLink RX3 42 "SiloPads$Yard" "brought" "I", Cond.fieldLink RX3 45 "SiloPads$Yard" "gone" "I", Cond.fieldLink RX3 48 "SiloPads$Yard" "shakes" "I", Cond.fieldLink RX3 51 "SiloPads$Yard" "formed" "I", Cond.methodLink RX3 56 yX1_becomeLike, Cond.instanceMethod yX1_becomeLike, Cond.selects RX1 yX1_becomeLike yX1_becomeLike, Cond.initialized RX1, Cond.code yX1_becomeLike cX1_becomeLike 3 none, Cond.fieldLink RX1 9 "SiloPads$Silo" "tonnes" "[I", Cond.fieldLink RX1 15 "SiloPads$Silo" "ages" "[I", Cond.fieldLink RX1 18 "SiloPads$Silo" "layers" "I", Cond.fieldLink RX1 22 "SiloPads$Silo" "padsOn" "I", Cond.fieldLink RX1 25 "SiloPads$Silo" "arch" "I", Cond.fieldLink RX1 28 "SiloPads$Silo" "shakes" "I", Cond.methodLink RX3 60 yX0_becomeLike, Cond.instanceMethod yX0_becomeLike, Cond.selects RX0 yX0_becomeLike yX0_becomeLike]
def wsX4_ship_r3 : List Cond := [Cond.initialized RX0, Cond.code yX0_becomeLike cX0_becomeLike 2 none, Cond.fieldLink RX0 9 "SiloPads$Ship" "tonnes" "I", Cond.fieldLink RX0 15 "SiloPads$Ship" "hold" "I"]
def wsX4_ship : List Cond := .code yX4_ship cX4_ship 6 (some .int) :: ((wsX4_ship_r1 ++ (wsX4_ship_r2 ++ wsX4_ship_r3)) ++ wsX40 ++ wsX30 ++ wsX00 ++ wsX10 ++ (vx_atS RX4 60 "java/lang/IndexOutOfBoundsException" ["java/lang/RuntimeException", "java/lang/Exception"]).filter goodWord ++ (vx_atS RX4 67 "java/lang/IllegalArgumentException" ["java/lang/RuntimeException", "java/lang/Exception"]).filter goodWord)
def wsX4_bringIn_r1 : List Cond := [Cond.fieldLink RX4 75 "SiloPads$Ship" "tonnes" "I", Cond.methodLink RX4 257 Lib.Math.min.name, Cond.static Lib.Math.min.name, Cond.initialized "java/lang/Math", Cond.code Lib.Math.min.name Lib.Math.min.code 2 (some .int), Cond.methodLink RX4 294 yX1_place, Cond.instanceMethod yX1_place, Cond.selects RX1 yX1_place yX1_place, Cond.initialized RX1, Cond.code yX1_place cX1_place 2 (some .int), Cond.fieldLink RX1 18 "SiloPads$Silo" "layers" "I", Cond.methodLink RX1 42 Lib.Math.min.name, Cond.methodLink RX1 35 yX1_total, Cond.instanceMethod yX1_total, Cond.selects RX1 yX1_total yX1_total, Cond.code yX1_total cX1_total 1 (some .int), Cond.methodLink RX1 31 yX1_totalFrom, Cond.instanceMethod yX1_totalFrom, Cond.selects RX1 yX1_totalFrom yX1_totalFrom, Cond.code yX1_totalFrom cX1_totalFrom 4 (some .int), Cond.fieldLink RX1 9 "SiloPads$Silo" "tonnes" "[I", Cond.methodLink RX1 39 yX1_placeOnTop, Cond.instanceMethod yX1_placeOnTop, Cond.selects RX1 yX1_placeOnTop yX1_placeOnTop]
def wsX4_bringIn_r2 : List Cond := [Cond.code yX1_placeOnTop cX1_placeOnTop 1 (some .int), Cond.fieldLink RX1 15 "SiloPads$Silo" "ages" "[I", Cond.methodLink RX4 297 yX1_fill, Cond.instanceMethod yX1_fill, Cond.selects RX1 yX1_fill yX1_fill, Cond.code yX1_fill cX1_fill 4 none, Cond.fieldLink RX1 28 "SiloPads$Silo" "shakes" "I"]
def wsX4_bringIn : List Cond := .code yX4_bringIn cX4_bringIn 5 (some .int) :: ((wsX4_bringIn_r1 ++ wsX4_bringIn_r2) ++ wsX00 ++ wsX10)
def wsX4_unload_r1 : List Cond := [Cond.classLink RX4 56 "java/lang/IndexOutOfBoundsException", Cond.initialized "java/lang/IndexOutOfBoundsException", Cond.classLink RX4 63 "java/lang/IllegalArgumentException", Cond.initialized "java/lang/IllegalArgumentException", Cond.fieldLink RX4 10 "SiloPads" "now" "LSiloPads$Yard;", Cond.fieldLink RX4 94 "SiloPads$Yard" "silos" "[LSiloPads$Silo;", Cond.fieldLink RX4 71 "SiloPads$Yard" "ships" "[LSiloPads$Ship;", Cond.methodLink RX4 87 yX4_isNoSilo, Cond.static yX4_isNoSilo, Cond.initialized RX4, Cond.code yX4_isNoSilo cX4_isNoSilo 1 (some .boolean), Cond.methodLink RX4 52 yX4_isNoShip, Cond.static yX4_isNoShip, Cond.code yX4_isNoShip cX4_isNoShip 1 (some .boolean), Cond.methodLink RX4 68 yX4_saveState, Cond.instanceMethod yX4_saveState, Cond.selects RX4 yX4_saveState yX4_saveState, Cond.code yX4_saveState cX4_saveState 3 none, Cond.fieldLink RX4 20 "SiloPads" "savedStates" "I", Cond.fieldLink RX4 16 "SiloPads" "saved" "[LSiloPads$Yard;", Cond.methodLink RX4 186 yX3_becomeLike, Cond.instanceMethod yX3_becomeLike, Cond.selects RX3 yX3_becomeLike yX3_becomeLike, Cond.initialized RX3]
def wsX4_unload_r2 : List Cond := [Cond.code yX3_becomeLike cX3_becomeLike 3 none, Cond.fieldLink RX3 11 "SiloPads$Yard" "silos" "[LSiloPads$Silo;", Cond.fieldLink RX3 19 "SiloPads$Yard" "ships" "[LSiloPads$Ship;", Cond.fieldLink RX3 32 "SiloPads$Yard" "settings" "[I", Cond.fieldLink RX3 35 "SiloPads$Yard" "days" "I", Cond.fieldLink RX3 39 "SiloPads$Yard" "dust" "I", Cond.fieldLink RX3 42 "SiloPads$Yard" "brought" "I", Cond.fieldLink RX3 45 "SiloPads$Yard" "gone" "I", Cond.fieldLink RX3 48 "SiloPads$Yard" "shakes" "I", Cond.fieldLink RX3 51 "SiloPads$Yard" "formed" "I", Cond.methodLink RX3 56 yX1_becomeLike, Cond.instanceMethod yX1_becomeLike, Cond.selects RX1 yX1_becomeLike yX1_becomeLike, Cond.initialized RX1, Cond.code yX1_becomeLike cX1_becomeLike 3 none, Cond.fieldLink RX1 9 "SiloPads$Silo" "tonnes" "[I", Cond.fieldLink RX1 15 "SiloPads$Silo" "ages" "[I", Cond.fieldLink RX1 18 "SiloPads$Silo" "layers" "I", Cond.fieldLink RX1 22 "SiloPads$Silo" "padsOn" "I", Cond.fieldLink RX1 25 "SiloPads$Silo" "arch" "I", Cond.fieldLink RX1 28 "SiloPads$Silo" "shakes" "I", Cond.methodLink RX3 60 yX0_becomeLike, Cond.instanceMethod yX0_becomeLike, Cond.selects RX0 yX0_becomeLike yX0_becomeLike]
def wsX4_unload_r3 : List Cond := [Cond.initialized RX0, Cond.code yX0_becomeLike cX0_becomeLike 2 none, Cond.fieldLink RX0 9 "SiloPads$Ship" "tonnes" "I", Cond.fieldLink RX0 15 "SiloPads$Ship" "hold" "I", Cond.methodLink RX4 98 yX4_bringIn, Cond.instanceMethod yX4_bringIn, Cond.selects RX4 yX4_bringIn yX4_bringIn, Cond.code yX4_bringIn cX4_bringIn 5 (some .int), Cond.fieldLink RX4 75 "SiloPads$Ship" "tonnes" "I", Cond.methodLink RX4 257 Lib.Math.min.name, Cond.static Lib.Math.min.name, Cond.initialized "java/lang/Math", Cond.code Lib.Math.min.name Lib.Math.min.code 2 (some .int), Cond.methodLink RX4 294 yX1_place, Cond.instanceMethod yX1_place, Cond.selects RX1 yX1_place yX1_place, Cond.code yX1_place cX1_place 2 (some .int), Cond.methodLink RX1 42 Lib.Math.min.name, Cond.methodLink RX1 35 yX1_total, Cond.instanceMethod yX1_total, Cond.selects RX1 yX1_total yX1_total, Cond.code yX1_total cX1_total 1 (some .int), Cond.methodLink RX1 31 yX1_totalFrom, Cond.instanceMethod yX1_totalFrom]
def wsX4_unload_r4 : List Cond := [Cond.selects RX1 yX1_totalFrom yX1_totalFrom, Cond.code yX1_totalFrom cX1_totalFrom 4 (some .int), Cond.methodLink RX1 39 yX1_placeOnTop, Cond.instanceMethod yX1_placeOnTop, Cond.selects RX1 yX1_placeOnTop yX1_placeOnTop, Cond.code yX1_placeOnTop cX1_placeOnTop 1 (some .int), Cond.methodLink RX4 297 yX1_fill, Cond.instanceMethod yX1_fill, Cond.selects RX1 yX1_fill yX1_fill, Cond.code yX1_fill cX1_fill 4 none]
def wsX4_unload : List Cond := .code yX4_unload cX4_unload 4 (some .int) :: ((wsX4_unload_r1 ++ (wsX4_unload_r2 ++ (wsX4_unload_r3 ++ wsX4_unload_r4))) ++ wsX40 ++ wsX30 ++ wsX10 ++ wsX00 ++ (vx_atS RX4 60 "java/lang/IndexOutOfBoundsException" ["java/lang/RuntimeException", "java/lang/Exception"]).filter goodWord ++ (vx_atS RX4 67 "java/lang/IllegalArgumentException" ["java/lang/RuntimeException", "java/lang/Exception"]).filter goodWord)
def wsX4_hardnessAt : List Cond := .code yX4_hardnessAt cX4_hardnessAt 3 (some .int) :: ([.fieldLink RX4 10 "SiloPads" "now" "LSiloPads$Yard;", .fieldLink RX4 117 "SiloPads$Yard" "settings" "[I"] ++ wsX40 ++ wsX30)
def wsX4_outInHour : List Cond := .code yX4_outInHour cX4_outInHour 3 (some .int) :: ([.fieldLink RX4 125 "SiloPads$Silo" "layers" "I", .fieldLink RX4 203 "SiloPads$Silo" "ages" "[I", .methodLink RX4 206 yX4_hardnessAt, .instanceMethod yX4_hardnessAt, .selects RX4 yX4_hardnessAt yX4_hardnessAt, .initialized RX4, .code yX4_hardnessAt cX4_hardnessAt 3 (some .int), .fieldLink RX4 10 "SiloPads" "now" "LSiloPads$Yard;", .fieldLink RX4 117 "SiloPads$Yard" "settings" "[I"] ++ wsX10 ++ wsX40 ++ wsX30)
def wsX4_dustOf : List Cond := .code yX4_dustOf cX4_dustOf 3 (some .int) :: ([.fieldLink RX4 10 "SiloPads" "now" "LSiloPads$Yard;", .fieldLink RX4 117 "SiloPads$Yard" "settings" "[I"] ++ wsX40 ++ wsX30)
def wsX4_pourForHour_r1 : List Cond := [Cond.fieldLink RX4 125 "SiloPads$Silo" "layers" "I", Cond.fieldLink RX4 141 "SiloPads$Silo" "arch" "I", Cond.fieldLink RX4 111 "SiloPads$Silo" "padsOn" "I", Cond.fieldLink RX4 201 "SiloPads$Silo" "tonnes" "[I", Cond.methodLink RX4 257 Lib.Math.min.name, Cond.static Lib.Math.min.name, Cond.initialized "java/lang/Math", Cond.code Lib.Math.min.name Lib.Math.min.code 2 (some .int), Cond.fieldLink RX4 75 "SiloPads$Ship" "tonnes" "I", Cond.methodLink RX4 193 yX4_outInHour, Cond.instanceMethod yX4_outInHour, Cond.selects RX4 yX4_outInHour yX4_outInHour, Cond.initialized RX4, Cond.code yX4_outInHour cX4_outInHour 3 (some .int), Cond.fieldLink RX4 203 "SiloPads$Silo" "ages" "[I", Cond.methodLink RX4 206 yX4_hardnessAt, Cond.instanceMethod yX4_hardnessAt, Cond.selects RX4 yX4_hardnessAt yX4_hardnessAt, Cond.code yX4_hardnessAt cX4_hardnessAt 3 (some .int), Cond.fieldLink RX4 10 "SiloPads" "now" "LSiloPads$Yard;", Cond.fieldLink RX4 117 "SiloPads$Yard" "settings" "[I", Cond.methodLink RX4 233 yX0_room, Cond.instanceMethod yX0_room, Cond.selects RX0 yX0_room yX0_room]
def wsX4_pourForHour_r2 : List Cond := [Cond.initialized RX0, Cond.code yX0_room cX0_room 1 (some .int), Cond.fieldLink RX0 15 "SiloPads$Ship" "hold" "I", Cond.fieldLink RX0 9 "SiloPads$Ship" "tonnes" "I", Cond.methodLink RX4 305 yX4_dustOf, Cond.instanceMethod yX4_dustOf, Cond.selects RX4 yX4_dustOf yX4_dustOf, Cond.code yX4_dustOf cX4_dustOf 3 (some .int), Cond.methodLink RX4 308 yX1_takeFromLowest, Cond.instanceMethod yX1_takeFromLowest, Cond.selects RX1 yX1_takeFromLowest yX1_takeFromLowest, Cond.initialized RX1, Cond.code yX1_takeFromLowest cX1_takeFromLowest 3 none, Cond.fieldLink RX1 9 "SiloPads$Silo" "tonnes" "[I", Cond.fieldLink RX1 18 "SiloPads$Silo" "layers" "I", Cond.fieldLink RX1 15 "SiloPads$Silo" "ages" "[I", Cond.fieldLink RX1 25 "SiloPads$Silo" "arch" "I"]
def wsX4_pourForHour : List Cond := .code yX4_pourForHour cX4_pourForHour 5 (some .int) :: ((wsX4_pourForHour_r1 ++ wsX4_pourForHour_r2) ++ wsX10 ++ wsX00 ++ wsX40 ++ wsX30)
def wsX4_pour_r1 : List Cond := [Cond.methodLink RX4 301 yX4_pourForHour, Cond.instanceMethod yX4_pourForHour, Cond.selects RX4 yX4_pourForHour yX4_pourForHour, Cond.initialized RX4, Cond.code yX4_pourForHour cX4_pourForHour 5 (some .int), Cond.fieldLink RX4 125 "SiloPads$Silo" "layers" "I", Cond.fieldLink RX4 141 "SiloPads$Silo" "arch" "I", Cond.fieldLink RX4 111 "SiloPads$Silo" "padsOn" "I", Cond.fieldLink RX4 201 "SiloPads$Silo" "tonnes" "[I", Cond.methodLink RX4 257 Lib.Math.min.name, Cond.static Lib.Math.min.name, Cond.initialized "java/lang/Math", Cond.code Lib.Math.min.name Lib.Math.min.code 2 (some .int), Cond.fieldLink RX4 75 "SiloPads$Ship" "tonnes" "I", Cond.methodLink RX4 193 yX4_outInHour, Cond.instanceMethod yX4_outInHour, Cond.selects RX4 yX4_outInHour yX4_outInHour, Cond.code yX4_outInHour cX4_outInHour 3 (some .int), Cond.fieldLink RX4 203 "SiloPads$Silo" "ages" "[I", Cond.methodLink RX4 206 yX4_hardnessAt, Cond.instanceMethod yX4_hardnessAt, Cond.selects RX4 yX4_hardnessAt yX4_hardnessAt, Cond.code yX4_hardnessAt cX4_hardnessAt 3 (some .int), Cond.fieldLink RX4 10 "SiloPads" "now" "LSiloPads$Yard;"]
def wsX4_pour_r2 : List Cond := [Cond.fieldLink RX4 117 "SiloPads$Yard" "settings" "[I", Cond.methodLink RX4 233 yX0_room, Cond.instanceMethod yX0_room, Cond.selects RX0 yX0_room yX0_room, Cond.initialized RX0, Cond.code yX0_room cX0_room 1 (some .int), Cond.fieldLink RX0 15 "SiloPads$Ship" "hold" "I", Cond.fieldLink RX0 9 "SiloPads$Ship" "tonnes" "I", Cond.methodLink RX4 305 yX4_dustOf, Cond.instanceMethod yX4_dustOf, Cond.selects RX4 yX4_dustOf yX4_dustOf, Cond.code yX4_dustOf cX4_dustOf 3 (some .int), Cond.methodLink RX4 308 yX1_takeFromLowest, Cond.instanceMethod yX1_takeFromLowest, Cond.selects RX1 yX1_takeFromLowest yX1_takeFromLowest, Cond.initialized RX1, Cond.code yX1_takeFromLowest cX1_takeFromLowest 3 none, Cond.fieldLink RX1 9 "SiloPads$Silo" "tonnes" "[I", Cond.fieldLink RX1 18 "SiloPads$Silo" "layers" "I", Cond.fieldLink RX1 15 "SiloPads$Silo" "ages" "[I", Cond.fieldLink RX1 25 "SiloPads$Silo" "arch" "I"]
def wsX4_pour : List Cond := .code yX4_pour cX4_pour 6 (some .int) :: ((wsX4_pour_r1 ++ wsX4_pour_r2) ++ wsX10 ++ wsX00 ++ wsX40 ++ wsX30)
def wsX4_letOut_r1 : List Cond := [Cond.fieldLink RX4 10 "SiloPads" "now" "LSiloPads$Yard;", Cond.fieldLink RX4 222 "SiloPads$Yard" "dust" "I", Cond.methodLink RX4 190 yX1_total, Cond.instanceMethod yX1_total, Cond.selects RX1 yX1_total yX1_total, Cond.initialized RX1, Cond.code yX1_total cX1_total 1 (some .int), Cond.methodLink RX1 31 yX1_totalFrom, Cond.instanceMethod yX1_totalFrom, Cond.selects RX1 yX1_totalFrom yX1_totalFrom, Cond.code yX1_totalFrom cX1_totalFrom 4 (some .int), Cond.fieldLink RX1 18 "SiloPads$Silo" "layers" "I", Cond.fieldLink RX1 9 "SiloPads$Silo" "tonnes" "[I", Cond.methodLink RX4 244 yX4_pour, Cond.instanceMethod yX4_pour, Cond.selects RX4 yX4_pour yX4_pour, Cond.initialized RX4, Cond.code yX4_pour cX4_pour 6 (some .int), Cond.methodLink RX4 301 yX4_pourForHour, Cond.instanceMethod yX4_pourForHour, Cond.selects RX4 yX4_pourForHour yX4_pourForHour, Cond.code yX4_pourForHour cX4_pourForHour 5 (some .int), Cond.fieldLink RX4 125 "SiloPads$Silo" "layers" "I", Cond.fieldLink RX4 141 "SiloPads$Silo" "arch" "I"]
def wsX4_letOut_r2 : List Cond := [Cond.fieldLink RX4 111 "SiloPads$Silo" "padsOn" "I", Cond.fieldLink RX4 201 "SiloPads$Silo" "tonnes" "[I", Cond.methodLink RX4 257 Lib.Math.min.name, Cond.static Lib.Math.min.name, Cond.initialized "java/lang/Math", Cond.code Lib.Math.min.name Lib.Math.min.code 2 (some .int), Cond.fieldLink RX4 75 "SiloPads$Ship" "tonnes" "I", Cond.methodLink RX4 193 yX4_outInHour, Cond.instanceMethod yX4_outInHour, Cond.selects RX4 yX4_outInHour yX4_outInHour, Cond.code yX4_outInHour cX4_outInHour 3 (some .int), Cond.fieldLink RX4 203 "SiloPads$Silo" "ages" "[I", Cond.methodLink RX4 206 yX4_hardnessAt, Cond.instanceMethod yX4_hardnessAt, Cond.selects RX4 yX4_hardnessAt yX4_hardnessAt, Cond.code yX4_hardnessAt cX4_hardnessAt 3 (some .int), Cond.fieldLink RX4 117 "SiloPads$Yard" "settings" "[I", Cond.methodLink RX4 233 yX0_room, Cond.instanceMethod yX0_room, Cond.selects RX0 yX0_room yX0_room, Cond.initialized RX0, Cond.code yX0_room cX0_room 1 (some .int), Cond.fieldLink RX0 15 "SiloPads$Ship" "hold" "I", Cond.fieldLink RX0 9 "SiloPads$Ship" "tonnes" "I"]
def wsX4_letOut_r3 : List Cond := [Cond.methodLink RX4 305 yX4_dustOf, Cond.instanceMethod yX4_dustOf, Cond.selects RX4 yX4_dustOf yX4_dustOf, Cond.code yX4_dustOf cX4_dustOf 3 (some .int), Cond.methodLink RX4 308 yX1_takeFromLowest, Cond.instanceMethod yX1_takeFromLowest, Cond.selects RX1 yX1_takeFromLowest yX1_takeFromLowest, Cond.code yX1_takeFromLowest cX1_takeFromLowest 3 none, Cond.fieldLink RX1 15 "SiloPads$Silo" "ages" "[I", Cond.fieldLink RX1 25 "SiloPads$Silo" "arch" "I"]
def wsX4_letOut : List Cond := .code yX4_letOut cX4_letOut 6 (some .int) :: ((wsX4_letOut_r1 ++ (wsX4_letOut_r2 ++ wsX4_letOut_r3)) ++ wsX40 ++ wsX30 ++ wsX10 ++ wsX00)
def wsX4_flow_r1 : List Cond := [Cond.classLink RX4 56 "java/lang/IndexOutOfBoundsException", Cond.initialized "java/lang/IndexOutOfBoundsException", Cond.classLink RX4 63 "java/lang/IllegalArgumentException", Cond.initialized "java/lang/IllegalArgumentException", Cond.fieldLink RX4 10 "SiloPads" "now" "LSiloPads$Yard;", Cond.fieldLink RX4 94 "SiloPads$Yard" "silos" "[LSiloPads$Silo;", Cond.fieldLink RX4 71 "SiloPads$Yard" "ships" "[LSiloPads$Ship;", Cond.methodLink RX4 87 yX4_isNoSilo, Cond.static yX4_isNoSilo, Cond.initialized RX4, Cond.code yX4_isNoSilo cX4_isNoSilo 1 (some .boolean), Cond.methodLink RX4 52 yX4_isNoShip, Cond.static yX4_isNoShip, Cond.code yX4_isNoShip cX4_isNoShip 1 (some .boolean), Cond.methodLink RX4 68 yX4_saveState, Cond.instanceMethod yX4_saveState, Cond.selects RX4 yX4_saveState yX4_saveState, Cond.code yX4_saveState cX4_saveState 3 none, Cond.fieldLink RX4 20 "SiloPads" "savedStates" "I", Cond.fieldLink RX4 16 "SiloPads" "saved" "[LSiloPads$Yard;", Cond.methodLink RX4 186 yX3_becomeLike, Cond.instanceMethod yX3_becomeLike, Cond.selects RX3 yX3_becomeLike yX3_becomeLike, Cond.initialized RX3]
def wsX4_flow_r2 : List Cond := [Cond.code yX3_becomeLike cX3_becomeLike 3 none, Cond.fieldLink RX3 11 "SiloPads$Yard" "silos" "[LSiloPads$Silo;", Cond.fieldLink RX3 19 "SiloPads$Yard" "ships" "[LSiloPads$Ship;", Cond.fieldLink RX3 32 "SiloPads$Yard" "settings" "[I", Cond.fieldLink RX3 35 "SiloPads$Yard" "days" "I", Cond.fieldLink RX3 39 "SiloPads$Yard" "dust" "I", Cond.fieldLink RX3 42 "SiloPads$Yard" "brought" "I", Cond.fieldLink RX3 45 "SiloPads$Yard" "gone" "I", Cond.fieldLink RX3 48 "SiloPads$Yard" "shakes" "I", Cond.fieldLink RX3 51 "SiloPads$Yard" "formed" "I", Cond.methodLink RX3 56 yX1_becomeLike, Cond.instanceMethod yX1_becomeLike, Cond.selects RX1 yX1_becomeLike yX1_becomeLike, Cond.initialized RX1, Cond.code yX1_becomeLike cX1_becomeLike 3 none, Cond.fieldLink RX1 9 "SiloPads$Silo" "tonnes" "[I", Cond.fieldLink RX1 15 "SiloPads$Silo" "ages" "[I", Cond.fieldLink RX1 18 "SiloPads$Silo" "layers" "I", Cond.fieldLink RX1 22 "SiloPads$Silo" "padsOn" "I", Cond.fieldLink RX1 25 "SiloPads$Silo" "arch" "I", Cond.fieldLink RX1 28 "SiloPads$Silo" "shakes" "I", Cond.methodLink RX3 60 yX0_becomeLike, Cond.instanceMethod yX0_becomeLike, Cond.selects RX0 yX0_becomeLike yX0_becomeLike]
def wsX4_flow_r3 : List Cond := [Cond.initialized RX0, Cond.code yX0_becomeLike cX0_becomeLike 2 none, Cond.fieldLink RX0 9 "SiloPads$Ship" "tonnes" "I", Cond.fieldLink RX0 15 "SiloPads$Ship" "hold" "I", Cond.methodLink RX4 104 yX4_letOut, Cond.instanceMethod yX4_letOut, Cond.selects RX4 yX4_letOut yX4_letOut, Cond.code yX4_letOut cX4_letOut 6 (some .int), Cond.fieldLink RX4 222 "SiloPads$Yard" "dust" "I", Cond.methodLink RX4 190 yX1_total, Cond.instanceMethod yX1_total, Cond.selects RX1 yX1_total yX1_total, Cond.code yX1_total cX1_total 1 (some .int), Cond.methodLink RX1 31 yX1_totalFrom, Cond.instanceMethod yX1_totalFrom, Cond.selects RX1 yX1_totalFrom yX1_totalFrom, Cond.code yX1_totalFrom cX1_totalFrom 4 (some .int), Cond.methodLink RX4 244 yX4_pour, Cond.instanceMethod yX4_pour, Cond.selects RX4 yX4_pour yX4_pour, Cond.code yX4_pour cX4_pour 6 (some .int), Cond.methodLink RX4 301 yX4_pourForHour, Cond.instanceMethod yX4_pourForHour, Cond.selects RX4 yX4_pourForHour yX4_pourForHour]
def wsX4_flow_r4 : List Cond := [Cond.code yX4_pourForHour cX4_pourForHour 5 (some .int), Cond.fieldLink RX4 125 "SiloPads$Silo" "layers" "I", Cond.fieldLink RX4 141 "SiloPads$Silo" "arch" "I", Cond.fieldLink RX4 111 "SiloPads$Silo" "padsOn" "I", Cond.fieldLink RX4 201 "SiloPads$Silo" "tonnes" "[I", Cond.methodLink RX4 257 Lib.Math.min.name, Cond.static Lib.Math.min.name, Cond.initialized "java/lang/Math", Cond.code Lib.Math.min.name Lib.Math.min.code 2 (some .int), Cond.fieldLink RX4 75 "SiloPads$Ship" "tonnes" "I", Cond.methodLink RX4 193 yX4_outInHour, Cond.instanceMethod yX4_outInHour, Cond.selects RX4 yX4_outInHour yX4_outInHour, Cond.code yX4_outInHour cX4_outInHour 3 (some .int), Cond.fieldLink RX4 203 "SiloPads$Silo" "ages" "[I", Cond.methodLink RX4 206 yX4_hardnessAt, Cond.instanceMethod yX4_hardnessAt, Cond.selects RX4 yX4_hardnessAt yX4_hardnessAt, Cond.code yX4_hardnessAt cX4_hardnessAt 3 (some .int), Cond.fieldLink RX4 117 "SiloPads$Yard" "settings" "[I", Cond.methodLink RX4 233 yX0_room, Cond.instanceMethod yX0_room, Cond.selects RX0 yX0_room yX0_room, Cond.code yX0_room cX0_room 1 (some .int)]
def wsX4_flow_r5 : List Cond := [Cond.methodLink RX4 305 yX4_dustOf, Cond.instanceMethod yX4_dustOf, Cond.selects RX4 yX4_dustOf yX4_dustOf, Cond.code yX4_dustOf cX4_dustOf 3 (some .int), Cond.methodLink RX4 308 yX1_takeFromLowest, Cond.instanceMethod yX1_takeFromLowest, Cond.selects RX1 yX1_takeFromLowest yX1_takeFromLowest, Cond.code yX1_takeFromLowest cX1_takeFromLowest 3 none]
def wsX4_flow : List Cond := .code yX4_flow cX4_flow 4 (some .int) :: ((wsX4_flow_r1 ++ (wsX4_flow_r2 ++ (wsX4_flow_r3 ++ (wsX4_flow_r4 ++ wsX4_flow_r5)))) ++ wsX40 ++ wsX30 ++ wsX10 ++ wsX00 ++ (vx_atS RX4 60 "java/lang/IndexOutOfBoundsException" ["java/lang/RuntimeException", "java/lang/Exception"]).filter goodWord ++ (vx_atS RX4 67 "java/lang/IllegalArgumentException" ["java/lang/RuntimeException", "java/lang/Exception"]).filter goodWord)
def wsX4_pads_r1 : List Cond := [Cond.classLink RX4 56 "java/lang/IndexOutOfBoundsException", Cond.initialized "java/lang/IndexOutOfBoundsException", Cond.classLink RX4 63 "java/lang/IllegalArgumentException", Cond.initialized "java/lang/IllegalArgumentException", Cond.classLink RX4 120 "java/lang/IllegalStateException", Cond.initialized "java/lang/IllegalStateException", Cond.fieldLink RX4 10 "SiloPads" "now" "LSiloPads$Yard;", Cond.fieldLink RX4 94 "SiloPads$Yard" "silos" "[LSiloPads$Silo;", Cond.fieldLink RX4 111 "SiloPads$Silo" "padsOn" "I", Cond.fieldLink RX4 117 "SiloPads$Yard" "settings" "[I", Cond.methodLink RX4 87 yX4_isNoSilo, Cond.static yX4_isNoSilo, Cond.initialized RX4, Cond.code yX4_isNoSilo cX4_isNoSilo 1 (some .boolean), Cond.methodLink RX4 114 yX3_padsOn, Cond.instanceMethod yX3_padsOn, Cond.selects RX3 yX3_padsOn yX3_padsOn, Cond.initialized RX3, Cond.code yX3_padsOn cX3_padsOn 3 (some .int), Cond.fieldLink RX3 11 "SiloPads$Yard" "silos" "[LSiloPads$Silo;", Cond.fieldLink RX3 70 "SiloPads$Silo" "padsOn" "I", Cond.methodLink RX4 68 yX4_saveState, Cond.instanceMethod yX4_saveState, Cond.selects RX4 yX4_saveState yX4_saveState]
def wsX4_pads_r2 : List Cond := [Cond.code yX4_saveState cX4_saveState 3 none, Cond.fieldLink RX4 20 "SiloPads" "savedStates" "I", Cond.fieldLink RX4 16 "SiloPads" "saved" "[LSiloPads$Yard;", Cond.methodLink RX4 186 yX3_becomeLike, Cond.instanceMethod yX3_becomeLike, Cond.selects RX3 yX3_becomeLike yX3_becomeLike, Cond.code yX3_becomeLike cX3_becomeLike 3 none, Cond.fieldLink RX3 19 "SiloPads$Yard" "ships" "[LSiloPads$Ship;", Cond.fieldLink RX3 32 "SiloPads$Yard" "settings" "[I", Cond.fieldLink RX3 35 "SiloPads$Yard" "days" "I", Cond.fieldLink RX3 39 "SiloPads$Yard" "dust" "I", Cond.fieldLink RX3 42 "SiloPads$Yard" "brought" "I", Cond.fieldLink RX3 45 "SiloPads$Yard" "gone" "I", Cond.fieldLink RX3 48 "SiloPads$Yard" "shakes" "I", Cond.fieldLink RX3 51 "SiloPads$Yard" "formed" "I", Cond.methodLink RX3 56 yX1_becomeLike, Cond.instanceMethod yX1_becomeLike, Cond.selects RX1 yX1_becomeLike yX1_becomeLike, Cond.initialized RX1, Cond.code yX1_becomeLike cX1_becomeLike 3 none, Cond.fieldLink RX1 9 "SiloPads$Silo" "tonnes" "[I", Cond.fieldLink RX1 15 "SiloPads$Silo" "ages" "[I", Cond.fieldLink RX1 18 "SiloPads$Silo" "layers" "I", Cond.fieldLink RX1 22 "SiloPads$Silo" "padsOn" "I"]
def wsX4_pads_r3 : List Cond := [Cond.fieldLink RX1 25 "SiloPads$Silo" "arch" "I", Cond.fieldLink RX1 28 "SiloPads$Silo" "shakes" "I", Cond.methodLink RX3 60 yX0_becomeLike, Cond.instanceMethod yX0_becomeLike, Cond.selects RX0 yX0_becomeLike yX0_becomeLike, Cond.initialized RX0, Cond.code yX0_becomeLike cX0_becomeLike 2 none, Cond.fieldLink RX0 9 "SiloPads$Ship" "tonnes" "I", Cond.fieldLink RX0 15 "SiloPads$Ship" "hold" "I"]
def wsX4_pads : List Cond := .code yX4_pads cX4_pads 4 (some .int) :: ((wsX4_pads_r1 ++ (wsX4_pads_r2 ++ wsX4_pads_r3)) ++ wsX40 ++ wsX30 ++ wsX10 ++ wsX00 ++ (vx_atS RX4 60 "java/lang/IndexOutOfBoundsException" ["java/lang/RuntimeException", "java/lang/Exception"]).filter goodWord ++ (vx_atS RX4 67 "java/lang/IllegalArgumentException" ["java/lang/RuntimeException", "java/lang/Exception"]).filter goodWord ++ (vx_atS RX4 124 "java/lang/IllegalStateException" ["java/lang/RuntimeException", "java/lang/Exception"]).filter goodWord)
def wsX4_shakesToBreak : List Cond := .code yX4_shakesToBreak cX4_shakesToBreak 2 (some .int) :: ([.fieldLink RX4 141 "SiloPads$Silo" "arch" "I", .fieldLink RX4 10 "SiloPads" "now" "LSiloPads$Yard;", .fieldLink RX4 117 "SiloPads$Yard" "settings" "[I", .fieldLink RX4 134 "SiloPads$Silo" "shakes" "I", .methodLink RX4 317 Lib.Math.max.name, .static Lib.Math.max.name, .initialized "java/lang/Math", .code Lib.Math.max.name Lib.Math.max.code 2 (some .int), .methodLink RX4 320 yX1_tonnesHeld, .instanceMethod yX1_tonnesHeld, .selects RX1 yX1_tonnesHeld yX1_tonnesHeld, .initialized RX1, .code yX1_tonnesHeld cX1_tonnesHeld 1 (some .int), .fieldLink RX1 25 "SiloPads$Silo" "arch" "I", .methodLink RX1 31 yX1_totalFrom, .instanceMethod yX1_totalFrom, .selects RX1 yX1_totalFrom yX1_totalFrom, .code yX1_totalFrom cX1_totalFrom 4 (some .int), .fieldLink RX1 18 "SiloPads$Silo" "layers" "I", .fieldLink RX1 9 "SiloPads$Silo" "tonnes" "[I"] ++ wsX10 ++ wsX40 ++ wsX30)
def wsX4_shake_r1 : List Cond := [Cond.classLink RX4 56 "java/lang/IndexOutOfBoundsException", Cond.initialized "java/lang/IndexOutOfBoundsException", Cond.classLink RX4 120 "java/lang/IllegalStateException", Cond.initialized "java/lang/IllegalStateException", Cond.fieldLink RX4 10 "SiloPads" "now" "LSiloPads$Yard;", Cond.fieldLink RX4 94 "SiloPads$Yard" "silos" "[LSiloPads$Silo;", Cond.fieldLink RX4 125 "SiloPads$Silo" "layers" "I", Cond.fieldLink RX4 134 "SiloPads$Silo" "shakes" "I", Cond.fieldLink RX4 137 "SiloPads$Yard" "shakes" "I", Cond.fieldLink RX4 141 "SiloPads$Silo" "arch" "I", Cond.methodLink RX4 87 yX4_isNoSilo, Cond.static yX4_isNoSilo, Cond.initialized RX4, Cond.code yX4_isNoSilo cX4_isNoSilo 1 (some .boolean), Cond.methodLink RX4 68 yX4_saveState, Cond.instanceMethod yX4_saveState, Cond.selects RX4 yX4_saveState yX4_saveState, Cond.code yX4_saveState cX4_saveState 3 none, Cond.fieldLink RX4 20 "SiloPads" "savedStates" "I", Cond.fieldLink RX4 16 "SiloPads" "saved" "[LSiloPads$Yard;", Cond.methodLink RX4 186 yX3_becomeLike, Cond.instanceMethod yX3_becomeLike, Cond.selects RX3 yX3_becomeLike yX3_becomeLike, Cond.initialized RX3]
def wsX4_shake_r2 : List Cond := [Cond.code yX3_becomeLike cX3_becomeLike 3 none, Cond.fieldLink RX3 11 "SiloPads$Yard" "silos" "[LSiloPads$Silo;", Cond.fieldLink RX3 19 "SiloPads$Yard" "ships" "[LSiloPads$Ship;", Cond.fieldLink RX3 32 "SiloPads$Yard" "settings" "[I", Cond.fieldLink RX3 35 "SiloPads$Yard" "days" "I", Cond.fieldLink RX3 39 "SiloPads$Yard" "dust" "I", Cond.fieldLink RX3 42 "SiloPads$Yard" "brought" "I", Cond.fieldLink RX3 45 "SiloPads$Yard" "gone" "I", Cond.fieldLink RX3 48 "SiloPads$Yard" "shakes" "I", Cond.fieldLink RX3 51 "SiloPads$Yard" "formed" "I", Cond.methodLink RX3 56 yX1_becomeLike, Cond.instanceMethod yX1_becomeLike, Cond.selects RX1 yX1_becomeLike yX1_becomeLike, Cond.initialized RX1, Cond.code yX1_becomeLike cX1_becomeLike 3 none, Cond.fieldLink RX1 9 "SiloPads$Silo" "tonnes" "[I", Cond.fieldLink RX1 15 "SiloPads$Silo" "ages" "[I", Cond.fieldLink RX1 18 "SiloPads$Silo" "layers" "I", Cond.fieldLink RX1 22 "SiloPads$Silo" "padsOn" "I", Cond.fieldLink RX1 25 "SiloPads$Silo" "arch" "I", Cond.fieldLink RX1 28 "SiloPads$Silo" "shakes" "I", Cond.methodLink RX3 60 yX0_becomeLike, Cond.instanceMethod yX0_becomeLike, Cond.selects RX0 yX0_becomeLike yX0_becomeLike]
def wsX4_shake_r3 : List Cond := [Cond.initialized RX0, Cond.code yX0_becomeLike cX0_becomeLike 2 none, Cond.fieldLink RX0 9 "SiloPads$Ship" "tonnes" "I", Cond.fieldLink RX0 15 "SiloPads$Ship" "hold" "I", Cond.methodLink RX4 130 yX4_shakesToBreak, Cond.instanceMethod yX4_shakesToBreak, Cond.selects RX4 yX4_shakesToBreak yX4_shakesToBreak, Cond.code yX4_shakesToBreak cX4_shakesToBreak 2 (some .int), Cond.fieldLink RX4 117 "SiloPads$Yard" "settings" "[I", Cond.methodLink RX4 317 Lib.Math.max.name, Cond.static Lib.Math.max.name, Cond.initialized "java/lang/Math", Cond.code Lib.Math.max.name Lib.Math.max.code 2 (some .int), Cond.methodLink RX4 320 yX1_tonnesHeld, Cond.instanceMethod yX1_tonnesHeld, Cond.selects RX1 yX1_tonnesHeld yX1_tonnesHeld, Cond.code yX1_tonnesHeld cX1_tonnesHeld 1 (some .int), Cond.methodLink RX1 31 yX1_totalFrom, Cond.instanceMethod yX1_totalFrom, Cond.selects RX1 yX1_totalFrom yX1_totalFrom, Cond.code yX1_totalFrom cX1_totalFrom 4 (some .int), Cond.methodLink RX4 138 yX1_makeLowestYounger, Cond.instanceMethod yX1_makeLowestYounger, Cond.selects RX1 yX1_makeLowestYounger yX1_makeLowestYounger]
def wsX4_shake_r4 : List Cond := [Cond.code yX1_makeLowestYounger cX1_makeLowestYounger 1 none, Cond.methodLink RX1 48 Lib.Math.max.name]
def wsX4_shake : List Cond := .code yX4_shake cX4_shake 4 (some .int) :: ((wsX4_shake_r1 ++ (wsX4_shake_r2 ++ (wsX4_shake_r3 ++ wsX4_shake_r4))) ++ wsX40 ++ wsX30 ++ wsX10 ++ wsX00 ++ (vx_atS RX4 60 "java/lang/IndexOutOfBoundsException" ["java/lang/RuntimeException", "java/lang/Exception"]).filter goodWord ++ (vx_atS RX4 124 "java/lang/IllegalStateException" ["java/lang/RuntimeException", "java/lang/Exception"]).filter goodWord)
def wsX4_passDayIn : List Cond := .code yX4_passDayIn cX4_passDayIn 2 (some .int) :: ([.fieldLink RX4 203 "SiloPads$Silo" "ages" "[I", .fieldLink RX4 141 "SiloPads$Silo" "arch" "I", .fieldLink RX4 134 "SiloPads$Silo" "shakes" "I", .methodLink RX4 314 yX1_makeOlder, .instanceMethod yX1_makeOlder, .selects RX1 yX1_makeOlder yX1_makeOlder, .initialized RX1, .code yX1_makeOlder cX1_makeOlder 2 none, .fieldLink RX1 18 "SiloPads$Silo" "layers" "I", .fieldLink RX1 15 "SiloPads$Silo" "ages" "[I", .methodLink RX4 251 yX1_canGetArch, .instanceMethod yX1_canGetArch, .selects RX1 yX1_canGetArch yX1_canGetArch, .code yX1_canGetArch cX1_canGetArch 1 (some .boolean), .fieldLink RX1 25 "SiloPads$Silo" "arch" "I", .methodLink RX4 206 yX4_hardnessAt, .instanceMethod yX4_hardnessAt, .selects RX4 yX4_hardnessAt yX4_hardnessAt, .initialized RX4, .code yX4_hardnessAt cX4_hardnessAt 3 (some .int), .fieldLink RX4 10 "SiloPads" "now" "LSiloPads$Yard;", .fieldLink RX4 117 "SiloPads$Yard" "settings" "[I"] ++ wsX10 ++ wsX40 ++ wsX30)
def wsX4_passDays_r1 : List Cond := [Cond.fieldLink RX4 10 "SiloPads" "now" "LSiloPads$Yard;", Cond.fieldLink RX4 213 "SiloPads$Yard" "days" "I", Cond.fieldLink RX4 94 "SiloPads$Yard" "silos" "[LSiloPads$Silo;", Cond.fieldLink RX4 228 "SiloPads$Yard" "formed" "I", Cond.methodLink RX4 311 yX4_passDayIn, Cond.instanceMethod yX4_passDayIn, Cond.selects RX4 yX4_passDayIn yX4_passDayIn, Cond.initialized RX4, Cond.code yX4_passDayIn cX4_passDayIn 2 (some .int), Cond.fieldLink RX4 203 "SiloPads$Silo" "ages" "[I", Cond.fieldLink RX4 141 "SiloPads$Silo" "arch" "I", Cond.fieldLink RX4 134 "SiloPads$Silo" "shakes" "I", Cond.methodLink RX4 314 yX1_makeOlder, Cond.instanceMethod yX1_makeOlder, Cond.selects RX1 yX1_makeOlder yX1_makeOlder, Cond.initialized RX1, Cond.code yX1_makeOlder cX1_makeOlder 2 none, Cond.fieldLink RX1 18 "SiloPads$Silo" "layers" "I", Cond.fieldLink RX1 15 "SiloPads$Silo" "ages" "[I", Cond.methodLink RX4 251 yX1_canGetArch, Cond.instanceMethod yX1_canGetArch, Cond.selects RX1 yX1_canGetArch yX1_canGetArch, Cond.code yX1_canGetArch cX1_canGetArch 1 (some .boolean), Cond.fieldLink RX1 25 "SiloPads$Silo" "arch" "I"]
def wsX4_passDays_r2 : List Cond := [Cond.methodLink RX4 206 yX4_hardnessAt, Cond.instanceMethod yX4_hardnessAt, Cond.selects RX4 yX4_hardnessAt yX4_hardnessAt, Cond.code yX4_hardnessAt cX4_hardnessAt 3 (some .int), Cond.fieldLink RX4 117 "SiloPads$Yard" "settings" "[I"]
def wsX4_passDays : List Cond := .code yX4_passDays cX4_passDays 5 (some .int) :: ((wsX4_passDays_r1 ++ wsX4_passDays_r2) ++ wsX40 ++ wsX30 ++ wsX10)
def wsX4_pass_r1 : List Cond := [Cond.classLink RX4 63 "java/lang/IllegalArgumentException", Cond.initialized "java/lang/IllegalArgumentException", Cond.methodLink RX4 68 yX4_saveState, Cond.instanceMethod yX4_saveState, Cond.selects RX4 yX4_saveState yX4_saveState, Cond.initialized RX4, Cond.code yX4_saveState cX4_saveState 3 none, Cond.fieldLink RX4 20 "SiloPads" "savedStates" "I", Cond.fieldLink RX4 16 "SiloPads" "saved" "[LSiloPads$Yard;", Cond.fieldLink RX4 10 "SiloPads" "now" "LSiloPads$Yard;", Cond.methodLink RX4 186 yX3_becomeLike, Cond.instanceMethod yX3_becomeLike, Cond.selects RX3 yX3_becomeLike yX3_becomeLike, Cond.initialized RX3, Cond.code yX3_becomeLike cX3_becomeLike 3 none, Cond.fieldLink RX3 11 "SiloPads$Yard" "silos" "[LSiloPads$Silo;", Cond.fieldLink RX3 19 "SiloPads$Yard" "ships" "[LSiloPads$Ship;", Cond.fieldLink RX3 32 "SiloPads$Yard" "settings" "[I", Cond.fieldLink RX3 35 "SiloPads$Yard" "days" "I", Cond.fieldLink RX3 39 "SiloPads$Yard" "dust" "I", Cond.fieldLink RX3 42 "SiloPads$Yard" "brought" "I", Cond.fieldLink RX3 45 "SiloPads$Yard" "gone" "I", Cond.fieldLink RX3 48 "SiloPads$Yard" "shakes" "I", Cond.fieldLink RX3 51 "SiloPads$Yard" "formed" "I"]
def wsX4_pass_r2 : List Cond := [Cond.methodLink RX3 56 yX1_becomeLike, Cond.instanceMethod yX1_becomeLike, Cond.selects RX1 yX1_becomeLike yX1_becomeLike, Cond.initialized RX1, Cond.code yX1_becomeLike cX1_becomeLike 3 none, Cond.fieldLink RX1 9 "SiloPads$Silo" "tonnes" "[I", Cond.fieldLink RX1 15 "SiloPads$Silo" "ages" "[I", Cond.fieldLink RX1 18 "SiloPads$Silo" "layers" "I", Cond.fieldLink RX1 22 "SiloPads$Silo" "padsOn" "I", Cond.fieldLink RX1 25 "SiloPads$Silo" "arch" "I", Cond.fieldLink RX1 28 "SiloPads$Silo" "shakes" "I", Cond.methodLink RX3 60 yX0_becomeLike, Cond.instanceMethod yX0_becomeLike, Cond.selects RX0 yX0_becomeLike yX0_becomeLike, Cond.initialized RX0, Cond.code yX0_becomeLike cX0_becomeLike 2 none, Cond.fieldLink RX0 9 "SiloPads$Ship" "tonnes" "I", Cond.fieldLink RX0 15 "SiloPads$Ship" "hold" "I", Cond.methodLink RX4 146 yX4_passDays, Cond.instanceMethod yX4_passDays, Cond.selects RX4 yX4_passDays yX4_passDays, Cond.code yX4_passDays cX4_passDays 5 (some .int), Cond.fieldLink RX4 213 "SiloPads$Yard" "days" "I", Cond.fieldLink RX4 94 "SiloPads$Yard" "silos" "[LSiloPads$Silo;"]
def wsX4_pass_r3 : List Cond := [Cond.fieldLink RX4 228 "SiloPads$Yard" "formed" "I", Cond.methodLink RX4 311 yX4_passDayIn, Cond.instanceMethod yX4_passDayIn, Cond.selects RX4 yX4_passDayIn yX4_passDayIn, Cond.code yX4_passDayIn cX4_passDayIn 2 (some .int), Cond.fieldLink RX4 203 "SiloPads$Silo" "ages" "[I", Cond.fieldLink RX4 141 "SiloPads$Silo" "arch" "I", Cond.fieldLink RX4 134 "SiloPads$Silo" "shakes" "I", Cond.methodLink RX4 314 yX1_makeOlder, Cond.instanceMethod yX1_makeOlder, Cond.selects RX1 yX1_makeOlder yX1_makeOlder, Cond.code yX1_makeOlder cX1_makeOlder 2 none, Cond.methodLink RX4 251 yX1_canGetArch, Cond.instanceMethod yX1_canGetArch, Cond.selects RX1 yX1_canGetArch yX1_canGetArch, Cond.code yX1_canGetArch cX1_canGetArch 1 (some .boolean), Cond.methodLink RX4 206 yX4_hardnessAt, Cond.instanceMethod yX4_hardnessAt, Cond.selects RX4 yX4_hardnessAt yX4_hardnessAt, Cond.code yX4_hardnessAt cX4_hardnessAt 3 (some .int), Cond.fieldLink RX4 117 "SiloPads$Yard" "settings" "[I"]
def wsX4_pass : List Cond := .code yX4_pass cX4_pass 2 (some .int) :: ((wsX4_pass_r1 ++ (wsX4_pass_r2 ++ wsX4_pass_r3)) ++ wsX40 ++ wsX30 ++ wsX10 ++ wsX00 ++ (vx_atS RX4 67 "java/lang/IllegalArgumentException" ["java/lang/RuntimeException", "java/lang/Exception"]).filter goodWord)
def wsX4_set_r1 : List Cond := [Cond.classLink RX4 56 "java/lang/IndexOutOfBoundsException", Cond.initialized "java/lang/IndexOutOfBoundsException", Cond.classLink RX4 63 "java/lang/IllegalArgumentException", Cond.initialized "java/lang/IllegalArgumentException", Cond.classLink RX4 120 "java/lang/IllegalStateException", Cond.initialized "java/lang/IllegalStateException", Cond.fieldLink RX4 10 "SiloPads" "now" "LSiloPads$Yard;", Cond.fieldLink RX4 117 "SiloPads$Yard" "settings" "[I", Cond.fieldLink RX4 152 "SiloPads" "SETTING_LEAST" "[I", Cond.fieldLink RX4 155 "SiloPads" "SETTING_MOST" "[I", Cond.methodLink RX4 114 yX3_padsOn, Cond.instanceMethod yX3_padsOn, Cond.selects RX3 yX3_padsOn yX3_padsOn, Cond.initialized RX3, Cond.code yX3_padsOn cX3_padsOn 3 (some .int), Cond.fieldLink RX3 11 "SiloPads$Yard" "silos" "[LSiloPads$Silo;", Cond.fieldLink RX3 70 "SiloPads$Silo" "padsOn" "I", Cond.methodLink RX4 68 yX4_saveState, Cond.instanceMethod yX4_saveState, Cond.selects RX4 yX4_saveState yX4_saveState, Cond.initialized RX4, Cond.code yX4_saveState cX4_saveState 3 none, Cond.fieldLink RX4 20 "SiloPads" "savedStates" "I", Cond.fieldLink RX4 16 "SiloPads" "saved" "[LSiloPads$Yard;"]
def wsX4_set_r2 : List Cond := [Cond.methodLink RX4 186 yX3_becomeLike, Cond.instanceMethod yX3_becomeLike, Cond.selects RX3 yX3_becomeLike yX3_becomeLike, Cond.code yX3_becomeLike cX3_becomeLike 3 none, Cond.fieldLink RX3 19 "SiloPads$Yard" "ships" "[LSiloPads$Ship;", Cond.fieldLink RX3 32 "SiloPads$Yard" "settings" "[I", Cond.fieldLink RX3 35 "SiloPads$Yard" "days" "I", Cond.fieldLink RX3 39 "SiloPads$Yard" "dust" "I", Cond.fieldLink RX3 42 "SiloPads$Yard" "brought" "I", Cond.fieldLink RX3 45 "SiloPads$Yard" "gone" "I", Cond.fieldLink RX3 48 "SiloPads$Yard" "shakes" "I", Cond.fieldLink RX3 51 "SiloPads$Yard" "formed" "I", Cond.methodLink RX3 56 yX1_becomeLike, Cond.instanceMethod yX1_becomeLike, Cond.selects RX1 yX1_becomeLike yX1_becomeLike, Cond.initialized RX1, Cond.code yX1_becomeLike cX1_becomeLike 3 none, Cond.fieldLink RX1 9 "SiloPads$Silo" "tonnes" "[I", Cond.fieldLink RX1 15 "SiloPads$Silo" "ages" "[I", Cond.fieldLink RX1 18 "SiloPads$Silo" "layers" "I", Cond.fieldLink RX1 22 "SiloPads$Silo" "padsOn" "I", Cond.fieldLink RX1 25 "SiloPads$Silo" "arch" "I", Cond.fieldLink RX1 28 "SiloPads$Silo" "shakes" "I", Cond.methodLink RX3 60 yX0_becomeLike]
def wsX4_set_r3 : List Cond := [Cond.instanceMethod yX0_becomeLike, Cond.selects RX0 yX0_becomeLike yX0_becomeLike, Cond.initialized RX0, Cond.code yX0_becomeLike cX0_becomeLike 2 none, Cond.fieldLink RX0 9 "SiloPads$Ship" "tonnes" "I", Cond.fieldLink RX0 15 "SiloPads$Ship" "hold" "I"]
def wsX4_set : List Cond := .code yX4_set cX4_set 4 (some .int) :: ((wsX4_set_r1 ++ (wsX4_set_r2 ++ wsX4_set_r3)) ++ wsX40 ++ wsX30 ++ wsX10 ++ wsX00 ++ (vx_atS RX4 60 "java/lang/IndexOutOfBoundsException" ["java/lang/RuntimeException", "java/lang/Exception"]).filter goodWord ++ (vx_atS RX4 67 "java/lang/IllegalArgumentException" ["java/lang/RuntimeException", "java/lang/Exception"]).filter goodWord ++ (vx_atS RX4 124 "java/lang/IllegalStateException" ["java/lang/RuntimeException", "java/lang/Exception"]).filter goodWord)
def wsX4_append : List Cond := .code yX4_append cX4_append 2 (some .int) :: ([.classLink RX4 63 "java/lang/IllegalArgumentException", .initialized "java/lang/IllegalArgumentException", .classLink RX4 120 "java/lang/IllegalStateException", .initialized "java/lang/IllegalStateException", .fieldLink RX4 28 "SiloPads" "length" "I", .fieldLink RX4 24 "SiloPads" "codes" "[I"] ++ wsX40 ++ (vx_atS RX4 67 "java/lang/IllegalArgumentException" ["java/lang/RuntimeException", "java/lang/Exception"]).filter goodWord ++ (vx_atS RX4 124 "java/lang/IllegalStateException" ["java/lang/RuntimeException", "java/lang/Exception"]).filter goodWord)
def wsX4_clearBuffer : List Cond := .code yX4_clearBuffer cX4_clearBuffer 2 (some .int) :: ([.fieldLink RX4 28 "SiloPads" "length" "I"] ++ wsX40)
def wsX4_firstError_r1 : List Cond := [Cond.fieldLink RX4 34 "SiloPads" "reader" "LSiloPads$TextReader;", Cond.fieldLink RX4 28 "SiloPads" "length" "I", Cond.fieldLink RX4 24 "SiloPads" "codes" "[I", Cond.methodLink RX4 166 yX2_begin, Cond.instanceMethod yX2_begin, Cond.selects RX2 yX2_begin yX2_begin, Cond.initialized RX2, Cond.code yX2_begin cX2_begin 1 none, Cond.fieldLink RX2 11 "SiloPads$TextReader" "place" "I", Cond.methodLink RX4 169 yX2_take, Cond.instanceMethod yX2_take, Cond.selects RX2 yX2_take yX2_take, Cond.code yX2_take cX2_take 2 (some .boolean), Cond.methodLink RX2 27 yX2_takePartStart, Cond.instanceMethod yX2_takePartStart, Cond.selects RX2 yX2_takePartStart yX2_takePartStart, Cond.code yX2_takePartStart cX2_takePartStart 2 (some .boolean), Cond.fieldLink RX2 21 "SiloPads$TextReader" "kind" "I", Cond.fieldLink RX2 15 "SiloPads$TextReader" "silo" "I", Cond.methodLink RX2 37 yX2_moveOn, Cond.instanceMethod yX2_moveOn, Cond.selects RX2 yX2_moveOn yX2_moveOn, Cond.code yX2_moveOn cX2_moveOn 3 (some .boolean), Cond.static yX4_isNoSilo]
def wsX4_firstError_r2 : List Cond := [Cond.initialized RX4, Cond.code yX4_isNoSilo cX4_isNoSilo 1 (some .boolean), Cond.methodLink RX2 31 yX2_takeSign, Cond.instanceMethod yX2_takeSign, Cond.selects RX2 yX2_takeSign yX2_takeSign, Cond.code yX2_takeSign cX2_takeSign 2 (some .boolean), Cond.methodLink RX2 34 yX2_takeShip, Cond.instanceMethod yX2_takeShip, Cond.selects RX2 yX2_takeShip yX2_takeShip, Cond.code yX2_takeShip cX2_takeShip 2 (some .boolean), Cond.fieldLink RX2 18 "SiloPads$TextReader" "ship" "I", Cond.static yX4_isNoShip, Cond.code yX4_isNoShip cX4_isNoShip 1 (some .boolean), Cond.methodLink RX2 41 yX2_takeFirstDigit, Cond.instanceMethod yX2_takeFirstDigit, Cond.selects RX2 yX2_takeFirstDigit yX2_takeFirstDigit, Cond.code yX2_takeFirstDigit cX2_takeFirstDigit 2 (some .boolean), Cond.fieldLink RX2 24 "SiloPads$TextReader" "number" "I", Cond.methodLink RX2 44 yX2_takeNextDigit, Cond.instanceMethod yX2_takeNextDigit, Cond.selects RX2 yX2_takeNextDigit yX2_takeNextDigit, Cond.code yX2_takeNextDigit cX2_takeNextDigit 2 (some .boolean), Cond.methodLink RX2 53 yX2_numberMost, Cond.instanceMethod yX2_numberMost]
def wsX4_firstError_r3 : List Cond := [Cond.selects RX2 yX2_numberMost yX2_numberMost, Cond.code yX2_numberMost cX2_numberMost 1 (some .int)]
def wsX4_firstError : List Cond := .code yX4_firstError cX4_firstError 2 (some .int) :: ((wsX4_firstError_r1 ++ (wsX4_firstError_r2 ++ wsX4_firstError_r3)) ++ wsX40 ++ wsX20)
def wsX4_playPart_r1 : List Cond := [Cond.fieldLink RX4 34 "SiloPads" "reader" "LSiloPads$TextReader;", Cond.fieldLink RX4 326 "SiloPads$TextReader" "kind" "I", Cond.fieldLink RX4 329 "SiloPads$TextReader" "number" "I", Cond.fieldLink RX4 10 "SiloPads" "now" "LSiloPads$Yard;", Cond.fieldLink RX4 94 "SiloPads$Yard" "silos" "[LSiloPads$Silo;", Cond.fieldLink RX4 332 "SiloPads$TextReader" "silo" "I", Cond.fieldLink RX4 71 "SiloPads$Yard" "ships" "[LSiloPads$Ship;", Cond.fieldLink RX4 335 "SiloPads$TextReader" "ship" "I", Cond.methodLink RX4 146 yX4_passDays, Cond.instanceMethod yX4_passDays, Cond.selects RX4 yX4_passDays yX4_passDays, Cond.initialized RX4, Cond.code yX4_passDays cX4_passDays 5 (some .int), Cond.fieldLink RX4 213 "SiloPads$Yard" "days" "I", Cond.fieldLink RX4 228 "SiloPads$Yard" "formed" "I", Cond.methodLink RX4 311 yX4_passDayIn, Cond.instanceMethod yX4_passDayIn, Cond.selects RX4 yX4_passDayIn yX4_passDayIn, Cond.code yX4_passDayIn cX4_passDayIn 2 (some .int), Cond.fieldLink RX4 203 "SiloPads$Silo" "ages" "[I", Cond.fieldLink RX4 141 "SiloPads$Silo" "arch" "I", Cond.fieldLink RX4 134 "SiloPads$Silo" "shakes" "I", Cond.methodLink RX4 314 yX1_makeOlder, Cond.instanceMethod yX1_makeOlder]
def wsX4_playPart_r2 : List Cond := [Cond.selects RX1 yX1_makeOlder yX1_makeOlder, Cond.initialized RX1, Cond.code yX1_makeOlder cX1_makeOlder 2 none, Cond.fieldLink RX1 18 "SiloPads$Silo" "layers" "I", Cond.fieldLink RX1 15 "SiloPads$Silo" "ages" "[I", Cond.methodLink RX4 251 yX1_canGetArch, Cond.instanceMethod yX1_canGetArch, Cond.selects RX1 yX1_canGetArch yX1_canGetArch, Cond.code yX1_canGetArch cX1_canGetArch 1 (some .boolean), Cond.fieldLink RX1 25 "SiloPads$Silo" "arch" "I", Cond.methodLink RX4 206 yX4_hardnessAt, Cond.instanceMethod yX4_hardnessAt, Cond.selects RX4 yX4_hardnessAt yX4_hardnessAt, Cond.code yX4_hardnessAt cX4_hardnessAt 3 (some .int), Cond.fieldLink RX4 117 "SiloPads$Yard" "settings" "[I", Cond.methodLink RX4 98 yX4_bringIn, Cond.instanceMethod yX4_bringIn, Cond.selects RX4 yX4_bringIn yX4_bringIn, Cond.code yX4_bringIn cX4_bringIn 5 (some .int), Cond.fieldLink RX4 75 "SiloPads$Ship" "tonnes" "I", Cond.methodLink RX4 257 Lib.Math.min.name, Cond.static Lib.Math.min.name, Cond.initialized "java/lang/Math", Cond.code Lib.Math.min.name Lib.Math.min.code 2 (some .int)]
def wsX4_playPart_r3 : List Cond := [Cond.methodLink RX4 294 yX1_place, Cond.instanceMethod yX1_place, Cond.selects RX1 yX1_place yX1_place, Cond.code yX1_place cX1_place 2 (some .int), Cond.methodLink RX1 42 Lib.Math.min.name, Cond.methodLink RX1 35 yX1_total, Cond.instanceMethod yX1_total, Cond.selects RX1 yX1_total yX1_total, Cond.code yX1_total cX1_total 1 (some .int), Cond.methodLink RX1 31 yX1_totalFrom, Cond.instanceMethod yX1_totalFrom, Cond.selects RX1 yX1_totalFrom yX1_totalFrom, Cond.code yX1_totalFrom cX1_totalFrom 4 (some .int), Cond.fieldLink RX1 9 "SiloPads$Silo" "tonnes" "[I", Cond.methodLink RX1 39 yX1_placeOnTop, Cond.instanceMethod yX1_placeOnTop, Cond.selects RX1 yX1_placeOnTop yX1_placeOnTop, Cond.code yX1_placeOnTop cX1_placeOnTop 1 (some .int), Cond.methodLink RX4 297 yX1_fill, Cond.instanceMethod yX1_fill, Cond.selects RX1 yX1_fill yX1_fill, Cond.code yX1_fill cX1_fill 4 none, Cond.fieldLink RX1 28 "SiloPads$Silo" "shakes" "I", Cond.methodLink RX4 104 yX4_letOut]
def wsX4_playPart_r4 : List Cond := [Cond.instanceMethod yX4_letOut, Cond.selects RX4 yX4_letOut yX4_letOut, Cond.code yX4_letOut cX4_letOut 6 (some .int), Cond.fieldLink RX4 222 "SiloPads$Yard" "dust" "I", Cond.methodLink RX4 190 yX1_total, Cond.methodLink RX4 244 yX4_pour, Cond.instanceMethod yX4_pour, Cond.selects RX4 yX4_pour yX4_pour, Cond.code yX4_pour cX4_pour 6 (some .int), Cond.methodLink RX4 301 yX4_pourForHour, Cond.instanceMethod yX4_pourForHour, Cond.selects RX4 yX4_pourForHour yX4_pourForHour, Cond.code yX4_pourForHour cX4_pourForHour 5 (some .int), Cond.fieldLink RX4 125 "SiloPads$Silo" "layers" "I", Cond.fieldLink RX4 111 "SiloPads$Silo" "padsOn" "I", Cond.fieldLink RX4 201 "SiloPads$Silo" "tonnes" "[I", Cond.methodLink RX4 193 yX4_outInHour, Cond.instanceMethod yX4_outInHour, Cond.selects RX4 yX4_outInHour yX4_outInHour, Cond.code yX4_outInHour cX4_outInHour 3 (some .int), Cond.methodLink RX4 233 yX0_room, Cond.instanceMethod yX0_room, Cond.selects RX0 yX0_room yX0_room, Cond.initialized RX0]
def wsX4_playPart_r5 : List Cond := [Cond.code yX0_room cX0_room 1 (some .int), Cond.fieldLink RX0 15 "SiloPads$Ship" "hold" "I", Cond.fieldLink RX0 9 "SiloPads$Ship" "tonnes" "I", Cond.methodLink RX4 305 yX4_dustOf, Cond.instanceMethod yX4_dustOf, Cond.selects RX4 yX4_dustOf yX4_dustOf, Cond.code yX4_dustOf cX4_dustOf 3 (some .int), Cond.methodLink RX4 308 yX1_takeFromLowest, Cond.instanceMethod yX1_takeFromLowest, Cond.selects RX1 yX1_takeFromLowest yX1_takeFromLowest, Cond.code yX1_takeFromLowest cX1_takeFromLowest 3 none]
def wsX4_playPart : List Cond := .code yX4_playPart cX4_playPart 3 (some .int) :: ((wsX4_playPart_r1 ++ (wsX4_playPart_r2 ++ (wsX4_playPart_r3 ++ (wsX4_playPart_r4 ++ wsX4_playPart_r5)))) ++ wsX40 ++ wsX20 ++ wsX30 ++ wsX10 ++ wsX00)
def wsX4_playParts_r1 : List Cond := [Cond.fieldLink RX4 34 "SiloPads" "reader" "LSiloPads$TextReader;", Cond.fieldLink RX4 28 "SiloPads" "length" "I", Cond.fieldLink RX4 24 "SiloPads" "codes" "[I", Cond.methodLink RX4 166 yX2_begin, Cond.instanceMethod yX2_begin, Cond.selects RX2 yX2_begin yX2_begin, Cond.initialized RX2, Cond.code yX2_begin cX2_begin 1 none, Cond.fieldLink RX2 11 "SiloPads$TextReader" "place" "I", Cond.methodLink RX4 323 yX4_playPart, Cond.instanceMethod yX4_playPart, Cond.selects RX4 yX4_playPart yX4_playPart, Cond.initialized RX4, Cond.code yX4_playPart cX4_playPart 3 (some .int), Cond.fieldLink RX4 326 "SiloPads$TextReader" "kind" "I", Cond.fieldLink RX4 329 "SiloPads$TextReader" "number" "I", Cond.fieldLink RX4 10 "SiloPads" "now" "LSiloPads$Yard;", Cond.fieldLink RX4 94 "SiloPads$Yard" "silos" "[LSiloPads$Silo;", Cond.fieldLink RX4 332 "SiloPads$TextReader" "silo" "I", Cond.fieldLink RX4 71 "SiloPads$Yard" "ships" "[LSiloPads$Ship;", Cond.fieldLink RX4 335 "SiloPads$TextReader" "ship" "I", Cond.methodLink RX4 146 yX4_passDays, Cond.instanceMethod yX4_passDays, Cond.selects RX4 yX4_passDays yX4_passDays]
def wsX4_playParts_r2 : List Cond := [Cond.code yX4_passDays cX4_passDays 5 (some .int), Cond.fieldLink RX4 213 "SiloPads$Yard" "days" "I", Cond.fieldLink RX4 228 "SiloPads$Yard" "formed" "I", Cond.methodLink RX4 311 yX4_passDayIn, Cond.instanceMethod yX4_passDayIn, Cond.selects RX4 yX4_passDayIn yX4_passDayIn, Cond.code yX4_passDayIn cX4_passDayIn 2 (some .int), Cond.fieldLink RX4 203 "SiloPads$Silo" "ages" "[I", Cond.fieldLink RX4 141 "SiloPads$Silo" "arch" "I", Cond.fieldLink RX4 134 "SiloPads$Silo" "shakes" "I", Cond.methodLink RX4 314 yX1_makeOlder, Cond.instanceMethod yX1_makeOlder, Cond.selects RX1 yX1_makeOlder yX1_makeOlder, Cond.initialized RX1, Cond.code yX1_makeOlder cX1_makeOlder 2 none, Cond.fieldLink RX1 18 "SiloPads$Silo" "layers" "I", Cond.fieldLink RX1 15 "SiloPads$Silo" "ages" "[I", Cond.methodLink RX4 251 yX1_canGetArch, Cond.instanceMethod yX1_canGetArch, Cond.selects RX1 yX1_canGetArch yX1_canGetArch, Cond.code yX1_canGetArch cX1_canGetArch 1 (some .boolean), Cond.fieldLink RX1 25 "SiloPads$Silo" "arch" "I", Cond.methodLink RX4 206 yX4_hardnessAt, Cond.instanceMethod yX4_hardnessAt]
def wsX4_playParts_r3 : List Cond := [Cond.selects RX4 yX4_hardnessAt yX4_hardnessAt, Cond.code yX4_hardnessAt cX4_hardnessAt 3 (some .int), Cond.fieldLink RX4 117 "SiloPads$Yard" "settings" "[I", Cond.methodLink RX4 98 yX4_bringIn, Cond.instanceMethod yX4_bringIn, Cond.selects RX4 yX4_bringIn yX4_bringIn, Cond.code yX4_bringIn cX4_bringIn 5 (some .int), Cond.fieldLink RX4 75 "SiloPads$Ship" "tonnes" "I", Cond.methodLink RX4 257 Lib.Math.min.name, Cond.static Lib.Math.min.name, Cond.initialized "java/lang/Math", Cond.code Lib.Math.min.name Lib.Math.min.code 2 (some .int), Cond.methodLink RX4 294 yX1_place, Cond.instanceMethod yX1_place, Cond.selects RX1 yX1_place yX1_place, Cond.code yX1_place cX1_place 2 (some .int), Cond.methodLink RX1 42 Lib.Math.min.name, Cond.methodLink RX1 35 yX1_total, Cond.instanceMethod yX1_total, Cond.selects RX1 yX1_total yX1_total, Cond.code yX1_total cX1_total 1 (some .int), Cond.methodLink RX1 31 yX1_totalFrom, Cond.instanceMethod yX1_totalFrom, Cond.selects RX1 yX1_totalFrom yX1_totalFrom]
def wsX4_playParts_r4 : List Cond := [Cond.code yX1_totalFrom cX1_totalFrom 4 (some .int), Cond.fieldLink RX1 9 "SiloPads$Silo" "tonnes" "[I", Cond.methodLink RX1 39 yX1_placeOnTop, Cond.instanceMethod yX1_placeOnTop, Cond.selects RX1 yX1_placeOnTop yX1_placeOnTop, Cond.code yX1_placeOnTop cX1_placeOnTop 1 (some .int), Cond.methodLink RX4 297 yX1_fill, Cond.instanceMethod yX1_fill, Cond.selects RX1 yX1_fill yX1_fill, Cond.code yX1_fill cX1_fill 4 none, Cond.fieldLink RX1 28 "SiloPads$Silo" "shakes" "I", Cond.methodLink RX4 104 yX4_letOut, Cond.instanceMethod yX4_letOut, Cond.selects RX4 yX4_letOut yX4_letOut, Cond.code yX4_letOut cX4_letOut 6 (some .int), Cond.fieldLink RX4 222 "SiloPads$Yard" "dust" "I", Cond.methodLink RX4 190 yX1_total, Cond.methodLink RX4 244 yX4_pour, Cond.instanceMethod yX4_pour, Cond.selects RX4 yX4_pour yX4_pour, Cond.code yX4_pour cX4_pour 6 (some .int), Cond.methodLink RX4 301 yX4_pourForHour, Cond.instanceMethod yX4_pourForHour, Cond.selects RX4 yX4_pourForHour yX4_pourForHour]
def wsX4_playParts_r5 : List Cond := [Cond.code yX4_pourForHour cX4_pourForHour 5 (some .int), Cond.fieldLink RX4 125 "SiloPads$Silo" "layers" "I", Cond.fieldLink RX4 111 "SiloPads$Silo" "padsOn" "I", Cond.fieldLink RX4 201 "SiloPads$Silo" "tonnes" "[I", Cond.methodLink RX4 193 yX4_outInHour, Cond.instanceMethod yX4_outInHour, Cond.selects RX4 yX4_outInHour yX4_outInHour, Cond.code yX4_outInHour cX4_outInHour 3 (some .int), Cond.methodLink RX4 233 yX0_room, Cond.instanceMethod yX0_room, Cond.selects RX0 yX0_room yX0_room, Cond.initialized RX0, Cond.code yX0_room cX0_room 1 (some .int), Cond.fieldLink RX0 15 "SiloPads$Ship" "hold" "I", Cond.fieldLink RX0 9 "SiloPads$Ship" "tonnes" "I", Cond.methodLink RX4 305 yX4_dustOf, Cond.instanceMethod yX4_dustOf, Cond.selects RX4 yX4_dustOf yX4_dustOf, Cond.code yX4_dustOf cX4_dustOf 3 (some .int), Cond.methodLink RX4 308 yX1_takeFromLowest, Cond.instanceMethod yX1_takeFromLowest, Cond.selects RX1 yX1_takeFromLowest yX1_takeFromLowest, Cond.code yX1_takeFromLowest cX1_takeFromLowest 3 none, Cond.methodLink RX4 169 yX2_take]
def wsX4_playParts_r6 : List Cond := [Cond.instanceMethod yX2_take, Cond.selects RX2 yX2_take yX2_take, Cond.code yX2_take cX2_take 2 (some .boolean), Cond.methodLink RX2 27 yX2_takePartStart, Cond.instanceMethod yX2_takePartStart, Cond.selects RX2 yX2_takePartStart yX2_takePartStart, Cond.code yX2_takePartStart cX2_takePartStart 2 (some .boolean), Cond.fieldLink RX2 21 "SiloPads$TextReader" "kind" "I", Cond.fieldLink RX2 15 "SiloPads$TextReader" "silo" "I", Cond.methodLink RX2 37 yX2_moveOn, Cond.instanceMethod yX2_moveOn, Cond.selects RX2 yX2_moveOn yX2_moveOn, Cond.code yX2_moveOn cX2_moveOn 3 (some .boolean), Cond.static yX4_isNoSilo, Cond.code yX4_isNoSilo cX4_isNoSilo 1 (some .boolean), Cond.methodLink RX2 31 yX2_takeSign, Cond.instanceMethod yX2_takeSign, Cond.selects RX2 yX2_takeSign yX2_takeSign, Cond.code yX2_takeSign cX2_takeSign 2 (some .boolean), Cond.methodLink RX2 34 yX2_takeShip, Cond.instanceMethod yX2_takeShip, Cond.selects RX2 yX2_takeShip yX2_takeShip, Cond.code yX2_takeShip cX2_takeShip 2 (some .boolean), Cond.fieldLink RX2 18 "SiloPads$TextReader" "ship" "I"]
def wsX4_playParts_r7 : List Cond := [Cond.static yX4_isNoShip, Cond.code yX4_isNoShip cX4_isNoShip 1 (some .boolean), Cond.methodLink RX2 41 yX2_takeFirstDigit, Cond.instanceMethod yX2_takeFirstDigit, Cond.selects RX2 yX2_takeFirstDigit yX2_takeFirstDigit, Cond.code yX2_takeFirstDigit cX2_takeFirstDigit 2 (some .boolean), Cond.fieldLink RX2 24 "SiloPads$TextReader" "number" "I", Cond.methodLink RX2 44 yX2_takeNextDigit, Cond.instanceMethod yX2_takeNextDigit, Cond.selects RX2 yX2_takeNextDigit yX2_takeNextDigit, Cond.code yX2_takeNextDigit cX2_takeNextDigit 2 (some .boolean), Cond.methodLink RX2 53 yX2_numberMost, Cond.instanceMethod yX2_numberMost, Cond.selects RX2 yX2_numberMost yX2_numberMost, Cond.code yX2_numberMost cX2_numberMost 1 (some .int)]
def wsX4_playParts : List Cond := .code yX4_playParts cX4_playParts 3 (some .int) :: ((wsX4_playParts_r1 ++ (wsX4_playParts_r2 ++ (wsX4_playParts_r3 ++ (wsX4_playParts_r4 ++ (wsX4_playParts_r5 ++ (wsX4_playParts_r6 ++ wsX4_playParts_r7)))))) ++ wsX40 ++ wsX20 ++ wsX30 ++ wsX10 ++ wsX00)
def wsX4_play_r1 : List Cond := [Cond.classLink RX4 63 "java/lang/IllegalArgumentException", Cond.initialized "java/lang/IllegalArgumentException", Cond.fieldLink RX4 28 "SiloPads" "length" "I", Cond.fieldLink RX4 34 "SiloPads" "reader" "LSiloPads$TextReader;", Cond.methodLink RX4 172 yX4_firstError, Cond.instanceMethod yX4_firstError, Cond.selects RX4 yX4_firstError yX4_firstError, Cond.initialized RX4, Cond.code yX4_firstError cX4_firstError 2 (some .int), Cond.fieldLink RX4 24 "SiloPads" "codes" "[I", Cond.methodLink RX4 166 yX2_begin, Cond.instanceMethod yX2_begin, Cond.selects RX2 yX2_begin yX2_begin, Cond.initialized RX2, Cond.code yX2_begin cX2_begin 1 none, Cond.fieldLink RX2 11 "SiloPads$TextReader" "place" "I", Cond.methodLink RX4 169 yX2_take, Cond.instanceMethod yX2_take, Cond.selects RX2 yX2_take yX2_take, Cond.code yX2_take cX2_take 2 (some .boolean), Cond.methodLink RX2 27 yX2_takePartStart, Cond.instanceMethod yX2_takePartStart, Cond.selects RX2 yX2_takePartStart yX2_takePartStart, Cond.code yX2_takePartStart cX2_takePartStart 2 (some .boolean)]
def wsX4_play_r2 : List Cond := [Cond.fieldLink RX2 21 "SiloPads$TextReader" "kind" "I", Cond.fieldLink RX2 15 "SiloPads$TextReader" "silo" "I", Cond.methodLink RX2 37 yX2_moveOn, Cond.instanceMethod yX2_moveOn, Cond.selects RX2 yX2_moveOn yX2_moveOn, Cond.code yX2_moveOn cX2_moveOn 3 (some .boolean), Cond.static yX4_isNoSilo, Cond.code yX4_isNoSilo cX4_isNoSilo 1 (some .boolean), Cond.methodLink RX2 31 yX2_takeSign, Cond.instanceMethod yX2_takeSign, Cond.selects RX2 yX2_takeSign yX2_takeSign, Cond.code yX2_takeSign cX2_takeSign 2 (some .boolean), Cond.methodLink RX2 34 yX2_takeShip, Cond.instanceMethod yX2_takeShip, Cond.selects RX2 yX2_takeShip yX2_takeShip, Cond.code yX2_takeShip cX2_takeShip 2 (some .boolean), Cond.fieldLink RX2 18 "SiloPads$TextReader" "ship" "I", Cond.static yX4_isNoShip, Cond.code yX4_isNoShip cX4_isNoShip 1 (some .boolean), Cond.methodLink RX2 41 yX2_takeFirstDigit, Cond.instanceMethod yX2_takeFirstDigit, Cond.selects RX2 yX2_takeFirstDigit yX2_takeFirstDigit, Cond.code yX2_takeFirstDigit cX2_takeFirstDigit 2 (some .boolean), Cond.fieldLink RX2 24 "SiloPads$TextReader" "number" "I"]
def wsX4_play_r3 : List Cond := [Cond.methodLink RX2 44 yX2_takeNextDigit, Cond.instanceMethod yX2_takeNextDigit, Cond.selects RX2 yX2_takeNextDigit yX2_takeNextDigit, Cond.code yX2_takeNextDigit cX2_takeNextDigit 2 (some .boolean), Cond.methodLink RX2 53 yX2_numberMost, Cond.instanceMethod yX2_numberMost, Cond.selects RX2 yX2_numberMost yX2_numberMost, Cond.code yX2_numberMost cX2_numberMost 1 (some .int), Cond.methodLink RX4 175 yX2_isComplete, Cond.instanceMethod yX2_isComplete, Cond.selects RX2 yX2_isComplete yX2_isComplete, Cond.code yX2_isComplete cX2_isComplete 1 (some .boolean), Cond.methodLink RX4 68 yX4_saveState, Cond.instanceMethod yX4_saveState, Cond.selects RX4 yX4_saveState yX4_saveState, Cond.code yX4_saveState cX4_saveState 3 none, Cond.fieldLink RX4 20 "SiloPads" "savedStates" "I", Cond.fieldLink RX4 16 "SiloPads" "saved" "[LSiloPads$Yard;", Cond.fieldLink RX4 10 "SiloPads" "now" "LSiloPads$Yard;", Cond.methodLink RX4 186 yX3_becomeLike, Cond.instanceMethod yX3_becomeLike, Cond.selects RX3 yX3_becomeLike yX3_becomeLike, Cond.initialized RX3, Cond.code yX3_becomeLike cX3_becomeLike 3 none]
def wsX4_play_r4 : List Cond := [Cond.fieldLink RX3 11 "SiloPads$Yard" "silos" "[LSiloPads$Silo;", Cond.fieldLink RX3 19 "SiloPads$Yard" "ships" "[LSiloPads$Ship;", Cond.fieldLink RX3 32 "SiloPads$Yard" "settings" "[I", Cond.fieldLink RX3 35 "SiloPads$Yard" "days" "I", Cond.fieldLink RX3 39 "SiloPads$Yard" "dust" "I", Cond.fieldLink RX3 42 "SiloPads$Yard" "brought" "I", Cond.fieldLink RX3 45 "SiloPads$Yard" "gone" "I", Cond.fieldLink RX3 48 "SiloPads$Yard" "shakes" "I", Cond.fieldLink RX3 51 "SiloPads$Yard" "formed" "I", Cond.methodLink RX3 56 yX1_becomeLike, Cond.instanceMethod yX1_becomeLike, Cond.selects RX1 yX1_becomeLike yX1_becomeLike, Cond.initialized RX1, Cond.code yX1_becomeLike cX1_becomeLike 3 none, Cond.fieldLink RX1 9 "SiloPads$Silo" "tonnes" "[I", Cond.fieldLink RX1 15 "SiloPads$Silo" "ages" "[I", Cond.fieldLink RX1 18 "SiloPads$Silo" "layers" "I", Cond.fieldLink RX1 22 "SiloPads$Silo" "padsOn" "I", Cond.fieldLink RX1 25 "SiloPads$Silo" "arch" "I", Cond.fieldLink RX1 28 "SiloPads$Silo" "shakes" "I", Cond.methodLink RX3 60 yX0_becomeLike, Cond.instanceMethod yX0_becomeLike, Cond.selects RX0 yX0_becomeLike yX0_becomeLike, Cond.initialized RX0]
def wsX4_play_r5 : List Cond := [Cond.code yX0_becomeLike cX0_becomeLike 2 none, Cond.fieldLink RX0 9 "SiloPads$Ship" "tonnes" "I", Cond.fieldLink RX0 15 "SiloPads$Ship" "hold" "I", Cond.methodLink RX4 181 yX4_playParts, Cond.instanceMethod yX4_playParts, Cond.selects RX4 yX4_playParts yX4_playParts, Cond.code yX4_playParts cX4_playParts 3 (some .int), Cond.methodLink RX4 323 yX4_playPart, Cond.instanceMethod yX4_playPart, Cond.selects RX4 yX4_playPart yX4_playPart, Cond.code yX4_playPart cX4_playPart 3 (some .int), Cond.fieldLink RX4 326 "SiloPads$TextReader" "kind" "I", Cond.fieldLink RX4 329 "SiloPads$TextReader" "number" "I", Cond.fieldLink RX4 94 "SiloPads$Yard" "silos" "[LSiloPads$Silo;", Cond.fieldLink RX4 332 "SiloPads$TextReader" "silo" "I", Cond.fieldLink RX4 71 "SiloPads$Yard" "ships" "[LSiloPads$Ship;", Cond.fieldLink RX4 335 "SiloPads$TextReader" "ship" "I", Cond.methodLink RX4 146 yX4_passDays, Cond.instanceMethod yX4_passDays, Cond.selects RX4 yX4_passDays yX4_passDays, Cond.code yX4_passDays cX4_passDays 5 (some .int), Cond.fieldLink RX4 213 "SiloPads$Yard" "days" "I", Cond.fieldLink RX4 228 "SiloPads$Yard" "formed" "I", Cond.methodLink RX4 311 yX4_passDayIn]
def wsX4_play_r6 : List Cond := [Cond.instanceMethod yX4_passDayIn, Cond.selects RX4 yX4_passDayIn yX4_passDayIn, Cond.code yX4_passDayIn cX4_passDayIn 2 (some .int), Cond.fieldLink RX4 203 "SiloPads$Silo" "ages" "[I", Cond.fieldLink RX4 141 "SiloPads$Silo" "arch" "I", Cond.fieldLink RX4 134 "SiloPads$Silo" "shakes" "I", Cond.methodLink RX4 314 yX1_makeOlder, Cond.instanceMethod yX1_makeOlder, Cond.selects RX1 yX1_makeOlder yX1_makeOlder, Cond.code yX1_makeOlder cX1_makeOlder 2 none, Cond.methodLink RX4 251 yX1_canGetArch, Cond.instanceMethod yX1_canGetArch, Cond.selects RX1 yX1_canGetArch yX1_canGetArch, Cond.code yX1_canGetArch cX1_canGetArch 1 (some .boolean), Cond.methodLink RX4 206 yX4_hardnessAt, Cond.instanceMethod yX4_hardnessAt, Cond.selects RX4 yX4_hardnessAt yX4_hardnessAt, Cond.code yX4_hardnessAt cX4_hardnessAt 3 (some .int), Cond.fieldLink RX4 117 "SiloPads$Yard" "settings" "[I", Cond.methodLink RX4 98 yX4_bringIn, Cond.instanceMethod yX4_bringIn, Cond.selects RX4 yX4_bringIn yX4_bringIn, Cond.code yX4_bringIn cX4_bringIn 5 (some .int), Cond.fieldLink RX4 75 "SiloPads$Ship" "tonnes" "I"]
def wsX4_play_r7 : List Cond := [Cond.methodLink RX4 257 Lib.Math.min.name, Cond.static Lib.Math.min.name, Cond.initialized "java/lang/Math", Cond.code Lib.Math.min.name Lib.Math.min.code 2 (some .int), Cond.methodLink RX4 294 yX1_place, Cond.instanceMethod yX1_place, Cond.selects RX1 yX1_place yX1_place, Cond.code yX1_place cX1_place 2 (some .int), Cond.methodLink RX1 42 Lib.Math.min.name, Cond.methodLink RX1 35 yX1_total, Cond.instanceMethod yX1_total, Cond.selects RX1 yX1_total yX1_total, Cond.code yX1_total cX1_total 1 (some .int), Cond.methodLink RX1 31 yX1_totalFrom, Cond.instanceMethod yX1_totalFrom, Cond.selects RX1 yX1_totalFrom yX1_totalFrom, Cond.code yX1_totalFrom cX1_totalFrom 4 (some .int), Cond.methodLink RX1 39 yX1_placeOnTop, Cond.instanceMethod yX1_placeOnTop, Cond.selects RX1 yX1_placeOnTop yX1_placeOnTop, Cond.code yX1_placeOnTop cX1_placeOnTop 1 (some .int), Cond.methodLink RX4 297 yX1_fill, Cond.instanceMethod yX1_fill, Cond.selects RX1 yX1_fill yX1_fill]
def wsX4_play_r8 : List Cond := [Cond.code yX1_fill cX1_fill 4 none, Cond.methodLink RX4 104 yX4_letOut, Cond.instanceMethod yX4_letOut, Cond.selects RX4 yX4_letOut yX4_letOut, Cond.code yX4_letOut cX4_letOut 6 (some .int), Cond.fieldLink RX4 222 "SiloPads$Yard" "dust" "I", Cond.methodLink RX4 190 yX1_total, Cond.methodLink RX4 244 yX4_pour, Cond.instanceMethod yX4_pour, Cond.selects RX4 yX4_pour yX4_pour, Cond.code yX4_pour cX4_pour 6 (some .int), Cond.methodLink RX4 301 yX4_pourForHour, Cond.instanceMethod yX4_pourForHour, Cond.selects RX4 yX4_pourForHour yX4_pourForHour, Cond.code yX4_pourForHour cX4_pourForHour 5 (some .int), Cond.fieldLink RX4 125 "SiloPads$Silo" "layers" "I", Cond.fieldLink RX4 111 "SiloPads$Silo" "padsOn" "I", Cond.fieldLink RX4 201 "SiloPads$Silo" "tonnes" "[I", Cond.methodLink RX4 193 yX4_outInHour, Cond.instanceMethod yX4_outInHour, Cond.selects RX4 yX4_outInHour yX4_outInHour, Cond.code yX4_outInHour cX4_outInHour 3 (some .int), Cond.methodLink RX4 233 yX0_room, Cond.instanceMethod yX0_room]
def wsX4_play_r9 : List Cond := [Cond.selects RX0 yX0_room yX0_room, Cond.code yX0_room cX0_room 1 (some .int), Cond.methodLink RX4 305 yX4_dustOf, Cond.instanceMethod yX4_dustOf, Cond.selects RX4 yX4_dustOf yX4_dustOf, Cond.code yX4_dustOf cX4_dustOf 3 (some .int), Cond.methodLink RX4 308 yX1_takeFromLowest, Cond.instanceMethod yX1_takeFromLowest, Cond.selects RX1 yX1_takeFromLowest yX1_takeFromLowest, Cond.code yX1_takeFromLowest cX1_takeFromLowest 3 none]
def wsX4_play : List Cond := .code yX4_play cX4_play 2 (some .int) :: ((wsX4_play_r1 ++ (wsX4_play_r2 ++ (wsX4_play_r3 ++ (wsX4_play_r4 ++ (wsX4_play_r5 ++ (wsX4_play_r6 ++ (wsX4_play_r7 ++ (wsX4_play_r8 ++ wsX4_play_r9)))))))) ++ wsX40 ++ wsX20 ++ wsX30 ++ wsX10 ++ wsX00 ++ (vx_atS RX4 67 "java/lang/IllegalArgumentException" ["java/lang/RuntimeException", "java/lang/Exception"]).filter goodWord)
def wsX4_undo_r1 : List Cond := [Cond.classLink RX4 120 "java/lang/IllegalStateException", Cond.initialized "java/lang/IllegalStateException", Cond.fieldLink RX4 20 "SiloPads" "savedStates" "I", Cond.fieldLink RX4 10 "SiloPads" "now" "LSiloPads$Yard;", Cond.fieldLink RX4 16 "SiloPads" "saved" "[LSiloPads$Yard;", Cond.methodLink RX4 186 yX3_becomeLike, Cond.instanceMethod yX3_becomeLike, Cond.selects RX3 yX3_becomeLike yX3_becomeLike, Cond.initialized RX3, Cond.code yX3_becomeLike cX3_becomeLike 3 none, Cond.fieldLink RX3 11 "SiloPads$Yard" "silos" "[LSiloPads$Silo;", Cond.fieldLink RX3 19 "SiloPads$Yard" "ships" "[LSiloPads$Ship;", Cond.fieldLink RX3 32 "SiloPads$Yard" "settings" "[I", Cond.fieldLink RX3 35 "SiloPads$Yard" "days" "I", Cond.fieldLink RX3 39 "SiloPads$Yard" "dust" "I", Cond.fieldLink RX3 42 "SiloPads$Yard" "brought" "I", Cond.fieldLink RX3 45 "SiloPads$Yard" "gone" "I", Cond.fieldLink RX3 48 "SiloPads$Yard" "shakes" "I", Cond.fieldLink RX3 51 "SiloPads$Yard" "formed" "I", Cond.methodLink RX3 56 yX1_becomeLike, Cond.instanceMethod yX1_becomeLike, Cond.selects RX1 yX1_becomeLike yX1_becomeLike, Cond.initialized RX1, Cond.code yX1_becomeLike cX1_becomeLike 3 none]
def wsX4_undo_r2 : List Cond := [Cond.fieldLink RX1 9 "SiloPads$Silo" "tonnes" "[I", Cond.fieldLink RX1 15 "SiloPads$Silo" "ages" "[I", Cond.fieldLink RX1 18 "SiloPads$Silo" "layers" "I", Cond.fieldLink RX1 22 "SiloPads$Silo" "padsOn" "I", Cond.fieldLink RX1 25 "SiloPads$Silo" "arch" "I", Cond.fieldLink RX1 28 "SiloPads$Silo" "shakes" "I", Cond.methodLink RX3 60 yX0_becomeLike, Cond.instanceMethod yX0_becomeLike, Cond.selects RX0 yX0_becomeLike yX0_becomeLike, Cond.initialized RX0, Cond.code yX0_becomeLike cX0_becomeLike 2 none, Cond.fieldLink RX0 9 "SiloPads$Ship" "tonnes" "I", Cond.fieldLink RX0 15 "SiloPads$Ship" "hold" "I"]
def wsX4_undo : List Cond := .code yX4_undo cX4_undo 1 (some .int) :: ((wsX4_undo_r1 ++ wsX4_undo_r2) ++ wsX40 ++ wsX30 ++ wsX10 ++ wsX00 ++ (vx_atS RX4 124 "java/lang/IllegalStateException" ["java/lang/RuntimeException", "java/lang/Exception"]).filter goodWord)
def wsX4_silo_r1 : List Cond := [Cond.classLink RX4 56 "java/lang/IndexOutOfBoundsException", Cond.initialized "java/lang/IndexOutOfBoundsException", Cond.classLink RX4 63 "java/lang/IllegalArgumentException", Cond.initialized "java/lang/IllegalArgumentException", Cond.fieldLink RX4 10 "SiloPads" "now" "LSiloPads$Yard;", Cond.fieldLink RX4 94 "SiloPads$Yard" "silos" "[LSiloPads$Silo;", Cond.fieldLink RX4 125 "SiloPads$Silo" "layers" "I", Cond.fieldLink RX4 111 "SiloPads$Silo" "padsOn" "I", Cond.fieldLink RX4 141 "SiloPads$Silo" "arch" "I", Cond.fieldLink RX4 134 "SiloPads$Silo" "shakes" "I", Cond.methodLink RX4 87 yX4_isNoSilo, Cond.static yX4_isNoSilo, Cond.initialized RX4, Cond.code yX4_isNoSilo cX4_isNoSilo 1 (some .boolean), Cond.methodLink RX4 190 yX1_total, Cond.instanceMethod yX1_total, Cond.selects RX1 yX1_total yX1_total, Cond.initialized RX1, Cond.code yX1_total cX1_total 1 (some .int), Cond.methodLink RX1 31 yX1_totalFrom, Cond.instanceMethod yX1_totalFrom, Cond.selects RX1 yX1_totalFrom yX1_totalFrom, Cond.code yX1_totalFrom cX1_totalFrom 4 (some .int), Cond.fieldLink RX1 18 "SiloPads$Silo" "layers" "I"]
def wsX4_silo_r2 : List Cond := [Cond.fieldLink RX1 9 "SiloPads$Silo" "tonnes" "[I", Cond.methodLink RX4 193 yX4_outInHour, Cond.instanceMethod yX4_outInHour, Cond.selects RX4 yX4_outInHour yX4_outInHour, Cond.code yX4_outInHour cX4_outInHour 3 (some .int), Cond.fieldLink RX4 203 "SiloPads$Silo" "ages" "[I", Cond.methodLink RX4 206 yX4_hardnessAt, Cond.instanceMethod yX4_hardnessAt, Cond.selects RX4 yX4_hardnessAt yX4_hardnessAt, Cond.code yX4_hardnessAt cX4_hardnessAt 3 (some .int), Cond.fieldLink RX4 117 "SiloPads$Yard" "settings" "[I"]
def wsX4_silo : List Cond := .code yX4_silo cX4_silo 4 (some .int) :: ((wsX4_silo_r1 ++ wsX4_silo_r2) ++ wsX40 ++ wsX30 ++ wsX10 ++ (vx_atS RX4 60 "java/lang/IndexOutOfBoundsException" ["java/lang/RuntimeException", "java/lang/Exception"]).filter goodWord ++ (vx_atS RX4 67 "java/lang/IllegalArgumentException" ["java/lang/RuntimeException", "java/lang/Exception"]).filter goodWord)
def wsX4_layer : List Cond := .code yX4_layer cX4_layer 5 (some .int) :: ([.classLink RX4 56 "java/lang/IndexOutOfBoundsException", .initialized "java/lang/IndexOutOfBoundsException", .classLink RX4 63 "java/lang/IllegalArgumentException", .initialized "java/lang/IllegalArgumentException", .fieldLink RX4 10 "SiloPads" "now" "LSiloPads$Yard;", .fieldLink RX4 94 "SiloPads$Yard" "silos" "[LSiloPads$Silo;", .fieldLink RX4 125 "SiloPads$Silo" "layers" "I", .fieldLink RX4 201 "SiloPads$Silo" "tonnes" "[I", .fieldLink RX4 203 "SiloPads$Silo" "ages" "[I", .methodLink RX4 87 yX4_isNoSilo, .static yX4_isNoSilo, .initialized RX4, .code yX4_isNoSilo cX4_isNoSilo 1 (some .boolean), .methodLink RX4 206 yX4_hardnessAt, .instanceMethod yX4_hardnessAt, .selects RX4 yX4_hardnessAt yX4_hardnessAt, .code yX4_hardnessAt cX4_hardnessAt 3 (some .int), .fieldLink RX4 117 "SiloPads$Yard" "settings" "[I"] ++ wsX40 ++ wsX30 ++ wsX10 ++ (vx_atS RX4 60 "java/lang/IndexOutOfBoundsException" ["java/lang/RuntimeException", "java/lang/Exception"]).filter goodWord ++ (vx_atS RX4 67 "java/lang/IllegalArgumentException" ["java/lang/RuntimeException", "java/lang/Exception"]).filter goodWord)
def wsX4_shipOf : List Cond := .code yX4_shipOf cX4_shipOf 3 (some .int) :: ([.classLink RX4 56 "java/lang/IndexOutOfBoundsException", .initialized "java/lang/IndexOutOfBoundsException", .classLink RX4 63 "java/lang/IllegalArgumentException", .initialized "java/lang/IllegalArgumentException", .fieldLink RX4 10 "SiloPads" "now" "LSiloPads$Yard;", .fieldLink RX4 71 "SiloPads$Yard" "ships" "[LSiloPads$Ship;", .fieldLink RX4 75 "SiloPads$Ship" "tonnes" "I", .fieldLink RX4 78 "SiloPads$Ship" "hold" "I", .methodLink RX4 52 yX4_isNoShip, .static yX4_isNoShip, .initialized RX4, .code yX4_isNoShip cX4_isNoShip 1 (some .boolean)] ++ wsX40 ++ wsX30 ++ wsX00 ++ (vx_atS RX4 60 "java/lang/IndexOutOfBoundsException" ["java/lang/RuntimeException", "java/lang/Exception"]).filter goodWord ++ (vx_atS RX4 67 "java/lang/IllegalArgumentException" ["java/lang/RuntimeException", "java/lang/Exception"]).filter goodWord)
def wsX4_count_r1 : List Cond := [Cond.classLink RX4 63 "java/lang/IllegalArgumentException", Cond.initialized "java/lang/IllegalArgumentException", Cond.fieldLink RX4 10 "SiloPads" "now" "LSiloPads$Yard;", Cond.fieldLink RX4 213 "SiloPads$Yard" "days" "I", Cond.fieldLink RX4 222 "SiloPads$Yard" "dust" "I", Cond.fieldLink RX4 81 "SiloPads$Yard" "brought" "I", Cond.fieldLink RX4 84 "SiloPads$Yard" "gone" "I", Cond.fieldLink RX4 137 "SiloPads$Yard" "shakes" "I", Cond.fieldLink RX4 228 "SiloPads$Yard" "formed" "I", Cond.fieldLink RX4 117 "SiloPads$Yard" "settings" "[I", Cond.fieldLink RX4 20 "SiloPads" "savedStates" "I", Cond.methodLink RX4 216 yX3_siloTonnes, Cond.instanceMethod yX3_siloTonnes, Cond.selects RX3 yX3_siloTonnes yX3_siloTonnes, Cond.initialized RX3, Cond.code yX3_siloTonnes cX3_siloTonnes 3 (some .int), Cond.fieldLink RX3 11 "SiloPads$Yard" "silos" "[LSiloPads$Silo;", Cond.methodLink RX3 63 yX1_total, Cond.instanceMethod yX1_total, Cond.selects RX1 yX1_total yX1_total, Cond.initialized RX1, Cond.code yX1_total cX1_total 1 (some .int), Cond.methodLink RX1 31 yX1_totalFrom, Cond.instanceMethod yX1_totalFrom]
def wsX4_count_r2 : List Cond := [Cond.selects RX1 yX1_totalFrom yX1_totalFrom, Cond.code yX1_totalFrom cX1_totalFrom 4 (some .int), Cond.fieldLink RX1 18 "SiloPads$Silo" "layers" "I", Cond.fieldLink RX1 9 "SiloPads$Silo" "tonnes" "[I", Cond.methodLink RX4 219 yX3_shipTonnes, Cond.instanceMethod yX3_shipTonnes, Cond.selects RX3 yX3_shipTonnes yX3_shipTonnes, Cond.code yX3_shipTonnes cX3_shipTonnes 3 (some .int), Cond.fieldLink RX3 19 "SiloPads$Yard" "ships" "[LSiloPads$Ship;", Cond.fieldLink RX3 67 "SiloPads$Ship" "tonnes" "I", Cond.methodLink RX4 114 yX3_padsOn, Cond.instanceMethod yX3_padsOn, Cond.selects RX3 yX3_padsOn yX3_padsOn, Cond.code yX3_padsOn cX3_padsOn 3 (some .int), Cond.fieldLink RX3 70 "SiloPads$Silo" "padsOn" "I", Cond.methodLink RX4 225 yX3_arches, Cond.instanceMethod yX3_arches, Cond.selects RX3 yX3_arches yX3_arches, Cond.code yX3_arches cX3_arches 3 (some .int), Cond.fieldLink RX3 73 "SiloPads$Silo" "arch" "I"]
def wsX4_count : List Cond := .code yX4_count cX4_count 2 (some .int) :: ((wsX4_count_r1 ++ wsX4_count_r2) ++ wsX40 ++ wsX30 ++ wsX10 ++ wsX00 ++ (vx_atS RX4 67 "java/lang/IllegalArgumentException" ["java/lang/RuntimeException", "java/lang/Exception"]).filter goodWord)
def wsX4_whyNot_r1 : List Cond := [Cond.classLink RX4 56 "java/lang/IndexOutOfBoundsException", Cond.initialized "java/lang/IndexOutOfBoundsException", Cond.fieldLink RX4 10 "SiloPads" "now" "LSiloPads$Yard;", Cond.fieldLink RX4 94 "SiloPads$Yard" "silos" "[LSiloPads$Silo;", Cond.fieldLink RX4 125 "SiloPads$Silo" "layers" "I", Cond.fieldLink RX4 141 "SiloPads$Silo" "arch" "I", Cond.fieldLink RX4 71 "SiloPads$Yard" "ships" "[LSiloPads$Ship;", Cond.fieldLink RX4 111 "SiloPads$Silo" "padsOn" "I", Cond.methodLink RX4 87 yX4_isNoSilo, Cond.static yX4_isNoSilo, Cond.initialized RX4, Cond.code yX4_isNoSilo cX4_isNoSilo 1 (some .boolean), Cond.methodLink RX4 52 yX4_isNoShip, Cond.static yX4_isNoShip, Cond.code yX4_isNoShip cX4_isNoShip 1 (some .boolean), Cond.methodLink RX4 233 yX0_room, Cond.instanceMethod yX0_room, Cond.selects RX0 yX0_room yX0_room, Cond.initialized RX0, Cond.code yX0_room cX0_room 1 (some .int), Cond.fieldLink RX0 15 "SiloPads$Ship" "hold" "I", Cond.fieldLink RX0 9 "SiloPads$Ship" "tonnes" "I", Cond.methodLink RX4 193 yX4_outInHour, Cond.instanceMethod yX4_outInHour]
def wsX4_whyNot_r2 : List Cond := [Cond.selects RX4 yX4_outInHour yX4_outInHour, Cond.code yX4_outInHour cX4_outInHour 3 (some .int), Cond.fieldLink RX4 203 "SiloPads$Silo" "ages" "[I", Cond.methodLink RX4 206 yX4_hardnessAt, Cond.instanceMethod yX4_hardnessAt, Cond.selects RX4 yX4_hardnessAt yX4_hardnessAt, Cond.code yX4_hardnessAt cX4_hardnessAt 3 (some .int), Cond.fieldLink RX4 117 "SiloPads$Yard" "settings" "[I"]
def wsX4_whyNot : List Cond := .code yX4_whyNot cX4_whyNot 4 (some .int) :: ((wsX4_whyNot_r1 ++ wsX4_whyNot_r2) ++ wsX40 ++ wsX30 ++ wsX10 ++ wsX00 ++ (vx_atS RX4 60 "java/lang/IndexOutOfBoundsException" ["java/lang/RuntimeException", "java/lang/Exception"]).filter goodWord)
def wsX4_ifFlowed_r1 : List Cond := [Cond.classLink RX4 56 "java/lang/IndexOutOfBoundsException", Cond.initialized "java/lang/IndexOutOfBoundsException", Cond.classLink RX4 63 "java/lang/IllegalArgumentException", Cond.initialized "java/lang/IllegalArgumentException", Cond.fieldLink RX4 41 "SiloPads" "trialSilo" "LSiloPads$Silo;", Cond.fieldLink RX4 10 "SiloPads" "now" "LSiloPads$Yard;", Cond.fieldLink RX4 94 "SiloPads$Yard" "silos" "[LSiloPads$Silo;", Cond.fieldLink RX4 111 "SiloPads$Silo" "padsOn" "I", Cond.fieldLink RX4 48 "SiloPads" "trialShip" "LSiloPads$Ship;", Cond.fieldLink RX4 71 "SiloPads$Yard" "ships" "[LSiloPads$Ship;", Cond.methodLink RX4 87 yX4_isNoSilo, Cond.static yX4_isNoSilo, Cond.initialized RX4, Cond.code yX4_isNoSilo cX4_isNoSilo 1 (some .boolean), Cond.methodLink RX4 52 yX4_isNoShip, Cond.static yX4_isNoShip, Cond.code yX4_isNoShip cX4_isNoShip 1 (some .boolean), Cond.methodLink RX4 238 yX1_becomeLike, Cond.instanceMethod yX1_becomeLike, Cond.selects RX1 yX1_becomeLike yX1_becomeLike, Cond.initialized RX1, Cond.code yX1_becomeLike cX1_becomeLike 3 none, Cond.fieldLink RX1 9 "SiloPads$Silo" "tonnes" "[I", Cond.fieldLink RX1 15 "SiloPads$Silo" "ages" "[I"]
def wsX4_ifFlowed_r2 : List Cond := [Cond.fieldLink RX1 18 "SiloPads$Silo" "layers" "I", Cond.fieldLink RX1 22 "SiloPads$Silo" "padsOn" "I", Cond.fieldLink RX1 25 "SiloPads$Silo" "arch" "I", Cond.fieldLink RX1 28 "SiloPads$Silo" "shakes" "I", Cond.methodLink RX4 241 yX0_becomeLike, Cond.instanceMethod yX0_becomeLike, Cond.selects RX0 yX0_becomeLike yX0_becomeLike, Cond.initialized RX0, Cond.code yX0_becomeLike cX0_becomeLike 2 none, Cond.fieldLink RX0 9 "SiloPads$Ship" "tonnes" "I", Cond.fieldLink RX0 15 "SiloPads$Ship" "hold" "I", Cond.methodLink RX4 244 yX4_pour, Cond.instanceMethod yX4_pour, Cond.selects RX4 yX4_pour yX4_pour, Cond.code yX4_pour cX4_pour 6 (some .int), Cond.methodLink RX4 301 yX4_pourForHour, Cond.instanceMethod yX4_pourForHour, Cond.selects RX4 yX4_pourForHour yX4_pourForHour, Cond.code yX4_pourForHour cX4_pourForHour 5 (some .int), Cond.fieldLink RX4 125 "SiloPads$Silo" "layers" "I", Cond.fieldLink RX4 141 "SiloPads$Silo" "arch" "I", Cond.fieldLink RX4 201 "SiloPads$Silo" "tonnes" "[I", Cond.methodLink RX4 257 Lib.Math.min.name, Cond.static Lib.Math.min.name]
def wsX4_ifFlowed_r3 : List Cond := [Cond.initialized "java/lang/Math", Cond.code Lib.Math.min.name Lib.Math.min.code 2 (some .int), Cond.fieldLink RX4 75 "SiloPads$Ship" "tonnes" "I", Cond.methodLink RX4 193 yX4_outInHour, Cond.instanceMethod yX4_outInHour, Cond.selects RX4 yX4_outInHour yX4_outInHour, Cond.code yX4_outInHour cX4_outInHour 3 (some .int), Cond.fieldLink RX4 203 "SiloPads$Silo" "ages" "[I", Cond.methodLink RX4 206 yX4_hardnessAt, Cond.instanceMethod yX4_hardnessAt, Cond.selects RX4 yX4_hardnessAt yX4_hardnessAt, Cond.code yX4_hardnessAt cX4_hardnessAt 3 (some .int), Cond.fieldLink RX4 117 "SiloPads$Yard" "settings" "[I", Cond.methodLink RX4 233 yX0_room, Cond.instanceMethod yX0_room, Cond.selects RX0 yX0_room yX0_room, Cond.code yX0_room cX0_room 1 (some .int), Cond.methodLink RX4 305 yX4_dustOf, Cond.instanceMethod yX4_dustOf, Cond.selects RX4 yX4_dustOf yX4_dustOf, Cond.code yX4_dustOf cX4_dustOf 3 (some .int), Cond.methodLink RX4 308 yX1_takeFromLowest, Cond.instanceMethod yX1_takeFromLowest, Cond.selects RX1 yX1_takeFromLowest yX1_takeFromLowest]
def wsX4_ifFlowed_r4 : List Cond := [Cond.code yX1_takeFromLowest cX1_takeFromLowest 3 none]
def wsX4_ifFlowed : List Cond := .code yX4_ifFlowed cX4_ifFlowed 5 (some .int) :: ((wsX4_ifFlowed_r1 ++ (wsX4_ifFlowed_r2 ++ (wsX4_ifFlowed_r3 ++ wsX4_ifFlowed_r4))) ++ wsX40 ++ wsX30 ++ wsX10 ++ wsX00 ++ (vx_atS RX4 60 "java/lang/IndexOutOfBoundsException" ["java/lang/RuntimeException", "java/lang/Exception"]).filter goodWord ++ (vx_atS RX4 67 "java/lang/IllegalArgumentException" ["java/lang/RuntimeException", "java/lang/Exception"]).filter goodWord)
def wsX4_isMoreUrgent : List Cond := .code yX4_isMoreUrgent cX4_isMoreUrgent 2 (some .boolean) :: ([.fieldLink RX4 203 "SiloPads$Silo" "ages" "[I", .methodLink RX4 190 yX1_total, .instanceMethod yX1_total, .selects RX1 yX1_total yX1_total, .initialized RX1, .code yX1_total cX1_total 1 (some .int), .methodLink RX1 31 yX1_totalFrom, .instanceMethod yX1_totalFrom, .selects RX1 yX1_totalFrom yX1_totalFrom, .code yX1_totalFrom cX1_totalFrom 4 (some .int), .fieldLink RX1 18 "SiloPads$Silo" "layers" "I", .fieldLink RX1 9 "SiloPads$Silo" "tonnes" "[I"] ++ wsX10)
def wsX4_urgent : List Cond := .code yX4_urgent cX4_urgent 3 (some .int) :: ([.fieldLink RX4 10 "SiloPads" "now" "LSiloPads$Yard;", .fieldLink RX4 94 "SiloPads$Yard" "silos" "[LSiloPads$Silo;", .fieldLink RX4 125 "SiloPads$Silo" "layers" "I", .methodLink RX4 247 yX4_isMoreUrgent, .static yX4_isMoreUrgent, .initialized RX4, .code yX4_isMoreUrgent cX4_isMoreUrgent 2 (some .boolean), .fieldLink RX4 203 "SiloPads$Silo" "ages" "[I", .methodLink RX4 190 yX1_total, .instanceMethod yX1_total, .selects RX1 yX1_total yX1_total, .initialized RX1, .code yX1_total cX1_total 1 (some .int), .methodLink RX1 31 yX1_totalFrom, .instanceMethod yX1_totalFrom, .selects RX1 yX1_totalFrom yX1_totalFrom, .code yX1_totalFrom cX1_totalFrom 4 (some .int), .fieldLink RX1 18 "SiloPads$Silo" "layers" "I", .fieldLink RX1 9 "SiloPads$Silo" "tonnes" "[I"] ++ wsX40 ++ wsX30 ++ wsX10)
def wsX4_daysUntilStiff : List Cond := .code yX4_daysUntilStiff cX4_daysUntilStiff 2 (some .int) :: ([.fieldLink RX4 10 "SiloPads" "now" "LSiloPads$Yard;", .fieldLink RX4 117 "SiloPads$Yard" "settings" "[I", .methodLink RX4 317 Lib.Math.max.name, .static Lib.Math.max.name, .initialized "java/lang/Math", .code Lib.Math.max.name Lib.Math.max.code 2 (some .int)] ++ wsX40 ++ wsX30)
def wsX4_nextArch : List Cond := .code yX4_nextArch cX4_nextArch 4 (some .int) :: ([.fieldLink RX4 10 "SiloPads" "now" "LSiloPads$Yard;", .fieldLink RX4 94 "SiloPads$Yard" "silos" "[LSiloPads$Silo;", .fieldLink RX4 203 "SiloPads$Silo" "ages" "[I", .methodLink RX4 257 Lib.Math.min.name, .static Lib.Math.min.name, .initialized "java/lang/Math", .code Lib.Math.min.name Lib.Math.min.code 2 (some .int), .methodLink RX4 251 yX1_canGetArch, .instanceMethod yX1_canGetArch, .selects RX1 yX1_canGetArch yX1_canGetArch, .initialized RX1, .code yX1_canGetArch cX1_canGetArch 1 (some .boolean), .fieldLink RX1 18 "SiloPads$Silo" "layers" "I", .fieldLink RX1 25 "SiloPads$Silo" "arch" "I", .methodLink RX4 254 yX4_daysUntilStiff, .instanceMethod yX4_daysUntilStiff, .selects RX4 yX4_daysUntilStiff yX4_daysUntilStiff, .initialized RX4, .code yX4_daysUntilStiff cX4_daysUntilStiff 2 (some .int), .fieldLink RX4 117 "SiloPads$Yard" "settings" "[I", .methodLink RX4 317 Lib.Math.max.name, .static Lib.Math.max.name, .code Lib.Math.max.name Lib.Math.max.code 2 (some .int)] ++ wsX40 ++ wsX30 ++ wsX10)
def wsX4_shakesNeeded_r1 : List Cond := [Cond.classLink RX4 56 "java/lang/IndexOutOfBoundsException", Cond.initialized "java/lang/IndexOutOfBoundsException", Cond.fieldLink RX4 10 "SiloPads" "now" "LSiloPads$Yard;", Cond.fieldLink RX4 94 "SiloPads$Yard" "silos" "[LSiloPads$Silo;", Cond.methodLink RX4 87 yX4_isNoSilo, Cond.static yX4_isNoSilo, Cond.initialized RX4, Cond.code yX4_isNoSilo cX4_isNoSilo 1 (some .boolean), Cond.methodLink RX4 130 yX4_shakesToBreak, Cond.instanceMethod yX4_shakesToBreak, Cond.selects RX4 yX4_shakesToBreak yX4_shakesToBreak, Cond.code yX4_shakesToBreak cX4_shakesToBreak 2 (some .int), Cond.fieldLink RX4 141 "SiloPads$Silo" "arch" "I", Cond.fieldLink RX4 117 "SiloPads$Yard" "settings" "[I", Cond.fieldLink RX4 134 "SiloPads$Silo" "shakes" "I", Cond.methodLink RX4 317 Lib.Math.max.name, Cond.static Lib.Math.max.name, Cond.initialized "java/lang/Math", Cond.code Lib.Math.max.name Lib.Math.max.code 2 (some .int), Cond.methodLink RX4 320 yX1_tonnesHeld, Cond.instanceMethod yX1_tonnesHeld, Cond.selects RX1 yX1_tonnesHeld yX1_tonnesHeld, Cond.initialized RX1, Cond.code yX1_tonnesHeld cX1_tonnesHeld 1 (some .int)]
def wsX4_shakesNeeded_r2 : List Cond := [Cond.fieldLink RX1 25 "SiloPads$Silo" "arch" "I", Cond.methodLink RX1 31 yX1_totalFrom, Cond.instanceMethod yX1_totalFrom, Cond.selects RX1 yX1_totalFrom yX1_totalFrom, Cond.code yX1_totalFrom cX1_totalFrom 4 (some .int), Cond.fieldLink RX1 18 "SiloPads$Silo" "layers" "I", Cond.fieldLink RX1 9 "SiloPads$Silo" "tonnes" "[I"]
def wsX4_shakesNeeded : List Cond := .code yX4_shakesNeeded cX4_shakesNeeded 2 (some .int) :: ((wsX4_shakesNeeded_r1 ++ wsX4_shakesNeeded_r2) ++ wsX40 ++ wsX30 ++ wsX10 ++ (vx_atS RX4 60 "java/lang/IndexOutOfBoundsException" ["java/lang/RuntimeException", "java/lang/Exception"]).filter goodWord)
def wsX4_softTonnes : List Cond := .code yX4_softTonnes cX4_softTonnes 4 (some .int) :: ([.fieldLink RX4 125 "SiloPads$Silo" "layers" "I", .fieldLink RX4 203 "SiloPads$Silo" "ages" "[I", .fieldLink RX4 201 "SiloPads$Silo" "tonnes" "[I", .methodLink RX4 206 yX4_hardnessAt, .instanceMethod yX4_hardnessAt, .selects RX4 yX4_hardnessAt yX4_hardnessAt, .initialized RX4, .code yX4_hardnessAt cX4_hardnessAt 3 (some .int), .fieldLink RX4 10 "SiloPads" "now" "LSiloPads$Yard;", .fieldLink RX4 117 "SiloPads$Yard" "settings" "[I"] ++ wsX10 ++ wsX40 ++ wsX30)
def wsX4_softness_r1 : List Cond := [Cond.fieldLink RX4 10 "SiloPads" "now" "LSiloPads$Yard;", Cond.fieldLink RX4 94 "SiloPads$Yard" "silos" "[LSiloPads$Silo;", Cond.methodLink RX4 216 yX3_siloTonnes, Cond.instanceMethod yX3_siloTonnes, Cond.selects RX3 yX3_siloTonnes yX3_siloTonnes, Cond.initialized RX3, Cond.code yX3_siloTonnes cX3_siloTonnes 3 (some .int), Cond.fieldLink RX3 11 "SiloPads$Yard" "silos" "[LSiloPads$Silo;", Cond.methodLink RX3 63 yX1_total, Cond.instanceMethod yX1_total, Cond.selects RX1 yX1_total yX1_total, Cond.initialized RX1, Cond.code yX1_total cX1_total 1 (some .int), Cond.methodLink RX1 31 yX1_totalFrom, Cond.instanceMethod yX1_totalFrom, Cond.selects RX1 yX1_totalFrom yX1_totalFrom, Cond.code yX1_totalFrom cX1_totalFrom 4 (some .int), Cond.fieldLink RX1 18 "SiloPads$Silo" "layers" "I", Cond.fieldLink RX1 9 "SiloPads$Silo" "tonnes" "[I", Cond.methodLink RX4 263 yX4_softTonnes, Cond.instanceMethod yX4_softTonnes, Cond.selects RX4 yX4_softTonnes yX4_softTonnes, Cond.initialized RX4, Cond.code yX4_softTonnes cX4_softTonnes 4 (some .int)]
def wsX4_softness_r2 : List Cond := [Cond.fieldLink RX4 125 "SiloPads$Silo" "layers" "I", Cond.fieldLink RX4 203 "SiloPads$Silo" "ages" "[I", Cond.fieldLink RX4 201 "SiloPads$Silo" "tonnes" "[I", Cond.methodLink RX4 206 yX4_hardnessAt, Cond.instanceMethod yX4_hardnessAt, Cond.selects RX4 yX4_hardnessAt yX4_hardnessAt, Cond.code yX4_hardnessAt cX4_hardnessAt 3 (some .int), Cond.fieldLink RX4 117 "SiloPads$Yard" "settings" "[I"]
def wsX4_softness : List Cond := .code yX4_softness cX4_softness 4 (some .double) :: ((wsX4_softness_r1 ++ wsX4_softness_r2) ++ wsX40 ++ wsX30 ++ wsX10)
def wsX4_hashWithSilo_r1 : List Cond := [Cond.constantLong RX4 268 (31), Cond.fieldLink RX4 10 "SiloPads" "now" "LSiloPads$Yard;", Cond.fieldLink RX4 94 "SiloPads$Yard" "silos" "[LSiloPads$Silo;", Cond.fieldLink RX4 125 "SiloPads$Silo" "layers" "I", Cond.methodLink RX4 338 yX4_silo, Cond.instanceMethod yX4_silo, Cond.selects RX4 yX4_silo yX4_silo, Cond.initialized RX4, Cond.code yX4_silo cX4_silo 4 (some .int), Cond.classLink RX4 56 "java/lang/IndexOutOfBoundsException", Cond.initialized "java/lang/IndexOutOfBoundsException", Cond.classLink RX4 63 "java/lang/IllegalArgumentException", Cond.initialized "java/lang/IllegalArgumentException", Cond.fieldLink RX4 111 "SiloPads$Silo" "padsOn" "I", Cond.fieldLink RX4 141 "SiloPads$Silo" "arch" "I", Cond.fieldLink RX4 134 "SiloPads$Silo" "shakes" "I", Cond.methodLink RX4 87 yX4_isNoSilo, Cond.static yX4_isNoSilo, Cond.code yX4_isNoSilo cX4_isNoSilo 1 (some .boolean), Cond.methodLink RX4 190 yX1_total, Cond.instanceMethod yX1_total, Cond.selects RX1 yX1_total yX1_total, Cond.initialized RX1, Cond.code yX1_total cX1_total 1 (some .int)]
def wsX4_hashWithSilo_r2 : List Cond := [Cond.methodLink RX1 31 yX1_totalFrom, Cond.instanceMethod yX1_totalFrom, Cond.selects RX1 yX1_totalFrom yX1_totalFrom, Cond.code yX1_totalFrom cX1_totalFrom 4 (some .int), Cond.fieldLink RX1 18 "SiloPads$Silo" "layers" "I", Cond.fieldLink RX1 9 "SiloPads$Silo" "tonnes" "[I", Cond.methodLink RX4 193 yX4_outInHour, Cond.instanceMethod yX4_outInHour, Cond.selects RX4 yX4_outInHour yX4_outInHour, Cond.code yX4_outInHour cX4_outInHour 3 (some .int), Cond.fieldLink RX4 203 "SiloPads$Silo" "ages" "[I", Cond.methodLink RX4 206 yX4_hardnessAt, Cond.instanceMethod yX4_hardnessAt, Cond.selects RX4 yX4_hardnessAt yX4_hardnessAt, Cond.code yX4_hardnessAt cX4_hardnessAt 3 (some .int), Cond.fieldLink RX4 117 "SiloPads$Yard" "settings" "[I", Cond.methodLink RX4 340 yX4_layer, Cond.instanceMethod yX4_layer, Cond.selects RX4 yX4_layer yX4_layer, Cond.code yX4_layer cX4_layer 5 (some .int), Cond.fieldLink RX4 201 "SiloPads$Silo" "tonnes" "[I", Cond.methodLink RX4 344 yX4_shakesNeeded, Cond.instanceMethod yX4_shakesNeeded, Cond.selects RX4 yX4_shakesNeeded yX4_shakesNeeded]
def wsX4_hashWithSilo_r3 : List Cond := [Cond.code yX4_shakesNeeded cX4_shakesNeeded 2 (some .int), Cond.methodLink RX4 130 yX4_shakesToBreak, Cond.instanceMethod yX4_shakesToBreak, Cond.selects RX4 yX4_shakesToBreak yX4_shakesToBreak, Cond.code yX4_shakesToBreak cX4_shakesToBreak 2 (some .int), Cond.methodLink RX4 317 Lib.Math.max.name, Cond.static Lib.Math.max.name, Cond.initialized "java/lang/Math", Cond.code Lib.Math.max.name Lib.Math.max.code 2 (some .int), Cond.methodLink RX4 320 yX1_tonnesHeld, Cond.instanceMethod yX1_tonnesHeld, Cond.selects RX1 yX1_tonnesHeld yX1_tonnesHeld, Cond.code yX1_tonnesHeld cX1_tonnesHeld 1 (some .int), Cond.fieldLink RX1 25 "SiloPads$Silo" "arch" "I", Cond.methodLink RX4 347 yX4_whyNot, Cond.instanceMethod yX4_whyNot, Cond.selects RX4 yX4_whyNot yX4_whyNot, Cond.code yX4_whyNot cX4_whyNot 4 (some .int), Cond.fieldLink RX4 71 "SiloPads$Yard" "ships" "[LSiloPads$Ship;", Cond.methodLink RX4 52 yX4_isNoShip, Cond.static yX4_isNoShip, Cond.code yX4_isNoShip cX4_isNoShip 1 (some .boolean), Cond.methodLink RX4 233 yX0_room, Cond.instanceMethod yX0_room]
def wsX4_hashWithSilo_r4 : List Cond := [Cond.selects RX0 yX0_room yX0_room, Cond.initialized RX0, Cond.code yX0_room cX0_room 1 (some .int), Cond.fieldLink RX0 15 "SiloPads$Ship" "hold" "I", Cond.fieldLink RX0 9 "SiloPads$Ship" "tonnes" "I", Cond.methodLink RX4 350 yX4_ifFlowed, Cond.instanceMethod yX4_ifFlowed, Cond.selects RX4 yX4_ifFlowed yX4_ifFlowed, Cond.code yX4_ifFlowed cX4_ifFlowed 5 (some .int), Cond.fieldLink RX4 41 "SiloPads" "trialSilo" "LSiloPads$Silo;", Cond.fieldLink RX4 48 "SiloPads" "trialShip" "LSiloPads$Ship;", Cond.methodLink RX4 238 yX1_becomeLike, Cond.instanceMethod yX1_becomeLike, Cond.selects RX1 yX1_becomeLike yX1_becomeLike, Cond.code yX1_becomeLike cX1_becomeLike 3 none, Cond.fieldLink RX1 15 "SiloPads$Silo" "ages" "[I", Cond.fieldLink RX1 22 "SiloPads$Silo" "padsOn" "I", Cond.fieldLink RX1 28 "SiloPads$Silo" "shakes" "I", Cond.methodLink RX4 241 yX0_becomeLike, Cond.instanceMethod yX0_becomeLike, Cond.selects RX0 yX0_becomeLike yX0_becomeLike, Cond.code yX0_becomeLike cX0_becomeLike 2 none, Cond.methodLink RX4 244 yX4_pour, Cond.instanceMethod yX4_pour]
def wsX4_hashWithSilo_r5 : List Cond := [Cond.selects RX4 yX4_pour yX4_pour, Cond.code yX4_pour cX4_pour 6 (some .int), Cond.methodLink RX4 301 yX4_pourForHour, Cond.instanceMethod yX4_pourForHour, Cond.selects RX4 yX4_pourForHour yX4_pourForHour, Cond.code yX4_pourForHour cX4_pourForHour 5 (some .int), Cond.methodLink RX4 257 Lib.Math.min.name, Cond.static Lib.Math.min.name, Cond.code Lib.Math.min.name Lib.Math.min.code 2 (some .int), Cond.fieldLink RX4 75 "SiloPads$Ship" "tonnes" "I", Cond.methodLink RX4 305 yX4_dustOf, Cond.instanceMethod yX4_dustOf, Cond.selects RX4 yX4_dustOf yX4_dustOf, Cond.code yX4_dustOf cX4_dustOf 3 (some .int), Cond.methodLink RX4 308 yX1_takeFromLowest, Cond.instanceMethod yX1_takeFromLowest, Cond.selects RX1 yX1_takeFromLowest yX1_takeFromLowest, Cond.code yX1_takeFromLowest cX1_takeFromLowest 3 none]
def wsX4_hashWithSilo : List Cond := .code yX4_hashWithSilo cX4_hashWithSilo 9 (some .long) :: ((wsX4_hashWithSilo_r1 ++ (wsX4_hashWithSilo_r2 ++ (wsX4_hashWithSilo_r3 ++ (wsX4_hashWithSilo_r4 ++ wsX4_hashWithSilo_r5)))) ++ wsX40 ++ wsX30 ++ wsX10 ++ wsX00 ++ (vx_atS RX4 60 "java/lang/IndexOutOfBoundsException" ["java/lang/RuntimeException", "java/lang/Exception"]).filter goodWord ++ (vx_atS RX4 67 "java/lang/IllegalArgumentException" ["java/lang/RuntimeException", "java/lang/Exception"]).filter goodWord)
def wsX4_bitsOfShare : List Cond := .code yX4_bitsOfShare cX4_bitsOfShare 7 (some .long) :: ([.constantLong RX4 354 (1023), .constantDouble RX4 356 (4611686018427387904), .constantDouble RX4 358 (4841369599423283200)])
def wsX4_digest_r1 : List Cond := [Cond.constantLong RX4 266 (3533), Cond.constantLong RX4 268 (31), Cond.fieldLink RX4 28 "SiloPads" "length" "I", Cond.fieldLink RX4 24 "SiloPads" "codes" "[I", Cond.methodLink RX4 270 yX4_count, Cond.instanceMethod yX4_count, Cond.selects RX4 yX4_count yX4_count, Cond.initialized RX4, Cond.code yX4_count cX4_count 2 (some .int), Cond.classLink RX4 63 "java/lang/IllegalArgumentException", Cond.initialized "java/lang/IllegalArgumentException", Cond.fieldLink RX4 10 "SiloPads" "now" "LSiloPads$Yard;", Cond.fieldLink RX4 213 "SiloPads$Yard" "days" "I", Cond.fieldLink RX4 222 "SiloPads$Yard" "dust" "I", Cond.fieldLink RX4 81 "SiloPads$Yard" "brought" "I", Cond.fieldLink RX4 84 "SiloPads$Yard" "gone" "I", Cond.fieldLink RX4 137 "SiloPads$Yard" "shakes" "I", Cond.fieldLink RX4 228 "SiloPads$Yard" "formed" "I", Cond.fieldLink RX4 117 "SiloPads$Yard" "settings" "[I", Cond.fieldLink RX4 20 "SiloPads" "savedStates" "I", Cond.methodLink RX4 216 yX3_siloTonnes, Cond.instanceMethod yX3_siloTonnes, Cond.selects RX3 yX3_siloTonnes yX3_siloTonnes, Cond.initialized RX3]
def wsX4_digest_r2 : List Cond := [Cond.code yX3_siloTonnes cX3_siloTonnes 3 (some .int), Cond.fieldLink RX3 11 "SiloPads$Yard" "silos" "[LSiloPads$Silo;", Cond.methodLink RX3 63 yX1_total, Cond.instanceMethod yX1_total, Cond.selects RX1 yX1_total yX1_total, Cond.initialized RX1, Cond.code yX1_total cX1_total 1 (some .int), Cond.methodLink RX1 31 yX1_totalFrom, Cond.instanceMethod yX1_totalFrom, Cond.selects RX1 yX1_totalFrom yX1_totalFrom, Cond.code yX1_totalFrom cX1_totalFrom 4 (some .int), Cond.fieldLink RX1 18 "SiloPads$Silo" "layers" "I", Cond.fieldLink RX1 9 "SiloPads$Silo" "tonnes" "[I", Cond.methodLink RX4 219 yX3_shipTonnes, Cond.instanceMethod yX3_shipTonnes, Cond.selects RX3 yX3_shipTonnes yX3_shipTonnes, Cond.code yX3_shipTonnes cX3_shipTonnes 3 (some .int), Cond.fieldLink RX3 19 "SiloPads$Yard" "ships" "[LSiloPads$Ship;", Cond.fieldLink RX3 67 "SiloPads$Ship" "tonnes" "I", Cond.methodLink RX4 114 yX3_padsOn, Cond.instanceMethod yX3_padsOn, Cond.selects RX3 yX3_padsOn yX3_padsOn, Cond.code yX3_padsOn cX3_padsOn 3 (some .int), Cond.fieldLink RX3 70 "SiloPads$Silo" "padsOn" "I"]
def wsX4_digest_r3 : List Cond := [Cond.methodLink RX4 225 yX3_arches, Cond.instanceMethod yX3_arches, Cond.selects RX3 yX3_arches yX3_arches, Cond.code yX3_arches cX3_arches 3 (some .int), Cond.fieldLink RX3 73 "SiloPads$Silo" "arch" "I", Cond.methodLink RX4 273 yX4_hashWithSilo, Cond.instanceMethod yX4_hashWithSilo, Cond.selects RX4 yX4_hashWithSilo yX4_hashWithSilo, Cond.code yX4_hashWithSilo cX4_hashWithSilo 9 (some .long), Cond.fieldLink RX4 94 "SiloPads$Yard" "silos" "[LSiloPads$Silo;", Cond.fieldLink RX4 125 "SiloPads$Silo" "layers" "I", Cond.methodLink RX4 338 yX4_silo, Cond.instanceMethod yX4_silo, Cond.selects RX4 yX4_silo yX4_silo, Cond.code yX4_silo cX4_silo 4 (some .int), Cond.classLink RX4 56 "java/lang/IndexOutOfBoundsException", Cond.initialized "java/lang/IndexOutOfBoundsException", Cond.fieldLink RX4 111 "SiloPads$Silo" "padsOn" "I", Cond.fieldLink RX4 141 "SiloPads$Silo" "arch" "I", Cond.fieldLink RX4 134 "SiloPads$Silo" "shakes" "I", Cond.methodLink RX4 87 yX4_isNoSilo, Cond.static yX4_isNoSilo, Cond.code yX4_isNoSilo cX4_isNoSilo 1 (some .boolean), Cond.methodLink RX4 190 yX1_total]
def wsX4_digest_r4 : List Cond := [Cond.methodLink RX4 193 yX4_outInHour, Cond.instanceMethod yX4_outInHour, Cond.selects RX4 yX4_outInHour yX4_outInHour, Cond.code yX4_outInHour cX4_outInHour 3 (some .int), Cond.fieldLink RX4 203 "SiloPads$Silo" "ages" "[I", Cond.methodLink RX4 206 yX4_hardnessAt, Cond.instanceMethod yX4_hardnessAt, Cond.selects RX4 yX4_hardnessAt yX4_hardnessAt, Cond.code yX4_hardnessAt cX4_hardnessAt 3 (some .int), Cond.methodLink RX4 340 yX4_layer, Cond.instanceMethod yX4_layer, Cond.selects RX4 yX4_layer yX4_layer, Cond.code yX4_layer cX4_layer 5 (some .int), Cond.fieldLink RX4 201 "SiloPads$Silo" "tonnes" "[I", Cond.methodLink RX4 344 yX4_shakesNeeded, Cond.instanceMethod yX4_shakesNeeded, Cond.selects RX4 yX4_shakesNeeded yX4_shakesNeeded, Cond.code yX4_shakesNeeded cX4_shakesNeeded 2 (some .int), Cond.methodLink RX4 130 yX4_shakesToBreak, Cond.instanceMethod yX4_shakesToBreak, Cond.selects RX4 yX4_shakesToBreak yX4_shakesToBreak, Cond.code yX4_shakesToBreak cX4_shakesToBreak 2 (some .int), Cond.methodLink RX4 317 Lib.Math.max.name, Cond.static Lib.Math.max.name]
def wsX4_digest_r5 : List Cond := [Cond.initialized "java/lang/Math", Cond.code Lib.Math.max.name Lib.Math.max.code 2 (some .int), Cond.methodLink RX4 320 yX1_tonnesHeld, Cond.instanceMethod yX1_tonnesHeld, Cond.selects RX1 yX1_tonnesHeld yX1_tonnesHeld, Cond.code yX1_tonnesHeld cX1_tonnesHeld 1 (some .int), Cond.fieldLink RX1 25 "SiloPads$Silo" "arch" "I", Cond.methodLink RX4 347 yX4_whyNot, Cond.instanceMethod yX4_whyNot, Cond.selects RX4 yX4_whyNot yX4_whyNot, Cond.code yX4_whyNot cX4_whyNot 4 (some .int), Cond.fieldLink RX4 71 "SiloPads$Yard" "ships" "[LSiloPads$Ship;", Cond.methodLink RX4 52 yX4_isNoShip, Cond.static yX4_isNoShip, Cond.code yX4_isNoShip cX4_isNoShip 1 (some .boolean), Cond.methodLink RX4 233 yX0_room, Cond.instanceMethod yX0_room, Cond.selects RX0 yX0_room yX0_room, Cond.initialized RX0, Cond.code yX0_room cX0_room 1 (some .int), Cond.fieldLink RX0 15 "SiloPads$Ship" "hold" "I", Cond.fieldLink RX0 9 "SiloPads$Ship" "tonnes" "I", Cond.methodLink RX4 350 yX4_ifFlowed, Cond.instanceMethod yX4_ifFlowed]
def wsX4_digest_r6 : List Cond := [Cond.selects RX4 yX4_ifFlowed yX4_ifFlowed, Cond.code yX4_ifFlowed cX4_ifFlowed 5 (some .int), Cond.fieldLink RX4 41 "SiloPads" "trialSilo" "LSiloPads$Silo;", Cond.fieldLink RX4 48 "SiloPads" "trialShip" "LSiloPads$Ship;", Cond.methodLink RX4 238 yX1_becomeLike, Cond.instanceMethod yX1_becomeLike, Cond.selects RX1 yX1_becomeLike yX1_becomeLike, Cond.code yX1_becomeLike cX1_becomeLike 3 none, Cond.fieldLink RX1 15 "SiloPads$Silo" "ages" "[I", Cond.fieldLink RX1 22 "SiloPads$Silo" "padsOn" "I", Cond.fieldLink RX1 28 "SiloPads$Silo" "shakes" "I", Cond.methodLink RX4 241 yX0_becomeLike, Cond.instanceMethod yX0_becomeLike, Cond.selects RX0 yX0_becomeLike yX0_becomeLike, Cond.code yX0_becomeLike cX0_becomeLike 2 none, Cond.methodLink RX4 244 yX4_pour, Cond.instanceMethod yX4_pour, Cond.selects RX4 yX4_pour yX4_pour, Cond.code yX4_pour cX4_pour 6 (some .int), Cond.methodLink RX4 301 yX4_pourForHour, Cond.instanceMethod yX4_pourForHour, Cond.selects RX4 yX4_pourForHour yX4_pourForHour, Cond.code yX4_pourForHour cX4_pourForHour 5 (some .int), Cond.methodLink RX4 257 Lib.Math.min.name]
def wsX4_digest_r7 : List Cond := [Cond.static Lib.Math.min.name, Cond.code Lib.Math.min.name Lib.Math.min.code 2 (some .int), Cond.fieldLink RX4 75 "SiloPads$Ship" "tonnes" "I", Cond.methodLink RX4 305 yX4_dustOf, Cond.instanceMethod yX4_dustOf, Cond.selects RX4 yX4_dustOf yX4_dustOf, Cond.code yX4_dustOf cX4_dustOf 3 (some .int), Cond.methodLink RX4 308 yX1_takeFromLowest, Cond.instanceMethod yX1_takeFromLowest, Cond.selects RX1 yX1_takeFromLowest yX1_takeFromLowest, Cond.code yX1_takeFromLowest cX1_takeFromLowest 3 none, Cond.methodLink RX4 277 yX4_shipOf, Cond.instanceMethod yX4_shipOf, Cond.selects RX4 yX4_shipOf yX4_shipOf, Cond.code yX4_shipOf cX4_shipOf 3 (some .int), Cond.fieldLink RX4 78 "SiloPads$Ship" "hold" "I", Cond.methodLink RX4 280 yX4_urgent, Cond.instanceMethod yX4_urgent, Cond.selects RX4 yX4_urgent yX4_urgent, Cond.code yX4_urgent cX4_urgent 3 (some .int), Cond.methodLink RX4 247 yX4_isMoreUrgent, Cond.static yX4_isMoreUrgent, Cond.code yX4_isMoreUrgent cX4_isMoreUrgent 2 (some .boolean), Cond.methodLink RX4 283 yX4_nextArch]
def wsX4_digest_r8 : List Cond := [Cond.instanceMethod yX4_nextArch, Cond.selects RX4 yX4_nextArch yX4_nextArch, Cond.code yX4_nextArch cX4_nextArch 4 (some .int), Cond.methodLink RX4 251 yX1_canGetArch, Cond.instanceMethod yX1_canGetArch, Cond.selects RX1 yX1_canGetArch yX1_canGetArch, Cond.code yX1_canGetArch cX1_canGetArch 1 (some .boolean), Cond.methodLink RX4 254 yX4_daysUntilStiff, Cond.instanceMethod yX4_daysUntilStiff, Cond.selects RX4 yX4_daysUntilStiff yX4_daysUntilStiff, Cond.code yX4_daysUntilStiff cX4_daysUntilStiff 2 (some .int), Cond.methodLink RX4 286 yX4_softness, Cond.instanceMethod yX4_softness, Cond.selects RX4 yX4_softness yX4_softness, Cond.code yX4_softness cX4_softness 4 (some .double), Cond.methodLink RX4 263 yX4_softTonnes, Cond.instanceMethod yX4_softTonnes, Cond.selects RX4 yX4_softTonnes yX4_softTonnes, Cond.code yX4_softTonnes cX4_softTonnes 4 (some .int), Cond.methodLink RX4 290 yX4_bitsOfShare, Cond.static yX4_bitsOfShare, Cond.code yX4_bitsOfShare cX4_bitsOfShare 7 (some .long), Cond.constantLong RX4 354 (1023), Cond.constantDouble RX4 356 (4611686018427387904)]
def wsX4_digest_r9 : List Cond := [Cond.constantDouble RX4 358 (4841369599423283200)]
def wsX4_digest : List Cond := .code yX4_digest cX4_digest 4 (some .long) :: ((wsX4_digest_r1 ++ (wsX4_digest_r2 ++ (wsX4_digest_r3 ++ (wsX4_digest_r4 ++ (wsX4_digest_r5 ++ (wsX4_digest_r6 ++ (wsX4_digest_r7 ++ (wsX4_digest_r8 ++ wsX4_digest_r9)))))))) ++ wsX40 ++ wsX30 ++ wsX10 ++ wsX00 ++ (vx_atS RX4 67 "java/lang/IllegalArgumentException" ["java/lang/RuntimeException", "java/lang/Exception"]).filter goodWord ++ (vx_atS RX4 60 "java/lang/IndexOutOfBoundsException" ["java/lang/RuntimeException", "java/lang/Exception"]).filter goodWord)
def wsX5_init : List Cond := .code yX5_init cX5_init 2 none :: ([.methodLink RX5 1 objectInit, .instanceMethod objectInit, .code objectInit ⟨#[0xb1]⟩ 1 none, .arrayClass .int, .fieldLink RX5 7 "SiloPadsModel" "s" "[I", .fieldLink RX5 13 "SiloPadsModel" "aside" "[I", .fieldLink RX5 16 "SiloPadsModel" "saved" "[I", .fieldLink RX5 19 "SiloPadsModel" "buffer" "[I", .fieldLink RX5 22 "SiloPadsModel" "read" "[I", .fieldLink RX5 25 "SiloPadsModel" "thrown" "I"] ++ wsX50)
def wsX5_thrown : List Cond := .code yX5_thrown cX5_thrown 1 (some .int) :: ([.fieldLink RX5 25 "SiloPadsModel" "thrown" "I"] ++ wsX50)
def wsX5_in : List Cond := .code yX5_in cX5_in 3 (some .boolean) :: ([])
def wsX5_fails : List Cond := .code yX5_fails cX5_fails 2 (some .int) :: ([.fieldLink RX5 25 "SiloPadsModel" "thrown" "I"] ++ wsX50)
def wsX5_lesser : List Cond := .code yX5_lesser cX5_lesser 2 (some .int) :: ([])
def wsX5_isSilo : List Cond := .code yX5_isSilo cX5_isSilo 1 (some .boolean) :: ([.methodLink RX5 29 yX5_in, .static yX5_in, .initialized RX5, .code yX5_in cX5_in 3 (some .boolean)])
def wsX5_isShip : List Cond := .code yX5_isShip cX5_isShip 1 (some .boolean) :: ([.methodLink RX5 29 yX5_in, .static yX5_in, .initialized RX5, .code yX5_in cX5_in 3 (some .boolean)])
def wsX5_of : List Cond := .code yX5_of cX5_of 3 (some .int) :: ([.fieldLink RX5 7 "SiloPadsModel" "s" "[I"] ++ wsX50)
def wsX5_lay : List Cond := .code yX5_lay cX5_lay 4 none :: ([.fieldLink RX5 7 "SiloPadsModel" "s" "[I"] ++ wsX50)
def wsX5_tonnes : List Cond := .code yX5_tonnes cX5_tonnes 3 (some .int) :: ([.methodLink RX5 33 yX5_of, .instanceMethod yX5_of, .selects RX5 yX5_of yX5_of, .initialized RX5, .code yX5_of cX5_of 3 (some .int), .fieldLink RX5 7 "SiloPadsModel" "s" "[I"] ++ wsX50)
def wsX5_age : List Cond := .code yX5_age cX5_age 3 (some .int) :: ([.methodLink RX5 33 yX5_of, .instanceMethod yX5_of, .selects RX5 yX5_of yX5_of, .initialized RX5, .code yX5_of cX5_of 3 (some .int), .fieldLink RX5 7 "SiloPadsModel" "s" "[I"] ++ wsX50)
def wsX5_room : List Cond := .code yX5_room cX5_room 2 (some .int) :: ([.fieldLink RX5 7 "SiloPadsModel" "s" "[I"] ++ wsX50)
def wsX5_saves : List Cond := .code yX5_saves cX5_saves 2 none :: ([.fieldLink RX5 37 "SiloPadsModel" "savedMany" "I", .fieldLink RX5 16 "SiloPadsModel" "saved" "[I", .fieldLink RX5 7 "SiloPadsModel" "s" "[I"] ++ wsX50)
def wsX5_putAside : List Cond := .code yX5_putAside cX5_putAside 2 none :: ([.fieldLink RX5 13 "SiloPadsModel" "aside" "[I", .fieldLink RX5 7 "SiloPadsModel" "s" "[I"] ++ wsX50)
def wsX5_takeBack : List Cond := .code yX5_takeBack cX5_takeBack 2 none :: ([.fieldLink RX5 7 "SiloPadsModel" "s" "[I", .fieldLink RX5 13 "SiloPadsModel" "aside" "[I"] ++ wsX50)
def wsX5_setOf : List Cond := .code yX5_setOf cX5_setOf 4 (some .int) :: ([.fieldLink RX5 7 "SiloPadsModel" "s" "[I", .methodLink RX5 40 yX5_age, .instanceMethod yX5_age, .selects RX5 yX5_age yX5_age, .initialized RX5, .code yX5_age cX5_age 3 (some .int), .methodLink RX5 33 yX5_of, .instanceMethod yX5_of, .selects RX5 yX5_of yX5_of, .code yX5_of cX5_of 3 (some .int)] ++ wsX50)
def wsX5_sumFrom : List Cond := .code yX5_sumFrom cX5_sumFrom 5 (some .int) :: ([.methodLink RX5 33 yX5_of, .instanceMethod yX5_of, .selects RX5 yX5_of yX5_of, .initialized RX5, .code yX5_of cX5_of 3 (some .int), .fieldLink RX5 7 "SiloPadsModel" "s" "[I", .methodLink RX5 43 yX5_tonnes, .instanceMethod yX5_tonnes, .selects RX5 yX5_tonnes yX5_tonnes, .code yX5_tonnes cX5_tonnes 3 (some .int)] ++ wsX50)
def wsX5_flows : List Cond := .code yX5_flows cX5_flows 3 (some .int) :: ([.methodLink RX5 33 yX5_of, .instanceMethod yX5_of, .selects RX5 yX5_of yX5_of, .initialized RX5, .code yX5_of cX5_of 3 (some .int), .fieldLink RX5 7 "SiloPadsModel" "s" "[I", .methodLink RX5 46 yX5_setOf, .instanceMethod yX5_setOf, .selects RX5 yX5_setOf yX5_setOf, .code yX5_setOf cX5_setOf 4 (some .int), .methodLink RX5 40 yX5_age, .instanceMethod yX5_age, .selects RX5 yX5_age yX5_age, .code yX5_age cX5_age 3 (some .int)] ++ wsX50)
def wsX5_drops : List Cond := .code yX5_drops cX5_drops 4 none :: ([.methodLink RX5 33 yX5_of, .instanceMethod yX5_of, .selects RX5 yX5_of yX5_of, .initialized RX5, .code yX5_of cX5_of 3 (some .int), .fieldLink RX5 7 "SiloPadsModel" "s" "[I", .methodLink RX5 49 yX5_lay, .instanceMethod yX5_lay, .selects RX5 yX5_lay yX5_lay, .code yX5_lay cX5_lay 4 none] ++ wsX50)
def wsX5_flowsHour_r1 : List Cond := [Cond.fieldLink RX5 7 "SiloPadsModel" "s" "[I", Cond.methodLink RX5 33 yX5_of, Cond.instanceMethod yX5_of, Cond.selects RX5 yX5_of yX5_of, Cond.initialized RX5, Cond.code yX5_of cX5_of 3 (some .int), Cond.methodLink RX5 53 yX5_flows, Cond.instanceMethod yX5_flows, Cond.selects RX5 yX5_flows yX5_flows, Cond.code yX5_flows cX5_flows 3 (some .int), Cond.methodLink RX5 46 yX5_setOf, Cond.instanceMethod yX5_setOf, Cond.selects RX5 yX5_setOf yX5_setOf, Cond.code yX5_setOf cX5_setOf 4 (some .int), Cond.methodLink RX5 40 yX5_age, Cond.instanceMethod yX5_age, Cond.selects RX5 yX5_age yX5_age, Cond.code yX5_age cX5_age 3 (some .int), Cond.methodLink RX5 43 yX5_tonnes, Cond.instanceMethod yX5_tonnes, Cond.selects RX5 yX5_tonnes yX5_tonnes, Cond.code yX5_tonnes cX5_tonnes 3 (some .int), Cond.methodLink RX5 57 yX5_lesser, Cond.static yX5_lesser]
def wsX5_flowsHour_r2 : List Cond := [Cond.code yX5_lesser cX5_lesser 2 (some .int), Cond.methodLink RX5 60 yX5_room, Cond.instanceMethod yX5_room, Cond.selects RX5 yX5_room yX5_room, Cond.code yX5_room cX5_room 2 (some .int), Cond.methodLink RX5 49 yX5_lay, Cond.instanceMethod yX5_lay, Cond.selects RX5 yX5_lay yX5_lay, Cond.code yX5_lay cX5_lay 4 none, Cond.methodLink RX5 63 yX5_drops, Cond.instanceMethod yX5_drops, Cond.selects RX5 yX5_drops yX5_drops, Cond.code yX5_drops cX5_drops 4 none]
def wsX5_flowsHour : List Cond := .code yX5_flowsHour cX5_flowsHour 6 (some .int) :: ((wsX5_flowsHour_r1 ++ wsX5_flowsHour_r2) ++ wsX50)
def wsX5_flowsAll_r1 : List Cond := [Cond.methodLink RX5 67 yX5_flowsHour, Cond.instanceMethod yX5_flowsHour, Cond.selects RX5 yX5_flowsHour yX5_flowsHour, Cond.initialized RX5, Cond.code yX5_flowsHour cX5_flowsHour 6 (some .int), Cond.fieldLink RX5 7 "SiloPadsModel" "s" "[I", Cond.methodLink RX5 33 yX5_of, Cond.instanceMethod yX5_of, Cond.selects RX5 yX5_of yX5_of, Cond.code yX5_of cX5_of 3 (some .int), Cond.methodLink RX5 53 yX5_flows, Cond.instanceMethod yX5_flows, Cond.selects RX5 yX5_flows yX5_flows, Cond.code yX5_flows cX5_flows 3 (some .int), Cond.methodLink RX5 46 yX5_setOf, Cond.instanceMethod yX5_setOf, Cond.selects RX5 yX5_setOf yX5_setOf, Cond.code yX5_setOf cX5_setOf 4 (some .int), Cond.methodLink RX5 40 yX5_age, Cond.instanceMethod yX5_age, Cond.selects RX5 yX5_age yX5_age, Cond.code yX5_age cX5_age 3 (some .int), Cond.methodLink RX5 43 yX5_tonnes, Cond.instanceMethod yX5_tonnes]
def wsX5_flowsAll_r2 : List Cond := [Cond.selects RX5 yX5_tonnes yX5_tonnes, Cond.code yX5_tonnes cX5_tonnes 3 (some .int), Cond.methodLink RX5 57 yX5_lesser, Cond.static yX5_lesser, Cond.code yX5_lesser cX5_lesser 2 (some .int), Cond.methodLink RX5 60 yX5_room, Cond.instanceMethod yX5_room, Cond.selects RX5 yX5_room yX5_room, Cond.code yX5_room cX5_room 2 (some .int), Cond.methodLink RX5 49 yX5_lay, Cond.instanceMethod yX5_lay, Cond.selects RX5 yX5_lay yX5_lay, Cond.code yX5_lay cX5_lay 4 none, Cond.methodLink RX5 63 yX5_drops, Cond.instanceMethod yX5_drops, Cond.selects RX5 yX5_drops yX5_drops, Cond.code yX5_drops cX5_drops 4 none]
def wsX5_flowsAll : List Cond := .code yX5_flowsAll cX5_flowsAll 6 (some .int) :: ((wsX5_flowsAll_r1 ++ wsX5_flowsAll_r2) ++ wsX50)
def wsX5_comes_r1 : List Cond := [Cond.methodLink RX5 70 yX5_sumFrom, Cond.instanceMethod yX5_sumFrom, Cond.selects RX5 yX5_sumFrom yX5_sumFrom, Cond.initialized RX5, Cond.code yX5_sumFrom cX5_sumFrom 5 (some .int), Cond.methodLink RX5 33 yX5_of, Cond.instanceMethod yX5_of, Cond.selects RX5 yX5_of yX5_of, Cond.code yX5_of cX5_of 3 (some .int), Cond.fieldLink RX5 7 "SiloPadsModel" "s" "[I", Cond.methodLink RX5 43 yX5_tonnes, Cond.instanceMethod yX5_tonnes, Cond.selects RX5 yX5_tonnes yX5_tonnes, Cond.code yX5_tonnes cX5_tonnes 3 (some .int), Cond.methodLink RX5 57 yX5_lesser, Cond.static yX5_lesser, Cond.code yX5_lesser cX5_lesser 2 (some .int), Cond.methodLink RX5 40 yX5_age, Cond.instanceMethod yX5_age, Cond.selects RX5 yX5_age yX5_age, Cond.code yX5_age cX5_age 3 (some .int), Cond.methodLink RX5 49 yX5_lay, Cond.instanceMethod yX5_lay, Cond.selects RX5 yX5_lay yX5_lay]
def wsX5_comes_r2 : List Cond := [Cond.code yX5_lay cX5_lay 4 none]
def wsX5_comes : List Cond := .code yX5_comes cX5_comes 7 (some .int) :: ((wsX5_comes_r1 ++ wsX5_comes_r2) ++ wsX50)
def wsX5_unloads_r1 : List Cond := [Cond.fieldLink RX5 7 "SiloPadsModel" "s" "[I", Cond.methodLink RX5 57 yX5_lesser, Cond.static yX5_lesser, Cond.initialized RX5, Cond.code yX5_lesser cX5_lesser 2 (some .int), Cond.methodLink RX5 73 yX5_comes, Cond.instanceMethod yX5_comes, Cond.selects RX5 yX5_comes yX5_comes, Cond.code yX5_comes cX5_comes 7 (some .int), Cond.methodLink RX5 70 yX5_sumFrom, Cond.instanceMethod yX5_sumFrom, Cond.selects RX5 yX5_sumFrom yX5_sumFrom, Cond.code yX5_sumFrom cX5_sumFrom 5 (some .int), Cond.methodLink RX5 33 yX5_of, Cond.instanceMethod yX5_of, Cond.selects RX5 yX5_of yX5_of, Cond.code yX5_of cX5_of 3 (some .int), Cond.methodLink RX5 43 yX5_tonnes, Cond.instanceMethod yX5_tonnes, Cond.selects RX5 yX5_tonnes yX5_tonnes, Cond.code yX5_tonnes cX5_tonnes 3 (some .int), Cond.methodLink RX5 40 yX5_age, Cond.instanceMethod yX5_age, Cond.selects RX5 yX5_age yX5_age]
def wsX5_unloads_r2 : List Cond := [Cond.code yX5_age cX5_age 3 (some .int), Cond.methodLink RX5 49 yX5_lay, Cond.instanceMethod yX5_lay, Cond.selects RX5 yX5_lay yX5_lay, Cond.code yX5_lay cX5_lay 4 none]
def wsX5_unloads : List Cond := .code yX5_unloads cX5_unloads 5 (some .int) :: ((wsX5_unloads_r1 ++ wsX5_unloads_r2) ++ wsX50)
def wsX5_forms : List Cond := .code yX5_forms cX5_forms 2 (some .boolean) :: ([.methodLink RX5 33 yX5_of, .instanceMethod yX5_of, .selects RX5 yX5_of yX5_of, .initialized RX5, .code yX5_of cX5_of 3 (some .int), .fieldLink RX5 7 "SiloPadsModel" "s" "[I", .methodLink RX5 46 yX5_setOf, .instanceMethod yX5_setOf, .selects RX5 yX5_setOf yX5_setOf, .code yX5_setOf cX5_setOf 4 (some .int), .methodLink RX5 40 yX5_age, .instanceMethod yX5_age, .selects RX5 yX5_age yX5_age, .code yX5_age cX5_age 3 (some .int)] ++ wsX50)
def wsX5_passesDay : List Cond := .code yX5_passesDay cX5_passesDay 4 (some .int) :: ([.fieldLink RX5 7 "SiloPadsModel" "s" "[I", .methodLink RX5 33 yX5_of, .instanceMethod yX5_of, .selects RX5 yX5_of yX5_of, .initialized RX5, .code yX5_of cX5_of 3 (some .int), .methodLink RX5 40 yX5_age, .instanceMethod yX5_age, .selects RX5 yX5_age yX5_age, .code yX5_age cX5_age 3 (some .int), .methodLink RX5 49 yX5_lay, .instanceMethod yX5_lay, .selects RX5 yX5_lay yX5_lay, .code yX5_lay cX5_lay 4 none, .methodLink RX5 76 yX5_forms, .instanceMethod yX5_forms, .selects RX5 yX5_forms yX5_forms, .code yX5_forms cX5_forms 2 (some .boolean), .methodLink RX5 46 yX5_setOf, .instanceMethod yX5_setOf, .selects RX5 yX5_setOf yX5_setOf, .code yX5_setOf cX5_setOf 4 (some .int)] ++ wsX50)
def wsX5_passes_r1 : List Cond := [Cond.methodLink RX5 80 yX5_passesDay, Cond.instanceMethod yX5_passesDay, Cond.selects RX5 yX5_passesDay yX5_passesDay, Cond.initialized RX5, Cond.code yX5_passesDay cX5_passesDay 4 (some .int), Cond.fieldLink RX5 7 "SiloPadsModel" "s" "[I", Cond.methodLink RX5 33 yX5_of, Cond.instanceMethod yX5_of, Cond.selects RX5 yX5_of yX5_of, Cond.code yX5_of cX5_of 3 (some .int), Cond.methodLink RX5 40 yX5_age, Cond.instanceMethod yX5_age, Cond.selects RX5 yX5_age yX5_age, Cond.code yX5_age cX5_age 3 (some .int), Cond.methodLink RX5 49 yX5_lay, Cond.instanceMethod yX5_lay, Cond.selects RX5 yX5_lay yX5_lay, Cond.code yX5_lay cX5_lay 4 none, Cond.methodLink RX5 76 yX5_forms, Cond.instanceMethod yX5_forms, Cond.selects RX5 yX5_forms yX5_forms, Cond.code yX5_forms cX5_forms 2 (some .boolean), Cond.methodLink RX5 46 yX5_setOf, Cond.instanceMethod yX5_setOf]
def wsX5_passes_r2 : List Cond := [Cond.selects RX5 yX5_setOf yX5_setOf, Cond.code yX5_setOf cX5_setOf 4 (some .int)]
def wsX5_passes : List Cond := .code yX5_passes cX5_passes 4 (some .int) :: ((wsX5_passes_r1 ++ wsX5_passes_r2) ++ wsX50)
def wsX5_isHeavy : List Cond := .code yX5_isHeavy cX5_isHeavy 2 (some .boolean) :: ([.fieldLink RX5 7 "SiloPadsModel" "s" "[I", .methodLink RX5 33 yX5_of, .instanceMethod yX5_of, .selects RX5 yX5_of yX5_of, .initialized RX5, .code yX5_of cX5_of 3 (some .int), .methodLink RX5 70 yX5_sumFrom, .instanceMethod yX5_sumFrom, .selects RX5 yX5_sumFrom yX5_sumFrom, .code yX5_sumFrom cX5_sumFrom 5 (some .int), .methodLink RX5 43 yX5_tonnes, .instanceMethod yX5_tonnes, .selects RX5 yX5_tonnes yX5_tonnes, .code yX5_tonnes cX5_tonnes 3 (some .int)] ++ wsX50)
def wsX5_shakes_r1 : List Cond := [Cond.fieldLink RX5 7 "SiloPadsModel" "s" "[I", Cond.methodLink RX5 33 yX5_of, Cond.instanceMethod yX5_of, Cond.selects RX5 yX5_of yX5_of, Cond.initialized RX5, Cond.code yX5_of cX5_of 3 (some .int), Cond.methodLink RX5 84 yX5_isHeavy, Cond.instanceMethod yX5_isHeavy, Cond.selects RX5 yX5_isHeavy yX5_isHeavy, Cond.code yX5_isHeavy cX5_isHeavy 2 (some .boolean), Cond.methodLink RX5 70 yX5_sumFrom, Cond.instanceMethod yX5_sumFrom, Cond.selects RX5 yX5_sumFrom yX5_sumFrom, Cond.code yX5_sumFrom cX5_sumFrom 5 (some .int), Cond.methodLink RX5 43 yX5_tonnes, Cond.instanceMethod yX5_tonnes, Cond.selects RX5 yX5_tonnes yX5_tonnes, Cond.code yX5_tonnes cX5_tonnes 3 (some .int), Cond.methodLink RX5 49 yX5_lay, Cond.instanceMethod yX5_lay, Cond.selects RX5 yX5_lay yX5_lay, Cond.code yX5_lay cX5_lay 4 none, Cond.methodLink RX5 40 yX5_age, Cond.instanceMethod yX5_age]
def wsX5_shakes_r2 : List Cond := [Cond.selects RX5 yX5_age yX5_age, Cond.code yX5_age cX5_age 3 (some .int)]
def wsX5_shakes : List Cond := .code yX5_shakes cX5_shakes 4 (some .int) :: ((wsX5_shakes_r1 ++ wsX5_shakes_r2) ++ wsX50)
def wsX5_ship : List Cond := .code yX5_ship cX5_ship 5 (some .int) :: ([.fieldLink RX5 25 "SiloPadsModel" "thrown" "I", .fieldLink RX5 7 "SiloPadsModel" "s" "[I", .methodLink RX5 87 yX5_isShip, .static yX5_isShip, .initialized RX5, .code yX5_isShip cX5_isShip 1 (some .boolean), .methodLink RX5 29 yX5_in, .static yX5_in, .code yX5_in cX5_in 3 (some .boolean), .methodLink RX5 90 yX5_fails, .instanceMethod yX5_fails, .selects RX5 yX5_fails yX5_fails, .code yX5_fails cX5_fails 2 (some .int), .methodLink RX5 93 yX5_saves, .instanceMethod yX5_saves, .selects RX5 yX5_saves yX5_saves, .code yX5_saves cX5_saves 2 none, .fieldLink RX5 37 "SiloPadsModel" "savedMany" "I", .fieldLink RX5 16 "SiloPadsModel" "saved" "[I"] ++ wsX50)
def wsX5_unload_r1 : List Cond := [Cond.fieldLink RX5 25 "SiloPadsModel" "thrown" "I", Cond.methodLink RX5 96 yX5_isSilo, Cond.static yX5_isSilo, Cond.initialized RX5, Cond.code yX5_isSilo cX5_isSilo 1 (some .boolean), Cond.methodLink RX5 29 yX5_in, Cond.static yX5_in, Cond.code yX5_in cX5_in 3 (some .boolean), Cond.methodLink RX5 87 yX5_isShip, Cond.static yX5_isShip, Cond.code yX5_isShip cX5_isShip 1 (some .boolean), Cond.methodLink RX5 90 yX5_fails, Cond.instanceMethod yX5_fails, Cond.selects RX5 yX5_fails yX5_fails, Cond.code yX5_fails cX5_fails 2 (some .int), Cond.methodLink RX5 93 yX5_saves, Cond.instanceMethod yX5_saves, Cond.selects RX5 yX5_saves yX5_saves, Cond.code yX5_saves cX5_saves 2 none, Cond.fieldLink RX5 37 "SiloPadsModel" "savedMany" "I", Cond.fieldLink RX5 16 "SiloPadsModel" "saved" "[I", Cond.fieldLink RX5 7 "SiloPadsModel" "s" "[I", Cond.methodLink RX5 99 yX5_unloads, Cond.instanceMethod yX5_unloads]
def wsX5_unload_r2 : List Cond := [Cond.selects RX5 yX5_unloads yX5_unloads, Cond.code yX5_unloads cX5_unloads 5 (some .int), Cond.methodLink RX5 57 yX5_lesser, Cond.static yX5_lesser, Cond.code yX5_lesser cX5_lesser 2 (some .int), Cond.methodLink RX5 73 yX5_comes, Cond.instanceMethod yX5_comes, Cond.selects RX5 yX5_comes yX5_comes, Cond.code yX5_comes cX5_comes 7 (some .int), Cond.methodLink RX5 70 yX5_sumFrom, Cond.instanceMethod yX5_sumFrom, Cond.selects RX5 yX5_sumFrom yX5_sumFrom, Cond.code yX5_sumFrom cX5_sumFrom 5 (some .int), Cond.methodLink RX5 33 yX5_of, Cond.instanceMethod yX5_of, Cond.selects RX5 yX5_of yX5_of, Cond.code yX5_of cX5_of 3 (some .int), Cond.methodLink RX5 43 yX5_tonnes, Cond.instanceMethod yX5_tonnes, Cond.selects RX5 yX5_tonnes yX5_tonnes, Cond.code yX5_tonnes cX5_tonnes 3 (some .int), Cond.methodLink RX5 40 yX5_age, Cond.instanceMethod yX5_age, Cond.selects RX5 yX5_age yX5_age]
def wsX5_unload_r3 : List Cond := [Cond.code yX5_age cX5_age 3 (some .int), Cond.methodLink RX5 49 yX5_lay, Cond.instanceMethod yX5_lay, Cond.selects RX5 yX5_lay yX5_lay, Cond.code yX5_lay cX5_lay 4 none]
def wsX5_unload : List Cond := .code yX5_unload cX5_unload 4 (some .int) :: ((wsX5_unload_r1 ++ (wsX5_unload_r2 ++ wsX5_unload_r3)) ++ wsX50)
def wsX5_flow_r1 : List Cond := [Cond.fieldLink RX5 25 "SiloPadsModel" "thrown" "I", Cond.methodLink RX5 96 yX5_isSilo, Cond.static yX5_isSilo, Cond.initialized RX5, Cond.code yX5_isSilo cX5_isSilo 1 (some .boolean), Cond.methodLink RX5 29 yX5_in, Cond.static yX5_in, Cond.code yX5_in cX5_in 3 (some .boolean), Cond.methodLink RX5 87 yX5_isShip, Cond.static yX5_isShip, Cond.code yX5_isShip cX5_isShip 1 (some .boolean), Cond.methodLink RX5 90 yX5_fails, Cond.instanceMethod yX5_fails, Cond.selects RX5 yX5_fails yX5_fails, Cond.code yX5_fails cX5_fails 2 (some .int), Cond.methodLink RX5 93 yX5_saves, Cond.instanceMethod yX5_saves, Cond.selects RX5 yX5_saves yX5_saves, Cond.code yX5_saves cX5_saves 2 none, Cond.fieldLink RX5 37 "SiloPadsModel" "savedMany" "I", Cond.fieldLink RX5 16 "SiloPadsModel" "saved" "[I", Cond.fieldLink RX5 7 "SiloPadsModel" "s" "[I", Cond.methodLink RX5 103 yX5_flowsAll, Cond.instanceMethod yX5_flowsAll]
def wsX5_flow_r2 : List Cond := [Cond.selects RX5 yX5_flowsAll yX5_flowsAll, Cond.code yX5_flowsAll cX5_flowsAll 6 (some .int), Cond.methodLink RX5 67 yX5_flowsHour, Cond.instanceMethod yX5_flowsHour, Cond.selects RX5 yX5_flowsHour yX5_flowsHour, Cond.code yX5_flowsHour cX5_flowsHour 6 (some .int), Cond.methodLink RX5 33 yX5_of, Cond.instanceMethod yX5_of, Cond.selects RX5 yX5_of yX5_of, Cond.code yX5_of cX5_of 3 (some .int), Cond.methodLink RX5 53 yX5_flows, Cond.instanceMethod yX5_flows, Cond.selects RX5 yX5_flows yX5_flows, Cond.code yX5_flows cX5_flows 3 (some .int), Cond.methodLink RX5 46 yX5_setOf, Cond.instanceMethod yX5_setOf, Cond.selects RX5 yX5_setOf yX5_setOf, Cond.code yX5_setOf cX5_setOf 4 (some .int), Cond.methodLink RX5 40 yX5_age, Cond.instanceMethod yX5_age, Cond.selects RX5 yX5_age yX5_age, Cond.code yX5_age cX5_age 3 (some .int), Cond.methodLink RX5 43 yX5_tonnes, Cond.instanceMethod yX5_tonnes]
def wsX5_flow_r3 : List Cond := [Cond.selects RX5 yX5_tonnes yX5_tonnes, Cond.code yX5_tonnes cX5_tonnes 3 (some .int), Cond.methodLink RX5 57 yX5_lesser, Cond.static yX5_lesser, Cond.code yX5_lesser cX5_lesser 2 (some .int), Cond.methodLink RX5 60 yX5_room, Cond.instanceMethod yX5_room, Cond.selects RX5 yX5_room yX5_room, Cond.code yX5_room cX5_room 2 (some .int), Cond.methodLink RX5 49 yX5_lay, Cond.instanceMethod yX5_lay, Cond.selects RX5 yX5_lay yX5_lay, Cond.code yX5_lay cX5_lay 4 none, Cond.methodLink RX5 63 yX5_drops, Cond.instanceMethod yX5_drops, Cond.selects RX5 yX5_drops yX5_drops, Cond.code yX5_drops cX5_drops 4 none]
def wsX5_flow : List Cond := .code yX5_flow cX5_flow 4 (some .int) :: ((wsX5_flow_r1 ++ (wsX5_flow_r2 ++ wsX5_flow_r3)) ++ wsX50)
def wsX5_padsOn : List Cond := .code yX5_padsOn cX5_padsOn 3 (some .int) :: ([.methodLink RX5 33 yX5_of, .instanceMethod yX5_of, .selects RX5 yX5_of yX5_of, .initialized RX5, .code yX5_of cX5_of 3 (some .int), .fieldLink RX5 7 "SiloPadsModel" "s" "[I"] ++ wsX50)
def wsX5_pads_r1 : List Cond := [Cond.fieldLink RX5 25 "SiloPadsModel" "thrown" "I", Cond.fieldLink RX5 7 "SiloPadsModel" "s" "[I", Cond.methodLink RX5 96 yX5_isSilo, Cond.static yX5_isSilo, Cond.initialized RX5, Cond.code yX5_isSilo cX5_isSilo 1 (some .boolean), Cond.methodLink RX5 29 yX5_in, Cond.static yX5_in, Cond.code yX5_in cX5_in 3 (some .boolean), Cond.methodLink RX5 90 yX5_fails, Cond.instanceMethod yX5_fails, Cond.selects RX5 yX5_fails yX5_fails, Cond.code yX5_fails cX5_fails 2 (some .int), Cond.methodLink RX5 33 yX5_of, Cond.instanceMethod yX5_of, Cond.selects RX5 yX5_of yX5_of, Cond.code yX5_of cX5_of 3 (some .int), Cond.methodLink RX5 106 yX5_padsOn, Cond.instanceMethod yX5_padsOn, Cond.selects RX5 yX5_padsOn yX5_padsOn, Cond.code yX5_padsOn cX5_padsOn 3 (some .int), Cond.methodLink RX5 93 yX5_saves, Cond.instanceMethod yX5_saves, Cond.selects RX5 yX5_saves yX5_saves]
def wsX5_pads_r2 : List Cond := [Cond.code yX5_saves cX5_saves 2 none, Cond.fieldLink RX5 37 "SiloPadsModel" "savedMany" "I", Cond.fieldLink RX5 16 "SiloPadsModel" "saved" "[I", Cond.methodLink RX5 49 yX5_lay, Cond.instanceMethod yX5_lay, Cond.selects RX5 yX5_lay yX5_lay, Cond.code yX5_lay cX5_lay 4 none]
def wsX5_pads : List Cond := .code yX5_pads cX5_pads 4 (some .int) :: ((wsX5_pads_r1 ++ wsX5_pads_r2) ++ wsX50)
def wsX5_shake_r1 : List Cond := [Cond.fieldLink RX5 25 "SiloPadsModel" "thrown" "I", Cond.methodLink RX5 96 yX5_isSilo, Cond.static yX5_isSilo, Cond.initialized RX5, Cond.code yX5_isSilo cX5_isSilo 1 (some .boolean), Cond.methodLink RX5 29 yX5_in, Cond.static yX5_in, Cond.code yX5_in cX5_in 3 (some .boolean), Cond.methodLink RX5 90 yX5_fails, Cond.instanceMethod yX5_fails, Cond.selects RX5 yX5_fails yX5_fails, Cond.code yX5_fails cX5_fails 2 (some .int), Cond.methodLink RX5 33 yX5_of, Cond.instanceMethod yX5_of, Cond.selects RX5 yX5_of yX5_of, Cond.code yX5_of cX5_of 3 (some .int), Cond.fieldLink RX5 7 "SiloPadsModel" "s" "[I", Cond.methodLink RX5 93 yX5_saves, Cond.instanceMethod yX5_saves, Cond.selects RX5 yX5_saves yX5_saves, Cond.code yX5_saves cX5_saves 2 none, Cond.fieldLink RX5 37 "SiloPadsModel" "savedMany" "I", Cond.fieldLink RX5 16 "SiloPadsModel" "saved" "[I", Cond.methodLink RX5 109 yX5_shakes]
def wsX5_shake_r2 : List Cond := [Cond.instanceMethod yX5_shakes, Cond.selects RX5 yX5_shakes yX5_shakes, Cond.code yX5_shakes cX5_shakes 4 (some .int), Cond.methodLink RX5 84 yX5_isHeavy, Cond.instanceMethod yX5_isHeavy, Cond.selects RX5 yX5_isHeavy yX5_isHeavy, Cond.code yX5_isHeavy cX5_isHeavy 2 (some .boolean), Cond.methodLink RX5 70 yX5_sumFrom, Cond.instanceMethod yX5_sumFrom, Cond.selects RX5 yX5_sumFrom yX5_sumFrom, Cond.code yX5_sumFrom cX5_sumFrom 5 (some .int), Cond.methodLink RX5 43 yX5_tonnes, Cond.instanceMethod yX5_tonnes, Cond.selects RX5 yX5_tonnes yX5_tonnes, Cond.code yX5_tonnes cX5_tonnes 3 (some .int), Cond.methodLink RX5 49 yX5_lay, Cond.instanceMethod yX5_lay, Cond.selects RX5 yX5_lay yX5_lay, Cond.code yX5_lay cX5_lay 4 none, Cond.methodLink RX5 40 yX5_age, Cond.instanceMethod yX5_age, Cond.selects RX5 yX5_age yX5_age, Cond.code yX5_age cX5_age 3 (some .int)]
def wsX5_shake : List Cond := .code yX5_shake cX5_shake 2 (some .int) :: ((wsX5_shake_r1 ++ wsX5_shake_r2) ++ wsX50)
def wsX5_pass_r1 : List Cond := [Cond.fieldLink RX5 25 "SiloPadsModel" "thrown" "I", Cond.methodLink RX5 29 yX5_in, Cond.static yX5_in, Cond.initialized RX5, Cond.code yX5_in cX5_in 3 (some .boolean), Cond.methodLink RX5 90 yX5_fails, Cond.instanceMethod yX5_fails, Cond.selects RX5 yX5_fails yX5_fails, Cond.code yX5_fails cX5_fails 2 (some .int), Cond.methodLink RX5 93 yX5_saves, Cond.instanceMethod yX5_saves, Cond.selects RX5 yX5_saves yX5_saves, Cond.code yX5_saves cX5_saves 2 none, Cond.fieldLink RX5 37 "SiloPadsModel" "savedMany" "I", Cond.fieldLink RX5 16 "SiloPadsModel" "saved" "[I", Cond.fieldLink RX5 7 "SiloPadsModel" "s" "[I", Cond.methodLink RX5 112 yX5_passes, Cond.instanceMethod yX5_passes, Cond.selects RX5 yX5_passes yX5_passes, Cond.code yX5_passes cX5_passes 4 (some .int), Cond.methodLink RX5 80 yX5_passesDay, Cond.instanceMethod yX5_passesDay, Cond.selects RX5 yX5_passesDay yX5_passesDay, Cond.code yX5_passesDay cX5_passesDay 4 (some .int)]
def wsX5_pass_r2 : List Cond := [Cond.methodLink RX5 33 yX5_of, Cond.instanceMethod yX5_of, Cond.selects RX5 yX5_of yX5_of, Cond.code yX5_of cX5_of 3 (some .int), Cond.methodLink RX5 40 yX5_age, Cond.instanceMethod yX5_age, Cond.selects RX5 yX5_age yX5_age, Cond.code yX5_age cX5_age 3 (some .int), Cond.methodLink RX5 49 yX5_lay, Cond.instanceMethod yX5_lay, Cond.selects RX5 yX5_lay yX5_lay, Cond.code yX5_lay cX5_lay 4 none, Cond.methodLink RX5 76 yX5_forms, Cond.instanceMethod yX5_forms, Cond.selects RX5 yX5_forms yX5_forms, Cond.code yX5_forms cX5_forms 2 (some .boolean), Cond.methodLink RX5 46 yX5_setOf, Cond.instanceMethod yX5_setOf, Cond.selects RX5 yX5_setOf yX5_setOf, Cond.code yX5_setOf cX5_setOf 4 (some .int)]
def wsX5_pass : List Cond := .code yX5_pass cX5_pass 2 (some .int) :: ((wsX5_pass_r1 ++ wsX5_pass_r2) ++ wsX50)
def wsX5_leastOf : List Cond := .code yX5_leastOf cX5_leastOf 1 (some .int) :: ([])
def wsX5_mostOf : List Cond := .code yX5_mostOf cX5_mostOf 1 (some .int) :: ([])
def wsX5_set_r1 : List Cond := [Cond.fieldLink RX5 25 "SiloPadsModel" "thrown" "I", Cond.fieldLink RX5 7 "SiloPadsModel" "s" "[I", Cond.methodLink RX5 29 yX5_in, Cond.static yX5_in, Cond.initialized RX5, Cond.code yX5_in cX5_in 3 (some .boolean), Cond.methodLink RX5 90 yX5_fails, Cond.instanceMethod yX5_fails, Cond.selects RX5 yX5_fails yX5_fails, Cond.code yX5_fails cX5_fails 2 (some .int), Cond.methodLink RX5 115 yX5_leastOf, Cond.static yX5_leastOf, Cond.code yX5_leastOf cX5_leastOf 1 (some .int), Cond.methodLink RX5 118 yX5_mostOf, Cond.static yX5_mostOf, Cond.code yX5_mostOf cX5_mostOf 1 (some .int), Cond.methodLink RX5 106 yX5_padsOn, Cond.instanceMethod yX5_padsOn, Cond.selects RX5 yX5_padsOn yX5_padsOn, Cond.code yX5_padsOn cX5_padsOn 3 (some .int), Cond.methodLink RX5 33 yX5_of, Cond.instanceMethod yX5_of, Cond.selects RX5 yX5_of yX5_of, Cond.code yX5_of cX5_of 3 (some .int)]
def wsX5_set_r2 : List Cond := [Cond.methodLink RX5 93 yX5_saves, Cond.instanceMethod yX5_saves, Cond.selects RX5 yX5_saves yX5_saves, Cond.code yX5_saves cX5_saves 2 none, Cond.fieldLink RX5 37 "SiloPadsModel" "savedMany" "I", Cond.fieldLink RX5 16 "SiloPadsModel" "saved" "[I"]
def wsX5_set : List Cond := .code yX5_set cX5_set 4 (some .int) :: ((wsX5_set_r1 ++ wsX5_set_r2) ++ wsX50)
def wsX5_append : List Cond := .code yX5_append cX5_append 2 (some .int) :: ([.fieldLink RX5 25 "SiloPadsModel" "thrown" "I", .fieldLink RX5 121 "SiloPadsModel" "length" "I", .fieldLink RX5 19 "SiloPadsModel" "buffer" "[I", .methodLink RX5 29 yX5_in, .static yX5_in, .initialized RX5, .code yX5_in cX5_in 3 (some .boolean), .methodLink RX5 90 yX5_fails, .instanceMethod yX5_fails, .selects RX5 yX5_fails yX5_fails, .code yX5_fails cX5_fails 2 (some .int)] ++ wsX50)
def wsX5_clearBuffer : List Cond := .code yX5_clearBuffer cX5_clearBuffer 2 (some .int) :: ([.fieldLink RX5 25 "SiloPadsModel" "thrown" "I", .fieldLink RX5 121 "SiloPadsModel" "length" "I"] ++ wsX50)
def wsX5_sign : List Cond := .code yX5_sign cX5_sign 1 (some .int) :: ([.fieldLink RX5 124 "SiloPadsModel" "at" "I", .fieldLink RX5 121 "SiloPadsModel" "length" "I", .fieldLink RX5 19 "SiloPadsModel" "buffer" "[I"] ++ wsX50)
def wsX5_takes : List Cond := .code yX5_takes cX5_takes 4 (some .int) :: ([.fieldLink RX5 127 "SiloPadsModel" "isWell" "Z", .fieldLink RX5 124 "SiloPadsModel" "at" "I", .methodLink RX5 131 yX5_sign, .instanceMethod yX5_sign, .selects RX5 yX5_sign yX5_sign, .initialized RX5, .code yX5_sign cX5_sign 1 (some .int), .fieldLink RX5 121 "SiloPadsModel" "length" "I", .fieldLink RX5 19 "SiloPadsModel" "buffer" "[I", .methodLink RX5 29 yX5_in, .static yX5_in, .code yX5_in cX5_in 3 (some .boolean)] ++ wsX50)
def wsX5_number : List Cond := .code yX5_number cX5_number 3 (some .int) :: ([.fieldLink RX5 127 "SiloPadsModel" "isWell" "Z", .fieldLink RX5 124 "SiloPadsModel" "at" "I", .methodLink RX5 134 yX5_takes, .instanceMethod yX5_takes, .selects RX5 yX5_takes yX5_takes, .initialized RX5, .code yX5_takes cX5_takes 4 (some .int), .methodLink RX5 131 yX5_sign, .instanceMethod yX5_sign, .selects RX5 yX5_sign yX5_sign, .code yX5_sign cX5_sign 1 (some .int), .fieldLink RX5 121 "SiloPadsModel" "length" "I", .fieldLink RX5 19 "SiloPadsModel" "buffer" "[I", .methodLink RX5 29 yX5_in, .static yX5_in, .code yX5_in cX5_in 3 (some .boolean)] ++ wsX50)
def wsX5_readsPart : List Cond := .code yX5_readsPart cX5_readsPart 2 none :: ([.fieldLink RX5 137 "SiloPadsModel" "readMany" "I", .fieldLink RX5 22 "SiloPadsModel" "read" "[I", .fieldLink RX5 127 "SiloPadsModel" "isWell" "Z", .methodLink RX5 131 yX5_sign, .instanceMethod yX5_sign, .selects RX5 yX5_sign yX5_sign, .initialized RX5, .code yX5_sign cX5_sign 1 (some .int), .fieldLink RX5 124 "SiloPadsModel" "at" "I", .fieldLink RX5 121 "SiloPadsModel" "length" "I", .fieldLink RX5 19 "SiloPadsModel" "buffer" "[I", .methodLink RX5 134 yX5_takes, .instanceMethod yX5_takes, .selects RX5 yX5_takes yX5_takes, .code yX5_takes cX5_takes 4 (some .int), .methodLink RX5 29 yX5_in, .static yX5_in, .code yX5_in cX5_in 3 (some .boolean), .methodLink RX5 140 yX5_number, .instanceMethod yX5_number, .selects RX5 yX5_number yX5_number, .code yX5_number cX5_number 3 (some .int)] ++ wsX50)
def wsX5_readsAll_r1 : List Cond := [Cond.fieldLink RX5 124 "SiloPadsModel" "at" "I", Cond.fieldLink RX5 127 "SiloPadsModel" "isWell" "Z", Cond.fieldLink RX5 137 "SiloPadsModel" "readMany" "I", Cond.fieldLink RX5 121 "SiloPadsModel" "length" "I", Cond.methodLink RX5 143 yX5_readsPart, Cond.instanceMethod yX5_readsPart, Cond.selects RX5 yX5_readsPart yX5_readsPart, Cond.initialized RX5, Cond.code yX5_readsPart cX5_readsPart 2 none, Cond.fieldLink RX5 22 "SiloPadsModel" "read" "[I", Cond.methodLink RX5 131 yX5_sign, Cond.instanceMethod yX5_sign, Cond.selects RX5 yX5_sign yX5_sign, Cond.code yX5_sign cX5_sign 1 (some .int), Cond.fieldLink RX5 19 "SiloPadsModel" "buffer" "[I", Cond.methodLink RX5 134 yX5_takes, Cond.instanceMethod yX5_takes, Cond.selects RX5 yX5_takes yX5_takes, Cond.code yX5_takes cX5_takes 4 (some .int), Cond.methodLink RX5 29 yX5_in, Cond.static yX5_in, Cond.code yX5_in cX5_in 3 (some .boolean), Cond.methodLink RX5 140 yX5_number, Cond.instanceMethod yX5_number]
def wsX5_readsAll_r2 : List Cond := [Cond.selects RX5 yX5_number yX5_number, Cond.code yX5_number cX5_number 3 (some .int)]
def wsX5_readsAll : List Cond := .code yX5_readsAll cX5_readsAll 1 none :: ((wsX5_readsAll_r1 ++ wsX5_readsAll_r2) ++ wsX50)
def wsX5_firstError_r1 : List Cond := [Cond.fieldLink RX5 25 "SiloPadsModel" "thrown" "I", Cond.fieldLink RX5 124 "SiloPadsModel" "at" "I", Cond.methodLink RX5 146 yX5_readsAll, Cond.instanceMethod yX5_readsAll, Cond.selects RX5 yX5_readsAll yX5_readsAll, Cond.initialized RX5, Cond.code yX5_readsAll cX5_readsAll 1 none, Cond.fieldLink RX5 127 "SiloPadsModel" "isWell" "Z", Cond.fieldLink RX5 137 "SiloPadsModel" "readMany" "I", Cond.fieldLink RX5 121 "SiloPadsModel" "length" "I", Cond.methodLink RX5 143 yX5_readsPart, Cond.instanceMethod yX5_readsPart, Cond.selects RX5 yX5_readsPart yX5_readsPart, Cond.code yX5_readsPart cX5_readsPart 2 none, Cond.fieldLink RX5 22 "SiloPadsModel" "read" "[I", Cond.methodLink RX5 131 yX5_sign, Cond.instanceMethod yX5_sign, Cond.selects RX5 yX5_sign yX5_sign, Cond.code yX5_sign cX5_sign 1 (some .int), Cond.fieldLink RX5 19 "SiloPadsModel" "buffer" "[I", Cond.methodLink RX5 134 yX5_takes, Cond.instanceMethod yX5_takes, Cond.selects RX5 yX5_takes yX5_takes, Cond.code yX5_takes cX5_takes 4 (some .int)]
def wsX5_firstError_r2 : List Cond := [Cond.methodLink RX5 29 yX5_in, Cond.static yX5_in, Cond.code yX5_in cX5_in 3 (some .boolean), Cond.methodLink RX5 140 yX5_number, Cond.instanceMethod yX5_number, Cond.selects RX5 yX5_number yX5_number, Cond.code yX5_number cX5_number 3 (some .int)]
def wsX5_firstError : List Cond := .code yX5_firstError cX5_firstError 1 (some .int) :: ((wsX5_firstError_r1 ++ wsX5_firstError_r2) ++ wsX50)
def wsX5_plays_r1 : List Cond := [Cond.fieldLink RX5 22 "SiloPadsModel" "read" "[I", Cond.methodLink RX5 99 yX5_unloads, Cond.instanceMethod yX5_unloads, Cond.selects RX5 yX5_unloads yX5_unloads, Cond.initialized RX5, Cond.code yX5_unloads cX5_unloads 5 (some .int), Cond.fieldLink RX5 7 "SiloPadsModel" "s" "[I", Cond.methodLink RX5 57 yX5_lesser, Cond.static yX5_lesser, Cond.code yX5_lesser cX5_lesser 2 (some .int), Cond.methodLink RX5 73 yX5_comes, Cond.instanceMethod yX5_comes, Cond.selects RX5 yX5_comes yX5_comes, Cond.code yX5_comes cX5_comes 7 (some .int), Cond.methodLink RX5 70 yX5_sumFrom, Cond.instanceMethod yX5_sumFrom, Cond.selects RX5 yX5_sumFrom yX5_sumFrom, Cond.code yX5_sumFrom cX5_sumFrom 5 (some .int), Cond.methodLink RX5 33 yX5_of, Cond.instanceMethod yX5_of, Cond.selects RX5 yX5_of yX5_of, Cond.code yX5_of cX5_of 3 (some .int), Cond.methodLink RX5 43 yX5_tonnes, Cond.instanceMethod yX5_tonnes]
def wsX5_plays_r2 : List Cond := [Cond.selects RX5 yX5_tonnes yX5_tonnes, Cond.code yX5_tonnes cX5_tonnes 3 (some .int), Cond.methodLink RX5 40 yX5_age, Cond.instanceMethod yX5_age, Cond.selects RX5 yX5_age yX5_age, Cond.code yX5_age cX5_age 3 (some .int), Cond.methodLink RX5 49 yX5_lay, Cond.instanceMethod yX5_lay, Cond.selects RX5 yX5_lay yX5_lay, Cond.code yX5_lay cX5_lay 4 none, Cond.methodLink RX5 103 yX5_flowsAll, Cond.instanceMethod yX5_flowsAll, Cond.selects RX5 yX5_flowsAll yX5_flowsAll, Cond.code yX5_flowsAll cX5_flowsAll 6 (some .int), Cond.methodLink RX5 67 yX5_flowsHour, Cond.instanceMethod yX5_flowsHour, Cond.selects RX5 yX5_flowsHour yX5_flowsHour, Cond.code yX5_flowsHour cX5_flowsHour 6 (some .int), Cond.methodLink RX5 53 yX5_flows, Cond.instanceMethod yX5_flows, Cond.selects RX5 yX5_flows yX5_flows, Cond.code yX5_flows cX5_flows 3 (some .int), Cond.methodLink RX5 46 yX5_setOf, Cond.instanceMethod yX5_setOf]
def wsX5_plays_r3 : List Cond := [Cond.selects RX5 yX5_setOf yX5_setOf, Cond.code yX5_setOf cX5_setOf 4 (some .int), Cond.methodLink RX5 60 yX5_room, Cond.instanceMethod yX5_room, Cond.selects RX5 yX5_room yX5_room, Cond.code yX5_room cX5_room 2 (some .int), Cond.methodLink RX5 63 yX5_drops, Cond.instanceMethod yX5_drops, Cond.selects RX5 yX5_drops yX5_drops, Cond.code yX5_drops cX5_drops 4 none, Cond.methodLink RX5 112 yX5_passes, Cond.instanceMethod yX5_passes, Cond.selects RX5 yX5_passes yX5_passes, Cond.code yX5_passes cX5_passes 4 (some .int), Cond.methodLink RX5 80 yX5_passesDay, Cond.instanceMethod yX5_passesDay, Cond.selects RX5 yX5_passesDay yX5_passesDay, Cond.code yX5_passesDay cX5_passesDay 4 (some .int), Cond.methodLink RX5 76 yX5_forms, Cond.instanceMethod yX5_forms, Cond.selects RX5 yX5_forms yX5_forms, Cond.code yX5_forms cX5_forms 2 (some .boolean)]
def wsX5_plays : List Cond := .code yX5_plays cX5_plays 2 (some .int) :: ((wsX5_plays_r1 ++ (wsX5_plays_r2 ++ wsX5_plays_r3)) ++ wsX50)
def wsX5_play_r1 : List Cond := [Cond.fieldLink RX5 25 "SiloPadsModel" "thrown" "I", Cond.fieldLink RX5 127 "SiloPadsModel" "isWell" "Z", Cond.fieldLink RX5 121 "SiloPadsModel" "length" "I", Cond.fieldLink RX5 137 "SiloPadsModel" "readMany" "I", Cond.methodLink RX5 146 yX5_readsAll, Cond.instanceMethod yX5_readsAll, Cond.selects RX5 yX5_readsAll yX5_readsAll, Cond.initialized RX5, Cond.code yX5_readsAll cX5_readsAll 1 none, Cond.fieldLink RX5 124 "SiloPadsModel" "at" "I", Cond.methodLink RX5 143 yX5_readsPart, Cond.instanceMethod yX5_readsPart, Cond.selects RX5 yX5_readsPart yX5_readsPart, Cond.code yX5_readsPart cX5_readsPart 2 none, Cond.fieldLink RX5 22 "SiloPadsModel" "read" "[I", Cond.methodLink RX5 131 yX5_sign, Cond.instanceMethod yX5_sign, Cond.selects RX5 yX5_sign yX5_sign, Cond.code yX5_sign cX5_sign 1 (some .int), Cond.fieldLink RX5 19 "SiloPadsModel" "buffer" "[I", Cond.methodLink RX5 134 yX5_takes, Cond.instanceMethod yX5_takes, Cond.selects RX5 yX5_takes yX5_takes, Cond.code yX5_takes cX5_takes 4 (some .int)]
def wsX5_play_r2 : List Cond := [Cond.methodLink RX5 29 yX5_in, Cond.static yX5_in, Cond.code yX5_in cX5_in 3 (some .boolean), Cond.methodLink RX5 140 yX5_number, Cond.instanceMethod yX5_number, Cond.selects RX5 yX5_number yX5_number, Cond.code yX5_number cX5_number 3 (some .int), Cond.methodLink RX5 90 yX5_fails, Cond.instanceMethod yX5_fails, Cond.selects RX5 yX5_fails yX5_fails, Cond.code yX5_fails cX5_fails 2 (some .int), Cond.methodLink RX5 93 yX5_saves, Cond.instanceMethod yX5_saves, Cond.selects RX5 yX5_saves yX5_saves, Cond.code yX5_saves cX5_saves 2 none, Cond.fieldLink RX5 37 "SiloPadsModel" "savedMany" "I", Cond.fieldLink RX5 16 "SiloPadsModel" "saved" "[I", Cond.fieldLink RX5 7 "SiloPadsModel" "s" "[I", Cond.methodLink RX5 149 yX5_plays, Cond.instanceMethod yX5_plays, Cond.selects RX5 yX5_plays yX5_plays, Cond.code yX5_plays cX5_plays 2 (some .int), Cond.methodLink RX5 99 yX5_unloads, Cond.instanceMethod yX5_unloads]
def wsX5_play_r3 : List Cond := [Cond.selects RX5 yX5_unloads yX5_unloads, Cond.code yX5_unloads cX5_unloads 5 (some .int), Cond.methodLink RX5 57 yX5_lesser, Cond.static yX5_lesser, Cond.code yX5_lesser cX5_lesser 2 (some .int), Cond.methodLink RX5 73 yX5_comes, Cond.instanceMethod yX5_comes, Cond.selects RX5 yX5_comes yX5_comes, Cond.code yX5_comes cX5_comes 7 (some .int), Cond.methodLink RX5 70 yX5_sumFrom, Cond.instanceMethod yX5_sumFrom, Cond.selects RX5 yX5_sumFrom yX5_sumFrom, Cond.code yX5_sumFrom cX5_sumFrom 5 (some .int), Cond.methodLink RX5 33 yX5_of, Cond.instanceMethod yX5_of, Cond.selects RX5 yX5_of yX5_of, Cond.code yX5_of cX5_of 3 (some .int), Cond.methodLink RX5 43 yX5_tonnes, Cond.instanceMethod yX5_tonnes, Cond.selects RX5 yX5_tonnes yX5_tonnes, Cond.code yX5_tonnes cX5_tonnes 3 (some .int), Cond.methodLink RX5 40 yX5_age, Cond.instanceMethod yX5_age, Cond.selects RX5 yX5_age yX5_age]
def wsX5_play_r4 : List Cond := [Cond.code yX5_age cX5_age 3 (some .int), Cond.methodLink RX5 49 yX5_lay, Cond.instanceMethod yX5_lay, Cond.selects RX5 yX5_lay yX5_lay, Cond.code yX5_lay cX5_lay 4 none, Cond.methodLink RX5 103 yX5_flowsAll, Cond.instanceMethod yX5_flowsAll, Cond.selects RX5 yX5_flowsAll yX5_flowsAll, Cond.code yX5_flowsAll cX5_flowsAll 6 (some .int), Cond.methodLink RX5 67 yX5_flowsHour, Cond.instanceMethod yX5_flowsHour, Cond.selects RX5 yX5_flowsHour yX5_flowsHour, Cond.code yX5_flowsHour cX5_flowsHour 6 (some .int), Cond.methodLink RX5 53 yX5_flows, Cond.instanceMethod yX5_flows, Cond.selects RX5 yX5_flows yX5_flows, Cond.code yX5_flows cX5_flows 3 (some .int), Cond.methodLink RX5 46 yX5_setOf, Cond.instanceMethod yX5_setOf, Cond.selects RX5 yX5_setOf yX5_setOf, Cond.code yX5_setOf cX5_setOf 4 (some .int), Cond.methodLink RX5 60 yX5_room, Cond.instanceMethod yX5_room, Cond.selects RX5 yX5_room yX5_room]
def wsX5_play_r5 : List Cond := [Cond.code yX5_room cX5_room 2 (some .int), Cond.methodLink RX5 63 yX5_drops, Cond.instanceMethod yX5_drops, Cond.selects RX5 yX5_drops yX5_drops, Cond.code yX5_drops cX5_drops 4 none, Cond.methodLink RX5 112 yX5_passes, Cond.instanceMethod yX5_passes, Cond.selects RX5 yX5_passes yX5_passes, Cond.code yX5_passes cX5_passes 4 (some .int), Cond.methodLink RX5 80 yX5_passesDay, Cond.instanceMethod yX5_passesDay, Cond.selects RX5 yX5_passesDay yX5_passesDay, Cond.code yX5_passesDay cX5_passesDay 4 (some .int), Cond.methodLink RX5 76 yX5_forms, Cond.instanceMethod yX5_forms, Cond.selects RX5 yX5_forms yX5_forms, Cond.code yX5_forms cX5_forms 2 (some .boolean)]
def wsX5_play : List Cond := .code yX5_play cX5_play 3 (some .int) :: ((wsX5_play_r1 ++ (wsX5_play_r2 ++ (wsX5_play_r3 ++ (wsX5_play_r4 ++ wsX5_play_r5)))) ++ wsX50)
def wsX5_undo : List Cond := .code yX5_undo cX5_undo 2 (some .int) :: ([.fieldLink RX5 25 "SiloPadsModel" "thrown" "I", .fieldLink RX5 37 "SiloPadsModel" "savedMany" "I", .fieldLink RX5 7 "SiloPadsModel" "s" "[I", .fieldLink RX5 16 "SiloPadsModel" "saved" "[I", .methodLink RX5 90 yX5_fails, .instanceMethod yX5_fails, .selects RX5 yX5_fails yX5_fails, .initialized RX5, .code yX5_fails cX5_fails 2 (some .int)] ++ wsX50)
def wsX5_tellsSilo_r1 : List Cond := [Cond.methodLink RX5 70 yX5_sumFrom, Cond.instanceMethod yX5_sumFrom, Cond.selects RX5 yX5_sumFrom yX5_sumFrom, Cond.initialized RX5, Cond.code yX5_sumFrom cX5_sumFrom 5 (some .int), Cond.methodLink RX5 33 yX5_of, Cond.instanceMethod yX5_of, Cond.selects RX5 yX5_of yX5_of, Cond.code yX5_of cX5_of 3 (some .int), Cond.fieldLink RX5 7 "SiloPadsModel" "s" "[I", Cond.methodLink RX5 43 yX5_tonnes, Cond.instanceMethod yX5_tonnes, Cond.selects RX5 yX5_tonnes yX5_tonnes, Cond.code yX5_tonnes cX5_tonnes 3 (some .int), Cond.methodLink RX5 53 yX5_flows, Cond.instanceMethod yX5_flows, Cond.selects RX5 yX5_flows yX5_flows, Cond.code yX5_flows cX5_flows 3 (some .int), Cond.methodLink RX5 46 yX5_setOf, Cond.instanceMethod yX5_setOf, Cond.selects RX5 yX5_setOf yX5_setOf, Cond.code yX5_setOf cX5_setOf 4 (some .int), Cond.methodLink RX5 40 yX5_age, Cond.instanceMethod yX5_age]
def wsX5_tellsSilo_r2 : List Cond := [Cond.selects RX5 yX5_age yX5_age, Cond.code yX5_age cX5_age 3 (some .int)]
def wsX5_tellsSilo : List Cond := .code yX5_tellsSilo cX5_tellsSilo 3 (some .int) :: ((wsX5_tellsSilo_r1 ++ wsX5_tellsSilo_r2) ++ wsX50)
def wsX5_silo_r1 : List Cond := [Cond.fieldLink RX5 25 "SiloPadsModel" "thrown" "I", Cond.methodLink RX5 96 yX5_isSilo, Cond.static yX5_isSilo, Cond.initialized RX5, Cond.code yX5_isSilo cX5_isSilo 1 (some .boolean), Cond.methodLink RX5 29 yX5_in, Cond.static yX5_in, Cond.code yX5_in cX5_in 3 (some .boolean), Cond.methodLink RX5 90 yX5_fails, Cond.instanceMethod yX5_fails, Cond.selects RX5 yX5_fails yX5_fails, Cond.code yX5_fails cX5_fails 2 (some .int), Cond.methodLink RX5 152 yX5_tellsSilo, Cond.instanceMethod yX5_tellsSilo, Cond.selects RX5 yX5_tellsSilo yX5_tellsSilo, Cond.code yX5_tellsSilo cX5_tellsSilo 3 (some .int), Cond.methodLink RX5 70 yX5_sumFrom, Cond.instanceMethod yX5_sumFrom, Cond.selects RX5 yX5_sumFrom yX5_sumFrom, Cond.code yX5_sumFrom cX5_sumFrom 5 (some .int), Cond.methodLink RX5 33 yX5_of, Cond.instanceMethod yX5_of, Cond.selects RX5 yX5_of yX5_of, Cond.code yX5_of cX5_of 3 (some .int)]
def wsX5_silo_r2 : List Cond := [Cond.fieldLink RX5 7 "SiloPadsModel" "s" "[I", Cond.methodLink RX5 43 yX5_tonnes, Cond.instanceMethod yX5_tonnes, Cond.selects RX5 yX5_tonnes yX5_tonnes, Cond.code yX5_tonnes cX5_tonnes 3 (some .int), Cond.methodLink RX5 53 yX5_flows, Cond.instanceMethod yX5_flows, Cond.selects RX5 yX5_flows yX5_flows, Cond.code yX5_flows cX5_flows 3 (some .int), Cond.methodLink RX5 46 yX5_setOf, Cond.instanceMethod yX5_setOf, Cond.selects RX5 yX5_setOf yX5_setOf, Cond.code yX5_setOf cX5_setOf 4 (some .int), Cond.methodLink RX5 40 yX5_age, Cond.instanceMethod yX5_age, Cond.selects RX5 yX5_age yX5_age, Cond.code yX5_age cX5_age 3 (some .int)]
def wsX5_silo : List Cond := .code yX5_silo cX5_silo 3 (some .int) :: ((wsX5_silo_r1 ++ wsX5_silo_r2) ++ wsX50)
def wsX5_tellsLayer : List Cond := .code yX5_tellsLayer cX5_tellsLayer 4 (some .int) :: ([.methodLink RX5 43 yX5_tonnes, .instanceMethod yX5_tonnes, .selects RX5 yX5_tonnes yX5_tonnes, .initialized RX5, .code yX5_tonnes cX5_tonnes 3 (some .int), .methodLink RX5 33 yX5_of, .instanceMethod yX5_of, .selects RX5 yX5_of yX5_of, .code yX5_of cX5_of 3 (some .int), .fieldLink RX5 7 "SiloPadsModel" "s" "[I", .methodLink RX5 40 yX5_age, .instanceMethod yX5_age, .selects RX5 yX5_age yX5_age, .code yX5_age cX5_age 3 (some .int), .methodLink RX5 46 yX5_setOf, .instanceMethod yX5_setOf, .selects RX5 yX5_setOf yX5_setOf, .code yX5_setOf cX5_setOf 4 (some .int)] ++ wsX50)
def wsX5_layer_r1 : List Cond := [Cond.fieldLink RX5 25 "SiloPadsModel" "thrown" "I", Cond.methodLink RX5 96 yX5_isSilo, Cond.static yX5_isSilo, Cond.initialized RX5, Cond.code yX5_isSilo cX5_isSilo 1 (some .boolean), Cond.methodLink RX5 29 yX5_in, Cond.static yX5_in, Cond.code yX5_in cX5_in 3 (some .boolean), Cond.methodLink RX5 33 yX5_of, Cond.instanceMethod yX5_of, Cond.selects RX5 yX5_of yX5_of, Cond.code yX5_of cX5_of 3 (some .int), Cond.fieldLink RX5 7 "SiloPadsModel" "s" "[I", Cond.methodLink RX5 90 yX5_fails, Cond.instanceMethod yX5_fails, Cond.selects RX5 yX5_fails yX5_fails, Cond.code yX5_fails cX5_fails 2 (some .int), Cond.methodLink RX5 155 yX5_tellsLayer, Cond.instanceMethod yX5_tellsLayer, Cond.selects RX5 yX5_tellsLayer yX5_tellsLayer, Cond.code yX5_tellsLayer cX5_tellsLayer 4 (some .int), Cond.methodLink RX5 43 yX5_tonnes, Cond.instanceMethod yX5_tonnes, Cond.selects RX5 yX5_tonnes yX5_tonnes]
def wsX5_layer_r2 : List Cond := [Cond.code yX5_tonnes cX5_tonnes 3 (some .int), Cond.methodLink RX5 40 yX5_age, Cond.instanceMethod yX5_age, Cond.selects RX5 yX5_age yX5_age, Cond.code yX5_age cX5_age 3 (some .int), Cond.methodLink RX5 46 yX5_setOf, Cond.instanceMethod yX5_setOf, Cond.selects RX5 yX5_setOf yX5_setOf, Cond.code yX5_setOf cX5_setOf 4 (some .int)]
def wsX5_layer : List Cond := .code yX5_layer cX5_layer 4 (some .int) :: ((wsX5_layer_r1 ++ wsX5_layer_r2) ++ wsX50)
def wsX5_shipOf : List Cond := .code yX5_shipOf cX5_shipOf 3 (some .int) :: ([.fieldLink RX5 25 "SiloPadsModel" "thrown" "I", .fieldLink RX5 7 "SiloPadsModel" "s" "[I", .methodLink RX5 87 yX5_isShip, .static yX5_isShip, .initialized RX5, .code yX5_isShip cX5_isShip 1 (some .boolean), .methodLink RX5 29 yX5_in, .static yX5_in, .code yX5_in cX5_in 3 (some .boolean), .methodLink RX5 90 yX5_fails, .instanceMethod yX5_fails, .selects RX5 yX5_fails yX5_fails, .code yX5_fails cX5_fails 2 (some .int)] ++ wsX50)
def wsX5_inSilos : List Cond := .code yX5_inSilos cX5_inSilos 3 (some .int) :: ([.methodLink RX5 70 yX5_sumFrom, .instanceMethod yX5_sumFrom, .selects RX5 yX5_sumFrom yX5_sumFrom, .initialized RX5, .code yX5_sumFrom cX5_sumFrom 5 (some .int), .methodLink RX5 33 yX5_of, .instanceMethod yX5_of, .selects RX5 yX5_of yX5_of, .code yX5_of cX5_of 3 (some .int), .fieldLink RX5 7 "SiloPadsModel" "s" "[I", .methodLink RX5 43 yX5_tonnes, .instanceMethod yX5_tonnes, .selects RX5 yX5_tonnes yX5_tonnes, .code yX5_tonnes cX5_tonnes 3 (some .int)] ++ wsX50)
def wsX5_inShips : List Cond := .code yX5_inShips cX5_inShips 3 (some .int) :: ([.fieldLink RX5 7 "SiloPadsModel" "s" "[I"] ++ wsX50)
def wsX5_arches : List Cond := .code yX5_arches cX5_arches 3 (some .int) :: ([.methodLink RX5 33 yX5_of, .instanceMethod yX5_of, .selects RX5 yX5_of yX5_of, .initialized RX5, .code yX5_of cX5_of 3 (some .int), .fieldLink RX5 7 "SiloPadsModel" "s" "[I"] ++ wsX50)
def wsX5_tellsCount_r1 : List Cond := [Cond.fieldLink RX5 7 "SiloPadsModel" "s" "[I", Cond.fieldLink RX5 37 "SiloPadsModel" "savedMany" "I", Cond.methodLink RX5 158 yX5_inSilos, Cond.instanceMethod yX5_inSilos, Cond.selects RX5 yX5_inSilos yX5_inSilos, Cond.initialized RX5, Cond.code yX5_inSilos cX5_inSilos 3 (some .int), Cond.methodLink RX5 70 yX5_sumFrom, Cond.instanceMethod yX5_sumFrom, Cond.selects RX5 yX5_sumFrom yX5_sumFrom, Cond.code yX5_sumFrom cX5_sumFrom 5 (some .int), Cond.methodLink RX5 33 yX5_of, Cond.instanceMethod yX5_of, Cond.selects RX5 yX5_of yX5_of, Cond.code yX5_of cX5_of 3 (some .int), Cond.methodLink RX5 43 yX5_tonnes, Cond.instanceMethod yX5_tonnes, Cond.selects RX5 yX5_tonnes yX5_tonnes, Cond.code yX5_tonnes cX5_tonnes 3 (some .int), Cond.methodLink RX5 161 yX5_inShips, Cond.instanceMethod yX5_inShips, Cond.selects RX5 yX5_inShips yX5_inShips, Cond.code yX5_inShips cX5_inShips 3 (some .int), Cond.methodLink RX5 106 yX5_padsOn]
def wsX5_tellsCount_r2 : List Cond := [Cond.instanceMethod yX5_padsOn, Cond.selects RX5 yX5_padsOn yX5_padsOn, Cond.code yX5_padsOn cX5_padsOn 3 (some .int), Cond.methodLink RX5 164 yX5_arches, Cond.instanceMethod yX5_arches, Cond.selects RX5 yX5_arches yX5_arches, Cond.code yX5_arches cX5_arches 3 (some .int)]
def wsX5_tellsCount : List Cond := .code yX5_tellsCount cX5_tellsCount 2 (some .int) :: ((wsX5_tellsCount_r1 ++ wsX5_tellsCount_r2) ++ wsX50)
def wsX5_count_r1 : List Cond := [Cond.fieldLink RX5 25 "SiloPadsModel" "thrown" "I", Cond.methodLink RX5 29 yX5_in, Cond.static yX5_in, Cond.initialized RX5, Cond.code yX5_in cX5_in 3 (some .boolean), Cond.methodLink RX5 167 yX5_tellsCount, Cond.instanceMethod yX5_tellsCount, Cond.selects RX5 yX5_tellsCount yX5_tellsCount, Cond.code yX5_tellsCount cX5_tellsCount 2 (some .int), Cond.fieldLink RX5 7 "SiloPadsModel" "s" "[I", Cond.fieldLink RX5 37 "SiloPadsModel" "savedMany" "I", Cond.methodLink RX5 158 yX5_inSilos, Cond.instanceMethod yX5_inSilos, Cond.selects RX5 yX5_inSilos yX5_inSilos, Cond.code yX5_inSilos cX5_inSilos 3 (some .int), Cond.methodLink RX5 70 yX5_sumFrom, Cond.instanceMethod yX5_sumFrom, Cond.selects RX5 yX5_sumFrom yX5_sumFrom, Cond.code yX5_sumFrom cX5_sumFrom 5 (some .int), Cond.methodLink RX5 33 yX5_of, Cond.instanceMethod yX5_of, Cond.selects RX5 yX5_of yX5_of, Cond.code yX5_of cX5_of 3 (some .int), Cond.methodLink RX5 43 yX5_tonnes]
def wsX5_count_r2 : List Cond := [Cond.instanceMethod yX5_tonnes, Cond.selects RX5 yX5_tonnes yX5_tonnes, Cond.code yX5_tonnes cX5_tonnes 3 (some .int), Cond.methodLink RX5 161 yX5_inShips, Cond.instanceMethod yX5_inShips, Cond.selects RX5 yX5_inShips yX5_inShips, Cond.code yX5_inShips cX5_inShips 3 (some .int), Cond.methodLink RX5 106 yX5_padsOn, Cond.instanceMethod yX5_padsOn, Cond.selects RX5 yX5_padsOn yX5_padsOn, Cond.code yX5_padsOn cX5_padsOn 3 (some .int), Cond.methodLink RX5 164 yX5_arches, Cond.instanceMethod yX5_arches, Cond.selects RX5 yX5_arches yX5_arches, Cond.code yX5_arches cX5_arches 3 (some .int), Cond.methodLink RX5 90 yX5_fails, Cond.instanceMethod yX5_fails, Cond.selects RX5 yX5_fails yX5_fails, Cond.code yX5_fails cX5_fails 2 (some .int)]
def wsX5_count : List Cond := .code yX5_count cX5_count 2 (some .int) :: ((wsX5_count_r1 ++ wsX5_count_r2) ++ wsX50)
def wsX5_reason : List Cond := .code yX5_reason cX5_reason 3 (some .int) :: ([.methodLink RX5 33 yX5_of, .instanceMethod yX5_of, .selects RX5 yX5_of yX5_of, .initialized RX5, .code yX5_of cX5_of 3 (some .int), .fieldLink RX5 7 "SiloPadsModel" "s" "[I", .methodLink RX5 60 yX5_room, .instanceMethod yX5_room, .selects RX5 yX5_room yX5_room, .code yX5_room cX5_room 2 (some .int), .methodLink RX5 53 yX5_flows, .instanceMethod yX5_flows, .selects RX5 yX5_flows yX5_flows, .code yX5_flows cX5_flows 3 (some .int), .methodLink RX5 46 yX5_setOf, .instanceMethod yX5_setOf, .selects RX5 yX5_setOf yX5_setOf, .code yX5_setOf cX5_setOf 4 (some .int), .methodLink RX5 40 yX5_age, .instanceMethod yX5_age, .selects RX5 yX5_age yX5_age, .code yX5_age cX5_age 3 (some .int)] ++ wsX50)
def wsX5_whyNot_r1 : List Cond := [Cond.fieldLink RX5 25 "SiloPadsModel" "thrown" "I", Cond.methodLink RX5 96 yX5_isSilo, Cond.static yX5_isSilo, Cond.initialized RX5, Cond.code yX5_isSilo cX5_isSilo 1 (some .boolean), Cond.methodLink RX5 29 yX5_in, Cond.static yX5_in, Cond.code yX5_in cX5_in 3 (some .boolean), Cond.methodLink RX5 87 yX5_isShip, Cond.static yX5_isShip, Cond.code yX5_isShip cX5_isShip 1 (some .boolean), Cond.methodLink RX5 170 yX5_reason, Cond.instanceMethod yX5_reason, Cond.selects RX5 yX5_reason yX5_reason, Cond.code yX5_reason cX5_reason 3 (some .int), Cond.methodLink RX5 33 yX5_of, Cond.instanceMethod yX5_of, Cond.selects RX5 yX5_of yX5_of, Cond.code yX5_of cX5_of 3 (some .int), Cond.fieldLink RX5 7 "SiloPadsModel" "s" "[I", Cond.methodLink RX5 60 yX5_room, Cond.instanceMethod yX5_room, Cond.selects RX5 yX5_room yX5_room, Cond.code yX5_room cX5_room 2 (some .int)]
def wsX5_whyNot_r2 : List Cond := [Cond.methodLink RX5 53 yX5_flows, Cond.instanceMethod yX5_flows, Cond.selects RX5 yX5_flows yX5_flows, Cond.code yX5_flows cX5_flows 3 (some .int), Cond.methodLink RX5 46 yX5_setOf, Cond.instanceMethod yX5_setOf, Cond.selects RX5 yX5_setOf yX5_setOf, Cond.code yX5_setOf cX5_setOf 4 (some .int), Cond.methodLink RX5 40 yX5_age, Cond.instanceMethod yX5_age, Cond.selects RX5 yX5_age yX5_age, Cond.code yX5_age cX5_age 3 (some .int), Cond.methodLink RX5 90 yX5_fails, Cond.instanceMethod yX5_fails, Cond.selects RX5 yX5_fails yX5_fails, Cond.code yX5_fails cX5_fails 2 (some .int)]
def wsX5_whyNot : List Cond := .code yX5_whyNot cX5_whyNot 3 (some .int) :: ((wsX5_whyNot_r1 ++ wsX5_whyNot_r2) ++ wsX50)
def wsX5_wouldFlow_r1 : List Cond := [Cond.methodLink RX5 173 yX5_putAside, Cond.instanceMethod yX5_putAside, Cond.selects RX5 yX5_putAside yX5_putAside, Cond.initialized RX5, Cond.code yX5_putAside cX5_putAside 2 none, Cond.fieldLink RX5 13 "SiloPadsModel" "aside" "[I", Cond.fieldLink RX5 7 "SiloPadsModel" "s" "[I", Cond.methodLink RX5 49 yX5_lay, Cond.instanceMethod yX5_lay, Cond.selects RX5 yX5_lay yX5_lay, Cond.code yX5_lay cX5_lay 4 none, Cond.methodLink RX5 103 yX5_flowsAll, Cond.instanceMethod yX5_flowsAll, Cond.selects RX5 yX5_flowsAll yX5_flowsAll, Cond.code yX5_flowsAll cX5_flowsAll 6 (some .int), Cond.methodLink RX5 67 yX5_flowsHour, Cond.instanceMethod yX5_flowsHour, Cond.selects RX5 yX5_flowsHour yX5_flowsHour, Cond.code yX5_flowsHour cX5_flowsHour 6 (some .int), Cond.methodLink RX5 33 yX5_of, Cond.instanceMethod yX5_of, Cond.selects RX5 yX5_of yX5_of, Cond.code yX5_of cX5_of 3 (some .int), Cond.methodLink RX5 53 yX5_flows]
def wsX5_wouldFlow_r2 : List Cond := [Cond.instanceMethod yX5_flows, Cond.selects RX5 yX5_flows yX5_flows, Cond.code yX5_flows cX5_flows 3 (some .int), Cond.methodLink RX5 46 yX5_setOf, Cond.instanceMethod yX5_setOf, Cond.selects RX5 yX5_setOf yX5_setOf, Cond.code yX5_setOf cX5_setOf 4 (some .int), Cond.methodLink RX5 40 yX5_age, Cond.instanceMethod yX5_age, Cond.selects RX5 yX5_age yX5_age, Cond.code yX5_age cX5_age 3 (some .int), Cond.methodLink RX5 43 yX5_tonnes, Cond.instanceMethod yX5_tonnes, Cond.selects RX5 yX5_tonnes yX5_tonnes, Cond.code yX5_tonnes cX5_tonnes 3 (some .int), Cond.methodLink RX5 57 yX5_lesser, Cond.static yX5_lesser, Cond.code yX5_lesser cX5_lesser 2 (some .int), Cond.methodLink RX5 60 yX5_room, Cond.instanceMethod yX5_room, Cond.selects RX5 yX5_room yX5_room, Cond.code yX5_room cX5_room 2 (some .int), Cond.methodLink RX5 63 yX5_drops, Cond.instanceMethod yX5_drops]
def wsX5_wouldFlow_r3 : List Cond := [Cond.selects RX5 yX5_drops yX5_drops, Cond.code yX5_drops cX5_drops 4 none, Cond.methodLink RX5 176 yX5_takeBack, Cond.instanceMethod yX5_takeBack, Cond.selects RX5 yX5_takeBack yX5_takeBack, Cond.code yX5_takeBack cX5_takeBack 2 none]
def wsX5_wouldFlow : List Cond := .code yX5_wouldFlow cX5_wouldFlow 6 (some .int) :: ((wsX5_wouldFlow_r1 ++ (wsX5_wouldFlow_r2 ++ wsX5_wouldFlow_r3)) ++ wsX50)
def wsX5_ifFlowed_r1 : List Cond := [Cond.fieldLink RX5 25 "SiloPadsModel" "thrown" "I", Cond.methodLink RX5 96 yX5_isSilo, Cond.static yX5_isSilo, Cond.initialized RX5, Cond.code yX5_isSilo cX5_isSilo 1 (some .boolean), Cond.methodLink RX5 29 yX5_in, Cond.static yX5_in, Cond.code yX5_in cX5_in 3 (some .boolean), Cond.methodLink RX5 87 yX5_isShip, Cond.static yX5_isShip, Cond.code yX5_isShip cX5_isShip 1 (some .boolean), Cond.methodLink RX5 90 yX5_fails, Cond.instanceMethod yX5_fails, Cond.selects RX5 yX5_fails yX5_fails, Cond.code yX5_fails cX5_fails 2 (some .int), Cond.methodLink RX5 179 yX5_wouldFlow, Cond.instanceMethod yX5_wouldFlow, Cond.selects RX5 yX5_wouldFlow yX5_wouldFlow, Cond.code yX5_wouldFlow cX5_wouldFlow 6 (some .int), Cond.methodLink RX5 173 yX5_putAside, Cond.instanceMethod yX5_putAside, Cond.selects RX5 yX5_putAside yX5_putAside, Cond.code yX5_putAside cX5_putAside 2 none, Cond.fieldLink RX5 13 "SiloPadsModel" "aside" "[I"]
def wsX5_ifFlowed_r2 : List Cond := [Cond.fieldLink RX5 7 "SiloPadsModel" "s" "[I", Cond.methodLink RX5 49 yX5_lay, Cond.instanceMethod yX5_lay, Cond.selects RX5 yX5_lay yX5_lay, Cond.code yX5_lay cX5_lay 4 none, Cond.methodLink RX5 103 yX5_flowsAll, Cond.instanceMethod yX5_flowsAll, Cond.selects RX5 yX5_flowsAll yX5_flowsAll, Cond.code yX5_flowsAll cX5_flowsAll 6 (some .int), Cond.methodLink RX5 67 yX5_flowsHour, Cond.instanceMethod yX5_flowsHour, Cond.selects RX5 yX5_flowsHour yX5_flowsHour, Cond.code yX5_flowsHour cX5_flowsHour 6 (some .int), Cond.methodLink RX5 33 yX5_of, Cond.instanceMethod yX5_of, Cond.selects RX5 yX5_of yX5_of, Cond.code yX5_of cX5_of 3 (some .int), Cond.methodLink RX5 53 yX5_flows, Cond.instanceMethod yX5_flows, Cond.selects RX5 yX5_flows yX5_flows, Cond.code yX5_flows cX5_flows 3 (some .int), Cond.methodLink RX5 46 yX5_setOf, Cond.instanceMethod yX5_setOf, Cond.selects RX5 yX5_setOf yX5_setOf]
def wsX5_ifFlowed_r3 : List Cond := [Cond.code yX5_setOf cX5_setOf 4 (some .int), Cond.methodLink RX5 40 yX5_age, Cond.instanceMethod yX5_age, Cond.selects RX5 yX5_age yX5_age, Cond.code yX5_age cX5_age 3 (some .int), Cond.methodLink RX5 43 yX5_tonnes, Cond.instanceMethod yX5_tonnes, Cond.selects RX5 yX5_tonnes yX5_tonnes, Cond.code yX5_tonnes cX5_tonnes 3 (some .int), Cond.methodLink RX5 57 yX5_lesser, Cond.static yX5_lesser, Cond.code yX5_lesser cX5_lesser 2 (some .int), Cond.methodLink RX5 60 yX5_room, Cond.instanceMethod yX5_room, Cond.selects RX5 yX5_room yX5_room, Cond.code yX5_room cX5_room 2 (some .int), Cond.methodLink RX5 63 yX5_drops, Cond.instanceMethod yX5_drops, Cond.selects RX5 yX5_drops yX5_drops, Cond.code yX5_drops cX5_drops 4 none, Cond.methodLink RX5 176 yX5_takeBack, Cond.instanceMethod yX5_takeBack, Cond.selects RX5 yX5_takeBack yX5_takeBack, Cond.code yX5_takeBack cX5_takeBack 2 none]
def wsX5_ifFlowed : List Cond := .code yX5_ifFlowed cX5_ifFlowed 5 (some .int) :: ((wsX5_ifFlowed_r1 ++ (wsX5_ifFlowed_r2 ++ wsX5_ifFlowed_r3)) ++ wsX50)
def wsX5_isMoreUrgent : List Cond := .code yX5_isMoreUrgent cX5_isMoreUrgent 4 (some .boolean) :: ([.methodLink RX5 40 yX5_age, .instanceMethod yX5_age, .selects RX5 yX5_age yX5_age, .initialized RX5, .code yX5_age cX5_age 3 (some .int), .methodLink RX5 33 yX5_of, .instanceMethod yX5_of, .selects RX5 yX5_of yX5_of, .code yX5_of cX5_of 3 (some .int), .fieldLink RX5 7 "SiloPadsModel" "s" "[I", .methodLink RX5 70 yX5_sumFrom, .instanceMethod yX5_sumFrom, .selects RX5 yX5_sumFrom yX5_sumFrom, .code yX5_sumFrom cX5_sumFrom 5 (some .int), .methodLink RX5 43 yX5_tonnes, .instanceMethod yX5_tonnes, .selects RX5 yX5_tonnes yX5_tonnes, .code yX5_tonnes cX5_tonnes 3 (some .int)] ++ wsX50)
def wsX5_mostUrgent : List Cond := .code yX5_mostUrgent cX5_mostUrgent 4 (some .int) :: ([.methodLink RX5 33 yX5_of, .instanceMethod yX5_of, .selects RX5 yX5_of yX5_of, .initialized RX5, .code yX5_of cX5_of 3 (some .int), .fieldLink RX5 7 "SiloPadsModel" "s" "[I", .methodLink RX5 183 yX5_isMoreUrgent, .instanceMethod yX5_isMoreUrgent, .selects RX5 yX5_isMoreUrgent yX5_isMoreUrgent, .code yX5_isMoreUrgent cX5_isMoreUrgent 4 (some .boolean), .methodLink RX5 40 yX5_age, .instanceMethod yX5_age, .selects RX5 yX5_age yX5_age, .code yX5_age cX5_age 3 (some .int), .methodLink RX5 70 yX5_sumFrom, .instanceMethod yX5_sumFrom, .selects RX5 yX5_sumFrom yX5_sumFrom, .code yX5_sumFrom cX5_sumFrom 5 (some .int), .methodLink RX5 43 yX5_tonnes, .instanceMethod yX5_tonnes, .selects RX5 yX5_tonnes yX5_tonnes, .code yX5_tonnes cX5_tonnes 3 (some .int)] ++ wsX50)
def wsX5_urgent_r1 : List Cond := [Cond.fieldLink RX5 25 "SiloPadsModel" "thrown" "I", Cond.methodLink RX5 187 yX5_mostUrgent, Cond.instanceMethod yX5_mostUrgent, Cond.selects RX5 yX5_mostUrgent yX5_mostUrgent, Cond.initialized RX5, Cond.code yX5_mostUrgent cX5_mostUrgent 4 (some .int), Cond.methodLink RX5 33 yX5_of, Cond.instanceMethod yX5_of, Cond.selects RX5 yX5_of yX5_of, Cond.code yX5_of cX5_of 3 (some .int), Cond.fieldLink RX5 7 "SiloPadsModel" "s" "[I", Cond.methodLink RX5 183 yX5_isMoreUrgent, Cond.instanceMethod yX5_isMoreUrgent, Cond.selects RX5 yX5_isMoreUrgent yX5_isMoreUrgent, Cond.code yX5_isMoreUrgent cX5_isMoreUrgent 4 (some .boolean), Cond.methodLink RX5 40 yX5_age, Cond.instanceMethod yX5_age, Cond.selects RX5 yX5_age yX5_age, Cond.code yX5_age cX5_age 3 (some .int), Cond.methodLink RX5 70 yX5_sumFrom, Cond.instanceMethod yX5_sumFrom, Cond.selects RX5 yX5_sumFrom yX5_sumFrom, Cond.code yX5_sumFrom cX5_sumFrom 5 (some .int), Cond.methodLink RX5 43 yX5_tonnes]
def wsX5_urgent_r2 : List Cond := [Cond.instanceMethod yX5_tonnes, Cond.selects RX5 yX5_tonnes yX5_tonnes, Cond.code yX5_tonnes cX5_tonnes 3 (some .int)]
def wsX5_urgent : List Cond := .code yX5_urgent cX5_urgent 1 (some .int) :: ((wsX5_urgent_r1 ++ wsX5_urgent_r2) ++ wsX50)
def wsX5_archAhead_r1 : List Cond := [Cond.methodLink RX5 173 yX5_putAside, Cond.instanceMethod yX5_putAside, Cond.selects RX5 yX5_putAside yX5_putAside, Cond.initialized RX5, Cond.code yX5_putAside cX5_putAside 2 none, Cond.fieldLink RX5 13 "SiloPadsModel" "aside" "[I", Cond.fieldLink RX5 7 "SiloPadsModel" "s" "[I", Cond.methodLink RX5 80 yX5_passesDay, Cond.instanceMethod yX5_passesDay, Cond.selects RX5 yX5_passesDay yX5_passesDay, Cond.code yX5_passesDay cX5_passesDay 4 (some .int), Cond.methodLink RX5 33 yX5_of, Cond.instanceMethod yX5_of, Cond.selects RX5 yX5_of yX5_of, Cond.code yX5_of cX5_of 3 (some .int), Cond.methodLink RX5 40 yX5_age, Cond.instanceMethod yX5_age, Cond.selects RX5 yX5_age yX5_age, Cond.code yX5_age cX5_age 3 (some .int), Cond.methodLink RX5 49 yX5_lay, Cond.instanceMethod yX5_lay, Cond.selects RX5 yX5_lay yX5_lay, Cond.code yX5_lay cX5_lay 4 none, Cond.methodLink RX5 76 yX5_forms]
def wsX5_archAhead_r2 : List Cond := [Cond.instanceMethod yX5_forms, Cond.selects RX5 yX5_forms yX5_forms, Cond.code yX5_forms cX5_forms 2 (some .boolean), Cond.methodLink RX5 46 yX5_setOf, Cond.instanceMethod yX5_setOf, Cond.selects RX5 yX5_setOf yX5_setOf, Cond.code yX5_setOf cX5_setOf 4 (some .int), Cond.methodLink RX5 176 yX5_takeBack, Cond.instanceMethod yX5_takeBack, Cond.selects RX5 yX5_takeBack yX5_takeBack, Cond.code yX5_takeBack cX5_takeBack 2 none]
def wsX5_archAhead : List Cond := .code yX5_archAhead cX5_archAhead 3 (some .int) :: ((wsX5_archAhead_r1 ++ wsX5_archAhead_r2) ++ wsX50)
def wsX5_nextArch_r1 : List Cond := [Cond.fieldLink RX5 25 "SiloPadsModel" "thrown" "I", Cond.methodLink RX5 190 yX5_archAhead, Cond.instanceMethod yX5_archAhead, Cond.selects RX5 yX5_archAhead yX5_archAhead, Cond.initialized RX5, Cond.code yX5_archAhead cX5_archAhead 3 (some .int), Cond.methodLink RX5 173 yX5_putAside, Cond.instanceMethod yX5_putAside, Cond.selects RX5 yX5_putAside yX5_putAside, Cond.code yX5_putAside cX5_putAside 2 none, Cond.fieldLink RX5 13 "SiloPadsModel" "aside" "[I", Cond.fieldLink RX5 7 "SiloPadsModel" "s" "[I", Cond.methodLink RX5 80 yX5_passesDay, Cond.instanceMethod yX5_passesDay, Cond.selects RX5 yX5_passesDay yX5_passesDay, Cond.code yX5_passesDay cX5_passesDay 4 (some .int), Cond.methodLink RX5 33 yX5_of, Cond.instanceMethod yX5_of, Cond.selects RX5 yX5_of yX5_of, Cond.code yX5_of cX5_of 3 (some .int), Cond.methodLink RX5 40 yX5_age, Cond.instanceMethod yX5_age, Cond.selects RX5 yX5_age yX5_age, Cond.code yX5_age cX5_age 3 (some .int)]
def wsX5_nextArch_r2 : List Cond := [Cond.methodLink RX5 49 yX5_lay, Cond.instanceMethod yX5_lay, Cond.selects RX5 yX5_lay yX5_lay, Cond.code yX5_lay cX5_lay 4 none, Cond.methodLink RX5 76 yX5_forms, Cond.instanceMethod yX5_forms, Cond.selects RX5 yX5_forms yX5_forms, Cond.code yX5_forms cX5_forms 2 (some .boolean), Cond.methodLink RX5 46 yX5_setOf, Cond.instanceMethod yX5_setOf, Cond.selects RX5 yX5_setOf yX5_setOf, Cond.code yX5_setOf cX5_setOf 4 (some .int), Cond.methodLink RX5 176 yX5_takeBack, Cond.instanceMethod yX5_takeBack, Cond.selects RX5 yX5_takeBack yX5_takeBack, Cond.code yX5_takeBack cX5_takeBack 2 none]
def wsX5_nextArch : List Cond := .code yX5_nextArch cX5_nextArch 1 (some .int) :: ((wsX5_nextArch_r1 ++ wsX5_nextArch_r2) ++ wsX50)
def wsX5_needed : List Cond := .code yX5_needed cX5_needed 2 (some .int) :: ([.methodLink RX5 33 yX5_of, .instanceMethod yX5_of, .selects RX5 yX5_of yX5_of, .initialized RX5, .code yX5_of cX5_of 3 (some .int), .fieldLink RX5 7 "SiloPadsModel" "s" "[I", .methodLink RX5 84 yX5_isHeavy, .instanceMethod yX5_isHeavy, .selects RX5 yX5_isHeavy yX5_isHeavy, .code yX5_isHeavy cX5_isHeavy 2 (some .boolean), .methodLink RX5 70 yX5_sumFrom, .instanceMethod yX5_sumFrom, .selects RX5 yX5_sumFrom yX5_sumFrom, .code yX5_sumFrom cX5_sumFrom 5 (some .int), .methodLink RX5 43 yX5_tonnes, .instanceMethod yX5_tonnes, .selects RX5 yX5_tonnes yX5_tonnes, .code yX5_tonnes cX5_tonnes 3 (some .int)] ++ wsX50)
def wsX5_shakesNeeded_r1 : List Cond := [Cond.fieldLink RX5 25 "SiloPadsModel" "thrown" "I", Cond.methodLink RX5 96 yX5_isSilo, Cond.static yX5_isSilo, Cond.initialized RX5, Cond.code yX5_isSilo cX5_isSilo 1 (some .boolean), Cond.methodLink RX5 29 yX5_in, Cond.static yX5_in, Cond.code yX5_in cX5_in 3 (some .boolean), Cond.methodLink RX5 193 yX5_needed, Cond.instanceMethod yX5_needed, Cond.selects RX5 yX5_needed yX5_needed, Cond.code yX5_needed cX5_needed 2 (some .int), Cond.methodLink RX5 33 yX5_of, Cond.instanceMethod yX5_of, Cond.selects RX5 yX5_of yX5_of, Cond.code yX5_of cX5_of 3 (some .int), Cond.fieldLink RX5 7 "SiloPadsModel" "s" "[I", Cond.methodLink RX5 84 yX5_isHeavy, Cond.instanceMethod yX5_isHeavy, Cond.selects RX5 yX5_isHeavy yX5_isHeavy, Cond.code yX5_isHeavy cX5_isHeavy 2 (some .boolean), Cond.methodLink RX5 70 yX5_sumFrom, Cond.instanceMethod yX5_sumFrom, Cond.selects RX5 yX5_sumFrom yX5_sumFrom]
def wsX5_shakesNeeded_r2 : List Cond := [Cond.code yX5_sumFrom cX5_sumFrom 5 (some .int), Cond.methodLink RX5 43 yX5_tonnes, Cond.instanceMethod yX5_tonnes, Cond.selects RX5 yX5_tonnes yX5_tonnes, Cond.code yX5_tonnes cX5_tonnes 3 (some .int), Cond.methodLink RX5 90 yX5_fails, Cond.instanceMethod yX5_fails, Cond.selects RX5 yX5_fails yX5_fails, Cond.code yX5_fails cX5_fails 2 (some .int)]
def wsX5_shakesNeeded : List Cond := .code yX5_shakesNeeded cX5_shakesNeeded 2 (some .int) :: ((wsX5_shakesNeeded_r1 ++ wsX5_shakesNeeded_r2) ++ wsX50)
def wsX5_soft_r1 : List Cond := [Cond.methodLink RX5 33 yX5_of, Cond.instanceMethod yX5_of, Cond.selects RX5 yX5_of yX5_of, Cond.initialized RX5, Cond.code yX5_of cX5_of 3 (some .int), Cond.fieldLink RX5 7 "SiloPadsModel" "s" "[I", Cond.methodLink RX5 46 yX5_setOf, Cond.instanceMethod yX5_setOf, Cond.selects RX5 yX5_setOf yX5_setOf, Cond.code yX5_setOf cX5_setOf 4 (some .int), Cond.methodLink RX5 40 yX5_age, Cond.instanceMethod yX5_age, Cond.selects RX5 yX5_age yX5_age, Cond.code yX5_age cX5_age 3 (some .int), Cond.methodLink RX5 43 yX5_tonnes, Cond.instanceMethod yX5_tonnes, Cond.selects RX5 yX5_tonnes yX5_tonnes, Cond.code yX5_tonnes cX5_tonnes 3 (some .int), Cond.methodLink RX5 158 yX5_inSilos, Cond.instanceMethod yX5_inSilos, Cond.selects RX5 yX5_inSilos yX5_inSilos, Cond.code yX5_inSilos cX5_inSilos 3 (some .int), Cond.methodLink RX5 70 yX5_sumFrom, Cond.instanceMethod yX5_sumFrom]
def wsX5_soft_r2 : List Cond := [Cond.selects RX5 yX5_sumFrom yX5_sumFrom, Cond.code yX5_sumFrom cX5_sumFrom 5 (some .int)]
def wsX5_soft : List Cond := .code yX5_soft cX5_soft 4 (some .double) :: ((wsX5_soft_r1 ++ wsX5_soft_r2) ++ wsX50)
def wsX5_softness_r1 : List Cond := [Cond.fieldLink RX5 25 "SiloPadsModel" "thrown" "I", Cond.methodLink RX5 196 yX5_soft, Cond.instanceMethod yX5_soft, Cond.selects RX5 yX5_soft yX5_soft, Cond.initialized RX5, Cond.code yX5_soft cX5_soft 4 (some .double), Cond.methodLink RX5 33 yX5_of, Cond.instanceMethod yX5_of, Cond.selects RX5 yX5_of yX5_of, Cond.code yX5_of cX5_of 3 (some .int), Cond.fieldLink RX5 7 "SiloPadsModel" "s" "[I", Cond.methodLink RX5 46 yX5_setOf, Cond.instanceMethod yX5_setOf, Cond.selects RX5 yX5_setOf yX5_setOf, Cond.code yX5_setOf cX5_setOf 4 (some .int), Cond.methodLink RX5 40 yX5_age, Cond.instanceMethod yX5_age, Cond.selects RX5 yX5_age yX5_age, Cond.code yX5_age cX5_age 3 (some .int), Cond.methodLink RX5 43 yX5_tonnes, Cond.instanceMethod yX5_tonnes, Cond.selects RX5 yX5_tonnes yX5_tonnes, Cond.code yX5_tonnes cX5_tonnes 3 (some .int), Cond.methodLink RX5 158 yX5_inSilos]
def wsX5_softness_r2 : List Cond := [Cond.instanceMethod yX5_inSilos, Cond.selects RX5 yX5_inSilos yX5_inSilos, Cond.code yX5_inSilos cX5_inSilos 3 (some .int), Cond.methodLink RX5 70 yX5_sumFrom, Cond.instanceMethod yX5_sumFrom, Cond.selects RX5 yX5_sumFrom yX5_sumFrom, Cond.code yX5_sumFrom cX5_sumFrom 5 (some .int)]
def wsX5_softness : List Cond := .code yX5_softness cX5_softness 1 (some .double) :: ((wsX5_softness_r1 ++ wsX5_softness_r2) ++ wsX50)
def wsX5_hashes : List Cond := .code yX5_hashes cX5_hashes 3 none :: ([.constantLong RX5 200 (31), .fieldLink RX5 202 "SiloPadsModel" "hash" "J"] ++ wsX50)
def wsX5_hashesSilo_r1 : List Cond := [Cond.methodLink RX5 152 yX5_tellsSilo, Cond.instanceMethod yX5_tellsSilo, Cond.selects RX5 yX5_tellsSilo yX5_tellsSilo, Cond.initialized RX5, Cond.code yX5_tellsSilo cX5_tellsSilo 3 (some .int), Cond.methodLink RX5 70 yX5_sumFrom, Cond.instanceMethod yX5_sumFrom, Cond.selects RX5 yX5_sumFrom yX5_sumFrom, Cond.code yX5_sumFrom cX5_sumFrom 5 (some .int), Cond.methodLink RX5 33 yX5_of, Cond.instanceMethod yX5_of, Cond.selects RX5 yX5_of yX5_of, Cond.code yX5_of cX5_of 3 (some .int), Cond.fieldLink RX5 7 "SiloPadsModel" "s" "[I", Cond.methodLink RX5 43 yX5_tonnes, Cond.instanceMethod yX5_tonnes, Cond.selects RX5 yX5_tonnes yX5_tonnes, Cond.code yX5_tonnes cX5_tonnes 3 (some .int), Cond.methodLink RX5 53 yX5_flows, Cond.instanceMethod yX5_flows, Cond.selects RX5 yX5_flows yX5_flows, Cond.code yX5_flows cX5_flows 3 (some .int), Cond.methodLink RX5 46 yX5_setOf, Cond.instanceMethod yX5_setOf]
def wsX5_hashesSilo_r2 : List Cond := [Cond.selects RX5 yX5_setOf yX5_setOf, Cond.code yX5_setOf cX5_setOf 4 (some .int), Cond.methodLink RX5 40 yX5_age, Cond.instanceMethod yX5_age, Cond.selects RX5 yX5_age yX5_age, Cond.code yX5_age cX5_age 3 (some .int), Cond.methodLink RX5 206 yX5_hashes, Cond.instanceMethod yX5_hashes, Cond.selects RX5 yX5_hashes yX5_hashes, Cond.code yX5_hashes cX5_hashes 3 none, Cond.constantLong RX5 200 (31), Cond.fieldLink RX5 202 "SiloPadsModel" "hash" "J", Cond.methodLink RX5 155 yX5_tellsLayer, Cond.instanceMethod yX5_tellsLayer, Cond.selects RX5 yX5_tellsLayer yX5_tellsLayer, Cond.code yX5_tellsLayer cX5_tellsLayer 4 (some .int), Cond.methodLink RX5 193 yX5_needed, Cond.instanceMethod yX5_needed, Cond.selects RX5 yX5_needed yX5_needed, Cond.code yX5_needed cX5_needed 2 (some .int), Cond.methodLink RX5 84 yX5_isHeavy, Cond.instanceMethod yX5_isHeavy, Cond.selects RX5 yX5_isHeavy yX5_isHeavy, Cond.code yX5_isHeavy cX5_isHeavy 2 (some .boolean)]
def wsX5_hashesSilo_r3 : List Cond := [Cond.methodLink RX5 170 yX5_reason, Cond.instanceMethod yX5_reason, Cond.selects RX5 yX5_reason yX5_reason, Cond.code yX5_reason cX5_reason 3 (some .int), Cond.methodLink RX5 60 yX5_room, Cond.instanceMethod yX5_room, Cond.selects RX5 yX5_room yX5_room, Cond.code yX5_room cX5_room 2 (some .int), Cond.methodLink RX5 179 yX5_wouldFlow, Cond.instanceMethod yX5_wouldFlow, Cond.selects RX5 yX5_wouldFlow yX5_wouldFlow, Cond.code yX5_wouldFlow cX5_wouldFlow 6 (some .int), Cond.methodLink RX5 173 yX5_putAside, Cond.instanceMethod yX5_putAside, Cond.selects RX5 yX5_putAside yX5_putAside, Cond.code yX5_putAside cX5_putAside 2 none, Cond.fieldLink RX5 13 "SiloPadsModel" "aside" "[I", Cond.methodLink RX5 49 yX5_lay, Cond.instanceMethod yX5_lay, Cond.selects RX5 yX5_lay yX5_lay, Cond.code yX5_lay cX5_lay 4 none, Cond.methodLink RX5 103 yX5_flowsAll, Cond.instanceMethod yX5_flowsAll, Cond.selects RX5 yX5_flowsAll yX5_flowsAll]
def wsX5_hashesSilo_r4 : List Cond := [Cond.code yX5_flowsAll cX5_flowsAll 6 (some .int), Cond.methodLink RX5 67 yX5_flowsHour, Cond.instanceMethod yX5_flowsHour, Cond.selects RX5 yX5_flowsHour yX5_flowsHour, Cond.code yX5_flowsHour cX5_flowsHour 6 (some .int), Cond.methodLink RX5 57 yX5_lesser, Cond.static yX5_lesser, Cond.code yX5_lesser cX5_lesser 2 (some .int), Cond.methodLink RX5 63 yX5_drops, Cond.instanceMethod yX5_drops, Cond.selects RX5 yX5_drops yX5_drops, Cond.code yX5_drops cX5_drops 4 none, Cond.methodLink RX5 176 yX5_takeBack, Cond.instanceMethod yX5_takeBack, Cond.selects RX5 yX5_takeBack yX5_takeBack, Cond.code yX5_takeBack cX5_takeBack 2 none]
def wsX5_hashesSilo : List Cond := .code yX5_hashesSilo cX5_hashesSilo 3 none :: ((wsX5_hashesSilo_r1 ++ (wsX5_hashesSilo_r2 ++ (wsX5_hashesSilo_r3 ++ wsX5_hashesSilo_r4))) ++ wsX50)
def wsJxe99ae_isNaN_b9ae7 : List Cond := .code yJxe99ae_isNaN_b9ae7 cJxe99ae_isNaN_b9ae7 2 (some .boolean) :: ([])
def wsJxe99ae_doubleToLongBits_ccdee : List Cond := .code yJxe99ae_doubleToLongBits_ccdee cJxe99ae_doubleToLongBits_ccdee 2 (some .long) :: ([.methodLink RJxe99ae 134 ⟨"java/lang/Double", "doubleToRawLongBits", "(D)J"⟩, .native ⟨"java/lang/Double", "doubleToRawLongBits", "(D)J"⟩, .static ⟨"java/lang/Double", "doubleToRawLongBits", "(D)J"⟩, .initialized "java/lang/Double", .constantLong RJxe99ae 137 (9221120237041090560), .methodLink RJxe99ae 122 yJxe99ae_isNaN_b9ae7, .static yJxe99ae_isNaN_b9ae7, .initialized RJxe99ae, .code yJxe99ae_isNaN_b9ae7 cJxe99ae_isNaN_b9ae7 2 (some .boolean)])
def wsX5_digest_r1 : List Cond := [Cond.fieldLink RX5 25 "SiloPadsModel" "thrown" "I", Cond.constantLong RX5 210 (3533), Cond.fieldLink RX5 202 "SiloPadsModel" "hash" "J", Cond.fieldLink RX5 7 "SiloPadsModel" "s" "[I", Cond.fieldLink RX5 121 "SiloPadsModel" "length" "I", Cond.fieldLink RX5 19 "SiloPadsModel" "buffer" "[I", Cond.methodLink RX5 167 yX5_tellsCount, Cond.instanceMethod yX5_tellsCount, Cond.selects RX5 yX5_tellsCount yX5_tellsCount, Cond.initialized RX5, Cond.code yX5_tellsCount cX5_tellsCount 2 (some .int), Cond.fieldLink RX5 37 "SiloPadsModel" "savedMany" "I", Cond.methodLink RX5 158 yX5_inSilos, Cond.instanceMethod yX5_inSilos, Cond.selects RX5 yX5_inSilos yX5_inSilos, Cond.code yX5_inSilos cX5_inSilos 3 (some .int), Cond.methodLink RX5 70 yX5_sumFrom, Cond.instanceMethod yX5_sumFrom, Cond.selects RX5 yX5_sumFrom yX5_sumFrom, Cond.code yX5_sumFrom cX5_sumFrom 5 (some .int), Cond.methodLink RX5 33 yX5_of, Cond.instanceMethod yX5_of, Cond.selects RX5 yX5_of yX5_of, Cond.code yX5_of cX5_of 3 (some .int)]
def wsX5_digest_r2 : List Cond := [Cond.methodLink RX5 43 yX5_tonnes, Cond.instanceMethod yX5_tonnes, Cond.selects RX5 yX5_tonnes yX5_tonnes, Cond.code yX5_tonnes cX5_tonnes 3 (some .int), Cond.methodLink RX5 161 yX5_inShips, Cond.instanceMethod yX5_inShips, Cond.selects RX5 yX5_inShips yX5_inShips, Cond.code yX5_inShips cX5_inShips 3 (some .int), Cond.methodLink RX5 106 yX5_padsOn, Cond.instanceMethod yX5_padsOn, Cond.selects RX5 yX5_padsOn yX5_padsOn, Cond.code yX5_padsOn cX5_padsOn 3 (some .int), Cond.methodLink RX5 164 yX5_arches, Cond.instanceMethod yX5_arches, Cond.selects RX5 yX5_arches yX5_arches, Cond.code yX5_arches cX5_arches 3 (some .int), Cond.methodLink RX5 206 yX5_hashes, Cond.instanceMethod yX5_hashes, Cond.selects RX5 yX5_hashes yX5_hashes, Cond.code yX5_hashes cX5_hashes 3 none, Cond.constantLong RX5 200 (31), Cond.methodLink RX5 212 yX5_hashesSilo, Cond.instanceMethod yX5_hashesSilo, Cond.selects RX5 yX5_hashesSilo yX5_hashesSilo]
def wsX5_digest_r3 : List Cond := [Cond.code yX5_hashesSilo cX5_hashesSilo 3 none, Cond.methodLink RX5 152 yX5_tellsSilo, Cond.instanceMethod yX5_tellsSilo, Cond.selects RX5 yX5_tellsSilo yX5_tellsSilo, Cond.code yX5_tellsSilo cX5_tellsSilo 3 (some .int), Cond.methodLink RX5 53 yX5_flows, Cond.instanceMethod yX5_flows, Cond.selects RX5 yX5_flows yX5_flows, Cond.code yX5_flows cX5_flows 3 (some .int), Cond.methodLink RX5 46 yX5_setOf, Cond.instanceMethod yX5_setOf, Cond.selects RX5 yX5_setOf yX5_setOf, Cond.code yX5_setOf cX5_setOf 4 (some .int), Cond.methodLink RX5 40 yX5_age, Cond.instanceMethod yX5_age, Cond.selects RX5 yX5_age yX5_age, Cond.code yX5_age cX5_age 3 (some .int), Cond.methodLink RX5 155 yX5_tellsLayer, Cond.instanceMethod yX5_tellsLayer, Cond.selects RX5 yX5_tellsLayer yX5_tellsLayer, Cond.code yX5_tellsLayer cX5_tellsLayer 4 (some .int), Cond.methodLink RX5 193 yX5_needed, Cond.instanceMethod yX5_needed, Cond.selects RX5 yX5_needed yX5_needed]
def wsX5_digest_r4 : List Cond := [Cond.code yX5_needed cX5_needed 2 (some .int), Cond.methodLink RX5 84 yX5_isHeavy, Cond.instanceMethod yX5_isHeavy, Cond.selects RX5 yX5_isHeavy yX5_isHeavy, Cond.code yX5_isHeavy cX5_isHeavy 2 (some .boolean), Cond.methodLink RX5 170 yX5_reason, Cond.instanceMethod yX5_reason, Cond.selects RX5 yX5_reason yX5_reason, Cond.code yX5_reason cX5_reason 3 (some .int), Cond.methodLink RX5 60 yX5_room, Cond.instanceMethod yX5_room, Cond.selects RX5 yX5_room yX5_room, Cond.code yX5_room cX5_room 2 (some .int), Cond.methodLink RX5 179 yX5_wouldFlow, Cond.instanceMethod yX5_wouldFlow, Cond.selects RX5 yX5_wouldFlow yX5_wouldFlow, Cond.code yX5_wouldFlow cX5_wouldFlow 6 (some .int), Cond.methodLink RX5 173 yX5_putAside, Cond.instanceMethod yX5_putAside, Cond.selects RX5 yX5_putAside yX5_putAside, Cond.code yX5_putAside cX5_putAside 2 none, Cond.fieldLink RX5 13 "SiloPadsModel" "aside" "[I", Cond.methodLink RX5 49 yX5_lay, Cond.instanceMethod yX5_lay]
def wsX5_digest_r5 : List Cond := [Cond.selects RX5 yX5_lay yX5_lay, Cond.code yX5_lay cX5_lay 4 none, Cond.methodLink RX5 103 yX5_flowsAll, Cond.instanceMethod yX5_flowsAll, Cond.selects RX5 yX5_flowsAll yX5_flowsAll, Cond.code yX5_flowsAll cX5_flowsAll 6 (some .int), Cond.methodLink RX5 67 yX5_flowsHour, Cond.instanceMethod yX5_flowsHour, Cond.selects RX5 yX5_flowsHour yX5_flowsHour, Cond.code yX5_flowsHour cX5_flowsHour 6 (some .int), Cond.methodLink RX5 57 yX5_lesser, Cond.static yX5_lesser, Cond.code yX5_lesser cX5_lesser 2 (some .int), Cond.methodLink RX5 63 yX5_drops, Cond.instanceMethod yX5_drops, Cond.selects RX5 yX5_drops yX5_drops, Cond.code yX5_drops cX5_drops 4 none, Cond.methodLink RX5 176 yX5_takeBack, Cond.instanceMethod yX5_takeBack, Cond.selects RX5 yX5_takeBack yX5_takeBack, Cond.code yX5_takeBack cX5_takeBack 2 none, Cond.methodLink RX5 187 yX5_mostUrgent, Cond.instanceMethod yX5_mostUrgent, Cond.selects RX5 yX5_mostUrgent yX5_mostUrgent]
def wsX5_digest_r6 : List Cond := [Cond.code yX5_mostUrgent cX5_mostUrgent 4 (some .int), Cond.methodLink RX5 183 yX5_isMoreUrgent, Cond.instanceMethod yX5_isMoreUrgent, Cond.selects RX5 yX5_isMoreUrgent yX5_isMoreUrgent, Cond.code yX5_isMoreUrgent cX5_isMoreUrgent 4 (some .boolean), Cond.methodLink RX5 190 yX5_archAhead, Cond.instanceMethod yX5_archAhead, Cond.selects RX5 yX5_archAhead yX5_archAhead, Cond.code yX5_archAhead cX5_archAhead 3 (some .int), Cond.methodLink RX5 80 yX5_passesDay, Cond.instanceMethod yX5_passesDay, Cond.selects RX5 yX5_passesDay yX5_passesDay, Cond.code yX5_passesDay cX5_passesDay 4 (some .int), Cond.methodLink RX5 76 yX5_forms, Cond.instanceMethod yX5_forms, Cond.selects RX5 yX5_forms yX5_forms, Cond.code yX5_forms cX5_forms 2 (some .boolean), Cond.methodLink RX5 196 yX5_soft, Cond.instanceMethod yX5_soft, Cond.selects RX5 yX5_soft yX5_soft, Cond.code yX5_soft cX5_soft 4 (some .double), Cond.methodLink RX5 215 yJxe99ae_doubleToLongBits_ccdee, Cond.static yJxe99ae_doubleToLongBits_ccdee, Cond.initialized RJxe99ae]
def wsX5_digest_r7 : List Cond := [Cond.code yJxe99ae_doubleToLongBits_ccdee cJxe99ae_doubleToLongBits_ccdee 2 (some .long), Cond.methodLink RJxe99ae 134 ⟨"java/lang/Double", "doubleToRawLongBits", "(D)J"⟩, Cond.native ⟨"java/lang/Double", "doubleToRawLongBits", "(D)J"⟩, Cond.static ⟨"java/lang/Double", "doubleToRawLongBits", "(D)J"⟩, Cond.initialized "java/lang/Double", Cond.constantLong RJxe99ae 137 (9221120237041090560), Cond.methodLink RJxe99ae 122 yJxe99ae_isNaN_b9ae7, Cond.static yJxe99ae_isNaN_b9ae7, Cond.code yJxe99ae_isNaN_b9ae7 cJxe99ae_isNaN_b9ae7 2 (some .boolean)]
def wsX5_digest : List Cond := .code yX5_digest cX5_digest 2 (some .long) :: ((wsX5_digest_r1 ++ (wsX5_digest_r2 ++ (wsX5_digest_r3 ++ (wsX5_digest_r4 ++ (wsX5_digest_r5 ++ (wsX5_digest_r6 ++ wsX5_digest_r7)))))) ++ wsX50)
def wsJ9_max_7cf53 : List Cond := .code yJ9_max_7cf53 cJ9_max_7cf53 2 (some .int) :: ([])
def wsJ9_min_7cf53 : List Cond := .code yJ9_min_7cf53 cJ9_min_7cf53 2 (some .int) :: ([])
def wsL_ship_r1 : List Cond := [Cond.classLink RL 13 "java/lang/IndexOutOfBoundsException", Cond.classLink RL 15 "java/lang/IllegalArgumentException", Cond.methodLink RL 7 yX4_ship, Cond.instanceMethod yX4_ship, Cond.selects RX4 yX4_ship yX4_ship, Cond.initialized RX4, Cond.code yX4_ship cX4_ship 6 (some .int), Cond.classLink RX4 56 "java/lang/IndexOutOfBoundsException", Cond.initialized "java/lang/IndexOutOfBoundsException", Cond.classLink RX4 63 "java/lang/IllegalArgumentException", Cond.initialized "java/lang/IllegalArgumentException", Cond.fieldLink RX4 10 "SiloPads" "now" "LSiloPads$Yard;", Cond.fieldLink RX4 71 "SiloPads$Yard" "ships" "[LSiloPads$Ship;", Cond.fieldLink RX4 75 "SiloPads$Ship" "tonnes" "I", Cond.fieldLink RX4 78 "SiloPads$Ship" "hold" "I", Cond.fieldLink RX4 81 "SiloPads$Yard" "brought" "I", Cond.fieldLink RX4 84 "SiloPads$Yard" "gone" "I", Cond.methodLink RX4 52 yX4_isNoShip, Cond.static yX4_isNoShip, Cond.code yX4_isNoShip cX4_isNoShip 1 (some .boolean), Cond.methodLink RX4 68 yX4_saveState, Cond.instanceMethod yX4_saveState, Cond.selects RX4 yX4_saveState yX4_saveState, Cond.code yX4_saveState cX4_saveState 3 none]
def wsL_ship_r2 : List Cond := [Cond.fieldLink RX4 20 "SiloPads" "savedStates" "I", Cond.fieldLink RX4 16 "SiloPads" "saved" "[LSiloPads$Yard;", Cond.methodLink RX4 186 yX3_becomeLike, Cond.instanceMethod yX3_becomeLike, Cond.selects RX3 yX3_becomeLike yX3_becomeLike, Cond.initialized RX3, Cond.code yX3_becomeLike cX3_becomeLike 3 none, Cond.fieldLink RX3 11 "SiloPads$Yard" "silos" "[LSiloPads$Silo;", Cond.fieldLink RX3 19 "SiloPads$Yard" "ships" "[LSiloPads$Ship;", Cond.fieldLink RX3 32 "SiloPads$Yard" "settings" "[I", Cond.fieldLink RX3 35 "SiloPads$Yard" "days" "I", Cond.fieldLink RX3 39 "SiloPads$Yard" "dust" "I", Cond.fieldLink RX3 42 "SiloPads$Yard" "brought" "I", Cond.fieldLink RX3 45 "SiloPads$Yard" "gone" "I", Cond.fieldLink RX3 48 "SiloPads$Yard" "shakes" "I", Cond.fieldLink RX3 51 "SiloPads$Yard" "formed" "I", Cond.methodLink RX3 56 yX1_becomeLike, Cond.instanceMethod yX1_becomeLike, Cond.selects RX1 yX1_becomeLike yX1_becomeLike, Cond.initialized RX1, Cond.code yX1_becomeLike cX1_becomeLike 3 none, Cond.fieldLink RX1 9 "SiloPads$Silo" "tonnes" "[I", Cond.fieldLink RX1 15 "SiloPads$Silo" "ages" "[I", Cond.fieldLink RX1 18 "SiloPads$Silo" "layers" "I"]
def wsL_ship_r3 : List Cond := [Cond.fieldLink RX1 22 "SiloPads$Silo" "padsOn" "I", Cond.fieldLink RX1 25 "SiloPads$Silo" "arch" "I", Cond.fieldLink RX1 28 "SiloPads$Silo" "shakes" "I", Cond.methodLink RX3 60 yX0_becomeLike, Cond.instanceMethod yX0_becomeLike, Cond.selects RX0 yX0_becomeLike yX0_becomeLike, Cond.initialized RX0, Cond.code yX0_becomeLike cX0_becomeLike 2 none, Cond.fieldLink RX0 9 "SiloPads$Ship" "tonnes" "I", Cond.fieldLink RX0 15 "SiloPads$Ship" "hold" "I"]
def wsL_ship : List Cond := .codeWith yL_ship cL_ship 6 (some .int) [(0, 12, 15, 13), (0, 12, 19, 15)] :: ((wsL_ship_r1 ++ (wsL_ship_r2 ++ wsL_ship_r3)) ++ wsX40 ++ wsX30 ++ wsX00 ++ wsX10 ++ (vx_atS RX4 60 "java/lang/IndexOutOfBoundsException" ["java/lang/RuntimeException", "java/lang/Exception"]).filter goodWord ++ (vx_atS RX4 67 "java/lang/IllegalArgumentException" ["java/lang/RuntimeException", "java/lang/Exception"]).filter goodWord)
def wsL_unload_r1 : List Cond := [Cond.classLink RL 13 "java/lang/IndexOutOfBoundsException", Cond.classLink RL 15 "java/lang/IllegalArgumentException", Cond.methodLink RL 17 yX4_unload, Cond.instanceMethod yX4_unload, Cond.selects RX4 yX4_unload yX4_unload, Cond.initialized RX4, Cond.code yX4_unload cX4_unload 4 (some .int), Cond.classLink RX4 56 "java/lang/IndexOutOfBoundsException", Cond.initialized "java/lang/IndexOutOfBoundsException", Cond.classLink RX4 63 "java/lang/IllegalArgumentException", Cond.initialized "java/lang/IllegalArgumentException", Cond.fieldLink RX4 10 "SiloPads" "now" "LSiloPads$Yard;", Cond.fieldLink RX4 94 "SiloPads$Yard" "silos" "[LSiloPads$Silo;", Cond.fieldLink RX4 71 "SiloPads$Yard" "ships" "[LSiloPads$Ship;", Cond.methodLink RX4 87 yX4_isNoSilo, Cond.static yX4_isNoSilo, Cond.code yX4_isNoSilo cX4_isNoSilo 1 (some .boolean), Cond.methodLink RX4 52 yX4_isNoShip, Cond.static yX4_isNoShip, Cond.code yX4_isNoShip cX4_isNoShip 1 (some .boolean), Cond.methodLink RX4 68 yX4_saveState, Cond.instanceMethod yX4_saveState, Cond.selects RX4 yX4_saveState yX4_saveState, Cond.code yX4_saveState cX4_saveState 3 none]
def wsL_unload_r2 : List Cond := [Cond.fieldLink RX4 20 "SiloPads" "savedStates" "I", Cond.fieldLink RX4 16 "SiloPads" "saved" "[LSiloPads$Yard;", Cond.methodLink RX4 186 yX3_becomeLike, Cond.instanceMethod yX3_becomeLike, Cond.selects RX3 yX3_becomeLike yX3_becomeLike, Cond.initialized RX3, Cond.code yX3_becomeLike cX3_becomeLike 3 none, Cond.fieldLink RX3 11 "SiloPads$Yard" "silos" "[LSiloPads$Silo;", Cond.fieldLink RX3 19 "SiloPads$Yard" "ships" "[LSiloPads$Ship;", Cond.fieldLink RX3 32 "SiloPads$Yard" "settings" "[I", Cond.fieldLink RX3 35 "SiloPads$Yard" "days" "I", Cond.fieldLink RX3 39 "SiloPads$Yard" "dust" "I", Cond.fieldLink RX3 42 "SiloPads$Yard" "brought" "I", Cond.fieldLink RX3 45 "SiloPads$Yard" "gone" "I", Cond.fieldLink RX3 48 "SiloPads$Yard" "shakes" "I", Cond.fieldLink RX3 51 "SiloPads$Yard" "formed" "I", Cond.methodLink RX3 56 yX1_becomeLike, Cond.instanceMethod yX1_becomeLike, Cond.selects RX1 yX1_becomeLike yX1_becomeLike, Cond.initialized RX1, Cond.code yX1_becomeLike cX1_becomeLike 3 none, Cond.fieldLink RX1 9 "SiloPads$Silo" "tonnes" "[I", Cond.fieldLink RX1 15 "SiloPads$Silo" "ages" "[I", Cond.fieldLink RX1 18 "SiloPads$Silo" "layers" "I"]
def wsL_unload_r3 : List Cond := [Cond.fieldLink RX1 22 "SiloPads$Silo" "padsOn" "I", Cond.fieldLink RX1 25 "SiloPads$Silo" "arch" "I", Cond.fieldLink RX1 28 "SiloPads$Silo" "shakes" "I", Cond.methodLink RX3 60 yX0_becomeLike, Cond.instanceMethod yX0_becomeLike, Cond.selects RX0 yX0_becomeLike yX0_becomeLike, Cond.initialized RX0, Cond.code yX0_becomeLike cX0_becomeLike 2 none, Cond.fieldLink RX0 9 "SiloPads$Ship" "tonnes" "I", Cond.fieldLink RX0 15 "SiloPads$Ship" "hold" "I", Cond.methodLink RX4 98 yX4_bringIn, Cond.instanceMethod yX4_bringIn, Cond.selects RX4 yX4_bringIn yX4_bringIn, Cond.code yX4_bringIn cX4_bringIn 5 (some .int), Cond.fieldLink RX4 75 "SiloPads$Ship" "tonnes" "I", Cond.methodLink RX4 257 Lib.Math.min.name, Cond.static Lib.Math.min.name, Cond.initialized "java/lang/Math", Cond.code Lib.Math.min.name Lib.Math.min.code 2 (some .int), Cond.methodLink RX4 294 yX1_place, Cond.instanceMethod yX1_place, Cond.selects RX1 yX1_place yX1_place, Cond.code yX1_place cX1_place 2 (some .int), Cond.methodLink RX1 42 Lib.Math.min.name]
def wsL_unload_r4 : List Cond := [Cond.methodLink RX1 35 yX1_total, Cond.instanceMethod yX1_total, Cond.selects RX1 yX1_total yX1_total, Cond.code yX1_total cX1_total 1 (some .int), Cond.methodLink RX1 31 yX1_totalFrom, Cond.instanceMethod yX1_totalFrom, Cond.selects RX1 yX1_totalFrom yX1_totalFrom, Cond.code yX1_totalFrom cX1_totalFrom 4 (some .int), Cond.methodLink RX1 39 yX1_placeOnTop, Cond.instanceMethod yX1_placeOnTop, Cond.selects RX1 yX1_placeOnTop yX1_placeOnTop, Cond.code yX1_placeOnTop cX1_placeOnTop 1 (some .int), Cond.methodLink RX4 297 yX1_fill, Cond.instanceMethod yX1_fill, Cond.selects RX1 yX1_fill yX1_fill, Cond.code yX1_fill cX1_fill 4 none]
def wsL_unload : List Cond := .codeWith yL_unload cL_unload 6 (some .int) [(0, 12, 15, 13), (0, 12, 19, 15)] :: ((wsL_unload_r1 ++ (wsL_unload_r2 ++ (wsL_unload_r3 ++ wsL_unload_r4))) ++ wsX40 ++ wsX30 ++ wsX10 ++ wsX00 ++ (vx_atS RX4 60 "java/lang/IndexOutOfBoundsException" ["java/lang/RuntimeException", "java/lang/Exception"]).filter goodWord ++ (vx_atS RX4 67 "java/lang/IllegalArgumentException" ["java/lang/RuntimeException", "java/lang/Exception"]).filter goodWord)
def wsL_flow_r1 : List Cond := [Cond.classLink RL 13 "java/lang/IndexOutOfBoundsException", Cond.classLink RL 15 "java/lang/IllegalArgumentException", Cond.methodLink RL 20 yX4_flow, Cond.instanceMethod yX4_flow, Cond.selects RX4 yX4_flow yX4_flow, Cond.initialized RX4, Cond.code yX4_flow cX4_flow 4 (some .int), Cond.classLink RX4 56 "java/lang/IndexOutOfBoundsException", Cond.initialized "java/lang/IndexOutOfBoundsException", Cond.classLink RX4 63 "java/lang/IllegalArgumentException", Cond.initialized "java/lang/IllegalArgumentException", Cond.fieldLink RX4 10 "SiloPads" "now" "LSiloPads$Yard;", Cond.fieldLink RX4 94 "SiloPads$Yard" "silos" "[LSiloPads$Silo;", Cond.fieldLink RX4 71 "SiloPads$Yard" "ships" "[LSiloPads$Ship;", Cond.methodLink RX4 87 yX4_isNoSilo, Cond.static yX4_isNoSilo, Cond.code yX4_isNoSilo cX4_isNoSilo 1 (some .boolean), Cond.methodLink RX4 52 yX4_isNoShip, Cond.static yX4_isNoShip, Cond.code yX4_isNoShip cX4_isNoShip 1 (some .boolean), Cond.methodLink RX4 68 yX4_saveState, Cond.instanceMethod yX4_saveState, Cond.selects RX4 yX4_saveState yX4_saveState, Cond.code yX4_saveState cX4_saveState 3 none]
def wsL_flow_r2 : List Cond := [Cond.fieldLink RX4 20 "SiloPads" "savedStates" "I", Cond.fieldLink RX4 16 "SiloPads" "saved" "[LSiloPads$Yard;", Cond.methodLink RX4 186 yX3_becomeLike, Cond.instanceMethod yX3_becomeLike, Cond.selects RX3 yX3_becomeLike yX3_becomeLike, Cond.initialized RX3, Cond.code yX3_becomeLike cX3_becomeLike 3 none, Cond.fieldLink RX3 11 "SiloPads$Yard" "silos" "[LSiloPads$Silo;", Cond.fieldLink RX3 19 "SiloPads$Yard" "ships" "[LSiloPads$Ship;", Cond.fieldLink RX3 32 "SiloPads$Yard" "settings" "[I", Cond.fieldLink RX3 35 "SiloPads$Yard" "days" "I", Cond.fieldLink RX3 39 "SiloPads$Yard" "dust" "I", Cond.fieldLink RX3 42 "SiloPads$Yard" "brought" "I", Cond.fieldLink RX3 45 "SiloPads$Yard" "gone" "I", Cond.fieldLink RX3 48 "SiloPads$Yard" "shakes" "I", Cond.fieldLink RX3 51 "SiloPads$Yard" "formed" "I", Cond.methodLink RX3 56 yX1_becomeLike, Cond.instanceMethod yX1_becomeLike, Cond.selects RX1 yX1_becomeLike yX1_becomeLike, Cond.initialized RX1, Cond.code yX1_becomeLike cX1_becomeLike 3 none, Cond.fieldLink RX1 9 "SiloPads$Silo" "tonnes" "[I", Cond.fieldLink RX1 15 "SiloPads$Silo" "ages" "[I", Cond.fieldLink RX1 18 "SiloPads$Silo" "layers" "I"]
def wsL_flow_r3 : List Cond := [Cond.fieldLink RX1 22 "SiloPads$Silo" "padsOn" "I", Cond.fieldLink RX1 25 "SiloPads$Silo" "arch" "I", Cond.fieldLink RX1 28 "SiloPads$Silo" "shakes" "I", Cond.methodLink RX3 60 yX0_becomeLike, Cond.instanceMethod yX0_becomeLike, Cond.selects RX0 yX0_becomeLike yX0_becomeLike, Cond.initialized RX0, Cond.code yX0_becomeLike cX0_becomeLike 2 none, Cond.fieldLink RX0 9 "SiloPads$Ship" "tonnes" "I", Cond.fieldLink RX0 15 "SiloPads$Ship" "hold" "I", Cond.methodLink RX4 104 yX4_letOut, Cond.instanceMethod yX4_letOut, Cond.selects RX4 yX4_letOut yX4_letOut, Cond.code yX4_letOut cX4_letOut 6 (some .int), Cond.fieldLink RX4 222 "SiloPads$Yard" "dust" "I", Cond.methodLink RX4 190 yX1_total, Cond.instanceMethod yX1_total, Cond.selects RX1 yX1_total yX1_total, Cond.code yX1_total cX1_total 1 (some .int), Cond.methodLink RX1 31 yX1_totalFrom, Cond.instanceMethod yX1_totalFrom, Cond.selects RX1 yX1_totalFrom yX1_totalFrom, Cond.code yX1_totalFrom cX1_totalFrom 4 (some .int), Cond.methodLink RX4 244 yX4_pour]
def wsL_flow_r4 : List Cond := [Cond.instanceMethod yX4_pour, Cond.selects RX4 yX4_pour yX4_pour, Cond.code yX4_pour cX4_pour 6 (some .int), Cond.methodLink RX4 301 yX4_pourForHour, Cond.instanceMethod yX4_pourForHour, Cond.selects RX4 yX4_pourForHour yX4_pourForHour, Cond.code yX4_pourForHour cX4_pourForHour 5 (some .int), Cond.fieldLink RX4 125 "SiloPads$Silo" "layers" "I", Cond.fieldLink RX4 141 "SiloPads$Silo" "arch" "I", Cond.fieldLink RX4 111 "SiloPads$Silo" "padsOn" "I", Cond.fieldLink RX4 201 "SiloPads$Silo" "tonnes" "[I", Cond.methodLink RX4 257 Lib.Math.min.name, Cond.static Lib.Math.min.name, Cond.initialized "java/lang/Math", Cond.code Lib.Math.min.name Lib.Math.min.code 2 (some .int), Cond.fieldLink RX4 75 "SiloPads$Ship" "tonnes" "I", Cond.methodLink RX4 193 yX4_outInHour, Cond.instanceMethod yX4_outInHour, Cond.selects RX4 yX4_outInHour yX4_outInHour, Cond.code yX4_outInHour cX4_outInHour 3 (some .int), Cond.fieldLink RX4 203 "SiloPads$Silo" "ages" "[I", Cond.methodLink RX4 206 yX4_hardnessAt, Cond.instanceMethod yX4_hardnessAt, Cond.selects RX4 yX4_hardnessAt yX4_hardnessAt]
def wsL_flow_r5 : List Cond := [Cond.code yX4_hardnessAt cX4_hardnessAt 3 (some .int), Cond.fieldLink RX4 117 "SiloPads$Yard" "settings" "[I", Cond.methodLink RX4 233 yX0_room, Cond.instanceMethod yX0_room, Cond.selects RX0 yX0_room yX0_room, Cond.code yX0_room cX0_room 1 (some .int), Cond.methodLink RX4 305 yX4_dustOf, Cond.instanceMethod yX4_dustOf, Cond.selects RX4 yX4_dustOf yX4_dustOf, Cond.code yX4_dustOf cX4_dustOf 3 (some .int), Cond.methodLink RX4 308 yX1_takeFromLowest, Cond.instanceMethod yX1_takeFromLowest, Cond.selects RX1 yX1_takeFromLowest yX1_takeFromLowest, Cond.code yX1_takeFromLowest cX1_takeFromLowest 3 none]
def wsL_flow : List Cond := .codeWith yL_flow cL_flow 6 (some .int) [(0, 12, 15, 13), (0, 12, 19, 15)] :: ((wsL_flow_r1 ++ (wsL_flow_r2 ++ (wsL_flow_r3 ++ (wsL_flow_r4 ++ wsL_flow_r5)))) ++ wsX40 ++ wsX30 ++ wsX10 ++ wsX00 ++ (vx_atS RX4 60 "java/lang/IndexOutOfBoundsException" ["java/lang/RuntimeException", "java/lang/Exception"]).filter goodWord ++ (vx_atS RX4 67 "java/lang/IllegalArgumentException" ["java/lang/RuntimeException", "java/lang/Exception"]).filter goodWord)
def wsL_pads_r1 : List Cond := [Cond.classLink RL 13 "java/lang/IndexOutOfBoundsException", Cond.classLink RL 15 "java/lang/IllegalArgumentException", Cond.classLink RL 27 "java/lang/IllegalStateException", Cond.methodLink RL 23 yX4_pads, Cond.instanceMethod yX4_pads, Cond.selects RX4 yX4_pads yX4_pads, Cond.initialized RX4, Cond.code yX4_pads cX4_pads 4 (some .int), Cond.classLink RX4 56 "java/lang/IndexOutOfBoundsException", Cond.initialized "java/lang/IndexOutOfBoundsException", Cond.classLink RX4 63 "java/lang/IllegalArgumentException", Cond.initialized "java/lang/IllegalArgumentException", Cond.classLink RX4 120 "java/lang/IllegalStateException", Cond.initialized "java/lang/IllegalStateException", Cond.fieldLink RX4 10 "SiloPads" "now" "LSiloPads$Yard;", Cond.fieldLink RX4 94 "SiloPads$Yard" "silos" "[LSiloPads$Silo;", Cond.fieldLink RX4 111 "SiloPads$Silo" "padsOn" "I", Cond.fieldLink RX4 117 "SiloPads$Yard" "settings" "[I", Cond.methodLink RX4 87 yX4_isNoSilo, Cond.static yX4_isNoSilo, Cond.code yX4_isNoSilo cX4_isNoSilo 1 (some .boolean), Cond.methodLink RX4 114 yX3_padsOn, Cond.instanceMethod yX3_padsOn, Cond.selects RX3 yX3_padsOn yX3_padsOn]
def wsL_pads_r2 : List Cond := [Cond.initialized RX3, Cond.code yX3_padsOn cX3_padsOn 3 (some .int), Cond.fieldLink RX3 11 "SiloPads$Yard" "silos" "[LSiloPads$Silo;", Cond.fieldLink RX3 70 "SiloPads$Silo" "padsOn" "I", Cond.methodLink RX4 68 yX4_saveState, Cond.instanceMethod yX4_saveState, Cond.selects RX4 yX4_saveState yX4_saveState, Cond.code yX4_saveState cX4_saveState 3 none, Cond.fieldLink RX4 20 "SiloPads" "savedStates" "I", Cond.fieldLink RX4 16 "SiloPads" "saved" "[LSiloPads$Yard;", Cond.methodLink RX4 186 yX3_becomeLike, Cond.instanceMethod yX3_becomeLike, Cond.selects RX3 yX3_becomeLike yX3_becomeLike, Cond.code yX3_becomeLike cX3_becomeLike 3 none, Cond.fieldLink RX3 19 "SiloPads$Yard" "ships" "[LSiloPads$Ship;", Cond.fieldLink RX3 32 "SiloPads$Yard" "settings" "[I", Cond.fieldLink RX3 35 "SiloPads$Yard" "days" "I", Cond.fieldLink RX3 39 "SiloPads$Yard" "dust" "I", Cond.fieldLink RX3 42 "SiloPads$Yard" "brought" "I", Cond.fieldLink RX3 45 "SiloPads$Yard" "gone" "I", Cond.fieldLink RX3 48 "SiloPads$Yard" "shakes" "I", Cond.fieldLink RX3 51 "SiloPads$Yard" "formed" "I", Cond.methodLink RX3 56 yX1_becomeLike, Cond.instanceMethod yX1_becomeLike]
def wsL_pads_r3 : List Cond := [Cond.selects RX1 yX1_becomeLike yX1_becomeLike, Cond.initialized RX1, Cond.code yX1_becomeLike cX1_becomeLike 3 none, Cond.fieldLink RX1 9 "SiloPads$Silo" "tonnes" "[I", Cond.fieldLink RX1 15 "SiloPads$Silo" "ages" "[I", Cond.fieldLink RX1 18 "SiloPads$Silo" "layers" "I", Cond.fieldLink RX1 22 "SiloPads$Silo" "padsOn" "I", Cond.fieldLink RX1 25 "SiloPads$Silo" "arch" "I", Cond.fieldLink RX1 28 "SiloPads$Silo" "shakes" "I", Cond.methodLink RX3 60 yX0_becomeLike, Cond.instanceMethod yX0_becomeLike, Cond.selects RX0 yX0_becomeLike yX0_becomeLike, Cond.initialized RX0, Cond.code yX0_becomeLike cX0_becomeLike 2 none, Cond.fieldLink RX0 9 "SiloPads$Ship" "tonnes" "I", Cond.fieldLink RX0 15 "SiloPads$Ship" "hold" "I"]
def wsL_pads : List Cond := .codeWith yL_pads cL_pads 5 (some .int) [(0, 10, 13, 13), (0, 10, 17, 15), (0, 10, 21, 27)] :: ((wsL_pads_r1 ++ (wsL_pads_r2 ++ wsL_pads_r3)) ++ wsX40 ++ wsX30 ++ wsX10 ++ wsX00 ++ (vx_atS RX4 60 "java/lang/IndexOutOfBoundsException" ["java/lang/RuntimeException", "java/lang/Exception"]).filter goodWord ++ (vx_atS RX4 67 "java/lang/IllegalArgumentException" ["java/lang/RuntimeException", "java/lang/Exception"]).filter goodWord ++ (vx_atS RX4 124 "java/lang/IllegalStateException" ["java/lang/RuntimeException", "java/lang/Exception"]).filter goodWord)
def wsL_shake_r1 : List Cond := [Cond.classLink RL 13 "java/lang/IndexOutOfBoundsException", Cond.classLink RL 27 "java/lang/IllegalStateException", Cond.methodLink RL 29 yX4_shake, Cond.instanceMethod yX4_shake, Cond.selects RX4 yX4_shake yX4_shake, Cond.initialized RX4, Cond.code yX4_shake cX4_shake 4 (some .int), Cond.classLink RX4 56 "java/lang/IndexOutOfBoundsException", Cond.initialized "java/lang/IndexOutOfBoundsException", Cond.classLink RX4 120 "java/lang/IllegalStateException", Cond.initialized "java/lang/IllegalStateException", Cond.fieldLink RX4 10 "SiloPads" "now" "LSiloPads$Yard;", Cond.fieldLink RX4 94 "SiloPads$Yard" "silos" "[LSiloPads$Silo;", Cond.fieldLink RX4 125 "SiloPads$Silo" "layers" "I", Cond.fieldLink RX4 134 "SiloPads$Silo" "shakes" "I", Cond.fieldLink RX4 137 "SiloPads$Yard" "shakes" "I", Cond.fieldLink RX4 141 "SiloPads$Silo" "arch" "I", Cond.methodLink RX4 87 yX4_isNoSilo, Cond.static yX4_isNoSilo, Cond.code yX4_isNoSilo cX4_isNoSilo 1 (some .boolean), Cond.methodLink RX4 68 yX4_saveState, Cond.instanceMethod yX4_saveState, Cond.selects RX4 yX4_saveState yX4_saveState, Cond.code yX4_saveState cX4_saveState 3 none]
def wsL_shake_r2 : List Cond := [Cond.fieldLink RX4 20 "SiloPads" "savedStates" "I", Cond.fieldLink RX4 16 "SiloPads" "saved" "[LSiloPads$Yard;", Cond.methodLink RX4 186 yX3_becomeLike, Cond.instanceMethod yX3_becomeLike, Cond.selects RX3 yX3_becomeLike yX3_becomeLike, Cond.initialized RX3, Cond.code yX3_becomeLike cX3_becomeLike 3 none, Cond.fieldLink RX3 11 "SiloPads$Yard" "silos" "[LSiloPads$Silo;", Cond.fieldLink RX3 19 "SiloPads$Yard" "ships" "[LSiloPads$Ship;", Cond.fieldLink RX3 32 "SiloPads$Yard" "settings" "[I", Cond.fieldLink RX3 35 "SiloPads$Yard" "days" "I", Cond.fieldLink RX3 39 "SiloPads$Yard" "dust" "I", Cond.fieldLink RX3 42 "SiloPads$Yard" "brought" "I", Cond.fieldLink RX3 45 "SiloPads$Yard" "gone" "I", Cond.fieldLink RX3 48 "SiloPads$Yard" "shakes" "I", Cond.fieldLink RX3 51 "SiloPads$Yard" "formed" "I", Cond.methodLink RX3 56 yX1_becomeLike, Cond.instanceMethod yX1_becomeLike, Cond.selects RX1 yX1_becomeLike yX1_becomeLike, Cond.initialized RX1, Cond.code yX1_becomeLike cX1_becomeLike 3 none, Cond.fieldLink RX1 9 "SiloPads$Silo" "tonnes" "[I", Cond.fieldLink RX1 15 "SiloPads$Silo" "ages" "[I", Cond.fieldLink RX1 18 "SiloPads$Silo" "layers" "I"]
def wsL_shake_r3 : List Cond := [Cond.fieldLink RX1 22 "SiloPads$Silo" "padsOn" "I", Cond.fieldLink RX1 25 "SiloPads$Silo" "arch" "I", Cond.fieldLink RX1 28 "SiloPads$Silo" "shakes" "I", Cond.methodLink RX3 60 yX0_becomeLike, Cond.instanceMethod yX0_becomeLike, Cond.selects RX0 yX0_becomeLike yX0_becomeLike, Cond.initialized RX0, Cond.code yX0_becomeLike cX0_becomeLike 2 none, Cond.fieldLink RX0 9 "SiloPads$Ship" "tonnes" "I", Cond.fieldLink RX0 15 "SiloPads$Ship" "hold" "I", Cond.methodLink RX4 130 yX4_shakesToBreak, Cond.instanceMethod yX4_shakesToBreak, Cond.selects RX4 yX4_shakesToBreak yX4_shakesToBreak, Cond.code yX4_shakesToBreak cX4_shakesToBreak 2 (some .int), Cond.fieldLink RX4 117 "SiloPads$Yard" "settings" "[I", Cond.methodLink RX4 317 Lib.Math.max.name, Cond.static Lib.Math.max.name, Cond.initialized "java/lang/Math", Cond.code Lib.Math.max.name Lib.Math.max.code 2 (some .int), Cond.methodLink RX4 320 yX1_tonnesHeld, Cond.instanceMethod yX1_tonnesHeld, Cond.selects RX1 yX1_tonnesHeld yX1_tonnesHeld, Cond.code yX1_tonnesHeld cX1_tonnesHeld 1 (some .int), Cond.methodLink RX1 31 yX1_totalFrom]
def wsL_shake_r4 : List Cond := [Cond.instanceMethod yX1_totalFrom, Cond.selects RX1 yX1_totalFrom yX1_totalFrom, Cond.code yX1_totalFrom cX1_totalFrom 4 (some .int), Cond.methodLink RX4 138 yX1_makeLowestYounger, Cond.instanceMethod yX1_makeLowestYounger, Cond.selects RX1 yX1_makeLowestYounger yX1_makeLowestYounger, Cond.code yX1_makeLowestYounger cX1_makeLowestYounger 1 none, Cond.methodLink RX1 48 Lib.Math.max.name]
def wsL_shake : List Cond := .codeWith yL_shake cL_shake 4 (some .int) [(0, 9, 12, 13), (0, 9, 15, 27)] :: ((wsL_shake_r1 ++ (wsL_shake_r2 ++ (wsL_shake_r3 ++ wsL_shake_r4))) ++ wsX40 ++ wsX30 ++ wsX10 ++ wsX00 ++ (vx_atS RX4 60 "java/lang/IndexOutOfBoundsException" ["java/lang/RuntimeException", "java/lang/Exception"]).filter goodWord ++ (vx_atS RX4 124 "java/lang/IllegalStateException" ["java/lang/RuntimeException", "java/lang/Exception"]).filter goodWord)
def wsL_pass_r1 : List Cond := [Cond.classLink RL 15 "java/lang/IllegalArgumentException", Cond.methodLink RL 33 yX4_pass, Cond.instanceMethod yX4_pass, Cond.selects RX4 yX4_pass yX4_pass, Cond.initialized RX4, Cond.code yX4_pass cX4_pass 2 (some .int), Cond.classLink RX4 63 "java/lang/IllegalArgumentException", Cond.initialized "java/lang/IllegalArgumentException", Cond.methodLink RX4 68 yX4_saveState, Cond.instanceMethod yX4_saveState, Cond.selects RX4 yX4_saveState yX4_saveState, Cond.code yX4_saveState cX4_saveState 3 none, Cond.fieldLink RX4 20 "SiloPads" "savedStates" "I", Cond.fieldLink RX4 16 "SiloPads" "saved" "[LSiloPads$Yard;", Cond.fieldLink RX4 10 "SiloPads" "now" "LSiloPads$Yard;", Cond.methodLink RX4 186 yX3_becomeLike, Cond.instanceMethod yX3_becomeLike, Cond.selects RX3 yX3_becomeLike yX3_becomeLike, Cond.initialized RX3, Cond.code yX3_becomeLike cX3_becomeLike 3 none, Cond.fieldLink RX3 11 "SiloPads$Yard" "silos" "[LSiloPads$Silo;", Cond.fieldLink RX3 19 "SiloPads$Yard" "ships" "[LSiloPads$Ship;", Cond.fieldLink RX3 32 "SiloPads$Yard" "settings" "[I", Cond.fieldLink RX3 35 "SiloPads$Yard" "days" "I"]
def wsL_pass_r2 : List Cond := [Cond.fieldLink RX3 39 "SiloPads$Yard" "dust" "I", Cond.fieldLink RX3 42 "SiloPads$Yard" "brought" "I", Cond.fieldLink RX3 45 "SiloPads$Yard" "gone" "I", Cond.fieldLink RX3 48 "SiloPads$Yard" "shakes" "I", Cond.fieldLink RX3 51 "SiloPads$Yard" "formed" "I", Cond.methodLink RX3 56 yX1_becomeLike, Cond.instanceMethod yX1_becomeLike, Cond.selects RX1 yX1_becomeLike yX1_becomeLike, Cond.initialized RX1, Cond.code yX1_becomeLike cX1_becomeLike 3 none, Cond.fieldLink RX1 9 "SiloPads$Silo" "tonnes" "[I", Cond.fieldLink RX1 15 "SiloPads$Silo" "ages" "[I", Cond.fieldLink RX1 18 "SiloPads$Silo" "layers" "I", Cond.fieldLink RX1 22 "SiloPads$Silo" "padsOn" "I", Cond.fieldLink RX1 25 "SiloPads$Silo" "arch" "I", Cond.fieldLink RX1 28 "SiloPads$Silo" "shakes" "I", Cond.methodLink RX3 60 yX0_becomeLike, Cond.instanceMethod yX0_becomeLike, Cond.selects RX0 yX0_becomeLike yX0_becomeLike, Cond.initialized RX0, Cond.code yX0_becomeLike cX0_becomeLike 2 none, Cond.fieldLink RX0 9 "SiloPads$Ship" "tonnes" "I", Cond.fieldLink RX0 15 "SiloPads$Ship" "hold" "I", Cond.methodLink RX4 146 yX4_passDays]
def wsL_pass_r3 : List Cond := [Cond.instanceMethod yX4_passDays, Cond.selects RX4 yX4_passDays yX4_passDays, Cond.code yX4_passDays cX4_passDays 5 (some .int), Cond.fieldLink RX4 213 "SiloPads$Yard" "days" "I", Cond.fieldLink RX4 94 "SiloPads$Yard" "silos" "[LSiloPads$Silo;", Cond.fieldLink RX4 228 "SiloPads$Yard" "formed" "I", Cond.methodLink RX4 311 yX4_passDayIn, Cond.instanceMethod yX4_passDayIn, Cond.selects RX4 yX4_passDayIn yX4_passDayIn, Cond.code yX4_passDayIn cX4_passDayIn 2 (some .int), Cond.fieldLink RX4 203 "SiloPads$Silo" "ages" "[I", Cond.fieldLink RX4 141 "SiloPads$Silo" "arch" "I", Cond.fieldLink RX4 134 "SiloPads$Silo" "shakes" "I", Cond.methodLink RX4 314 yX1_makeOlder, Cond.instanceMethod yX1_makeOlder, Cond.selects RX1 yX1_makeOlder yX1_makeOlder, Cond.code yX1_makeOlder cX1_makeOlder 2 none, Cond.methodLink RX4 251 yX1_canGetArch, Cond.instanceMethod yX1_canGetArch, Cond.selects RX1 yX1_canGetArch yX1_canGetArch, Cond.code yX1_canGetArch cX1_canGetArch 1 (some .boolean), Cond.methodLink RX4 206 yX4_hardnessAt, Cond.instanceMethod yX4_hardnessAt, Cond.selects RX4 yX4_hardnessAt yX4_hardnessAt]
def wsL_pass_r4 : List Cond := [Cond.code yX4_hardnessAt cX4_hardnessAt 3 (some .int), Cond.fieldLink RX4 117 "SiloPads$Yard" "settings" "[I"]
def wsL_pass : List Cond := .codeWith yL_pass cL_pass 4 (some .int) [(0, 9, 12, 15)] :: ((wsL_pass_r1 ++ (wsL_pass_r2 ++ (wsL_pass_r3 ++ wsL_pass_r4))) ++ wsX40 ++ wsX30 ++ wsX10 ++ wsX00 ++ (vx_atS RX4 67 "java/lang/IllegalArgumentException" ["java/lang/RuntimeException", "java/lang/Exception"]).filter goodWord)
def wsL_set_r1 : List Cond := [Cond.classLink RL 13 "java/lang/IndexOutOfBoundsException", Cond.classLink RL 15 "java/lang/IllegalArgumentException", Cond.classLink RL 27 "java/lang/IllegalStateException", Cond.methodLink RL 36 yX4_set, Cond.instanceMethod yX4_set, Cond.selects RX4 yX4_set yX4_set, Cond.initialized RX4, Cond.code yX4_set cX4_set 4 (some .int), Cond.classLink RX4 56 "java/lang/IndexOutOfBoundsException", Cond.initialized "java/lang/IndexOutOfBoundsException", Cond.classLink RX4 63 "java/lang/IllegalArgumentException", Cond.initialized "java/lang/IllegalArgumentException", Cond.classLink RX4 120 "java/lang/IllegalStateException", Cond.initialized "java/lang/IllegalStateException", Cond.fieldLink RX4 10 "SiloPads" "now" "LSiloPads$Yard;", Cond.fieldLink RX4 117 "SiloPads$Yard" "settings" "[I", Cond.fieldLink RX4 152 "SiloPads" "SETTING_LEAST" "[I", Cond.fieldLink RX4 155 "SiloPads" "SETTING_MOST" "[I", Cond.methodLink RX4 114 yX3_padsOn, Cond.instanceMethod yX3_padsOn, Cond.selects RX3 yX3_padsOn yX3_padsOn, Cond.initialized RX3, Cond.code yX3_padsOn cX3_padsOn 3 (some .int), Cond.fieldLink RX3 11 "SiloPads$Yard" "silos" "[LSiloPads$Silo;"]
def wsL_set_r2 : List Cond := [Cond.fieldLink RX3 70 "SiloPads$Silo" "padsOn" "I", Cond.methodLink RX4 68 yX4_saveState, Cond.instanceMethod yX4_saveState, Cond.selects RX4 yX4_saveState yX4_saveState, Cond.code yX4_saveState cX4_saveState 3 none, Cond.fieldLink RX4 20 "SiloPads" "savedStates" "I", Cond.fieldLink RX4 16 "SiloPads" "saved" "[LSiloPads$Yard;", Cond.methodLink RX4 186 yX3_becomeLike, Cond.instanceMethod yX3_becomeLike, Cond.selects RX3 yX3_becomeLike yX3_becomeLike, Cond.code yX3_becomeLike cX3_becomeLike 3 none, Cond.fieldLink RX3 19 "SiloPads$Yard" "ships" "[LSiloPads$Ship;", Cond.fieldLink RX3 32 "SiloPads$Yard" "settings" "[I", Cond.fieldLink RX3 35 "SiloPads$Yard" "days" "I", Cond.fieldLink RX3 39 "SiloPads$Yard" "dust" "I", Cond.fieldLink RX3 42 "SiloPads$Yard" "brought" "I", Cond.fieldLink RX3 45 "SiloPads$Yard" "gone" "I", Cond.fieldLink RX3 48 "SiloPads$Yard" "shakes" "I", Cond.fieldLink RX3 51 "SiloPads$Yard" "formed" "I", Cond.methodLink RX3 56 yX1_becomeLike, Cond.instanceMethod yX1_becomeLike, Cond.selects RX1 yX1_becomeLike yX1_becomeLike, Cond.initialized RX1, Cond.code yX1_becomeLike cX1_becomeLike 3 none]
def wsL_set_r3 : List Cond := [Cond.fieldLink RX1 9 "SiloPads$Silo" "tonnes" "[I", Cond.fieldLink RX1 15 "SiloPads$Silo" "ages" "[I", Cond.fieldLink RX1 18 "SiloPads$Silo" "layers" "I", Cond.fieldLink RX1 22 "SiloPads$Silo" "padsOn" "I", Cond.fieldLink RX1 25 "SiloPads$Silo" "arch" "I", Cond.fieldLink RX1 28 "SiloPads$Silo" "shakes" "I", Cond.methodLink RX3 60 yX0_becomeLike, Cond.instanceMethod yX0_becomeLike, Cond.selects RX0 yX0_becomeLike yX0_becomeLike, Cond.initialized RX0, Cond.code yX0_becomeLike cX0_becomeLike 2 none, Cond.fieldLink RX0 9 "SiloPads$Ship" "tonnes" "I", Cond.fieldLink RX0 15 "SiloPads$Ship" "hold" "I"]
def wsL_set : List Cond := .codeWith yL_set cL_set 5 (some .int) [(0, 10, 13, 13), (0, 10, 17, 15), (0, 10, 21, 27)] :: ((wsL_set_r1 ++ (wsL_set_r2 ++ wsL_set_r3)) ++ wsX40 ++ wsX30 ++ wsX10 ++ wsX00 ++ (vx_atS RX4 60 "java/lang/IndexOutOfBoundsException" ["java/lang/RuntimeException", "java/lang/Exception"]).filter goodWord ++ (vx_atS RX4 67 "java/lang/IllegalArgumentException" ["java/lang/RuntimeException", "java/lang/Exception"]).filter goodWord ++ (vx_atS RX4 124 "java/lang/IllegalStateException" ["java/lang/RuntimeException", "java/lang/Exception"]).filter goodWord)
def wsL_append : List Cond := .codeWith yL_append cL_append 4 (some .int) [(0, 9, 12, 15), (0, 9, 15, 27)] :: ([.classLink RL 15 "java/lang/IllegalArgumentException", .classLink RL 27 "java/lang/IllegalStateException", .methodLink RL 39 yX4_append, .instanceMethod yX4_append, .selects RX4 yX4_append yX4_append, .initialized RX4, .code yX4_append cX4_append 2 (some .int), .classLink RX4 63 "java/lang/IllegalArgumentException", .initialized "java/lang/IllegalArgumentException", .classLink RX4 120 "java/lang/IllegalStateException", .initialized "java/lang/IllegalStateException", .fieldLink RX4 28 "SiloPads" "length" "I", .fieldLink RX4 24 "SiloPads" "codes" "[I"] ++ wsX40 ++ (vx_atS RX4 67 "java/lang/IllegalArgumentException" ["java/lang/RuntimeException", "java/lang/Exception"]).filter goodWord ++ (vx_atS RX4 124 "java/lang/IllegalStateException" ["java/lang/RuntimeException", "java/lang/Exception"]).filter goodWord)
def wsL_play_r1 : List Cond := [Cond.classLink RL 15 "java/lang/IllegalArgumentException", Cond.methodLink RL 42 yX4_play, Cond.instanceMethod yX4_play, Cond.selects RX4 yX4_play yX4_play, Cond.initialized RX4, Cond.code yX4_play cX4_play 2 (some .int), Cond.classLink RX4 63 "java/lang/IllegalArgumentException", Cond.initialized "java/lang/IllegalArgumentException", Cond.fieldLink RX4 28 "SiloPads" "length" "I", Cond.fieldLink RX4 34 "SiloPads" "reader" "LSiloPads$TextReader;", Cond.methodLink RX4 172 yX4_firstError, Cond.instanceMethod yX4_firstError, Cond.selects RX4 yX4_firstError yX4_firstError, Cond.code yX4_firstError cX4_firstError 2 (some .int), Cond.fieldLink RX4 24 "SiloPads" "codes" "[I", Cond.methodLink RX4 166 yX2_begin, Cond.instanceMethod yX2_begin, Cond.selects RX2 yX2_begin yX2_begin, Cond.initialized RX2, Cond.code yX2_begin cX2_begin 1 none, Cond.fieldLink RX2 11 "SiloPads$TextReader" "place" "I", Cond.methodLink RX4 169 yX2_take, Cond.instanceMethod yX2_take, Cond.selects RX2 yX2_take yX2_take]
def wsL_play_r2 : List Cond := [Cond.code yX2_take cX2_take 2 (some .boolean), Cond.methodLink RX2 27 yX2_takePartStart, Cond.instanceMethod yX2_takePartStart, Cond.selects RX2 yX2_takePartStart yX2_takePartStart, Cond.code yX2_takePartStart cX2_takePartStart 2 (some .boolean), Cond.fieldLink RX2 21 "SiloPads$TextReader" "kind" "I", Cond.fieldLink RX2 15 "SiloPads$TextReader" "silo" "I", Cond.methodLink RX2 37 yX2_moveOn, Cond.instanceMethod yX2_moveOn, Cond.selects RX2 yX2_moveOn yX2_moveOn, Cond.code yX2_moveOn cX2_moveOn 3 (some .boolean), Cond.static yX4_isNoSilo, Cond.code yX4_isNoSilo cX4_isNoSilo 1 (some .boolean), Cond.methodLink RX2 31 yX2_takeSign, Cond.instanceMethod yX2_takeSign, Cond.selects RX2 yX2_takeSign yX2_takeSign, Cond.code yX2_takeSign cX2_takeSign 2 (some .boolean), Cond.methodLink RX2 34 yX2_takeShip, Cond.instanceMethod yX2_takeShip, Cond.selects RX2 yX2_takeShip yX2_takeShip, Cond.code yX2_takeShip cX2_takeShip 2 (some .boolean), Cond.fieldLink RX2 18 "SiloPads$TextReader" "ship" "I", Cond.static yX4_isNoShip, Cond.code yX4_isNoShip cX4_isNoShip 1 (some .boolean)]
def wsL_play_r3 : List Cond := [Cond.methodLink RX2 41 yX2_takeFirstDigit, Cond.instanceMethod yX2_takeFirstDigit, Cond.selects RX2 yX2_takeFirstDigit yX2_takeFirstDigit, Cond.code yX2_takeFirstDigit cX2_takeFirstDigit 2 (some .boolean), Cond.fieldLink RX2 24 "SiloPads$TextReader" "number" "I", Cond.methodLink RX2 44 yX2_takeNextDigit, Cond.instanceMethod yX2_takeNextDigit, Cond.selects RX2 yX2_takeNextDigit yX2_takeNextDigit, Cond.code yX2_takeNextDigit cX2_takeNextDigit 2 (some .boolean), Cond.methodLink RX2 53 yX2_numberMost, Cond.instanceMethod yX2_numberMost, Cond.selects RX2 yX2_numberMost yX2_numberMost, Cond.code yX2_numberMost cX2_numberMost 1 (some .int), Cond.methodLink RX4 175 yX2_isComplete, Cond.instanceMethod yX2_isComplete, Cond.selects RX2 yX2_isComplete yX2_isComplete, Cond.code yX2_isComplete cX2_isComplete 1 (some .boolean), Cond.methodLink RX4 68 yX4_saveState, Cond.instanceMethod yX4_saveState, Cond.selects RX4 yX4_saveState yX4_saveState, Cond.code yX4_saveState cX4_saveState 3 none, Cond.fieldLink RX4 20 "SiloPads" "savedStates" "I", Cond.fieldLink RX4 16 "SiloPads" "saved" "[LSiloPads$Yard;", Cond.fieldLink RX4 10 "SiloPads" "now" "LSiloPads$Yard;"]
def wsL_play_r4 : List Cond := [Cond.methodLink RX4 186 yX3_becomeLike, Cond.instanceMethod yX3_becomeLike, Cond.selects RX3 yX3_becomeLike yX3_becomeLike, Cond.initialized RX3, Cond.code yX3_becomeLike cX3_becomeLike 3 none, Cond.fieldLink RX3 11 "SiloPads$Yard" "silos" "[LSiloPads$Silo;", Cond.fieldLink RX3 19 "SiloPads$Yard" "ships" "[LSiloPads$Ship;", Cond.fieldLink RX3 32 "SiloPads$Yard" "settings" "[I", Cond.fieldLink RX3 35 "SiloPads$Yard" "days" "I", Cond.fieldLink RX3 39 "SiloPads$Yard" "dust" "I", Cond.fieldLink RX3 42 "SiloPads$Yard" "brought" "I", Cond.fieldLink RX3 45 "SiloPads$Yard" "gone" "I", Cond.fieldLink RX3 48 "SiloPads$Yard" "shakes" "I", Cond.fieldLink RX3 51 "SiloPads$Yard" "formed" "I", Cond.methodLink RX3 56 yX1_becomeLike, Cond.instanceMethod yX1_becomeLike, Cond.selects RX1 yX1_becomeLike yX1_becomeLike, Cond.initialized RX1, Cond.code yX1_becomeLike cX1_becomeLike 3 none, Cond.fieldLink RX1 9 "SiloPads$Silo" "tonnes" "[I", Cond.fieldLink RX1 15 "SiloPads$Silo" "ages" "[I", Cond.fieldLink RX1 18 "SiloPads$Silo" "layers" "I", Cond.fieldLink RX1 22 "SiloPads$Silo" "padsOn" "I", Cond.fieldLink RX1 25 "SiloPads$Silo" "arch" "I"]
def wsL_play_r5 : List Cond := [Cond.fieldLink RX1 28 "SiloPads$Silo" "shakes" "I", Cond.methodLink RX3 60 yX0_becomeLike, Cond.instanceMethod yX0_becomeLike, Cond.selects RX0 yX0_becomeLike yX0_becomeLike, Cond.initialized RX0, Cond.code yX0_becomeLike cX0_becomeLike 2 none, Cond.fieldLink RX0 9 "SiloPads$Ship" "tonnes" "I", Cond.fieldLink RX0 15 "SiloPads$Ship" "hold" "I", Cond.methodLink RX4 181 yX4_playParts, Cond.instanceMethod yX4_playParts, Cond.selects RX4 yX4_playParts yX4_playParts, Cond.code yX4_playParts cX4_playParts 3 (some .int), Cond.methodLink RX4 323 yX4_playPart, Cond.instanceMethod yX4_playPart, Cond.selects RX4 yX4_playPart yX4_playPart, Cond.code yX4_playPart cX4_playPart 3 (some .int), Cond.fieldLink RX4 326 "SiloPads$TextReader" "kind" "I", Cond.fieldLink RX4 329 "SiloPads$TextReader" "number" "I", Cond.fieldLink RX4 94 "SiloPads$Yard" "silos" "[LSiloPads$Silo;", Cond.fieldLink RX4 332 "SiloPads$TextReader" "silo" "I", Cond.fieldLink RX4 71 "SiloPads$Yard" "ships" "[LSiloPads$Ship;", Cond.fieldLink RX4 335 "SiloPads$TextReader" "ship" "I", Cond.methodLink RX4 146 yX4_passDays, Cond.instanceMethod yX4_passDays]
def wsL_play_r6 : List Cond := [Cond.selects RX4 yX4_passDays yX4_passDays, Cond.code yX4_passDays cX4_passDays 5 (some .int), Cond.fieldLink RX4 213 "SiloPads$Yard" "days" "I", Cond.fieldLink RX4 228 "SiloPads$Yard" "formed" "I", Cond.methodLink RX4 311 yX4_passDayIn, Cond.instanceMethod yX4_passDayIn, Cond.selects RX4 yX4_passDayIn yX4_passDayIn, Cond.code yX4_passDayIn cX4_passDayIn 2 (some .int), Cond.fieldLink RX4 203 "SiloPads$Silo" "ages" "[I", Cond.fieldLink RX4 141 "SiloPads$Silo" "arch" "I", Cond.fieldLink RX4 134 "SiloPads$Silo" "shakes" "I", Cond.methodLink RX4 314 yX1_makeOlder, Cond.instanceMethod yX1_makeOlder, Cond.selects RX1 yX1_makeOlder yX1_makeOlder, Cond.code yX1_makeOlder cX1_makeOlder 2 none, Cond.methodLink RX4 251 yX1_canGetArch, Cond.instanceMethod yX1_canGetArch, Cond.selects RX1 yX1_canGetArch yX1_canGetArch, Cond.code yX1_canGetArch cX1_canGetArch 1 (some .boolean), Cond.methodLink RX4 206 yX4_hardnessAt, Cond.instanceMethod yX4_hardnessAt, Cond.selects RX4 yX4_hardnessAt yX4_hardnessAt, Cond.code yX4_hardnessAt cX4_hardnessAt 3 (some .int), Cond.fieldLink RX4 117 "SiloPads$Yard" "settings" "[I"]
def wsL_play_r7 : List Cond := [Cond.methodLink RX4 98 yX4_bringIn, Cond.instanceMethod yX4_bringIn, Cond.selects RX4 yX4_bringIn yX4_bringIn, Cond.code yX4_bringIn cX4_bringIn 5 (some .int), Cond.fieldLink RX4 75 "SiloPads$Ship" "tonnes" "I", Cond.methodLink RX4 257 Lib.Math.min.name, Cond.static Lib.Math.min.name, Cond.initialized "java/lang/Math", Cond.code Lib.Math.min.name Lib.Math.min.code 2 (some .int), Cond.methodLink RX4 294 yX1_place, Cond.instanceMethod yX1_place, Cond.selects RX1 yX1_place yX1_place, Cond.code yX1_place cX1_place 2 (some .int), Cond.methodLink RX1 42 Lib.Math.min.name, Cond.methodLink RX1 35 yX1_total, Cond.instanceMethod yX1_total, Cond.selects RX1 yX1_total yX1_total, Cond.code yX1_total cX1_total 1 (some .int), Cond.methodLink RX1 31 yX1_totalFrom, Cond.instanceMethod yX1_totalFrom, Cond.selects RX1 yX1_totalFrom yX1_totalFrom, Cond.code yX1_totalFrom cX1_totalFrom 4 (some .int), Cond.methodLink RX1 39 yX1_placeOnTop, Cond.instanceMethod yX1_placeOnTop]
def wsL_play_r8 : List Cond := [Cond.selects RX1 yX1_placeOnTop yX1_placeOnTop, Cond.code yX1_placeOnTop cX1_placeOnTop 1 (some .int), Cond.methodLink RX4 297 yX1_fill, Cond.instanceMethod yX1_fill, Cond.selects RX1 yX1_fill yX1_fill, Cond.code yX1_fill cX1_fill 4 none, Cond.methodLink RX4 104 yX4_letOut, Cond.instanceMethod yX4_letOut, Cond.selects RX4 yX4_letOut yX4_letOut, Cond.code yX4_letOut cX4_letOut 6 (some .int), Cond.fieldLink RX4 222 "SiloPads$Yard" "dust" "I", Cond.methodLink RX4 190 yX1_total, Cond.methodLink RX4 244 yX4_pour, Cond.instanceMethod yX4_pour, Cond.selects RX4 yX4_pour yX4_pour, Cond.code yX4_pour cX4_pour 6 (some .int), Cond.methodLink RX4 301 yX4_pourForHour, Cond.instanceMethod yX4_pourForHour, Cond.selects RX4 yX4_pourForHour yX4_pourForHour, Cond.code yX4_pourForHour cX4_pourForHour 5 (some .int), Cond.fieldLink RX4 125 "SiloPads$Silo" "layers" "I", Cond.fieldLink RX4 111 "SiloPads$Silo" "padsOn" "I", Cond.fieldLink RX4 201 "SiloPads$Silo" "tonnes" "[I", Cond.methodLink RX4 193 yX4_outInHour]
def wsL_play_r9 : List Cond := [Cond.instanceMethod yX4_outInHour, Cond.selects RX4 yX4_outInHour yX4_outInHour, Cond.code yX4_outInHour cX4_outInHour 3 (some .int), Cond.methodLink RX4 233 yX0_room, Cond.instanceMethod yX0_room, Cond.selects RX0 yX0_room yX0_room, Cond.code yX0_room cX0_room 1 (some .int), Cond.methodLink RX4 305 yX4_dustOf, Cond.instanceMethod yX4_dustOf, Cond.selects RX4 yX4_dustOf yX4_dustOf, Cond.code yX4_dustOf cX4_dustOf 3 (some .int), Cond.methodLink RX4 308 yX1_takeFromLowest, Cond.instanceMethod yX1_takeFromLowest, Cond.selects RX1 yX1_takeFromLowest yX1_takeFromLowest, Cond.code yX1_takeFromLowest cX1_takeFromLowest 3 none]
def wsL_play : List Cond := .codeWith yL_play cL_play 3 (some .int) [(0, 8, 11, 15)] :: ((wsL_play_r1 ++ (wsL_play_r2 ++ (wsL_play_r3 ++ (wsL_play_r4 ++ (wsL_play_r5 ++ (wsL_play_r6 ++ (wsL_play_r7 ++ (wsL_play_r8 ++ wsL_play_r9)))))))) ++ wsX40 ++ wsX20 ++ wsX30 ++ wsX10 ++ wsX00 ++ (vx_atS RX4 67 "java/lang/IllegalArgumentException" ["java/lang/RuntimeException", "java/lang/Exception"]).filter goodWord)
def wsL_undo_r1 : List Cond := [Cond.classLink RL 27 "java/lang/IllegalStateException", Cond.methodLink RL 46 yX4_undo, Cond.instanceMethod yX4_undo, Cond.selects RX4 yX4_undo yX4_undo, Cond.initialized RX4, Cond.code yX4_undo cX4_undo 1 (some .int), Cond.classLink RX4 120 "java/lang/IllegalStateException", Cond.initialized "java/lang/IllegalStateException", Cond.fieldLink RX4 20 "SiloPads" "savedStates" "I", Cond.fieldLink RX4 10 "SiloPads" "now" "LSiloPads$Yard;", Cond.fieldLink RX4 16 "SiloPads" "saved" "[LSiloPads$Yard;", Cond.methodLink RX4 186 yX3_becomeLike, Cond.instanceMethod yX3_becomeLike, Cond.selects RX3 yX3_becomeLike yX3_becomeLike, Cond.initialized RX3, Cond.code yX3_becomeLike cX3_becomeLike 3 none, Cond.fieldLink RX3 11 "SiloPads$Yard" "silos" "[LSiloPads$Silo;", Cond.fieldLink RX3 19 "SiloPads$Yard" "ships" "[LSiloPads$Ship;", Cond.fieldLink RX3 32 "SiloPads$Yard" "settings" "[I", Cond.fieldLink RX3 35 "SiloPads$Yard" "days" "I", Cond.fieldLink RX3 39 "SiloPads$Yard" "dust" "I", Cond.fieldLink RX3 42 "SiloPads$Yard" "brought" "I", Cond.fieldLink RX3 45 "SiloPads$Yard" "gone" "I", Cond.fieldLink RX3 48 "SiloPads$Yard" "shakes" "I"]
def wsL_undo_r2 : List Cond := [Cond.fieldLink RX3 51 "SiloPads$Yard" "formed" "I", Cond.methodLink RX3 56 yX1_becomeLike, Cond.instanceMethod yX1_becomeLike, Cond.selects RX1 yX1_becomeLike yX1_becomeLike, Cond.initialized RX1, Cond.code yX1_becomeLike cX1_becomeLike 3 none, Cond.fieldLink RX1 9 "SiloPads$Silo" "tonnes" "[I", Cond.fieldLink RX1 15 "SiloPads$Silo" "ages" "[I", Cond.fieldLink RX1 18 "SiloPads$Silo" "layers" "I", Cond.fieldLink RX1 22 "SiloPads$Silo" "padsOn" "I", Cond.fieldLink RX1 25 "SiloPads$Silo" "arch" "I", Cond.fieldLink RX1 28 "SiloPads$Silo" "shakes" "I", Cond.methodLink RX3 60 yX0_becomeLike, Cond.instanceMethod yX0_becomeLike, Cond.selects RX0 yX0_becomeLike yX0_becomeLike, Cond.initialized RX0, Cond.code yX0_becomeLike cX0_becomeLike 2 none, Cond.fieldLink RX0 9 "SiloPads$Ship" "tonnes" "I", Cond.fieldLink RX0 15 "SiloPads$Ship" "hold" "I"]
def wsL_undo : List Cond := .codeWith yL_undo cL_undo 3 (some .int) [(0, 8, 11, 27)] :: ((wsL_undo_r1 ++ wsL_undo_r2) ++ wsX40 ++ wsX30 ++ wsX10 ++ wsX00 ++ (vx_atS RX4 124 "java/lang/IllegalStateException" ["java/lang/RuntimeException", "java/lang/Exception"]).filter goodWord)
def wsL_silo_r1 : List Cond := [Cond.classLink RL 13 "java/lang/IndexOutOfBoundsException", Cond.classLink RL 15 "java/lang/IllegalArgumentException", Cond.methodLink RL 49 yX4_silo, Cond.instanceMethod yX4_silo, Cond.selects RX4 yX4_silo yX4_silo, Cond.initialized RX4, Cond.code yX4_silo cX4_silo 4 (some .int), Cond.classLink RX4 56 "java/lang/IndexOutOfBoundsException", Cond.initialized "java/lang/IndexOutOfBoundsException", Cond.classLink RX4 63 "java/lang/IllegalArgumentException", Cond.initialized "java/lang/IllegalArgumentException", Cond.fieldLink RX4 10 "SiloPads" "now" "LSiloPads$Yard;", Cond.fieldLink RX4 94 "SiloPads$Yard" "silos" "[LSiloPads$Silo;", Cond.fieldLink RX4 125 "SiloPads$Silo" "layers" "I", Cond.fieldLink RX4 111 "SiloPads$Silo" "padsOn" "I", Cond.fieldLink RX4 141 "SiloPads$Silo" "arch" "I", Cond.fieldLink RX4 134 "SiloPads$Silo" "shakes" "I", Cond.methodLink RX4 87 yX4_isNoSilo, Cond.static yX4_isNoSilo, Cond.code yX4_isNoSilo cX4_isNoSilo 1 (some .boolean), Cond.methodLink RX4 190 yX1_total, Cond.instanceMethod yX1_total, Cond.selects RX1 yX1_total yX1_total, Cond.initialized RX1]
def wsL_silo_r2 : List Cond := [Cond.code yX1_total cX1_total 1 (some .int), Cond.methodLink RX1 31 yX1_totalFrom, Cond.instanceMethod yX1_totalFrom, Cond.selects RX1 yX1_totalFrom yX1_totalFrom, Cond.code yX1_totalFrom cX1_totalFrom 4 (some .int), Cond.fieldLink RX1 18 "SiloPads$Silo" "layers" "I", Cond.fieldLink RX1 9 "SiloPads$Silo" "tonnes" "[I", Cond.methodLink RX4 193 yX4_outInHour, Cond.instanceMethod yX4_outInHour, Cond.selects RX4 yX4_outInHour yX4_outInHour, Cond.code yX4_outInHour cX4_outInHour 3 (some .int), Cond.fieldLink RX4 203 "SiloPads$Silo" "ages" "[I", Cond.methodLink RX4 206 yX4_hardnessAt, Cond.instanceMethod yX4_hardnessAt, Cond.selects RX4 yX4_hardnessAt yX4_hardnessAt, Cond.code yX4_hardnessAt cX4_hardnessAt 3 (some .int), Cond.fieldLink RX4 117 "SiloPads$Yard" "settings" "[I"]
def wsL_silo : List Cond := .codeWith yL_silo cL_silo 5 (some .int) [(0, 10, 13, 13), (0, 10, 17, 15)] :: ((wsL_silo_r1 ++ wsL_silo_r2) ++ wsX40 ++ wsX30 ++ wsX10 ++ (vx_atS RX4 60 "java/lang/IndexOutOfBoundsException" ["java/lang/RuntimeException", "java/lang/Exception"]).filter goodWord ++ (vx_atS RX4 67 "java/lang/IllegalArgumentException" ["java/lang/RuntimeException", "java/lang/Exception"]).filter goodWord)
def wsL_layer : List Cond := .codeWith yL_layer cL_layer 6 (some .int) [(0, 12, 15, 13), (0, 12, 19, 15)] :: ([.classLink RL 13 "java/lang/IndexOutOfBoundsException", .classLink RL 15 "java/lang/IllegalArgumentException", .methodLink RL 52 yX4_layer, .instanceMethod yX4_layer, .selects RX4 yX4_layer yX4_layer, .initialized RX4, .code yX4_layer cX4_layer 5 (some .int), .classLink RX4 56 "java/lang/IndexOutOfBoundsException", .initialized "java/lang/IndexOutOfBoundsException", .classLink RX4 63 "java/lang/IllegalArgumentException", .initialized "java/lang/IllegalArgumentException", .fieldLink RX4 10 "SiloPads" "now" "LSiloPads$Yard;", .fieldLink RX4 94 "SiloPads$Yard" "silos" "[LSiloPads$Silo;", .fieldLink RX4 125 "SiloPads$Silo" "layers" "I", .fieldLink RX4 201 "SiloPads$Silo" "tonnes" "[I", .fieldLink RX4 203 "SiloPads$Silo" "ages" "[I", .methodLink RX4 87 yX4_isNoSilo, .static yX4_isNoSilo, .code yX4_isNoSilo cX4_isNoSilo 1 (some .boolean), .methodLink RX4 206 yX4_hardnessAt, .instanceMethod yX4_hardnessAt, .selects RX4 yX4_hardnessAt yX4_hardnessAt, .code yX4_hardnessAt cX4_hardnessAt 3 (some .int), .fieldLink RX4 117 "SiloPads$Yard" "settings" "[I"] ++ wsX40 ++ wsX30 ++ wsX10 ++ (vx_atS RX4 60 "java/lang/IndexOutOfBoundsException" ["java/lang/RuntimeException", "java/lang/Exception"]).filter goodWord ++ (vx_atS RX4 67 "java/lang/IllegalArgumentException" ["java/lang/RuntimeException", "java/lang/Exception"]).filter goodWord)
def wsL_shipOf : List Cond := .codeWith yL_shipOf cL_shipOf 5 (some .int) [(0, 10, 13, 13), (0, 10, 17, 15)] :: ([.classLink RL 13 "java/lang/IndexOutOfBoundsException", .classLink RL 15 "java/lang/IllegalArgumentException", .methodLink RL 55 yX4_shipOf, .instanceMethod yX4_shipOf, .selects RX4 yX4_shipOf yX4_shipOf, .initialized RX4, .code yX4_shipOf cX4_shipOf 3 (some .int), .classLink RX4 56 "java/lang/IndexOutOfBoundsException", .initialized "java/lang/IndexOutOfBoundsException", .classLink RX4 63 "java/lang/IllegalArgumentException", .initialized "java/lang/IllegalArgumentException", .fieldLink RX4 10 "SiloPads" "now" "LSiloPads$Yard;", .fieldLink RX4 71 "SiloPads$Yard" "ships" "[LSiloPads$Ship;", .fieldLink RX4 75 "SiloPads$Ship" "tonnes" "I", .fieldLink RX4 78 "SiloPads$Ship" "hold" "I", .methodLink RX4 52 yX4_isNoShip, .static yX4_isNoShip, .code yX4_isNoShip cX4_isNoShip 1 (some .boolean)] ++ wsX40 ++ wsX30 ++ wsX00 ++ (vx_atS RX4 60 "java/lang/IndexOutOfBoundsException" ["java/lang/RuntimeException", "java/lang/Exception"]).filter goodWord ++ (vx_atS RX4 67 "java/lang/IllegalArgumentException" ["java/lang/RuntimeException", "java/lang/Exception"]).filter goodWord)
def wsL_count_r1 : List Cond := [Cond.classLink RL 15 "java/lang/IllegalArgumentException", Cond.methodLink RL 58 yX4_count, Cond.instanceMethod yX4_count, Cond.selects RX4 yX4_count yX4_count, Cond.initialized RX4, Cond.code yX4_count cX4_count 2 (some .int), Cond.classLink RX4 63 "java/lang/IllegalArgumentException", Cond.initialized "java/lang/IllegalArgumentException", Cond.fieldLink RX4 10 "SiloPads" "now" "LSiloPads$Yard;", Cond.fieldLink RX4 213 "SiloPads$Yard" "days" "I", Cond.fieldLink RX4 222 "SiloPads$Yard" "dust" "I", Cond.fieldLink RX4 81 "SiloPads$Yard" "brought" "I", Cond.fieldLink RX4 84 "SiloPads$Yard" "gone" "I", Cond.fieldLink RX4 137 "SiloPads$Yard" "shakes" "I", Cond.fieldLink RX4 228 "SiloPads$Yard" "formed" "I", Cond.fieldLink RX4 117 "SiloPads$Yard" "settings" "[I", Cond.fieldLink RX4 20 "SiloPads" "savedStates" "I", Cond.methodLink RX4 216 yX3_siloTonnes, Cond.instanceMethod yX3_siloTonnes, Cond.selects RX3 yX3_siloTonnes yX3_siloTonnes, Cond.initialized RX3, Cond.code yX3_siloTonnes cX3_siloTonnes 3 (some .int), Cond.fieldLink RX3 11 "SiloPads$Yard" "silos" "[LSiloPads$Silo;", Cond.methodLink RX3 63 yX1_total]
def wsL_count_r2 : List Cond := [Cond.instanceMethod yX1_total, Cond.selects RX1 yX1_total yX1_total, Cond.initialized RX1, Cond.code yX1_total cX1_total 1 (some .int), Cond.methodLink RX1 31 yX1_totalFrom, Cond.instanceMethod yX1_totalFrom, Cond.selects RX1 yX1_totalFrom yX1_totalFrom, Cond.code yX1_totalFrom cX1_totalFrom 4 (some .int), Cond.fieldLink RX1 18 "SiloPads$Silo" "layers" "I", Cond.fieldLink RX1 9 "SiloPads$Silo" "tonnes" "[I", Cond.methodLink RX4 219 yX3_shipTonnes, Cond.instanceMethod yX3_shipTonnes, Cond.selects RX3 yX3_shipTonnes yX3_shipTonnes, Cond.code yX3_shipTonnes cX3_shipTonnes 3 (some .int), Cond.fieldLink RX3 19 "SiloPads$Yard" "ships" "[LSiloPads$Ship;", Cond.fieldLink RX3 67 "SiloPads$Ship" "tonnes" "I", Cond.methodLink RX4 114 yX3_padsOn, Cond.instanceMethod yX3_padsOn, Cond.selects RX3 yX3_padsOn yX3_padsOn, Cond.code yX3_padsOn cX3_padsOn 3 (some .int), Cond.fieldLink RX3 70 "SiloPads$Silo" "padsOn" "I", Cond.methodLink RX4 225 yX3_arches, Cond.instanceMethod yX3_arches, Cond.selects RX3 yX3_arches yX3_arches]
def wsL_count_r3 : List Cond := [Cond.code yX3_arches cX3_arches 3 (some .int), Cond.fieldLink RX3 73 "SiloPads$Silo" "arch" "I"]
def wsL_count : List Cond := .codeWith yL_count cL_count 4 (some .int) [(0, 9, 12, 15)] :: ((wsL_count_r1 ++ (wsL_count_r2 ++ wsL_count_r3)) ++ wsX40 ++ wsX30 ++ wsX10 ++ wsX00 ++ (vx_atS RX4 67 "java/lang/IllegalArgumentException" ["java/lang/RuntimeException", "java/lang/Exception"]).filter goodWord)
def wsL_whyNot_r1 : List Cond := [Cond.classLink RL 13 "java/lang/IndexOutOfBoundsException", Cond.methodLink RL 61 yX4_whyNot, Cond.instanceMethod yX4_whyNot, Cond.selects RX4 yX4_whyNot yX4_whyNot, Cond.initialized RX4, Cond.code yX4_whyNot cX4_whyNot 4 (some .int), Cond.classLink RX4 56 "java/lang/IndexOutOfBoundsException", Cond.initialized "java/lang/IndexOutOfBoundsException", Cond.fieldLink RX4 10 "SiloPads" "now" "LSiloPads$Yard;", Cond.fieldLink RX4 94 "SiloPads$Yard" "silos" "[LSiloPads$Silo;", Cond.fieldLink RX4 125 "SiloPads$Silo" "layers" "I", Cond.fieldLink RX4 141 "SiloPads$Silo" "arch" "I", Cond.fieldLink RX4 71 "SiloPads$Yard" "ships" "[LSiloPads$Ship;", Cond.fieldLink RX4 111 "SiloPads$Silo" "padsOn" "I", Cond.methodLink RX4 87 yX4_isNoSilo, Cond.static yX4_isNoSilo, Cond.code yX4_isNoSilo cX4_isNoSilo 1 (some .boolean), Cond.methodLink RX4 52 yX4_isNoShip, Cond.static yX4_isNoShip, Cond.code yX4_isNoShip cX4_isNoShip 1 (some .boolean), Cond.methodLink RX4 233 yX0_room, Cond.instanceMethod yX0_room, Cond.selects RX0 yX0_room yX0_room, Cond.initialized RX0]
def wsL_whyNot_r2 : List Cond := [Cond.code yX0_room cX0_room 1 (some .int), Cond.fieldLink RX0 15 "SiloPads$Ship" "hold" "I", Cond.fieldLink RX0 9 "SiloPads$Ship" "tonnes" "I", Cond.methodLink RX4 193 yX4_outInHour, Cond.instanceMethod yX4_outInHour, Cond.selects RX4 yX4_outInHour yX4_outInHour, Cond.code yX4_outInHour cX4_outInHour 3 (some .int), Cond.fieldLink RX4 203 "SiloPads$Silo" "ages" "[I", Cond.methodLink RX4 206 yX4_hardnessAt, Cond.instanceMethod yX4_hardnessAt, Cond.selects RX4 yX4_hardnessAt yX4_hardnessAt, Cond.code yX4_hardnessAt cX4_hardnessAt 3 (some .int), Cond.fieldLink RX4 117 "SiloPads$Yard" "settings" "[I"]
def wsL_whyNot : List Cond := .codeWith yL_whyNot cL_whyNot 5 (some .int) [(0, 10, 13, 13)] :: ((wsL_whyNot_r1 ++ wsL_whyNot_r2) ++ wsX40 ++ wsX30 ++ wsX10 ++ wsX00 ++ (vx_atS RX4 60 "java/lang/IndexOutOfBoundsException" ["java/lang/RuntimeException", "java/lang/Exception"]).filter goodWord)
def wsL_ifFlowed_r1 : List Cond := [Cond.classLink RL 13 "java/lang/IndexOutOfBoundsException", Cond.classLink RL 15 "java/lang/IllegalArgumentException", Cond.methodLink RL 64 yX4_ifFlowed, Cond.instanceMethod yX4_ifFlowed, Cond.selects RX4 yX4_ifFlowed yX4_ifFlowed, Cond.initialized RX4, Cond.code yX4_ifFlowed cX4_ifFlowed 5 (some .int), Cond.classLink RX4 56 "java/lang/IndexOutOfBoundsException", Cond.initialized "java/lang/IndexOutOfBoundsException", Cond.classLink RX4 63 "java/lang/IllegalArgumentException", Cond.initialized "java/lang/IllegalArgumentException", Cond.fieldLink RX4 41 "SiloPads" "trialSilo" "LSiloPads$Silo;", Cond.fieldLink RX4 10 "SiloPads" "now" "LSiloPads$Yard;", Cond.fieldLink RX4 94 "SiloPads$Yard" "silos" "[LSiloPads$Silo;", Cond.fieldLink RX4 111 "SiloPads$Silo" "padsOn" "I", Cond.fieldLink RX4 48 "SiloPads" "trialShip" "LSiloPads$Ship;", Cond.fieldLink RX4 71 "SiloPads$Yard" "ships" "[LSiloPads$Ship;", Cond.methodLink RX4 87 yX4_isNoSilo, Cond.static yX4_isNoSilo, Cond.code yX4_isNoSilo cX4_isNoSilo 1 (some .boolean), Cond.methodLink RX4 52 yX4_isNoShip, Cond.static yX4_isNoShip, Cond.code yX4_isNoShip cX4_isNoShip 1 (some .boolean), Cond.methodLink RX4 238 yX1_becomeLike]
def wsL_ifFlowed_r2 : List Cond := [Cond.instanceMethod yX1_becomeLike, Cond.selects RX1 yX1_becomeLike yX1_becomeLike, Cond.initialized RX1, Cond.code yX1_becomeLike cX1_becomeLike 3 none, Cond.fieldLink RX1 9 "SiloPads$Silo" "tonnes" "[I", Cond.fieldLink RX1 15 "SiloPads$Silo" "ages" "[I", Cond.fieldLink RX1 18 "SiloPads$Silo" "layers" "I", Cond.fieldLink RX1 22 "SiloPads$Silo" "padsOn" "I", Cond.fieldLink RX1 25 "SiloPads$Silo" "arch" "I", Cond.fieldLink RX1 28 "SiloPads$Silo" "shakes" "I", Cond.methodLink RX4 241 yX0_becomeLike, Cond.instanceMethod yX0_becomeLike, Cond.selects RX0 yX0_becomeLike yX0_becomeLike, Cond.initialized RX0, Cond.code yX0_becomeLike cX0_becomeLike 2 none, Cond.fieldLink RX0 9 "SiloPads$Ship" "tonnes" "I", Cond.fieldLink RX0 15 "SiloPads$Ship" "hold" "I", Cond.methodLink RX4 244 yX4_pour, Cond.instanceMethod yX4_pour, Cond.selects RX4 yX4_pour yX4_pour, Cond.code yX4_pour cX4_pour 6 (some .int), Cond.methodLink RX4 301 yX4_pourForHour, Cond.instanceMethod yX4_pourForHour, Cond.selects RX4 yX4_pourForHour yX4_pourForHour]
def wsL_ifFlowed_r3 : List Cond := [Cond.code yX4_pourForHour cX4_pourForHour 5 (some .int), Cond.fieldLink RX4 125 "SiloPads$Silo" "layers" "I", Cond.fieldLink RX4 141 "SiloPads$Silo" "arch" "I", Cond.fieldLink RX4 201 "SiloPads$Silo" "tonnes" "[I", Cond.methodLink RX4 257 Lib.Math.min.name, Cond.static Lib.Math.min.name, Cond.initialized "java/lang/Math", Cond.code Lib.Math.min.name Lib.Math.min.code 2 (some .int), Cond.fieldLink RX4 75 "SiloPads$Ship" "tonnes" "I", Cond.methodLink RX4 193 yX4_outInHour, Cond.instanceMethod yX4_outInHour, Cond.selects RX4 yX4_outInHour yX4_outInHour, Cond.code yX4_outInHour cX4_outInHour 3 (some .int), Cond.fieldLink RX4 203 "SiloPads$Silo" "ages" "[I", Cond.methodLink RX4 206 yX4_hardnessAt, Cond.instanceMethod yX4_hardnessAt, Cond.selects RX4 yX4_hardnessAt yX4_hardnessAt, Cond.code yX4_hardnessAt cX4_hardnessAt 3 (some .int), Cond.fieldLink RX4 117 "SiloPads$Yard" "settings" "[I", Cond.methodLink RX4 233 yX0_room, Cond.instanceMethod yX0_room, Cond.selects RX0 yX0_room yX0_room, Cond.code yX0_room cX0_room 1 (some .int), Cond.methodLink RX4 305 yX4_dustOf]
def wsL_ifFlowed_r4 : List Cond := [Cond.instanceMethod yX4_dustOf, Cond.selects RX4 yX4_dustOf yX4_dustOf, Cond.code yX4_dustOf cX4_dustOf 3 (some .int), Cond.methodLink RX4 308 yX1_takeFromLowest, Cond.instanceMethod yX1_takeFromLowest, Cond.selects RX1 yX1_takeFromLowest yX1_takeFromLowest, Cond.code yX1_takeFromLowest cX1_takeFromLowest 3 none]
def wsL_ifFlowed : List Cond := .codeWith yL_ifFlowed cL_ifFlowed 7 (some .int) [(0, 14, 17, 13), (0, 14, 21, 15)] :: ((wsL_ifFlowed_r1 ++ (wsL_ifFlowed_r2 ++ (wsL_ifFlowed_r3 ++ wsL_ifFlowed_r4))) ++ wsX40 ++ wsX30 ++ wsX10 ++ wsX00 ++ (vx_atS RX4 60 "java/lang/IndexOutOfBoundsException" ["java/lang/RuntimeException", "java/lang/Exception"]).filter goodWord ++ (vx_atS RX4 67 "java/lang/IllegalArgumentException" ["java/lang/RuntimeException", "java/lang/Exception"]).filter goodWord)
def wsL_shakesNeeded_r1 : List Cond := [Cond.classLink RL 13 "java/lang/IndexOutOfBoundsException", Cond.methodLink RL 68 yX4_shakesNeeded, Cond.instanceMethod yX4_shakesNeeded, Cond.selects RX4 yX4_shakesNeeded yX4_shakesNeeded, Cond.initialized RX4, Cond.code yX4_shakesNeeded cX4_shakesNeeded 2 (some .int), Cond.classLink RX4 56 "java/lang/IndexOutOfBoundsException", Cond.initialized "java/lang/IndexOutOfBoundsException", Cond.fieldLink RX4 10 "SiloPads" "now" "LSiloPads$Yard;", Cond.fieldLink RX4 94 "SiloPads$Yard" "silos" "[LSiloPads$Silo;", Cond.methodLink RX4 87 yX4_isNoSilo, Cond.static yX4_isNoSilo, Cond.code yX4_isNoSilo cX4_isNoSilo 1 (some .boolean), Cond.methodLink RX4 130 yX4_shakesToBreak, Cond.instanceMethod yX4_shakesToBreak, Cond.selects RX4 yX4_shakesToBreak yX4_shakesToBreak, Cond.code yX4_shakesToBreak cX4_shakesToBreak 2 (some .int), Cond.fieldLink RX4 141 "SiloPads$Silo" "arch" "I", Cond.fieldLink RX4 117 "SiloPads$Yard" "settings" "[I", Cond.fieldLink RX4 134 "SiloPads$Silo" "shakes" "I", Cond.methodLink RX4 317 Lib.Math.max.name, Cond.static Lib.Math.max.name, Cond.initialized "java/lang/Math", Cond.code Lib.Math.max.name Lib.Math.max.code 2 (some .int)]
def wsL_shakesNeeded_r2 : List Cond := [Cond.methodLink RX4 320 yX1_tonnesHeld, Cond.instanceMethod yX1_tonnesHeld, Cond.selects RX1 yX1_tonnesHeld yX1_tonnesHeld, Cond.initialized RX1, Cond.code yX1_tonnesHeld cX1_tonnesHeld 1 (some .int), Cond.fieldLink RX1 25 "SiloPads$Silo" "arch" "I", Cond.methodLink RX1 31 yX1_totalFrom, Cond.instanceMethod yX1_totalFrom, Cond.selects RX1 yX1_totalFrom yX1_totalFrom, Cond.code yX1_totalFrom cX1_totalFrom 4 (some .int), Cond.fieldLink RX1 18 "SiloPads$Silo" "layers" "I", Cond.fieldLink RX1 9 "SiloPads$Silo" "tonnes" "[I"]
def wsL_shakesNeeded : List Cond := .codeWith yL_shakesNeeded cL_shakesNeeded 4 (some .int) [(0, 9, 12, 13)] :: ((wsL_shakesNeeded_r1 ++ wsL_shakesNeeded_r2) ++ wsX40 ++ wsX30 ++ wsX10 ++ (vx_atS RX4 60 "java/lang/IndexOutOfBoundsException" ["java/lang/RuntimeException", "java/lang/Exception"]).filter goodWord)
def wsL_law0_r1 : List Cond := [Cond.classLink RL 8 RX4, Cond.instantiable RX4 8, Cond.initialized RX4, Cond.classLink RL 72 RX5, Cond.instantiable RX5 12, Cond.initialized RX5, Cond.arrayClass .long, Cond.methodLink RL 71 yX4_init, Cond.instanceMethod yX4_init, Cond.code yX4_init cX4_init 2 none, Cond.methodLink RX4 1 objectInit, Cond.instanceMethod objectInit, Cond.code objectInit ⟨#[0xb1]⟩ 1 none, Cond.classLink RX4 7 RX3, Cond.instantiable RX3 9, Cond.initialized RX3, Cond.fieldLink RX4 10 "SiloPads" "now" "LSiloPads$Yard;", Cond.fieldLink RX4 16 "SiloPads" "saved" "[LSiloPads$Yard;", Cond.fieldLink RX4 20 "SiloPads" "savedStates" "I", Cond.arrayClass .int, Cond.fieldLink RX4 24 "SiloPads" "codes" "[I", Cond.fieldLink RX4 28 "SiloPads" "length" "I", Cond.classLink RX4 31 RX2, Cond.instantiable RX2 5]
def wsL_law0_r2 : List Cond := [Cond.initialized RX2, Cond.fieldLink RX4 34 "SiloPads" "reader" "LSiloPads$TextReader;", Cond.classLink RX4 38 RX1, Cond.instantiable RX1 6, Cond.initialized RX1, Cond.fieldLink RX4 41 "SiloPads" "trialSilo" "LSiloPads$Silo;", Cond.classLink RX4 45 RX0, Cond.instantiable RX0 2, Cond.initialized RX0, Cond.fieldLink RX4 48 "SiloPads" "trialShip" "LSiloPads$Ship;", Cond.methodLink RX4 9 yX3_init, Cond.instanceMethod yX3_init, Cond.code yX3_init cX3_init 2 none, Cond.methodLink RX3 3 objectInit, Cond.classLink RX3 9 RX1, Cond.fieldLink RX3 11 "SiloPads$Yard" "silos" "[LSiloPads$Silo;", Cond.classLink RX3 17 RX0, Cond.fieldLink RX3 19 "SiloPads$Yard" "ships" "[LSiloPads$Ship;", Cond.methodLink RX3 27 ⟨"[I", "clone", "()Ljava/lang/Object;"⟩, Cond.sameMethod "[I" "java/lang/Object" "clone" "()Ljava/lang/Object;", Cond.native ⟨"java/lang/Object", "clone", "()Ljava/lang/Object;"⟩, Cond.instanceMethod ⟨"java/lang/Object", "clone", "()Ljava/lang/Object;"⟩, Cond.selects "[I" ⟨"[I", "clone", "()Ljava/lang/Object;"⟩ ⟨"java/lang/Object", "clone", "()Ljava/lang/Object;"⟩, Cond.classLink RX3 28 "[I"]
def wsL_law0_r3 : List Cond := [Cond.fieldLink RX3 32 "SiloPads$Yard" "settings" "[I", Cond.fieldLink RX3 35 "SiloPads$Yard" "days" "I", Cond.fieldLink RX3 39 "SiloPads$Yard" "dust" "I", Cond.fieldLink RX3 42 "SiloPads$Yard" "brought" "I", Cond.fieldLink RX3 45 "SiloPads$Yard" "gone" "I", Cond.fieldLink RX3 48 "SiloPads$Yard" "shakes" "I", Cond.fieldLink RX3 51 "SiloPads$Yard" "formed" "I", Cond.instanceMethod yX1_init, Cond.code yX1_init cX1_init 1 none, Cond.methodLink RX1 3 objectInit, Cond.fieldLink RX1 9 "SiloPads$Silo" "tonnes" "[I", Cond.fieldLink RX1 15 "SiloPads$Silo" "ages" "[I", Cond.fieldLink RX1 18 "SiloPads$Silo" "layers" "I", Cond.fieldLink RX1 22 "SiloPads$Silo" "padsOn" "I", Cond.fieldLink RX1 25 "SiloPads$Silo" "arch" "I", Cond.fieldLink RX1 28 "SiloPads$Silo" "shakes" "I", Cond.instanceMethod yX0_init, Cond.code yX0_init cX0_init 1 none, Cond.methodLink RX0 3 objectInit, Cond.fieldLink RX0 9 "SiloPads$Ship" "tonnes" "I", Cond.fieldLink RX0 15 "SiloPads$Ship" "hold" "I", Cond.instanceMethod yX2_init, Cond.code yX2_init cX2_init 1 none, Cond.methodLink RX2 3 objectInit]
def wsL_law0_r4 : List Cond := [Cond.fieldLink RX2 11 "SiloPads$TextReader" "place" "I", Cond.fieldLink RX2 15 "SiloPads$TextReader" "silo" "I", Cond.fieldLink RX2 18 "SiloPads$TextReader" "ship" "I", Cond.fieldLink RX2 21 "SiloPads$TextReader" "kind" "I", Cond.fieldLink RX2 24 "SiloPads$TextReader" "number" "I", Cond.methodLink RL 74 yX5_init, Cond.instanceMethod yX5_init, Cond.code yX5_init cX5_init 2 none, Cond.methodLink RX5 1 objectInit, Cond.fieldLink RX5 7 "SiloPadsModel" "s" "[I", Cond.fieldLink RX5 13 "SiloPadsModel" "aside" "[I", Cond.fieldLink RX5 16 "SiloPadsModel" "saved" "[I", Cond.fieldLink RX5 19 "SiloPadsModel" "buffer" "[I", Cond.fieldLink RX5 22 "SiloPadsModel" "read" "[I", Cond.fieldLink RX5 25 "SiloPadsModel" "thrown" "I", Cond.methodLink RL 75 yL_ship, Cond.static yL_ship, Cond.initialized RL, Cond.codeWith yL_ship cL_ship 6 (some .int) [(0, 12, 15, 13), (0, 12, 19, 15)], Cond.classLink RL 13 "java/lang/IndexOutOfBoundsException", Cond.classLink RL 15 "java/lang/IllegalArgumentException", Cond.methodLink RL 7 yX4_ship, Cond.instanceMethod yX4_ship, Cond.selects RX4 yX4_ship yX4_ship]
def wsL_law0_r5 : List Cond := [Cond.code yX4_ship cX4_ship 6 (some .int), Cond.classLink RX4 56 "java/lang/IndexOutOfBoundsException", Cond.initialized "java/lang/IndexOutOfBoundsException", Cond.classLink RX4 63 "java/lang/IllegalArgumentException", Cond.initialized "java/lang/IllegalArgumentException", Cond.fieldLink RX4 71 "SiloPads$Yard" "ships" "[LSiloPads$Ship;", Cond.fieldLink RX4 75 "SiloPads$Ship" "tonnes" "I", Cond.fieldLink RX4 78 "SiloPads$Ship" "hold" "I", Cond.fieldLink RX4 81 "SiloPads$Yard" "brought" "I", Cond.fieldLink RX4 84 "SiloPads$Yard" "gone" "I", Cond.methodLink RX4 52 yX4_isNoShip, Cond.static yX4_isNoShip, Cond.code yX4_isNoShip cX4_isNoShip 1 (some .boolean), Cond.methodLink RX4 68 yX4_saveState, Cond.instanceMethod yX4_saveState, Cond.selects RX4 yX4_saveState yX4_saveState, Cond.code yX4_saveState cX4_saveState 3 none, Cond.methodLink RX4 186 yX3_becomeLike, Cond.instanceMethod yX3_becomeLike, Cond.selects RX3 yX3_becomeLike yX3_becomeLike, Cond.code yX3_becomeLike cX3_becomeLike 3 none, Cond.methodLink RX3 56 yX1_becomeLike, Cond.instanceMethod yX1_becomeLike, Cond.selects RX1 yX1_becomeLike yX1_becomeLike]
def wsL_law0_r6 : List Cond := [Cond.code yX1_becomeLike cX1_becomeLike 3 none, Cond.methodLink RX3 60 yX0_becomeLike, Cond.instanceMethod yX0_becomeLike, Cond.selects RX0 yX0_becomeLike yX0_becomeLike, Cond.code yX0_becomeLike cX0_becomeLike 2 none, Cond.methodLink RL 80 yX5_ship, Cond.instanceMethod yX5_ship, Cond.selects RX5 yX5_ship yX5_ship, Cond.code yX5_ship cX5_ship 5 (some .int), Cond.methodLink RX5 87 yX5_isShip, Cond.static yX5_isShip, Cond.code yX5_isShip cX5_isShip 1 (some .boolean), Cond.methodLink RX5 29 yX5_in, Cond.static yX5_in, Cond.code yX5_in cX5_in 3 (some .boolean), Cond.methodLink RX5 90 yX5_fails, Cond.instanceMethod yX5_fails, Cond.selects RX5 yX5_fails yX5_fails, Cond.code yX5_fails cX5_fails 2 (some .int), Cond.methodLink RX5 93 yX5_saves, Cond.instanceMethod yX5_saves, Cond.selects RX5 yX5_saves yX5_saves, Cond.code yX5_saves cX5_saves 2 none, Cond.fieldLink RX5 37 "SiloPadsModel" "savedMany" "I"]
def wsL_law0_r7 : List Cond := [Cond.methodLink RL 81 yX5_thrown, Cond.instanceMethod yX5_thrown, Cond.selects RX5 yX5_thrown yX5_thrown, Cond.code yX5_thrown cX5_thrown 1 (some .int), Cond.methodLink RL 84 yL_unload, Cond.static yL_unload, Cond.codeWith yL_unload cL_unload 6 (some .int) [(0, 12, 15, 13), (0, 12, 19, 15)], Cond.methodLink RL 17 yX4_unload, Cond.instanceMethod yX4_unload, Cond.selects RX4 yX4_unload yX4_unload, Cond.code yX4_unload cX4_unload 4 (some .int), Cond.fieldLink RX4 94 "SiloPads$Yard" "silos" "[LSiloPads$Silo;", Cond.methodLink RX4 87 yX4_isNoSilo, Cond.static yX4_isNoSilo, Cond.code yX4_isNoSilo cX4_isNoSilo 1 (some .boolean), Cond.methodLink RX4 98 yX4_bringIn, Cond.instanceMethod yX4_bringIn, Cond.selects RX4 yX4_bringIn yX4_bringIn, Cond.code yX4_bringIn cX4_bringIn 5 (some .int), Cond.methodLink RX4 257 Lib.Math.min.name, Cond.static Lib.Math.min.name, Cond.initialized "java/lang/Math", Cond.code Lib.Math.min.name Lib.Math.min.code 2 (some .int), Cond.methodLink RX4 294 yX1_place]
def wsL_law0_r8 : List Cond := [Cond.instanceMethod yX1_place, Cond.selects RX1 yX1_place yX1_place, Cond.code yX1_place cX1_place 2 (some .int), Cond.methodLink RX1 42 Lib.Math.min.name, Cond.methodLink RX1 35 yX1_total, Cond.instanceMethod yX1_total, Cond.selects RX1 yX1_total yX1_total, Cond.code yX1_total cX1_total 1 (some .int), Cond.methodLink RX1 31 yX1_totalFrom, Cond.instanceMethod yX1_totalFrom, Cond.selects RX1 yX1_totalFrom yX1_totalFrom, Cond.code yX1_totalFrom cX1_totalFrom 4 (some .int), Cond.methodLink RX1 39 yX1_placeOnTop, Cond.instanceMethod yX1_placeOnTop, Cond.selects RX1 yX1_placeOnTop yX1_placeOnTop, Cond.code yX1_placeOnTop cX1_placeOnTop 1 (some .int), Cond.methodLink RX4 297 yX1_fill, Cond.instanceMethod yX1_fill, Cond.selects RX1 yX1_fill yX1_fill, Cond.code yX1_fill cX1_fill 4 none, Cond.methodLink RL 86 yX5_unload, Cond.instanceMethod yX5_unload, Cond.selects RX5 yX5_unload yX5_unload, Cond.code yX5_unload cX5_unload 4 (some .int)]
def wsL_law0_r9 : List Cond := [Cond.methodLink RX5 96 yX5_isSilo, Cond.static yX5_isSilo, Cond.code yX5_isSilo cX5_isSilo 1 (some .boolean), Cond.methodLink RX5 99 yX5_unloads, Cond.instanceMethod yX5_unloads, Cond.selects RX5 yX5_unloads yX5_unloads, Cond.code yX5_unloads cX5_unloads 5 (some .int), Cond.methodLink RX5 57 yX5_lesser, Cond.static yX5_lesser, Cond.code yX5_lesser cX5_lesser 2 (some .int), Cond.methodLink RX5 73 yX5_comes, Cond.instanceMethod yX5_comes, Cond.selects RX5 yX5_comes yX5_comes, Cond.code yX5_comes cX5_comes 7 (some .int), Cond.methodLink RX5 70 yX5_sumFrom, Cond.instanceMethod yX5_sumFrom, Cond.selects RX5 yX5_sumFrom yX5_sumFrom, Cond.code yX5_sumFrom cX5_sumFrom 5 (some .int), Cond.methodLink RX5 33 yX5_of, Cond.instanceMethod yX5_of, Cond.selects RX5 yX5_of yX5_of, Cond.code yX5_of cX5_of 3 (some .int), Cond.methodLink RX5 43 yX5_tonnes, Cond.instanceMethod yX5_tonnes]
def wsL_law0_r10 : List Cond := [Cond.selects RX5 yX5_tonnes yX5_tonnes, Cond.code yX5_tonnes cX5_tonnes 3 (some .int), Cond.methodLink RX5 40 yX5_age, Cond.instanceMethod yX5_age, Cond.selects RX5 yX5_age yX5_age, Cond.code yX5_age cX5_age 3 (some .int), Cond.methodLink RX5 49 yX5_lay, Cond.instanceMethod yX5_lay, Cond.selects RX5 yX5_lay yX5_lay, Cond.code yX5_lay cX5_lay 4 none, Cond.methodLink RL 87 yL_flow, Cond.static yL_flow, Cond.codeWith yL_flow cL_flow 6 (some .int) [(0, 12, 15, 13), (0, 12, 19, 15)], Cond.methodLink RL 20 yX4_flow, Cond.instanceMethod yX4_flow, Cond.selects RX4 yX4_flow yX4_flow, Cond.code yX4_flow cX4_flow 4 (some .int), Cond.methodLink RX4 104 yX4_letOut, Cond.instanceMethod yX4_letOut, Cond.selects RX4 yX4_letOut yX4_letOut, Cond.code yX4_letOut cX4_letOut 6 (some .int), Cond.fieldLink RX4 222 "SiloPads$Yard" "dust" "I", Cond.methodLink RX4 190 yX1_total, Cond.methodLink RX4 244 yX4_pour]
def wsL_law0_r11 : List Cond := [Cond.instanceMethod yX4_pour, Cond.selects RX4 yX4_pour yX4_pour, Cond.code yX4_pour cX4_pour 6 (some .int), Cond.methodLink RX4 301 yX4_pourForHour, Cond.instanceMethod yX4_pourForHour, Cond.selects RX4 yX4_pourForHour yX4_pourForHour, Cond.code yX4_pourForHour cX4_pourForHour 5 (some .int), Cond.fieldLink RX4 125 "SiloPads$Silo" "layers" "I", Cond.fieldLink RX4 141 "SiloPads$Silo" "arch" "I", Cond.fieldLink RX4 111 "SiloPads$Silo" "padsOn" "I", Cond.fieldLink RX4 201 "SiloPads$Silo" "tonnes" "[I", Cond.methodLink RX4 193 yX4_outInHour, Cond.instanceMethod yX4_outInHour, Cond.selects RX4 yX4_outInHour yX4_outInHour, Cond.code yX4_outInHour cX4_outInHour 3 (some .int), Cond.fieldLink RX4 203 "SiloPads$Silo" "ages" "[I", Cond.methodLink RX4 206 yX4_hardnessAt, Cond.instanceMethod yX4_hardnessAt, Cond.selects RX4 yX4_hardnessAt yX4_hardnessAt, Cond.code yX4_hardnessAt cX4_hardnessAt 3 (some .int), Cond.fieldLink RX4 117 "SiloPads$Yard" "settings" "[I", Cond.methodLink RX4 233 yX0_room, Cond.instanceMethod yX0_room, Cond.selects RX0 yX0_room yX0_room]
def wsL_law0_r12 : List Cond := [Cond.code yX0_room cX0_room 1 (some .int), Cond.methodLink RX4 305 yX4_dustOf, Cond.instanceMethod yX4_dustOf, Cond.selects RX4 yX4_dustOf yX4_dustOf, Cond.code yX4_dustOf cX4_dustOf 3 (some .int), Cond.methodLink RX4 308 yX1_takeFromLowest, Cond.instanceMethod yX1_takeFromLowest, Cond.selects RX1 yX1_takeFromLowest yX1_takeFromLowest, Cond.code yX1_takeFromLowest cX1_takeFromLowest 3 none, Cond.methodLink RL 89 yX5_flow, Cond.instanceMethod yX5_flow, Cond.selects RX5 yX5_flow yX5_flow, Cond.code yX5_flow cX5_flow 4 (some .int), Cond.methodLink RX5 103 yX5_flowsAll, Cond.instanceMethod yX5_flowsAll, Cond.selects RX5 yX5_flowsAll yX5_flowsAll, Cond.code yX5_flowsAll cX5_flowsAll 6 (some .int), Cond.methodLink RX5 67 yX5_flowsHour, Cond.instanceMethod yX5_flowsHour, Cond.selects RX5 yX5_flowsHour yX5_flowsHour, Cond.code yX5_flowsHour cX5_flowsHour 6 (some .int), Cond.methodLink RX5 53 yX5_flows, Cond.instanceMethod yX5_flows, Cond.selects RX5 yX5_flows yX5_flows]
def wsL_law0_r13 : List Cond := [Cond.code yX5_flows cX5_flows 3 (some .int), Cond.methodLink RX5 46 yX5_setOf, Cond.instanceMethod yX5_setOf, Cond.selects RX5 yX5_setOf yX5_setOf, Cond.code yX5_setOf cX5_setOf 4 (some .int), Cond.methodLink RX5 60 yX5_room, Cond.instanceMethod yX5_room, Cond.selects RX5 yX5_room yX5_room, Cond.code yX5_room cX5_room 2 (some .int), Cond.methodLink RX5 63 yX5_drops, Cond.instanceMethod yX5_drops, Cond.selects RX5 yX5_drops yX5_drops, Cond.code yX5_drops cX5_drops 4 none, Cond.methodLink RL 90 yL_pads, Cond.static yL_pads, Cond.codeWith yL_pads cL_pads 5 (some .int) [(0, 10, 13, 13), (0, 10, 17, 15), (0, 10, 21, 27)], Cond.classLink RL 27 "java/lang/IllegalStateException", Cond.methodLink RL 23 yX4_pads, Cond.instanceMethod yX4_pads, Cond.selects RX4 yX4_pads yX4_pads, Cond.code yX4_pads cX4_pads 4 (some .int), Cond.classLink RX4 120 "java/lang/IllegalStateException", Cond.initialized "java/lang/IllegalStateException", Cond.methodLink RX4 114 yX3_padsOn]
def wsL_law0_r14 : List Cond := [Cond.instanceMethod yX3_padsOn, Cond.selects RX3 yX3_padsOn yX3_padsOn, Cond.code yX3_padsOn cX3_padsOn 3 (some .int), Cond.fieldLink RX3 70 "SiloPads$Silo" "padsOn" "I", Cond.methodLink RL 93 yX5_pads, Cond.instanceMethod yX5_pads, Cond.selects RX5 yX5_pads yX5_pads, Cond.code yX5_pads cX5_pads 4 (some .int), Cond.methodLink RX5 106 yX5_padsOn, Cond.instanceMethod yX5_padsOn, Cond.selects RX5 yX5_padsOn yX5_padsOn, Cond.code yX5_padsOn cX5_padsOn 3 (some .int), Cond.methodLink RL 94 yL_shake, Cond.static yL_shake, Cond.codeWith yL_shake cL_shake 4 (some .int) [(0, 9, 12, 13), (0, 9, 15, 27)], Cond.methodLink RL 29 yX4_shake, Cond.instanceMethod yX4_shake, Cond.selects RX4 yX4_shake yX4_shake, Cond.code yX4_shake cX4_shake 4 (some .int), Cond.fieldLink RX4 134 "SiloPads$Silo" "shakes" "I", Cond.fieldLink RX4 137 "SiloPads$Yard" "shakes" "I", Cond.methodLink RX4 130 yX4_shakesToBreak, Cond.instanceMethod yX4_shakesToBreak, Cond.selects RX4 yX4_shakesToBreak yX4_shakesToBreak]
def wsL_law0_r15 : List Cond := [Cond.code yX4_shakesToBreak cX4_shakesToBreak 2 (some .int), Cond.methodLink RX4 317 Lib.Math.max.name, Cond.static Lib.Math.max.name, Cond.code Lib.Math.max.name Lib.Math.max.code 2 (some .int), Cond.methodLink RX4 320 yX1_tonnesHeld, Cond.instanceMethod yX1_tonnesHeld, Cond.selects RX1 yX1_tonnesHeld yX1_tonnesHeld, Cond.code yX1_tonnesHeld cX1_tonnesHeld 1 (some .int), Cond.methodLink RX4 138 yX1_makeLowestYounger, Cond.instanceMethod yX1_makeLowestYounger, Cond.selects RX1 yX1_makeLowestYounger yX1_makeLowestYounger, Cond.code yX1_makeLowestYounger cX1_makeLowestYounger 1 none, Cond.methodLink RX1 48 Lib.Math.max.name, Cond.methodLink RL 97 yX5_shake, Cond.instanceMethod yX5_shake, Cond.selects RX5 yX5_shake yX5_shake, Cond.code yX5_shake cX5_shake 2 (some .int), Cond.methodLink RX5 109 yX5_shakes, Cond.instanceMethod yX5_shakes, Cond.selects RX5 yX5_shakes yX5_shakes, Cond.code yX5_shakes cX5_shakes 4 (some .int), Cond.methodLink RX5 84 yX5_isHeavy, Cond.instanceMethod yX5_isHeavy, Cond.selects RX5 yX5_isHeavy yX5_isHeavy]
def wsL_law0_r16 : List Cond := [Cond.code yX5_isHeavy cX5_isHeavy 2 (some .boolean), Cond.methodLink RL 98 yL_pass, Cond.static yL_pass, Cond.codeWith yL_pass cL_pass 4 (some .int) [(0, 9, 12, 15)], Cond.methodLink RL 33 yX4_pass, Cond.instanceMethod yX4_pass, Cond.selects RX4 yX4_pass yX4_pass, Cond.code yX4_pass cX4_pass 2 (some .int), Cond.methodLink RX4 146 yX4_passDays, Cond.instanceMethod yX4_passDays, Cond.selects RX4 yX4_passDays yX4_passDays, Cond.code yX4_passDays cX4_passDays 5 (some .int), Cond.fieldLink RX4 213 "SiloPads$Yard" "days" "I", Cond.fieldLink RX4 228 "SiloPads$Yard" "formed" "I", Cond.methodLink RX4 311 yX4_passDayIn, Cond.instanceMethod yX4_passDayIn, Cond.selects RX4 yX4_passDayIn yX4_passDayIn, Cond.code yX4_passDayIn cX4_passDayIn 2 (some .int), Cond.methodLink RX4 314 yX1_makeOlder, Cond.instanceMethod yX1_makeOlder, Cond.selects RX1 yX1_makeOlder yX1_makeOlder, Cond.code yX1_makeOlder cX1_makeOlder 2 none, Cond.methodLink RX4 251 yX1_canGetArch, Cond.instanceMethod yX1_canGetArch]
def wsL_law0_r17 : List Cond := [Cond.selects RX1 yX1_canGetArch yX1_canGetArch, Cond.code yX1_canGetArch cX1_canGetArch 1 (some .boolean), Cond.methodLink RL 100 yX5_pass, Cond.instanceMethod yX5_pass, Cond.selects RX5 yX5_pass yX5_pass, Cond.code yX5_pass cX5_pass 2 (some .int), Cond.methodLink RX5 112 yX5_passes, Cond.instanceMethod yX5_passes, Cond.selects RX5 yX5_passes yX5_passes, Cond.code yX5_passes cX5_passes 4 (some .int), Cond.methodLink RX5 80 yX5_passesDay, Cond.instanceMethod yX5_passesDay, Cond.selects RX5 yX5_passesDay yX5_passesDay, Cond.code yX5_passesDay cX5_passesDay 4 (some .int), Cond.methodLink RX5 76 yX5_forms, Cond.instanceMethod yX5_forms, Cond.selects RX5 yX5_forms yX5_forms, Cond.code yX5_forms cX5_forms 2 (some .boolean), Cond.methodLink RL 101 yL_set, Cond.static yL_set, Cond.codeWith yL_set cL_set 5 (some .int) [(0, 10, 13, 13), (0, 10, 17, 15), (0, 10, 21, 27)], Cond.methodLink RL 36 yX4_set, Cond.instanceMethod yX4_set, Cond.selects RX4 yX4_set yX4_set]
def wsL_law0_r18 : List Cond := [Cond.code yX4_set cX4_set 4 (some .int), Cond.fieldLink RX4 152 "SiloPads" "SETTING_LEAST" "[I", Cond.fieldLink RX4 155 "SiloPads" "SETTING_MOST" "[I", Cond.methodLink RL 103 yX5_set, Cond.instanceMethod yX5_set, Cond.selects RX5 yX5_set yX5_set, Cond.code yX5_set cX5_set 4 (some .int), Cond.methodLink RX5 115 yX5_leastOf, Cond.static yX5_leastOf, Cond.code yX5_leastOf cX5_leastOf 1 (some .int), Cond.methodLink RX5 118 yX5_mostOf, Cond.static yX5_mostOf, Cond.code yX5_mostOf cX5_mostOf 1 (some .int), Cond.methodLink RL 104 yL_append, Cond.static yL_append, Cond.codeWith yL_append cL_append 4 (some .int) [(0, 9, 12, 15), (0, 9, 15, 27)], Cond.methodLink RL 39 yX4_append, Cond.instanceMethod yX4_append, Cond.selects RX4 yX4_append yX4_append, Cond.code yX4_append cX4_append 2 (some .int), Cond.methodLink RL 106 yX5_append, Cond.instanceMethod yX5_append, Cond.selects RX5 yX5_append yX5_append, Cond.code yX5_append cX5_append 2 (some .int)]
def wsL_law0_r19 : List Cond := [Cond.fieldLink RX5 121 "SiloPadsModel" "length" "I", Cond.methodLink RL 107 yX4_clearBuffer, Cond.instanceMethod yX4_clearBuffer, Cond.selects RX4 yX4_clearBuffer yX4_clearBuffer, Cond.code yX4_clearBuffer cX4_clearBuffer 2 (some .int), Cond.methodLink RL 110 yX5_clearBuffer, Cond.instanceMethod yX5_clearBuffer, Cond.selects RX5 yX5_clearBuffer yX5_clearBuffer, Cond.code yX5_clearBuffer cX5_clearBuffer 2 (some .int), Cond.methodLink RL 111 yX4_firstError, Cond.instanceMethod yX4_firstError, Cond.selects RX4 yX4_firstError yX4_firstError, Cond.code yX4_firstError cX4_firstError 2 (some .int), Cond.methodLink RX4 166 yX2_begin, Cond.instanceMethod yX2_begin, Cond.selects RX2 yX2_begin yX2_begin, Cond.code yX2_begin cX2_begin 1 none, Cond.methodLink RX4 169 yX2_take, Cond.instanceMethod yX2_take, Cond.selects RX2 yX2_take yX2_take, Cond.code yX2_take cX2_take 2 (some .boolean), Cond.methodLink RX2 27 yX2_takePartStart, Cond.instanceMethod yX2_takePartStart, Cond.selects RX2 yX2_takePartStart yX2_takePartStart]
def wsL_law0_r20 : List Cond := [Cond.code yX2_takePartStart cX2_takePartStart 2 (some .boolean), Cond.methodLink RX2 37 yX2_moveOn, Cond.instanceMethod yX2_moveOn, Cond.selects RX2 yX2_moveOn yX2_moveOn, Cond.code yX2_moveOn cX2_moveOn 3 (some .boolean), Cond.methodLink RX2 31 yX2_takeSign, Cond.instanceMethod yX2_takeSign, Cond.selects RX2 yX2_takeSign yX2_takeSign, Cond.code yX2_takeSign cX2_takeSign 2 (some .boolean), Cond.methodLink RX2 34 yX2_takeShip, Cond.instanceMethod yX2_takeShip, Cond.selects RX2 yX2_takeShip yX2_takeShip, Cond.code yX2_takeShip cX2_takeShip 2 (some .boolean), Cond.methodLink RX2 41 yX2_takeFirstDigit, Cond.instanceMethod yX2_takeFirstDigit, Cond.selects RX2 yX2_takeFirstDigit yX2_takeFirstDigit, Cond.code yX2_takeFirstDigit cX2_takeFirstDigit 2 (some .boolean), Cond.methodLink RX2 44 yX2_takeNextDigit, Cond.instanceMethod yX2_takeNextDigit, Cond.selects RX2 yX2_takeNextDigit yX2_takeNextDigit, Cond.code yX2_takeNextDigit cX2_takeNextDigit 2 (some .boolean), Cond.methodLink RX2 53 yX2_numberMost, Cond.instanceMethod yX2_numberMost, Cond.selects RX2 yX2_numberMost yX2_numberMost]
def wsL_law0_r21 : List Cond := [Cond.code yX2_numberMost cX2_numberMost 1 (some .int), Cond.methodLink RL 114 yX5_firstError, Cond.instanceMethod yX5_firstError, Cond.selects RX5 yX5_firstError yX5_firstError, Cond.code yX5_firstError cX5_firstError 1 (some .int), Cond.fieldLink RX5 124 "SiloPadsModel" "at" "I", Cond.methodLink RX5 146 yX5_readsAll, Cond.instanceMethod yX5_readsAll, Cond.selects RX5 yX5_readsAll yX5_readsAll, Cond.code yX5_readsAll cX5_readsAll 1 none, Cond.fieldLink RX5 127 "SiloPadsModel" "isWell" "Z", Cond.fieldLink RX5 137 "SiloPadsModel" "readMany" "I", Cond.methodLink RX5 143 yX5_readsPart, Cond.instanceMethod yX5_readsPart, Cond.selects RX5 yX5_readsPart yX5_readsPart, Cond.code yX5_readsPart cX5_readsPart 2 none, Cond.methodLink RX5 131 yX5_sign, Cond.instanceMethod yX5_sign, Cond.selects RX5 yX5_sign yX5_sign, Cond.code yX5_sign cX5_sign 1 (some .int), Cond.methodLink RX5 134 yX5_takes, Cond.instanceMethod yX5_takes, Cond.selects RX5 yX5_takes yX5_takes, Cond.code yX5_takes cX5_takes 4 (some .int)]
def wsL_law0_r22 : List Cond := [Cond.methodLink RX5 140 yX5_number, Cond.instanceMethod yX5_number, Cond.selects RX5 yX5_number yX5_number, Cond.code yX5_number cX5_number 3 (some .int), Cond.methodLink RL 115 yL_play, Cond.static yL_play, Cond.codeWith yL_play cL_play 3 (some .int) [(0, 8, 11, 15)], Cond.methodLink RL 42 yX4_play, Cond.instanceMethod yX4_play, Cond.selects RX4 yX4_play yX4_play, Cond.code yX4_play cX4_play 2 (some .int), Cond.methodLink RX4 172 yX4_firstError, Cond.methodLink RX4 175 yX2_isComplete, Cond.instanceMethod yX2_isComplete, Cond.selects RX2 yX2_isComplete yX2_isComplete, Cond.code yX2_isComplete cX2_isComplete 1 (some .boolean), Cond.methodLink RX4 181 yX4_playParts, Cond.instanceMethod yX4_playParts, Cond.selects RX4 yX4_playParts yX4_playParts, Cond.code yX4_playParts cX4_playParts 3 (some .int), Cond.methodLink RX4 323 yX4_playPart, Cond.instanceMethod yX4_playPart, Cond.selects RX4 yX4_playPart yX4_playPart, Cond.code yX4_playPart cX4_playPart 3 (some .int)]
def wsL_law0_r23 : List Cond := [Cond.fieldLink RX4 326 "SiloPads$TextReader" "kind" "I", Cond.fieldLink RX4 329 "SiloPads$TextReader" "number" "I", Cond.fieldLink RX4 332 "SiloPads$TextReader" "silo" "I", Cond.fieldLink RX4 335 "SiloPads$TextReader" "ship" "I", Cond.methodLink RL 118 yX5_play, Cond.instanceMethod yX5_play, Cond.selects RX5 yX5_play yX5_play, Cond.code yX5_play cX5_play 3 (some .int), Cond.methodLink RX5 149 yX5_plays, Cond.instanceMethod yX5_plays, Cond.selects RX5 yX5_plays yX5_plays, Cond.code yX5_plays cX5_plays 2 (some .int), Cond.methodLink RL 119 yL_undo, Cond.static yL_undo, Cond.codeWith yL_undo cL_undo 3 (some .int) [(0, 8, 11, 27)], Cond.methodLink RL 46 yX4_undo, Cond.instanceMethod yX4_undo, Cond.selects RX4 yX4_undo yX4_undo, Cond.code yX4_undo cX4_undo 1 (some .int), Cond.methodLink RL 121 yX5_undo, Cond.instanceMethod yX5_undo, Cond.selects RX5 yX5_undo yX5_undo, Cond.code yX5_undo cX5_undo 2 (some .int), Cond.methodLink RL 122 yL_silo]
def wsL_law0_r24 : List Cond := [Cond.static yL_silo, Cond.codeWith yL_silo cL_silo 5 (some .int) [(0, 10, 13, 13), (0, 10, 17, 15)], Cond.methodLink RL 49 yX4_silo, Cond.instanceMethod yX4_silo, Cond.selects RX4 yX4_silo yX4_silo, Cond.code yX4_silo cX4_silo 4 (some .int), Cond.methodLink RL 124 yX5_silo, Cond.instanceMethod yX5_silo, Cond.selects RX5 yX5_silo yX5_silo, Cond.code yX5_silo cX5_silo 3 (some .int), Cond.methodLink RX5 152 yX5_tellsSilo, Cond.instanceMethod yX5_tellsSilo, Cond.selects RX5 yX5_tellsSilo yX5_tellsSilo, Cond.code yX5_tellsSilo cX5_tellsSilo 3 (some .int), Cond.methodLink RL 125 yL_layer, Cond.static yL_layer, Cond.codeWith yL_layer cL_layer 6 (some .int) [(0, 12, 15, 13), (0, 12, 19, 15)], Cond.methodLink RL 52 yX4_layer, Cond.instanceMethod yX4_layer, Cond.selects RX4 yX4_layer yX4_layer, Cond.code yX4_layer cX4_layer 5 (some .int), Cond.methodLink RL 127 yX5_layer, Cond.instanceMethod yX5_layer, Cond.selects RX5 yX5_layer yX5_layer]
def wsL_law0_r25 : List Cond := [Cond.code yX5_layer cX5_layer 4 (some .int), Cond.methodLink RX5 155 yX5_tellsLayer, Cond.instanceMethod yX5_tellsLayer, Cond.selects RX5 yX5_tellsLayer yX5_tellsLayer, Cond.code yX5_tellsLayer cX5_tellsLayer 4 (some .int), Cond.methodLink RL 128 yL_shipOf, Cond.static yL_shipOf, Cond.codeWith yL_shipOf cL_shipOf 5 (some .int) [(0, 10, 13, 13), (0, 10, 17, 15)], Cond.methodLink RL 55 yX4_shipOf, Cond.instanceMethod yX4_shipOf, Cond.selects RX4 yX4_shipOf yX4_shipOf, Cond.code yX4_shipOf cX4_shipOf 3 (some .int), Cond.methodLink RL 130 yX5_shipOf, Cond.instanceMethod yX5_shipOf, Cond.selects RX5 yX5_shipOf yX5_shipOf, Cond.code yX5_shipOf cX5_shipOf 3 (some .int), Cond.methodLink RL 131 yL_count, Cond.static yL_count, Cond.codeWith yL_count cL_count 4 (some .int) [(0, 9, 12, 15)], Cond.methodLink RL 58 yX4_count, Cond.instanceMethod yX4_count, Cond.selects RX4 yX4_count yX4_count, Cond.code yX4_count cX4_count 2 (some .int), Cond.methodLink RX4 216 yX3_siloTonnes]
def wsL_law0_r26 : List Cond := [Cond.instanceMethod yX3_siloTonnes, Cond.selects RX3 yX3_siloTonnes yX3_siloTonnes, Cond.code yX3_siloTonnes cX3_siloTonnes 3 (some .int), Cond.methodLink RX3 63 yX1_total, Cond.methodLink RX4 219 yX3_shipTonnes, Cond.instanceMethod yX3_shipTonnes, Cond.selects RX3 yX3_shipTonnes yX3_shipTonnes, Cond.code yX3_shipTonnes cX3_shipTonnes 3 (some .int), Cond.fieldLink RX3 67 "SiloPads$Ship" "tonnes" "I", Cond.methodLink RX4 225 yX3_arches, Cond.instanceMethod yX3_arches, Cond.selects RX3 yX3_arches yX3_arches, Cond.code yX3_arches cX3_arches 3 (some .int), Cond.fieldLink RX3 73 "SiloPads$Silo" "arch" "I", Cond.methodLink RL 133 yX5_count, Cond.instanceMethod yX5_count, Cond.selects RX5 yX5_count yX5_count, Cond.code yX5_count cX5_count 2 (some .int), Cond.methodLink RX5 167 yX5_tellsCount, Cond.instanceMethod yX5_tellsCount, Cond.selects RX5 yX5_tellsCount yX5_tellsCount, Cond.code yX5_tellsCount cX5_tellsCount 2 (some .int), Cond.methodLink RX5 158 yX5_inSilos, Cond.instanceMethod yX5_inSilos]
def wsL_law0_r27 : List Cond := [Cond.selects RX5 yX5_inSilos yX5_inSilos, Cond.code yX5_inSilos cX5_inSilos 3 (some .int), Cond.methodLink RX5 161 yX5_inShips, Cond.instanceMethod yX5_inShips, Cond.selects RX5 yX5_inShips yX5_inShips, Cond.code yX5_inShips cX5_inShips 3 (some .int), Cond.methodLink RX5 164 yX5_arches, Cond.instanceMethod yX5_arches, Cond.selects RX5 yX5_arches yX5_arches, Cond.code yX5_arches cX5_arches 3 (some .int), Cond.methodLink RL 134 yL_whyNot, Cond.static yL_whyNot, Cond.codeWith yL_whyNot cL_whyNot 5 (some .int) [(0, 10, 13, 13)], Cond.methodLink RL 61 yX4_whyNot, Cond.instanceMethod yX4_whyNot, Cond.selects RX4 yX4_whyNot yX4_whyNot, Cond.code yX4_whyNot cX4_whyNot 4 (some .int), Cond.methodLink RL 136 yX5_whyNot, Cond.instanceMethod yX5_whyNot, Cond.selects RX5 yX5_whyNot yX5_whyNot, Cond.code yX5_whyNot cX5_whyNot 3 (some .int), Cond.methodLink RX5 170 yX5_reason, Cond.instanceMethod yX5_reason, Cond.selects RX5 yX5_reason yX5_reason]
def wsL_law0_r28 : List Cond := [Cond.code yX5_reason cX5_reason 3 (some .int), Cond.methodLink RL 137 yL_ifFlowed, Cond.static yL_ifFlowed, Cond.codeWith yL_ifFlowed cL_ifFlowed 7 (some .int) [(0, 14, 17, 13), (0, 14, 21, 15)], Cond.methodLink RL 64 yX4_ifFlowed, Cond.instanceMethod yX4_ifFlowed, Cond.selects RX4 yX4_ifFlowed yX4_ifFlowed, Cond.code yX4_ifFlowed cX4_ifFlowed 5 (some .int), Cond.methodLink RX4 238 yX1_becomeLike, Cond.methodLink RX4 241 yX0_becomeLike, Cond.methodLink RL 140 yX5_ifFlowed, Cond.instanceMethod yX5_ifFlowed, Cond.selects RX5 yX5_ifFlowed yX5_ifFlowed, Cond.code yX5_ifFlowed cX5_ifFlowed 5 (some .int), Cond.methodLink RX5 179 yX5_wouldFlow, Cond.instanceMethod yX5_wouldFlow, Cond.selects RX5 yX5_wouldFlow yX5_wouldFlow, Cond.code yX5_wouldFlow cX5_wouldFlow 6 (some .int), Cond.methodLink RX5 173 yX5_putAside, Cond.instanceMethod yX5_putAside, Cond.selects RX5 yX5_putAside yX5_putAside, Cond.code yX5_putAside cX5_putAside 2 none, Cond.methodLink RX5 176 yX5_takeBack, Cond.instanceMethod yX5_takeBack]
def wsL_law0_r29 : List Cond := [Cond.selects RX5 yX5_takeBack yX5_takeBack, Cond.code yX5_takeBack cX5_takeBack 2 none, Cond.methodLink RL 141 yX4_urgent, Cond.instanceMethod yX4_urgent, Cond.selects RX4 yX4_urgent yX4_urgent, Cond.code yX4_urgent cX4_urgent 3 (some .int), Cond.methodLink RX4 247 yX4_isMoreUrgent, Cond.static yX4_isMoreUrgent, Cond.code yX4_isMoreUrgent cX4_isMoreUrgent 2 (some .boolean), Cond.methodLink RL 144 yX5_urgent, Cond.instanceMethod yX5_urgent, Cond.selects RX5 yX5_urgent yX5_urgent, Cond.code yX5_urgent cX5_urgent 1 (some .int), Cond.methodLink RX5 187 yX5_mostUrgent, Cond.instanceMethod yX5_mostUrgent, Cond.selects RX5 yX5_mostUrgent yX5_mostUrgent, Cond.code yX5_mostUrgent cX5_mostUrgent 4 (some .int), Cond.methodLink RX5 183 yX5_isMoreUrgent, Cond.instanceMethod yX5_isMoreUrgent, Cond.selects RX5 yX5_isMoreUrgent yX5_isMoreUrgent, Cond.code yX5_isMoreUrgent cX5_isMoreUrgent 4 (some .boolean), Cond.methodLink RL 145 yX4_nextArch, Cond.instanceMethod yX4_nextArch, Cond.selects RX4 yX4_nextArch yX4_nextArch]
def wsL_law0_r30 : List Cond := [Cond.code yX4_nextArch cX4_nextArch 4 (some .int), Cond.methodLink RX4 254 yX4_daysUntilStiff, Cond.instanceMethod yX4_daysUntilStiff, Cond.selects RX4 yX4_daysUntilStiff yX4_daysUntilStiff, Cond.code yX4_daysUntilStiff cX4_daysUntilStiff 2 (some .int), Cond.methodLink RL 148 yX5_nextArch, Cond.instanceMethod yX5_nextArch, Cond.selects RX5 yX5_nextArch yX5_nextArch, Cond.code yX5_nextArch cX5_nextArch 1 (some .int), Cond.methodLink RX5 190 yX5_archAhead, Cond.instanceMethod yX5_archAhead, Cond.selects RX5 yX5_archAhead yX5_archAhead, Cond.code yX5_archAhead cX5_archAhead 3 (some .int), Cond.methodLink RL 149 yL_shakesNeeded, Cond.static yL_shakesNeeded, Cond.codeWith yL_shakesNeeded cL_shakesNeeded 4 (some .int) [(0, 9, 12, 13)], Cond.methodLink RL 68 yX4_shakesNeeded, Cond.instanceMethod yX4_shakesNeeded, Cond.selects RX4 yX4_shakesNeeded yX4_shakesNeeded, Cond.code yX4_shakesNeeded cX4_shakesNeeded 2 (some .int), Cond.methodLink RL 151 yX5_shakesNeeded, Cond.instanceMethod yX5_shakesNeeded, Cond.selects RX5 yX5_shakesNeeded yX5_shakesNeeded, Cond.code yX5_shakesNeeded cX5_shakesNeeded 2 (some .int)]
def wsL_law0_r31 : List Cond := [Cond.methodLink RX5 193 yX5_needed, Cond.instanceMethod yX5_needed, Cond.selects RX5 yX5_needed yX5_needed, Cond.code yX5_needed cX5_needed 2 (some .int), Cond.methodLink RL 152 yX4_softness, Cond.instanceMethod yX4_softness, Cond.selects RX4 yX4_softness yX4_softness, Cond.code yX4_softness cX4_softness 4 (some .double), Cond.methodLink RX4 263 yX4_softTonnes, Cond.instanceMethod yX4_softTonnes, Cond.selects RX4 yX4_softTonnes yX4_softTonnes, Cond.code yX4_softTonnes cX4_softTonnes 4 (some .int), Cond.methodLink RL 156 yX5_softness, Cond.instanceMethod yX5_softness, Cond.selects RX5 yX5_softness yX5_softness, Cond.code yX5_softness cX5_softness 1 (some .double), Cond.methodLink RX5 196 yX5_soft, Cond.instanceMethod yX5_soft, Cond.selects RX5 yX5_soft yX5_soft, Cond.code yX5_soft cX5_soft 4 (some .double), Cond.methodLink RL 157 yX4_digest, Cond.instanceMethod yX4_digest, Cond.selects RX4 yX4_digest yX4_digest, Cond.code yX4_digest cX4_digest 4 (some .long)]
def wsL_law0_r32 : List Cond := [Cond.constantLong RX4 266 (3533), Cond.constantLong RX4 268 (31), Cond.methodLink RX4 270 yX4_count, Cond.methodLink RX4 273 yX4_hashWithSilo, Cond.instanceMethod yX4_hashWithSilo, Cond.selects RX4 yX4_hashWithSilo yX4_hashWithSilo, Cond.code yX4_hashWithSilo cX4_hashWithSilo 9 (some .long), Cond.methodLink RX4 338 yX4_silo, Cond.methodLink RX4 340 yX4_layer, Cond.methodLink RX4 344 yX4_shakesNeeded, Cond.methodLink RX4 347 yX4_whyNot, Cond.methodLink RX4 350 yX4_ifFlowed, Cond.methodLink RX4 277 yX4_shipOf, Cond.methodLink RX4 280 yX4_urgent, Cond.methodLink RX4 283 yX4_nextArch, Cond.methodLink RX4 286 yX4_softness, Cond.methodLink RX4 290 yX4_bitsOfShare, Cond.static yX4_bitsOfShare, Cond.code yX4_bitsOfShare cX4_bitsOfShare 7 (some .long), Cond.constantLong RX4 354 (1023), Cond.constantDouble RX4 356 (4611686018427387904), Cond.constantDouble RX4 358 (4841369599423283200), Cond.methodLink RL 161 yX5_digest, Cond.instanceMethod yX5_digest]
def wsL_law0_r33 : List Cond := [Cond.selects RX5 yX5_digest yX5_digest, Cond.code yX5_digest cX5_digest 2 (some .long), Cond.constantLong RX5 210 (3533), Cond.fieldLink RX5 202 "SiloPadsModel" "hash" "J", Cond.methodLink RX5 206 yX5_hashes, Cond.instanceMethod yX5_hashes, Cond.selects RX5 yX5_hashes yX5_hashes, Cond.code yX5_hashes cX5_hashes 3 none, Cond.constantLong RX5 200 (31), Cond.methodLink RX5 212 yX5_hashesSilo, Cond.instanceMethod yX5_hashesSilo, Cond.selects RX5 yX5_hashesSilo yX5_hashesSilo, Cond.code yX5_hashesSilo cX5_hashesSilo 3 none, Cond.methodLink RX5 215 yJxe99ae_doubleToLongBits_ccdee, Cond.static yJxe99ae_doubleToLongBits_ccdee, Cond.initialized RJxe99ae, Cond.code yJxe99ae_doubleToLongBits_ccdee cJxe99ae_doubleToLongBits_ccdee 2 (some .long), Cond.methodLink RJxe99ae 134 ⟨"java/lang/Double", "doubleToRawLongBits", "(D)J"⟩, Cond.native ⟨"java/lang/Double", "doubleToRawLongBits", "(D)J"⟩, Cond.static ⟨"java/lang/Double", "doubleToRawLongBits", "(D)J"⟩, Cond.initialized "java/lang/Double", Cond.constantLong RJxe99ae 137 (9221120237041090560), Cond.methodLink RJxe99ae 122 yJxe99ae_isNaN_b9ae7, Cond.static yJxe99ae_isNaN_b9ae7]
def wsL_law0_r34 : List Cond := [Cond.code yJxe99ae_isNaN_b9ae7 cJxe99ae_isNaN_b9ae7 2 (some .boolean)]
def wsL_law0 : List Cond := (wsL_law0_r1 ++ (wsL_law0_r2 ++ (wsL_law0_r3 ++ (wsL_law0_r4 ++ (wsL_law0_r5 ++ (wsL_law0_r6 ++ (wsL_law0_r7 ++ (wsL_law0_r8 ++ (wsL_law0_r9 ++ (wsL_law0_r10 ++ (wsL_law0_r11 ++ (wsL_law0_r12 ++ (wsL_law0_r13 ++ (wsL_law0_r14 ++ (wsL_law0_r15 ++ (wsL_law0_r16 ++ (wsL_law0_r17 ++ (wsL_law0_r18 ++ (wsL_law0_r19 ++ (wsL_law0_r20 ++ (wsL_law0_r21 ++ (wsL_law0_r22 ++ (wsL_law0_r23 ++ (wsL_law0_r24 ++ (wsL_law0_r25 ++ (wsL_law0_r26 ++ (wsL_law0_r27 ++ (wsL_law0_r28 ++ (wsL_law0_r29 ++ (wsL_law0_r30 ++ (wsL_law0_r31 ++ (wsL_law0_r32 ++ (wsL_law0_r33 ++ wsL_law0_r34))))))))))))))))))))))))))))))))) ++ wsX40 ++ wsX50 ++ wsX30 ++ wsX20 ++ wsX10 ++ wsX00 ++ ([] : List Cond)
def wsL_law : List Cond := wsL_law0 ++ (vx_atS RX4 60 "java/lang/IndexOutOfBoundsException" ["java/lang/RuntimeException", "java/lang/Exception"]).filter goodWord ++ (vx_atS RX4 67 "java/lang/IllegalArgumentException" ["java/lang/RuntimeException", "java/lang/Exception"]).filter goodWord ++ (vx_atS RX4 124 "java/lang/IllegalStateException" ["java/lang/RuntimeException", "java/lang/Exception"]).filter goodWord
abbrev vwCl : List vw_C := [(RX0, TX0, 2), (RX1, TX1, 6), (RX2, TX2, 5), (RX3, TX3, 9), (RX4, TX4, 8), (RX5, TX5, 12)]
end
section
/-! THE FRAME: a world of N cells, each with a place i: L i is its address, F i what it holds. Every contract of this claim speaks of such a world, before and behind. -/
def gw (N : Nat) (L : Nat → Nat) (F : Nat → va_E) : va_W := (List.range N).map (fun i => (L i, F i))
def gup (F : Nat → va_E) (i : Nat) (e : va_E) : Nat → va_E := fun j => if j = i then e else F j
theorem gup_s {F : Nat → va_E} {i : Nat} {e : va_E} : gup F i e i = e := by simp [gup]
theorem gup_n {F : Nat → va_E} {i j : Nat} {e : va_E} (h : j ≠ i) : gup F i e j = F j := by simp [gup, h]
theorem gw_at {N : Nat} {L : Nat → Nat} {F : Nat → va_E} {i : Nat} (h : i < N) : (gw N L F)[i]? = some (L i, F i) := by
  simp [gw, h]
theorem gw_of {N : Nat} {L : Nat → Nat} {F : Nat → va_E} {i : Nat} {q : Nat × va_E} (h : (gw N L F)[i]? = some q) : i < N ∧ q = (L i, F i) := by
  rcases Nat.lt_or_ge i N with h1 | h1
  · rw [gw_at h1] at h
    exact ⟨h1, (Option.some.inj h).symm⟩
  · rw [List.getElem?_eq_none (by simp [gw]; exact h1)] at h
    cases h
theorem gw_set {N : Nat} {L : Nat → Nat} {F : Nat → va_E} {i : Nat} {e : va_E} (h : i < N) : (gw N L F).set i (L i, e) = gw N L (gup F i e) := by
  apply List.ext_getElem?
  intro j
  rcases Nat.lt_or_ge j N with hj | hj
  · rw [gw_at hj, List.getElem?_set]
    by_cases hij : i = j
    · subst hij
      simp [gup, gw, h]
    · rw [if_neg hij, gw_at hj, gup_n (fun q => hij q.symm)]
  · rw [List.getElem?_eq_none (by simp [gw]; exact hj), List.getElem?_eq_none (by simp [gw]; exact hj)]
def gA (N : Nat) (L : Nat → Nat) (sz : Nat) : Nat → Prop := fun q => (∃ i, i < N ∧ q = L i) ∨ sz ≤ q
def gty (cy : Nat → ClassId) : List (ClassId × FieldType) := [(cy 0, .int), (cy 1, .object RX1), (cy 2, .object RX0), (cy 3, .object RX3), (cy 4, .long)]
def GW (D : va_G) (N : Nat) (L : Nat → Nat) (A : Nat → Prop) (F : Nat → va_E) (H : Heap) : Prop := va_P D vwCl (gw N L F) H ∧ va_D A (gw N L F)
theorem GW.to {D : va_G} {N : Nat} {L : Nat → Nat} {A : Nat → Prop} {F F2 : Nat → va_E} {H : Heap} (h : GW D N L A F H) (e : F = F2) : GW D N L A F2 H := e ▸ h
/-- a world's addresses are the same whatever the cells hold -/
theorem gw_D {A B : Nat → Prop} {N : Nat} {L : Nat → Nat} {F F2 : Nat → va_E} (h : va_D A (gw N L F)) (hB : ∀ i, i < N → B (L i)) : va_D B (gw N L F2) := by
  refine ⟨fun i j p q hp hq e => ?_, fun k q hq => ?_⟩
  · obtain ⟨h1, rfl⟩ := gw_of hp
    obtain ⟨h2, rfl⟩ := gw_of hq
    exact h.1 i j _ _ (gw_at h1) (gw_at h2) e
  · obtain ⟨h1, rfl⟩ := gw_of hq
    exact hB k h1
/-- a method's end: what it answers, what the world holds behind it, nothing else changed -/
def gQ (D : va_G) (cy : Nat → ClassId) (N : Nat) (L : Nat → Nat) (sz : Nat) (Q : Option Value → (Nat → va_E) → Prop) : Array Value → State → Outcome → State → Prop := fun _ st oc t =>
  (∃ (v : Option Value) (F : Nat → va_E), oc = .returned v ∧ Q v F ∧ va_P D vwCl (gw N L F) t.heap ∧ va_K D vwCl (gty cy) t ∧ va_D (gA N L sz) (gw N L F)) ∧ va_F (gA N L sz) st t
def gPc (D : va_G) (cy : Nat → ClassId) (N : Nat) (L : Nat → Nat) (F : Nat → va_E) (sz : Nat) : State → Prop := fun U => U.heap.size = sz ∧ va_P D vwCl (gw N L F) U.heap ∧ va_K D vwCl (gty cy) U ∧ va_D (fun _ => True) (gw N L F)
/-- THE CONTRACT of a method that returns and makes nothing -/
def GMet (l : Launch) (D : va_G) (cy : Nat → ClassId) (N : Nat) (L : Nat → Nat) (y : MethodName) (ws : List Cond) (rm : Room) (av : List Value) (F : Nat → va_E) (Q : Option Value → (Nat → va_E) → Prop) : Prop :=
  ∀ sz : Nat, Met l y ws rm (va_Pc av (gPc D cy N L F sz)) (gQ D cy N L sz Q) 0 0 (gA N L sz)
/-- the same, answer and world behind it said -/
def GM (l : Launch) (D : va_G) (cy : Nat → ClassId) (N : Nat) (L : Nat → Nat) (y : MethodName) (ws : List Cond) (rm : Room) (av : List Value) (F : Nat → va_E) (rv : Option Value) (F2 : Nat → va_E) : Prop := GMet l D cy N L y ws rm av F (fun v F' => v = rv ∧ F' = F2)
theorem gPc_blind {D : va_G} {cy : Nat → ClassId} {N : Nat} {L : Nat → Nat} {F : Nat → va_E} {sz : Nat} {av : List Value} : FrameBlind (va_Pc av (gPc D cy N L F sz)) := by
  intro a U g mk q
  obtain ⟨q0, q1, qP, qK, qD⟩ := q
  exact ⟨q0, q1, qP, va_K.moved (u := U) (U := U.calling g mk a) (Vm.Alike.refl U.vm) qK, qD⟩
theorem GM.ofW {l : Launch} {D : va_G} {cy : Nat → ClassId} {N : Nat} {L : Nat → Nat} {y : MethodName} {ws ws' : List Cond} {rm : Room} {av : List Value} {F : Nat → va_E} {Q : Option Value → (Nat → va_E) → Prop} {cc : ByteArray} {maxL : Nat} {ret : Option FieldType}
    (hy : plainName y.cls = true) (hw : ws = Cond.code y cc maxL ret :: ws') (hlen : (lg_sl av).length ≤ maxL)
    (body : ∀ (p : Program) (e : Env) (s : State) (m : MethodId) (below : List Frame) (meth : Method) (c : Code) (ls : Array Slot), p.tables.exec = Jvm.exec → c.code = cc → meth.sig.returnType = ret → (∀ w ∈ ws, w.before av.toArray s = true) → s.vm.findClass y.cls = some m.cls → meth.locks = false → c.maxLocals = maxL → va_K D vwCl (gty cy) s → (∀ q, s.heap.size ≤ q → gA N L s.heap.size q) → GW D N L (gA N L s.heap.size) F s.heap → va_S (gA N L s.heap.size) s.heap s.heap [] → lv_has ls maxL (lv_args 0 av) →
      W p l e (headSpec ws rm).room s m av.toArray below meth c s.heap [] 0 0 (MQ below (gQ D cy N L s.heap.size Q) av.toArray s 0 0 (gA N L s.heap.size)) (F0 m 0 ls [])) : GMet l D cy N L y ws rm av F Q := by
  intro sz
  refine Met.ofW (cc := cc) (maxL := maxL) (ret := ret) hy hw ?_
  intro p e s m args below meth c s₁ B hml hv
  obtain ⟨rfl, hsz, hP, hK, hD0⟩ := hv
  subst hsz
  have hts := atoms_spec (ws := ws) B.pre
  have hown : s.vm.findClass y.cls = some m.cls := findClass_of_methodNamed B.named
  have hl := lv_entry av (n := maxL) hlen
  rw [lg_entry_eq]
  exact body p e s m below meth c _ B.exec B.bytes B.returns hts hown B.notSynchronized hml hK (fun q h => Or.inr h) ⟨hP, gw_D hD0 (fun i hi => Or.inl ⟨i, hi, rfl⟩)⟩ va_S.rf hl
section GR
variable {p : Program} {l : Launch} {e : Env} {R : Room} {s : State} {m : MethodId} {args : Array Value} {below : List Frame} {meth : Method} {c : Code} {H : Heap} {locs : List Loc} {cells slots : Nat} {Q : State → Prop}
variable {cc : ByteArray} {pc : Nat} {ls : Array Slot} {rest : List Value} {D : va_G} {cy : Nat → ClassId} {N : Nat} {L : Nat → Nat} {A : Nat → Prop} {F : Nat → va_E} {H0 : Heap}
theorem g_iret {Qv : Option Value → (Nat → va_E) → Prop} {v : Int32} {ty : FieldType} (hexec : p.tables.exec = Jvm.exec) (hb : c.code = cc) (hr : meth.sig.returnType = some ty) (hlocks : meth.locks = false) (hK : va_K D vwCl (gty cy) s) (hG : GW D N L (gA N L s.heap.size) F H) (hS : va_S (gA N L s.heap.size) s.heap H locs) (hn : narrow ty (.int v) = .int v) (hdg : decode cc pc = .ok (.ireturn, 1)) (hq : Qv (some (.int v)) F) :
    W p l e R s m args below meth c H locs cells slots (MQ below (gQ D cy N L s.heap.size Qv) args s cells slots (gA N L s.heap.size)) (F0 m pc ls [.int v]) :=
  W.zret hexec hb hr hn (fun t ht hW => ⟨⟨_, F, rfl, hq, by rw [ht]; exact hG.1, va_K.moved hW.alike hK, hG.2⟩, hS.F ht⟩) hS.2.2 hdg hlocks
theorem g_lret {Qv : Option Value → (Nat → va_E) → Prop} {v : Int64} (hexec : p.tables.exec = Jvm.exec) (hb : c.code = cc) (hr : meth.sig.returnType = some .long) (hlocks : meth.locks = false) (hK : va_K D vwCl (gty cy) s) (hG : GW D N L (gA N L s.heap.size) F H) (hS : va_S (gA N L s.heap.size) s.heap H locs) (hdg : decode cc pc = .ok (.lreturn, 1)) (hq : Qv (some (.long v)) F) :
    W p l e R s m args below meth c H locs cells slots (MQ below (gQ D cy N L s.heap.size Qv) args s cells slots (gA N L s.heap.size)) (F0 m pc ls [.long v]) :=
  W.lret hexec hb hr (fun t ht hW => ⟨⟨_, F, rfl, hq, by rw [ht]; exact hG.1, va_K.moved hW.alike hK, hG.2⟩, hS.F ht⟩) hS.2.2 hdg hlocks
theorem g_dret {Qv : Option Value → (Nat → va_E) → Prop} {v : UInt64} (hexec : p.tables.exec = Jvm.exec) (hb : c.code = cc) (hr : meth.sig.returnType = some .double) (hlocks : meth.locks = false) (hK : va_K D vwCl (gty cy) s) (hG : GW D N L (gA N L s.heap.size) F H) (hS : va_S (gA N L s.heap.size) s.heap H locs) (hdg : decode cc pc = .ok (.dreturn, 1)) (hq : Qv (some (.double v)) F) :
    W p l e R s m args below meth c H locs cells slots (MQ below (gQ D cy N L s.heap.size Qv) args s cells slots (gA N L s.heap.size)) (F0 m pc ls [.double v]) :=
  W.dret hexec hb hr (fun t ht hW => ⟨⟨_, F, rfl, hq, by rw [ht]; exact hG.1, va_K.moved hW.alike hK, hG.2⟩, hS.F ht⟩) hS.2.2 hdg hlocks
theorem g_vret {Qv : Option Value → (Nat → va_E) → Prop} (hexec : p.tables.exec = Jvm.exec) (hb : c.code = cc) (hr : meth.sig.returnType = none) (hlocks : meth.locks = false) (hK : va_K D vwCl (gty cy) s) (hG : GW D N L (gA N L s.heap.size) F H) (hS : va_S (gA N L s.heap.size) s.heap H locs) (hdg : decode cc pc = .ok (.return_, 1)) (hq : Qv none F) :
    W p l e R s m args below meth c H locs cells slots (MQ below (gQ D cy N L s.heap.size Qv) args s cells slots (gA N L s.heap.size)) (F0 m pc ls []) :=
  W.vret hexec hb hr (fun t ht hW => ⟨⟨_, F, rfl, hq, by rw [ht]; exact hG.1, va_K.moved hW.alike hK, hG.2⟩, hS.F ht⟩) hS.2.2 hdg hlocks
/-- behind a call -/
theorem g_back {st0 : List Value} {Qv : Option Value → (Nat → va_E) → Prop} {a : Array Value} {free : Addr → Prop} (hr : va_Run p l e R s m args below meth c H locs cells slots 0 0 (F0 m pc ls st0) rest (gQ D cy N L H.size Qv a) free) (hG : GW D N L A F H) (hS : va_S A H0 H locs) (hA : ∀ q, H0.size ≤ q → A q) (hfree : ∀ q, free q → gA N L H.size q)
    (kk : ∀ (v : Option Value) (F2 : Nat → va_E) (H1 : Heap) (locs1 : List Loc), Qv v F2 → GW D N L A F2 H1 → va_S A H0 H1 locs1 → W p l e R s m args below meth c H1 locs1 cells slots Q (F0 m (pc + 3) ls (v.toList ++ rest))) : W p l e R s m args below meth c H locs cells slots Q (F0 m pc ls st0) := by
  intro T hT X
  obtain ⟨v, st₀, t, T', Lc, h0, X', hL, e1, e2, ⟨⟨v2, F2, hv, hq, hP, -, hD⟩, hz, hk⟩, st⟩ := hr T hT X
  cases hv
  rw [h0] at hz hk
  have hAA : ∀ q, gA N L H.size q → A q := by
    intro q h
    rcases h with ⟨i, hi, rfl⟩ | h
    · exact hG.2.2 i (L i, F i) (gw_at hi)
    · exact hA q (Nat.le_trans hS.1 h)
  have hHz : H.size ≤ T'.heap.size := by rw [e1]; exact hz
  obtain ⟨t2, a1, b1⟩ := kk v F2 T'.heap (locs ++ Lc) hq ⟨by rw [e1]; exact hP, gw_D hD (fun i hi => hAA _ (Or.inl ⟨i, hi, rfl⟩))⟩
    ⟨Nat.le_trans hS.1 hHz, fun q h1 h2 => by rw [e1, hk q (Nat.lt_of_lt_of_le h1 hS.1) (fun z => h2 (hAA q z))]; exact hS.2.1 q h1 h2, fun q hq => by
      rcases List.mem_append.mp hq with h | h
      · exact hS.2.2 q h
      · exact hAA _ (hfree _ (hL q h))⟩ T' rfl X'
  exact ⟨t2, st t2 a1, b1⟩
/-- a call of an instance method on the object at the place i -/
theorem g_callV {y : MethodName} {bytes : ByteArray} {maxL nL n index : Nat} {ret : Option FieldType} {ws : List Cond} {rm : Room} {Ts : List Cond} {own C : String} {As st0 : List Value} {Qv : Option Value → (Nat → va_E) → Prop} {i ci : Nat} {fs : List Value} {q : vw_C}
    (hexec : p.tables.exec = Jvm.exec) (hb : c.code = cc) (hml : c.maxLocals = nL) (hown : s.vm.findClass own = some m.cls) (hts : ∀ w ∈ Ts, w.before args s = true) (hK : va_K D vwCl (gty cy) s) (hA : ∀ q, H0.size ≤ q → A q) (hG : GW D N L A F H) (hS : va_S A H0 H locs)
    (hM : GMet l D cy N L y ws rm (.ref (L i) :: As) F Qv) (cw : CallW R s args own C index y bytes maxL ret ws rm 0 0 n) (hi : i < N) (hF : F i = .inr (ci, fs)) (hc : vwCl[ci]? = some q) (hqC : q.1 = C) (hst : st0 = As.reverse ++ .ref (L i) :: rest) (hn : As.length = n) (hsize : ls.size = nL) (hroom : (rest.map fun v => v.category).sum ≤ 8) (hdg : decode cc pc = .ok (.invokevirtual index, 3)) (hcl : cells ≤ R.cells ∧ slots ≤ R.slots)
    (kk : ∀ (v : Option Value) (F2 : Nat → va_E) (H1 : Heap) (locs1 : List Loc), Qv v F2 → GW D N L A F2 H1 → va_S A H0 H1 locs1 → W p l e R s m args below meth c H1 locs1 cells slots Q (F0 m (pc + 3) ls (v.toList ++ rest))) : W p l e R s m args below meth c H locs cells slots Q (F0 m pc ls st0) := by
  have hDt : va_D (fun _ => True) (gw N L F) := gw_D hG.2 (fun _ _ => trivial)
  refine g_back (va_runV (As := As) (rest := rest) ⟨hexec, hb, hml, hown, hts⟩ (hM H.size) cw ⟨gPc_blind, hqC ▸ va_recv hK hG.1 hc (by rw [gw_at hi, hF]), fun U hU hW => ⟨rfl, by rw [hU], by rw [hU]; exact hG.1, va_K.moved hW.alike hK, hDt⟩⟩ rfl hn hsize hst (lv_room hroom) hdg hcl) hG hS hA (fun q h => h) kk
theorem g_callS {y : MethodName} {bytes : ByteArray} {maxL nL n index : Nat} {ret : Option FieldType} {ws : List Cond} {rm : Room} {Ts : List Cond} {own : String} {As st0 : List Value} {Qv : Option Value → (Nat → va_E) → Prop}
    (hexec : p.tables.exec = Jvm.exec) (hb : c.code = cc) (hml : c.maxLocals = nL) (hown : s.vm.findClass own = some m.cls) (hts : ∀ w ∈ Ts, w.before args s = true) (hK : va_K D vwCl (gty cy) s) (hA : ∀ q, H0.size ≤ q → A q) (hG : GW D N L A F H) (hS : va_S A H0 H locs)
    (hM : GMet l D cy N L y ws rm As F Qv) (cw : CallB R s args own index y bytes maxL ret ws rm 0 0 n ∧ (Cond.static y).before args s = true) (hst : st0 = As.reverse ++ rest) (hn : As.length = n) (hsize : ls.size = nL) (hroom : (rest.map fun v => v.category).sum ≤ 8) (hdg : decode cc pc = .ok (.invokestatic index, 3)) (hcl : cells ≤ R.cells ∧ slots ≤ R.slots)
    (kk : ∀ (v : Option Value) (F2 : Nat → va_E) (H1 : Heap) (locs1 : List Loc), Qv v F2 → GW D N L A F2 H1 → va_S A H0 H1 locs1 → W p l e R s m args below meth c H1 locs1 cells slots Q (F0 m (pc + 3) ls (v.toList ++ rest))) : W p l e R s m args below meth c H locs cells slots Q (F0 m pc ls st0) := by
  have hDt : va_D (fun _ => True) (gw N L F) := gw_D hG.2 (fun _ _ => trivial)
  refine g_back (va_runS (As := As) (rest := rest) ⟨hexec, hb, hml, hown, hts⟩ (hM H.size) cw ⟨gPc_blind, fun U hU hW => ⟨rfl, by rw [hU], by rw [hU]; exact hG.1, va_K.moved hW.alike hK, hDt⟩⟩ rfl hn hsize hst (lv_room hroom) hdg hcl) hG hS hA (fun q h => h) kk
/-- the same for contracts whose answer and world are said -/
theorem g_cV {y : MethodName} {bytes : ByteArray} {maxL nL n index : Nat} {ret : Option FieldType} {ws : List Cond} {rm : Room} {Ts : List Cond} {own C : String} {As st0 : List Value} {rv : Option Value} {F2 : Nat → va_E} {i ci : Nat} {fs : List Value} {q : vw_C}
    (hexec : p.tables.exec = Jvm.exec) (hb : c.code = cc) (hml : c.maxLocals = nL) (hown : s.vm.findClass own = some m.cls) (hts : ∀ w ∈ Ts, w.before args s = true) (hK : va_K D vwCl (gty cy) s) (hA : ∀ q, H0.size ≤ q → A q) (hG : GW D N L A F H) (hS : va_S A H0 H locs)
    (hM : GM l D cy N L y ws rm (.ref (L i) :: As) F rv F2) (cw : CallW R s args own C index y bytes maxL ret ws rm 0 0 n) (hi : i < N) (hF : F i = .inr (ci, fs)) (hc : vwCl[ci]? = some q) (hqC : q.1 = C) (hst : st0 = As.reverse ++ .ref (L i) :: rest) (hn : As.length = n) (hsize : ls.size = nL) (hroom : (rest.map fun v => v.category).sum ≤ 8) (hdg : decode cc pc = .ok (.invokevirtual index, 3)) (hcl : cells ≤ R.cells ∧ slots ≤ R.slots)
    (kk : ∀ (H1 : Heap) (locs1 : List Loc), GW D N L A F2 H1 → va_S A H0 H1 locs1 → W p l e R s m args below meth c H1 locs1 cells slots Q (F0 m (pc + 3) ls (rv.toList ++ rest))) : W p l e R s m args below meth c H locs cells slots Q (F0 m pc ls st0) :=
  g_callV hexec hb hml hown hts hK hA hG hS hM cw hi hF hc hqC hst hn hsize hroom hdg hcl (fun v F3 H1 locs1 hq hG1 hS1 => by obtain ⟨rfl, rfl⟩ := hq; exact kk H1 locs1 hG1 hS1)
theorem g_cS {y : MethodName} {bytes : ByteArray} {maxL nL n index : Nat} {ret : Option FieldType} {ws : List Cond} {rm : Room} {Ts : List Cond} {own : String} {As st0 : List Value} {rv : Option Value} {F2 : Nat → va_E}
    (hexec : p.tables.exec = Jvm.exec) (hb : c.code = cc) (hml : c.maxLocals = nL) (hown : s.vm.findClass own = some m.cls) (hts : ∀ w ∈ Ts, w.before args s = true) (hK : va_K D vwCl (gty cy) s) (hA : ∀ q, H0.size ≤ q → A q) (hG : GW D N L A F H) (hS : va_S A H0 H locs)
    (hM : GM l D cy N L y ws rm As F rv F2) (cw : CallB R s args own index y bytes maxL ret ws rm 0 0 n ∧ (Cond.static y).before args s = true) (hst : st0 = As.reverse ++ rest) (hn : As.length = n) (hsize : ls.size = nL) (hroom : (rest.map fun v => v.category).sum ≤ 8) (hdg : decode cc pc = .ok (.invokestatic index, 3)) (hcl : cells ≤ R.cells ∧ slots ≤ R.slots)
    (kk : ∀ (H1 : Heap) (locs1 : List Loc), GW D N L A F2 H1 → va_S A H0 H1 locs1 → W p l e R s m args below meth c H1 locs1 cells slots Q (F0 m (pc + 3) ls (rv.toList ++ rest))) : W p l e R s m args below meth c H locs cells slots Q (F0 m pc ls st0) :=
  g_callS hexec hb hml hown hts hK hA hG hS hM cw hst hn hsize hroom hdg hcl (fun v F3 H1 locs1 hq hG1 hS1 => by obtain ⟨rfl, rfl⟩ := hq; exact kk H1 locs1 hG1 hS1)
theorem g_cVi {y : MethodName} {bytes : ByteArray} {maxL nL n index : Nat} {ret : Option FieldType} {ws : List Cond} {rm : Room} {Ts : List Cond} {own C : String} {As st0 : List Value} {r : Int32} {F2 : Nat → va_E} {i ci : Nat} {fs : List Value} {q : vw_C}
    (hexec : p.tables.exec = Jvm.exec) (hb : c.code = cc) (hml : c.maxLocals = nL) (hown : s.vm.findClass own = some m.cls) (hts : ∀ w ∈ Ts, w.before args s = true) (hK : va_K D vwCl (gty cy) s) (hA : ∀ q, H0.size ≤ q → A q) (hG : GW D N L A F H) (hS : va_S A H0 H locs)
    (hM : GM l D cy N L y ws rm (.ref (L i) :: As) F (some (.int r)) F2) (cw : CallW R s args own C index y bytes maxL ret ws rm 0 0 n) (hi : i < N) (hF : F i = .inr (ci, fs)) (hc : vwCl[ci]? = some q) (hqC : q.1 = C) (hst : st0 = As.reverse ++ .ref (L i) :: rest) (hn : As.length = n) (hsize : ls.size = nL) (hroom : (rest.map fun v => v.category).sum ≤ 8) (hdg : decode cc pc = .ok (.invokevirtual index, 3)) (hcl : cells ≤ R.cells ∧ slots ≤ R.slots)
    (kk : ∀ (H1 : Heap) (locs1 : List Loc), GW D N L A F2 H1 → va_S A H0 H1 locs1 → W p l e R s m args below meth c H1 locs1 cells slots Q (F0 m (pc + 3) ls (.int r :: rest))) : W p l e R s m args below meth c H locs cells slots Q (F0 m pc ls st0) :=
  g_cV hexec hb hml hown hts hK hA hG hS hM cw hi hF hc hqC hst hn hsize hroom hdg hcl kk
theorem g_cSi {y : MethodName} {bytes : ByteArray} {maxL nL n index : Nat} {ret : Option FieldType} {ws : List Cond} {rm : Room} {Ts : List Cond} {own : String} {As st0 : List Value} {r : Int32} {F2 : Nat → va_E}
    (hexec : p.tables.exec = Jvm.exec) (hb : c.code = cc) (hml : c.maxLocals = nL) (hown : s.vm.findClass own = some m.cls) (hts : ∀ w ∈ Ts, w.before args s = true) (hK : va_K D vwCl (gty cy) s) (hA : ∀ q, H0.size ≤ q → A q) (hG : GW D N L A F H) (hS : va_S A H0 H locs)
    (hM : GM l D cy N L y ws rm As F (some (.int r)) F2) (cw : CallB R s args own index y bytes maxL ret ws rm 0 0 n ∧ (Cond.static y).before args s = true) (hst : st0 = As.reverse ++ rest) (hn : As.length = n) (hsize : ls.size = nL) (hroom : (rest.map fun v => v.category).sum ≤ 8) (hdg : decode cc pc = .ok (.invokestatic index, 3)) (hcl : cells ≤ R.cells ∧ slots ≤ R.slots)
    (kk : ∀ (H1 : Heap) (locs1 : List Loc), GW D N L A F2 H1 → va_S A H0 H1 locs1 → W p l e R s m args below meth c H1 locs1 cells slots Q (F0 m (pc + 3) ls (.int r :: rest))) : W p l e R s m args below meth c H locs cells slots Q (F0 m pc ls st0) :=
  g_cS hexec hb hml hown hts hK hA hG hS hM cw hst hn hsize hroom hdg hcl kk
theorem g_cVl {y : MethodName} {bytes : ByteArray} {maxL nL n index : Nat} {ret : Option FieldType} {ws : List Cond} {rm : Room} {Ts : List Cond} {own C : String} {As st0 : List Value} {r : Int64} {F2 : Nat → va_E} {i ci : Nat} {fs : List Value} {q : vw_C}
    (hexec : p.tables.exec = Jvm.exec) (hb : c.code = cc) (hml : c.maxLocals = nL) (hown : s.vm.findClass own = some m.cls) (hts : ∀ w ∈ Ts, w.before args s = true) (hK : va_K D vwCl (gty cy) s) (hA : ∀ q, H0.size ≤ q → A q) (hG : GW D N L A F H) (hS : va_S A H0 H locs)
    (hM : GM l D cy N L y ws rm (.ref (L i) :: As) F (some (.long r)) F2) (cw : CallW R s args own C index y bytes maxL ret ws rm 0 0 n) (hi : i < N) (hF : F i = .inr (ci, fs)) (hc : vwCl[ci]? = some q) (hqC : q.1 = C) (hst : st0 = As.reverse ++ .ref (L i) :: rest) (hn : As.length = n) (hsize : ls.size = nL) (hroom : (rest.map fun v => v.category).sum ≤ 8) (hdg : decode cc pc = .ok (.invokevirtual index, 3)) (hcl : cells ≤ R.cells ∧ slots ≤ R.slots)
    (kk : ∀ (H1 : Heap) (locs1 : List Loc), GW D N L A F2 H1 → va_S A H0 H1 locs1 → W p l e R s m args below meth c H1 locs1 cells slots Q (F0 m (pc + 3) ls (.long r :: rest))) : W p l e R s m args below meth c H locs cells slots Q (F0 m pc ls st0) :=
  g_cV hexec hb hml hown hts hK hA hG hS hM cw hi hF hc hqC hst hn hsize hroom hdg hcl kk
theorem g_cSl {y : MethodName} {bytes : ByteArray} {maxL nL n index : Nat} {ret : Option FieldType} {ws : List Cond} {rm : Room} {Ts : List Cond} {own : String} {As st0 : List Value} {r : Int64} {F2 : Nat → va_E}
    (hexec : p.tables.exec = Jvm.exec) (hb : c.code = cc) (hml : c.maxLocals = nL) (hown : s.vm.findClass own = some m.cls) (hts : ∀ w ∈ Ts, w.before args s = true) (hK : va_K D vwCl (gty cy) s) (hA : ∀ q, H0.size ≤ q → A q) (hG : GW D N L A F H) (hS : va_S A H0 H locs)
    (hM : GM l D cy N L y ws rm As F (some (.long r)) F2) (cw : CallB R s args own index y bytes maxL ret ws rm 0 0 n ∧ (Cond.static y).before args s = true) (hst : st0 = As.reverse ++ rest) (hn : As.length = n) (hsize : ls.size = nL) (hroom : (rest.map fun v => v.category).sum ≤ 8) (hdg : decode cc pc = .ok (.invokestatic index, 3)) (hcl : cells ≤ R.cells ∧ slots ≤ R.slots)
    (kk : ∀ (H1 : Heap) (locs1 : List Loc), GW D N L A F2 H1 → va_S A H0 H1 locs1 → W p l e R s m args below meth c H1 locs1 cells slots Q (F0 m (pc + 3) ls (.long r :: rest))) : W p l e R s m args below meth c H locs cells slots Q (F0 m pc ls st0) :=
  g_cS hexec hb hml hown hts hK hA hG hS hM cw hst hn hsize hroom hdg hcl kk
theorem g_cVd {y : MethodName} {bytes : ByteArray} {maxL nL n index : Nat} {ret : Option FieldType} {ws : List Cond} {rm : Room} {Ts : List Cond} {own C : String} {As st0 : List Value} {r : UInt64} {F2 : Nat → va_E} {i ci : Nat} {fs : List Value} {q : vw_C}
    (hexec : p.tables.exec = Jvm.exec) (hb : c.code = cc) (hml : c.maxLocals = nL) (hown : s.vm.findClass own = some m.cls) (hts : ∀ w ∈ Ts, w.before args s = true) (hK : va_K D vwCl (gty cy) s) (hA : ∀ q, H0.size ≤ q → A q) (hG : GW D N L A F H) (hS : va_S A H0 H locs)
    (hM : GM l D cy N L y ws rm (.ref (L i) :: As) F (some (.double r)) F2) (cw : CallW R s args own C index y bytes maxL ret ws rm 0 0 n) (hi : i < N) (hF : F i = .inr (ci, fs)) (hc : vwCl[ci]? = some q) (hqC : q.1 = C) (hst : st0 = As.reverse ++ .ref (L i) :: rest) (hn : As.length = n) (hsize : ls.size = nL) (hroom : (rest.map fun v => v.category).sum ≤ 8) (hdg : decode cc pc = .ok (.invokevirtual index, 3)) (hcl : cells ≤ R.cells ∧ slots ≤ R.slots)
    (kk : ∀ (H1 : Heap) (locs1 : List Loc), GW D N L A F2 H1 → va_S A H0 H1 locs1 → W p l e R s m args below meth c H1 locs1 cells slots Q (F0 m (pc + 3) ls (.double r :: rest))) : W p l e R s m args below meth c H locs cells slots Q (F0 m pc ls st0) :=
  g_cV hexec hb hml hown hts hK hA hG hS hM cw hi hF hc hqC hst hn hsize hroom hdg hcl kk
theorem g_cSd {y : MethodName} {bytes : ByteArray} {maxL nL n index : Nat} {ret : Option FieldType} {ws : List Cond} {rm : Room} {Ts : List Cond} {own : String} {As st0 : List Value} {r : UInt64} {F2 : Nat → va_E}
    (hexec : p.tables.exec = Jvm.exec) (hb : c.code = cc) (hml : c.maxLocals = nL) (hown : s.vm.findClass own = some m.cls) (hts : ∀ w ∈ Ts, w.before args s = true) (hK : va_K D vwCl (gty cy) s) (hA : ∀ q, H0.size ≤ q → A q) (hG : GW D N L A F H) (hS : va_S A H0 H locs)
    (hM : GM l D cy N L y ws rm As F (some (.double r)) F2) (cw : CallB R s args own index y bytes maxL ret ws rm 0 0 n ∧ (Cond.static y).before args s = true) (hst : st0 = As.reverse ++ rest) (hn : As.length = n) (hsize : ls.size = nL) (hroom : (rest.map fun v => v.category).sum ≤ 8) (hdg : decode cc pc = .ok (.invokestatic index, 3)) (hcl : cells ≤ R.cells ∧ slots ≤ R.slots)
    (kk : ∀ (H1 : Heap) (locs1 : List Loc), GW D N L A F2 H1 → va_S A H0 H1 locs1 → W p l e R s m args below meth c H1 locs1 cells slots Q (F0 m (pc + 3) ls (.double r :: rest))) : W p l e R s m args below meth c H locs cells slots Q (F0 m pc ls st0) :=
  g_cS hexec hb hml hown hts hK hA hG hS hM cw hst hn hsize hroom hdg hcl kk
theorem g_cVv {y : MethodName} {bytes : ByteArray} {maxL nL n index : Nat} {ret : Option FieldType} {ws : List Cond} {rm : Room} {Ts : List Cond} {own C : String} {As st0 : List Value}  {F2 : Nat → va_E} {i ci : Nat} {fs : List Value} {q : vw_C}
    (hexec : p.tables.exec = Jvm.exec) (hb : c.code = cc) (hml : c.maxLocals = nL) (hown : s.vm.findClass own = some m.cls) (hts : ∀ w ∈ Ts, w.before args s = true) (hK : va_K D vwCl (gty cy) s) (hA : ∀ q, H0.size ≤ q → A q) (hG : GW D N L A F H) (hS : va_S A H0 H locs)
    (hM : GM l D cy N L y ws rm (.ref (L i) :: As) F (none) F2) (cw : CallW R s args own C index y bytes maxL ret ws rm 0 0 n) (hi : i < N) (hF : F i = .inr (ci, fs)) (hc : vwCl[ci]? = some q) (hqC : q.1 = C) (hst : st0 = As.reverse ++ .ref (L i) :: rest) (hn : As.length = n) (hsize : ls.size = nL) (hroom : (rest.map fun v => v.category).sum ≤ 8) (hdg : decode cc pc = .ok (.invokevirtual index, 3)) (hcl : cells ≤ R.cells ∧ slots ≤ R.slots)
    (kk : ∀ (H1 : Heap) (locs1 : List Loc), GW D N L A F2 H1 → va_S A H0 H1 locs1 → W p l e R s m args below meth c H1 locs1 cells slots Q (F0 m (pc + 3) ls rest)) : W p l e R s m args below meth c H locs cells slots Q (F0 m pc ls st0) :=
  g_cV hexec hb hml hown hts hK hA hG hS hM cw hi hF hc hqC hst hn hsize hroom hdg hcl kk
theorem g_cSv {y : MethodName} {bytes : ByteArray} {maxL nL n index : Nat} {ret : Option FieldType} {ws : List Cond} {rm : Room} {Ts : List Cond} {own : String} {As st0 : List Value}  {F2 : Nat → va_E}
    (hexec : p.tables.exec = Jvm.exec) (hb : c.code = cc) (hml : c.maxLocals = nL) (hown : s.vm.findClass own = some m.cls) (hts : ∀ w ∈ Ts, w.before args s = true) (hK : va_K D vwCl (gty cy) s) (hA : ∀ q, H0.size ≤ q → A q) (hG : GW D N L A F H) (hS : va_S A H0 H locs)
    (hM : GM l D cy N L y ws rm As F (none) F2) (cw : CallB R s args own index y bytes maxL ret ws rm 0 0 n ∧ (Cond.static y).before args s = true) (hst : st0 = As.reverse ++ rest) (hn : As.length = n) (hsize : ls.size = nL) (hroom : (rest.map fun v => v.category).sum ≤ 8) (hdg : decode cc pc = .ok (.invokestatic index, 3)) (hcl : cells ≤ R.cells ∧ slots ≤ R.slots)
    (kk : ∀ (H1 : Heap) (locs1 : List Loc), GW D N L A F2 H1 → va_S A H0 H1 locs1 → W p l e R s m args below meth c H1 locs1 cells slots Q (F0 m (pc + 3) ls rest)) : W p l e R s m args below meth c H locs cells slots Q (F0 m pc ls st0) :=
  g_cS hexec hb hml hown hts hK hA hG hS hM cw hst hn hsize hroom hdg hcl kk
theorem g_get (hexec : p.tables.exec = Jvm.exec) (hb : c.code = cc) {own ref C : String} {T : u_T} {M ci index i : Nat} {Ts : List Cond} (hts : ∀ w ∈ Ts, w.before args s = true) (hin : ∀ w ∈ u_ws C T M, w ∈ Ts) (hown : s.vm.findClass own = some m.cls) (hK : va_K D vwCl (gty cy) s) (hG : GW D N L A F H) (hi : i < N) {fs : List Value} (hF : F i = .inr (ci, fs)) (hc : vwCl[ci]? = some (C, T, M)) (k : Nat) (hk : k < M) (hlink : (Cond.fieldLink own index ref (T k).2.1 (T k).2.2.1).before args s = true) (href : (T k).1 = ref) {v : Value} (hv : fs[k]? = some v) (hdg : decode cc pc = .ok (.getfield index, 3))
    (kk : W p l e R s m args below meth c H locs cells slots Q (F0 m (pc + 3) ls (v :: rest))) : W p l e R s m args below meth c H locs cells slots Q (F0 m pc ls (.ref (L i) :: rest)) :=
  va_get hexec hb hts hin hown hK hG.1 i (by rw [gw_at hi, hF]) hc k hk hlink (fun x h => by rw [← href]; exact h) hv hdg kk
theorem g_put (hexec : p.tables.exec = Jvm.exec) (hb : c.code = cc) {own ref C : String} {T : u_T} {M ci index i : Nat} {Ts : List Cond} (hts : ∀ w ∈ Ts, w.before args s = true) (hin : ∀ w ∈ u_ws C T M, w ∈ Ts) (ty0 : Nat → FieldType) (hty : ∀ k, k < M → parseFieldDescriptor (T k).2.2.1 = some (ty0 k)) (hnm : ∀ a, a < M → ∀ b, b < M → a ≠ b → (T a).2.1 ≠ (T b).2.1) (hown : s.vm.findClass own = some m.cls) (hK : va_K D vwCl (gty cy) s) (hG : GW D N L A F H) (hS : va_S A H0 H locs) (hi : i < N) {fs : List Value} (hF : F i = .inr (ci, fs)) (hc : vwCl[ci]? = some (C, T, M)) (k : Nat) (hk : k < M) (hlink : (Cond.fieldLink own index ref (T k).2.1 (T k).2.2.1).before args s = true) (href : (T k).1 = ref) (hfin : (T k).2.2.2 = false) {ty : FieldType} {v : Value} (hd : parseFieldDescriptor (T k).2.2.1 = some ty) (hn : narrow ty v = v) (hfit : fits ty v = true) (hl : k < fs.length)
    (hdg : decode cc pc = .ok (.putfield index, 3)) {fs2 : List Value} (h2 : fs.set k v = fs2) (kk : ∀ (H1 : Heap) (locs1 : List Loc), GW D N L A (gup F i (.inr (ci, fs2))) H1 → va_S A H0 H1 locs1 → W p l e R s m args below meth c H1 locs1 cells slots Q (F0 m (pc + 3) ls rest)) : W p l e R s m args below meth c H locs cells slots Q (F0 m pc ls (v :: .ref (L i) :: rest)) := by
  subst h2
  refine va_put hexec hb hts hin ty0 hty hnm hown hK hG.1 hG.2 hS i (by rw [gw_at hi, hF]) hc k hk hlink (fun x h => by rw [← href]; exact h) hfin hd hn hfit hl hdg (fun H1 locs1 hP hD hS1 => ?_)
  rw [gw_set hi] at hP hD
  exact kk H1 locs1 ⟨hP, hD⟩ hS1
theorem g_iald (hexec : p.tables.exec = Jvm.exec) (hb : c.code = cc) (hK : va_K D vwCl (gty cy) s) (hG : GW D N L A F H) {i n : Nat} {f : Nat → Int32} (hi : i < N) (hF : F i = .inl (cy 0, n, .inl f)) {x : Int32} {k : Nat} (hx : x = nI k) (hk : k < n) (hn : n < 2 ^ 31) (hdg : decode cc pc = .ok (.iaload, 1))
    (kk : W p l e R s m args below meth c H locs cells slots Q (F0 m (pc + 1) ls (.int (f k) :: rest))) : W p l e R s m args below meth c H locs cells slots Q (F0 m pc ls (.int x :: .ref (L i) :: rest)) := by
  subst hx
  refine va_iald hexec hb hK hG.1 i 0 (by rw [gw_at hi, hF]) rfl (vp_in_nI hk hn) hdg ?_
  rw [nI_clamp (Nat.lt_trans hk hn)]
  exact kk
theorem g_lald (hexec : p.tables.exec = Jvm.exec) (hb : c.code = cc) (hK : va_K D vwCl (gty cy) s) (hG : GW D N L A F H) {i n : Nat} {f : Nat → Int64} (hi : i < N) (hF : F i = .inl (cy 4, n, .inr (.inl f))) {x : Int32} {k : Nat} (hx : x = nI k) (hk : k < n) (hn : n < 2 ^ 31) (hdg : decode cc pc = .ok (.laload, 1))
    (kk : W p l e R s m args below meth c H locs cells slots Q (F0 m (pc + 1) ls (.long (f k) :: rest))) : W p l e R s m args below meth c H locs cells slots Q (F0 m pc ls (.int x :: .ref (L i) :: rest)) := by
  subst hx
  refine va_lald hexec hb hK hG.1 i 4 (by rw [gw_at hi, hF]) rfl (vp_in_nI hk hn) hdg ?_
  rw [nI_clamp (Nat.lt_trans hk hn)]
  exact kk
theorem g_iast (hexec : p.tables.exec = Jvm.exec) (hb : c.code = cc) (hK : va_K D vwCl (gty cy) s) (hG : GW D N L A F H) (hS : va_S A H0 H locs) {i n : Nat} {f : Nat → Int32} (hi : i < N) (hF : F i = .inl (cy 0, n, .inl f)) {x v : Int32} {k : Nat} (hx : x = nI k) (hk : k < n) (hn : n < 2 ^ 31) (hdg : decode cc pc = .ok (.iastore, 1))
    (kk : ∀ (H1 : Heap) (locs1 : List Loc), GW D N L A (gup F i (.inl (cy 0, n, .inl (upd f k v)))) H1 → va_S A H0 H1 locs1 → W p l e R s m args below meth c H1 locs1 cells slots Q (F0 m (pc + 1) ls rest)) : W p l e R s m args below meth c H locs cells slots Q (F0 m pc ls (.int v :: .int x :: .ref (L i) :: rest)) := by
  subst hx
  refine va_iast hexec hb hK hG.1 hG.2 hS i 0 (by rw [gw_at hi, hF]) rfl (vp_in_nI hk hn) hdg (fun H1 locs1 hP hD hS1 => ?_)
  rw [gw_set hi, nI_clamp (Nat.lt_trans hk hn)] at hP hD
  exact kk H1 locs1 ⟨hP, hD⟩ hS1
theorem g_last (hexec : p.tables.exec = Jvm.exec) (hb : c.code = cc) (hK : va_K D vwCl (gty cy) s) (hG : GW D N L A F H) (hS : va_S A H0 H locs) {i n : Nat} {f : Nat → Int64} (hi : i < N) (hF : F i = .inl (cy 4, n, .inr (.inl f))) {x : Int32} {v : Int64} {k : Nat} (hx : x = nI k) (hk : k < n) (hn : n < 2 ^ 31) (hdg : decode cc pc = .ok (.lastore, 1))
    (kk : ∀ (H1 : Heap) (locs1 : List Loc), GW D N L A (gup F i (.inl (cy 4, n, .inr (.inl (vp_updL f k v))))) H1 → va_S A H0 H1 locs1 → W p l e R s m args below meth c H1 locs1 cells slots Q (F0 m (pc + 1) ls rest)) : W p l e R s m args below meth c H locs cells slots Q (F0 m pc ls (.long v :: .int x :: .ref (L i) :: rest)) := by
  subst hx
  refine va_last hexec hb hK hG.1 hG.2 hS i 4 (by rw [gw_at hi, hF]) rfl (vp_in_nI hk hn) hdg (fun H1 locs1 hP hD hS1 => ?_)
  rw [gw_set hi, nI_clamp (Nat.lt_trans hk hn)] at hP hD
  exact kk H1 locs1 ⟨hP, hD⟩ hS1
theorem g_alen (hexec : p.tables.exec = Jvm.exec) (hb : c.code = cc) (hK : va_K D vwCl (gty cy) s) (hG : GW D N L A F H) {i t0 : Nat} {cA : ClassId} {ty : FieldType} {x : vp_A} (hi : i < N) (hF : F i = .inl (cA, x)) (ht : (gty cy)[t0]? = some (cA, ty)) {v : Int32} (hv : Int32.ofNat x.1 = v) (hdg : decode cc pc = .ok (.arraylength, 1))
    (kk : W p l e R s m args below meth c H locs cells slots Q (F0 m (pc + 1) ls (.int v :: rest))) : W p l e R s m args below meth c H locs cells slots Q (F0 m pc ls (.ref (L i) :: rest)) :=
  va_alen hexec hb hK hG.1 i t0 (by rw [gw_at hi, hF]) ht hv hdg kk
/-- an array of references: the cell at its row k is the one at the place j -/
theorem g_aald (hexec : p.tables.exec = Jvm.exec) (hb : c.code = cc) (hK : va_K D vwCl (gty cy) s) (hG : GW D N L A F H) {i n t0 : Nat} {cA : ClassId} {C : String} {f : Nat → Option Nat} (hi : i < N) (hF : F i = .inl (cA, n, .inr (.inr (.inr (.inr f))))) (ht : (gty cy)[t0]? = some (cA, .object C)) {x : Int32} {k j : Nat} (hx : x = nI k) (hk : k < n) (hn : n < 2 ^ 31) (hj : f k = some (L j)) (hdg : decode cc pc = .ok (.aaload, 1))
    (kk : W p l e R s m args below meth c H locs cells slots Q (F0 m (pc + 1) ls (.ref (L j) :: rest))) : W p l e R s m args below meth c H locs cells slots Q (F0 m pc ls (.int x :: .ref (L i) :: rest)) := by
  subst hx
  refine va_aldq hexec hb hK hG.1 i t0 (by rw [gw_at hi, hF]) ht (vp_in_nI hk hn) hdg ?_
  rw [nI_clamp (Nat.lt_trans hk hn), hj]
  exact kk
theorem g_aast (hexec : p.tables.exec = Jvm.exec) (hb : c.code = cc) (hK : va_K D vwCl (gty cy) s) (hG : GW D N L A F H) (hS : va_S A H0 H locs) {i n t0 j ci : Nat} {cA : ClassId} {r : vw_C} {vs : List Value} {f : Nat → Option Nat} (hi : i < N) (hF : F i = .inl (cA, n, .inr (.inr (.inr (.inr f))))) (ht : (gty cy)[t0]? = some (cA, .object r.1)) (hj : j < N) (hFj : F j = .inr (ci, vs)) (hc : vwCl[ci]? = some r) {x : Int32} {k : Nat} (hx : x = nI k) (hk : k < n) (hn : n < 2 ^ 31) (hdg : decode cc pc = .ok (.aastore, 1))
    (kk : ∀ (H1 : Heap) (locs1 : List Loc), GW D N L A (gup F i (.inl (cA, n, .inr (.inr (.inr (.inr (va_up f k (some (L j)))))))))  H1 → va_S A H0 H1 locs1 → W p l e R s m args below meth c H1 locs1 cells slots Q (F0 m (pc + 1) ls rest)) : W p l e R s m args below meth c H locs cells slots Q (F0 m pc ls (.ref (L j) :: .int x :: .ref (L i) :: rest)) := by
  subst hx
  refine va_astq hexec hb hK hG.1 hG.2 hS i t0 j ci (by rw [gw_at hi, hF]) ht (by rw [gw_at hj, hFj]) hc (vp_in_nI hk hn) hdg (fun H1 locs1 hP hD hS1 => ?_)
  rw [gw_set hi, nI_clamp (Nat.lt_trans hk hn)] at hP hD
  exact kk H1 locs1 ⟨hP, hD⟩ hS1
theorem lv_toN {x : Int32} {k : Nat} (h : x = nI k) (kk : W p l e R s m args below meth c H locs cells slots Q (F0 m pc ls (.int (nI k) :: rest))) : W p l e R s m args below meth c H locs cells slots Q (F0 m pc ls (.int x :: rest)) := by
  subst h
  exact kk
theorem lv_toI {x y : Int32} (h : x = y) (kk : W p l e R s m args below meth c H locs cells slots Q (F0 m pc ls (.int y :: rest))) : W p l e R s m args below meth c H locs cells slots Q (F0 m pc ls (.int x :: rest)) := by
  subst h
  exact kk
/-- a loop: a place of the code, what holds there of the loop's numbers x, and a measure that falls -/
theorem W.loop {σ : Type} {st : List Value} (P : σ → Heap → List Loc → Array Slot → Prop) (μ : σ → Nat) (x0 : σ) (h0 : P x0 H locs ls)
    (step : ∀ (x : σ) (H : Heap) (locs : List Loc) (ls : Array Slot), P x H locs ls → (∀ (y : σ) (H2 : Heap) (locs2 : List Loc) (ls2 : Array Slot), μ y < μ x → P y H2 locs2 ls2 → W p l e R s m args below meth c H2 locs2 cells slots Q (F0 m pc ls2 st)) → W p l e R s m args below meth c H locs cells slots Q (F0 m pc ls st)) : W p l e R s m args below meth c H locs cells slots Q (F0 m pc ls st) := by
  have h : ∀ (n : Nat) (x : σ) (H : Heap) (locs : List Loc) (ls : Array Slot), μ x < n → P x H locs ls → W p l e R s m args below meth c H locs cells slots Q (F0 m pc ls st) := by
    intro n
    induction n with
    | zero => intro x H locs ls h; exact absurd h (Nat.not_lt_zero _)
    | succ n ih => intro x H locs ls hx hP; exact step x H locs ls hP (fun y H2 locs2 ls2 hy hP2 => ih y H2 locs2 ls2 (by omega) hP2)
  exact h (μ x0 + 1) x0 H locs ls (Nat.lt_succ_self _) h0
/-- a place of the code where several ways meet -/
theorem W.cut {st st2 : List Value} {pc2 : Nat} {H : Heap} {locs : List Loc} (P : Heap → List Loc → Array Slot → Prop) (h : (∀ (H2 : Heap) (locs2 : List Loc) (ls2 : Array Slot), P H2 locs2 ls2 → W p l e R s m args below meth c H2 locs2 cells slots Q (F0 m pc2 ls2 st2)) → W p l e R s m args below meth c H locs cells slots Q (F0 m pc ls st))
    (h2 : ∀ (H2 : Heap) (locs2 : List Loc) (ls2 : Array Slot), P H2 locs2 ls2 → W p l e R s m args below meth c H2 locs2 cells slots Q (F0 m pc2 ls2 st2)) : W p l e R s m args below meth c H locs cells slots Q (F0 m pc ls st) := h h2
end GR
theorem lv_to {ls : Array Slot} {n : Nat} {a b : List (Nat × Value)} (h : lv_has ls n a) (e : a = b) : lv_has ls n b := e ▸ h
theorem g_cwS {R : Room} {s : State} {args : Array Value} {own : String} {index maxL : Nat} {y : MethodName} {bytes : ByteArray} {ret : Option FieldType} {Ts ws ws' : List Cond} {rm : Room} (n : Nat) (ht : ∀ w ∈ Ts, w.before args s = true) (hT : GoodIn Ts (va_wsS own index y ws)) (hw : ws = Cond.code y bytes maxL ret :: ws') (hrc : rm.cells = 0) (hrs : rm.slots = 0)
    (hd : y.cls ≠ "java/lang/invoke/MethodHandle" ∧ y.cls ≠ "java/lang/invoke/VarHandle" ∧ (parseMethodDescriptor y.desc).map (fun d => d.parameters.length) = some n) (hR : rm.frames + 1 ≤ R.frames ∧ 8 + (maxL + 11) + rm.locals ≤ R.locals) :
    CallB R s args own index y bytes maxL ret ws rm 0 0 n ∧ (Cond.static y).before args s = true := by
  have ok : ∀ w ∈ va_wsS own index y ws, w.before args s = true := fun w h => ht w (hT w h).1
  exact ⟨callB_of n ht (fun w h => hT w (by unfold va_wsS; exact List.mem_append_right _ h)) hw hrc hrs (ok _ (by simp [va_wsS])) (ok _ (by simp [va_wsS])) hd hR, ok _ (by simp [va_wsS])⟩
theorem lk_out2 {x : Int32} {k0 k1 : Int} {o0 o1 df : Int} (h0 : ¬ x = Int32.ofInt k0) (h1 : ¬ x = Int32.ofInt k1) : Op.lookupswitch.offset [(k0, o0), (k1, o1)] df x.toInt = df := by
  have e0 : ¬ x.toInt = k0 := fun h => h0 (by rw [← h, Int32.ofInt_toInt])
  have e1 : ¬ x.toInt = k1 := fun h => h1 (by rw [← h, Int32.ofInt_toInt])
  simp [Op.lookupswitch.offset, List.find?, e0, e1, Ne.symm]
end
section
/-! THE REFERENCE'S STATE: six cells, at the places 162 to 167 (the object, s, aside, saved, buffer, read) -/
def mW (cy : Nat → ClassId) (L : Nat → Nat) (F : Nat → va_E) (mt : Int32) (ms ma mv : Nat → Int32) (mn : Int32) (mb : Nat → Int32) (ml mp mw : Int32) (mr : Nat → Int32) (mq : Int32) (mh : Int64) : Nat → va_E := fun i =>
  if i = 162 then .inr (5, [.int mt, .ref (L 163), .ref (L 164), .ref (L 165), .int mn, .ref (L 166), .int ml, .int mp, .int mw, .ref (L 167), .int mq, .long mh])
  else if i = 163 then .inl (cy 0, 118, .inl ms) else if i = 164 then .inl (cy 0, 118, .inl ma) else if i = 165 then .inl (cy 0, 708, .inl mv) else if i = 166 then .inl (cy 0, 60, .inl mb) else if i = 167 then .inl (cy 0, 88, .inl mr) else F i
section MWL
variable {cy : Nat → ClassId} {L : Nat → Nat} {F : Nat → va_E} {mt : Int32} {ms ma mv : Nat → Int32} {mn : Int32} {mb : Nat → Int32} {ml mp mw : Int32} {mr : Nat → Int32} {mq : Int32} {mh : Int64}
theorem mW_o : mW cy L F mt ms ma mv mn mb ml mp mw mr mq mh 162 = .inr (5, [.int mt, .ref (L 163), .ref (L 164), .ref (L 165), .int mn, .ref (L 166), .int ml, .int mp, .int mw, .ref (L 167), .int mq, .long mh]) := by simp [mW]
theorem mW_a163 : mW cy L F mt ms ma mv mn mb ml mp mw mr mq mh 163 = .inl (cy 0, 118, .inl ms) := by simp [mW]
theorem mW_a164 : mW cy L F mt ms ma mv mn mb ml mp mw mr mq mh 164 = .inl (cy 0, 118, .inl ma) := by simp [mW]
theorem mW_a165 : mW cy L F mt ms ma mv mn mb ml mp mw mr mq mh 165 = .inl (cy 0, 708, .inl mv) := by simp [mW]
theorem mW_a166 : mW cy L F mt ms ma mv mn mb ml mp mw mr mq mh 166 = .inl (cy 0, 60, .inl mb) := by simp [mW]
theorem mW_a167 : mW cy L F mt ms ma mv mn mb ml mp mw mr mq mh 167 = .inl (cy 0, 88, .inl mr) := by simp [mW]
theorem mW_uo {mt' mn' ml' mp' mw' mq' : Int32} {mh' : Int64} : gup (mW cy L F mt ms ma mv mn mb ml mp mw mr mq mh) 162 (.inr (5, [.int mt', .ref (L 163), .ref (L 164), .ref (L 165), .int mn', .ref (L 166), .int ml', .int mp', .int mw', .ref (L 167), .int mq', .long mh'])) = mW cy L F mt' ms ma mv mn' mb ml' mp' mw' mr mq' mh' := by
  funext i
  by_cases h : i = 162 <;> simp [gup, mW, h]
theorem mW_us {f : Nat → Int32} : gup (mW cy L F mt ms ma mv mn mb ml mp mw mr mq mh) 163 (.inl (cy 0, 118, .inl f)) = mW cy L F mt f ma mv mn mb ml mp mw mr mq mh := by
  funext i
  by_cases h : i = 163 <;> simp [gup, mW, h]
theorem mW_ua {f : Nat → Int32} : gup (mW cy L F mt ms ma mv mn mb ml mp mw mr mq mh) 164 (.inl (cy 0, 118, .inl f)) = mW cy L F mt ms f mv mn mb ml mp mw mr mq mh := by
  funext i
  by_cases h : i = 164 <;> simp [gup, mW, h]
theorem mW_uv {f : Nat → Int32} : gup (mW cy L F mt ms ma mv mn mb ml mp mw mr mq mh) 165 (.inl (cy 0, 708, .inl f)) = mW cy L F mt ms ma f mn mb ml mp mw mr mq mh := by
  funext i
  by_cases h : i = 165 <;> simp [gup, mW, h]
theorem mW_ub {f : Nat → Int32} : gup (mW cy L F mt ms ma mv mn mb ml mp mw mr mq mh) 166 (.inl (cy 0, 60, .inl f)) = mW cy L F mt ms ma mv mn f ml mp mw mr mq mh := by
  funext i
  by_cases h : i = 166 <;> simp [gup, mW, h]
theorem mW_ur {f : Nat → Int32} : gup (mW cy L F mt ms ma mv mn mb ml mp mw mr mq mh) 167 (.inl (cy 0, 88, .inl f)) = mW cy L F mt ms ma mv mn mb ml mp mw f mq mh := by
  funext i
  by_cases h : i = 167 <;> simp [gup, mW, h]
end MWL
/-! WHAT THE REFERENCE'S METHODS ANSWER, on the row s -/
def g_in (v a b : Int32) : Int32 := if v < a then 0 else if b < v then 0 else 1
theorem g_in_nar {v a b : Int32} : narrow .boolean (.int (g_in v a b)) = .int (g_in v a b) := by
  unfold g_in
  split
  · rfl
  · split <;> rfl
def g_min (a b : Int32) : Int32 := if b ≤ a then b else a
/-- n of g's rows from a on, put over f from d on -/
def cpN (f g : Nat → Int32) (d a n : Nat) : Nat → Int32 := fun j => if d ≤ j ∧ j < d + n then g (j - d + a) else f j
theorem cpN_0 {f g : Nat → Int32} {d a : Nat} : cpN f g d a 0 = f := by
  funext j
  simp only [cpN]
  rw [if_neg (by omega)]
theorem cpN_s {f g : Nat → Int32} {d a k : Nat} : upd (cpN f g d a k) (d + k) (g (k + a)) = cpN f g d a (k + 1) := by
  funext j
  by_cases h : j = d + k
  · subst h
    simp only [cpN, pk_us]
    rw [if_pos (by omega), show d + k - d + a = k + a by omega]
  · rw [pk_un h]
    simp only [cpN]
    by_cases h2 : d ≤ j ∧ j < d + k
    · rw [if_pos h2, if_pos (by omega)]
    · rw [if_neg h2, if_neg (by omega)]
theorem cpN_own {f g : Nat → Int32} {d a k j : Nat} (h : d + k ≤ j) : cpN f g d a k j = f j := by
  simp only [cpN]
  rw [if_neg (by omega)]
def g_set (a d : Int32) : Int32 := if d < a then (if 2 * d < a then 2 else 1) else 0
def g_sum (s : Nat → Int32) (k j : Nat) : Nat → Int32
  | 0 => 0
  | n + 1 => g_sum s k j n + s (10 + 24 * k + (4 + 2 * (j + n)))
def g_flows (s : Nat → Int32) (k : Nat) : Int32 :=
  if s (10 + 24 * k + 3) = 0 then 0
  else if g_set (s (10 + 24 * k + (4 + 2 * 0 + 1))) (s 7) = 0 then (if s (10 + 24 * k + 0) = 0 then 5 else 40 * s (10 + 24 * k + 0))
  else if g_set (s (10 + 24 * k + (4 + 2 * 0 + 1))) (s 7) = 1 then (if s (10 + 24 * k + 0) = 0 then 0 else 20 * (s (10 + 24 * k + 0) - 1))
  else if s (10 + 24 * k + 0) = 4 then 10 else 0
end
section
theorem dX5_init_0 : decode cX5_init 0 = .ok (.aload_n 0, 1) := by decide +kernel
theorem dX5_init_1 : decode cX5_init 1 = .ok (.invokespecial 1, 3) := by decide +kernel
theorem dX5_init_4 : decode cX5_init 4 = .ok (.aload_n 0, 1) := by decide +kernel
theorem dX5_init_5 : decode cX5_init 5 = .ok (.bipush 118, 2) := by decide +kernel
theorem dX5_init_7 : decode cX5_init 7 = .ok (.newarray .int, 2) := by decide +kernel
theorem dX5_init_9 : decode cX5_init 9 = .ok (.putfield 7, 3) := by decide +kernel
theorem dX5_init_12 : decode cX5_init 12 = .ok (.aload_n 0, 1) := by decide +kernel
theorem dX5_init_13 : decode cX5_init 13 = .ok (.bipush 118, 2) := by decide +kernel
theorem dX5_init_15 : decode cX5_init 15 = .ok (.newarray .int, 2) := by decide +kernel
theorem dX5_init_17 : decode cX5_init 17 = .ok (.putfield 13, 3) := by decide +kernel
theorem dX5_init_20 : decode cX5_init 20 = .ok (.aload_n 0, 1) := by decide +kernel
theorem dX5_init_21 : decode cX5_init 21 = .ok (.sipush 708, 3) := by decide +kernel
theorem dX5_init_24 : decode cX5_init 24 = .ok (.newarray .int, 2) := by decide +kernel
theorem dX5_init_26 : decode cX5_init 26 = .ok (.putfield 16, 3) := by decide +kernel
theorem dX5_init_29 : decode cX5_init 29 = .ok (.aload_n 0, 1) := by decide +kernel
theorem dX5_init_30 : decode cX5_init 30 = .ok (.bipush 60, 2) := by decide +kernel
theorem dX5_init_32 : decode cX5_init 32 = .ok (.newarray .int, 2) := by decide +kernel
theorem dX5_init_34 : decode cX5_init 34 = .ok (.putfield 19, 3) := by decide +kernel
theorem dX5_init_37 : decode cX5_init 37 = .ok (.aload_n 0, 1) := by decide +kernel
theorem dX5_init_38 : decode cX5_init 38 = .ok (.bipush 88, 2) := by decide +kernel
theorem dX5_init_40 : decode cX5_init 40 = .ok (.newarray .int, 2) := by decide +kernel
theorem dX5_init_42 : decode cX5_init 42 = .ok (.putfield 22, 3) := by decide +kernel
theorem dX5_init_45 : decode cX5_init 45 = .ok (.aload_n 0, 1) := by decide +kernel
theorem dX5_init_46 : decode cX5_init 46 = .ok (.iconst 0, 1) := by decide +kernel
theorem dX5_init_47 : decode cX5_init 47 = .ok (.putfield 25, 3) := by decide +kernel
theorem dX5_init_50 : decode cX5_init 50 = .ok (.aload_n 0, 1) := by decide +kernel
theorem dX5_init_51 : decode cX5_init 51 = .ok (.getfield 7, 3) := by decide +kernel
theorem dX5_init_54 : decode cX5_init 54 = .ok (.bipush 6, 2) := by decide +kernel
theorem dX5_init_56 : decode cX5_init 56 = .ok (.bipush 6, 2) := by decide +kernel
theorem dX5_init_58 : decode cX5_init 58 = .ok (.iastore, 1) := by decide +kernel
theorem dX5_init_59 : decode cX5_init 59 = .ok (.aload_n 0, 1) := by decide +kernel
theorem dX5_init_60 : decode cX5_init 60 = .ok (.getfield 7, 3) := by decide +kernel
theorem dX5_init_63 : decode cX5_init 63 = .ok (.bipush 7, 2) := by decide +kernel
theorem dX5_init_65 : decode cX5_init 65 = .ok (.iconst 3, 1) := by decide +kernel
theorem dX5_init_66 : decode cX5_init 66 = .ok (.iastore, 1) := by decide +kernel
theorem dX5_init_67 : decode cX5_init 67 = .ok (.aload_n 0, 1) := by decide +kernel
theorem dX5_init_68 : decode cX5_init 68 = .ok (.getfield 7, 3) := by decide +kernel
theorem dX5_init_71 : decode cX5_init 71 = .ok (.bipush 8, 2) := by decide +kernel
theorem dX5_init_73 : decode cX5_init 73 = .ok (.bipush 20, 2) := by decide +kernel
theorem dX5_init_75 : decode cX5_init 75 = .ok (.iastore, 1) := by decide +kernel
theorem dX5_init_76 : decode cX5_init 76 = .ok (.aload_n 0, 1) := by decide +kernel
theorem dX5_init_77 : decode cX5_init 77 = .ok (.getfield 7, 3) := by decide +kernel
theorem dX5_init_80 : decode cX5_init 80 = .ok (.bipush 9, 2) := by decide +kernel
theorem dX5_init_82 : decode cX5_init 82 = .ok (.sipush 200, 3) := by decide +kernel
theorem dX5_init_85 : decode cX5_init 85 = .ok (.iastore, 1) := by decide +kernel
theorem dX5_init_86 : decode cX5_init 86 = .ok (.iconst 0, 1) := by decide +kernel
theorem dX5_init_87 : decode cX5_init 87 = .ok (.istore_n 1, 1) := by decide +kernel
theorem dX5_init_88 : decode cX5_init 88 = .ok (.iload_n 1, 1) := by decide +kernel
theorem dX5_init_89 : decode cX5_init 89 = .ok (.bipush 6, 2) := by decide +kernel
theorem dX5_init_91 : decode cX5_init 91 = .ok (.if_icmp .ge 25, 3) := by decide +kernel
theorem dX5_init_94 : decode cX5_init 94 = .ok (.aload_n 0, 1) := by decide +kernel
theorem dX5_init_95 : decode cX5_init 95 = .ok (.getfield 7, 3) := by decide +kernel
theorem dX5_init_98 : decode cX5_init 98 = .ok (.bipush 106, 2) := by decide +kernel
theorem dX5_init_100 : decode cX5_init 100 = .ok (.iconst 2, 1) := by decide +kernel
theorem dX5_init_101 : decode cX5_init 101 = .ok (.iload_n 1, 1) := by decide +kernel
theorem dX5_init_102 : decode cX5_init 102 = .ok (.imul, 1) := by decide +kernel
theorem dX5_init_103 : decode cX5_init 103 = .ok (.iadd, 1) := by decide +kernel
theorem dX5_init_104 : decode cX5_init 104 = .ok (.iconst 1, 1) := by decide +kernel
theorem dX5_init_105 : decode cX5_init 105 = .ok (.iadd, 1) := by decide +kernel
theorem dX5_init_106 : decode cX5_init 106 = .ok (.sipush 500, 3) := by decide +kernel
theorem dX5_init_109 : decode cX5_init 109 = .ok (.iastore, 1) := by decide +kernel
theorem dX5_init_110 : decode cX5_init 110 = .ok (.iinc 1 1, 3) := by decide +kernel
theorem dX5_init_113 : decode cX5_init 113 = .ok (.goto (-25), 3) := by decide +kernel
theorem dX5_init_116 : decode cX5_init 116 = .ok (.return_, 1) := by decide +kernel
theorem dX5_thrown_0 : decode cX5_thrown 0 = .ok (.aload_n 0, 1) := by decide +kernel
theorem dX5_thrown_1 : decode cX5_thrown 1 = .ok (.getfield 25, 3) := by decide +kernel
theorem dX5_thrown_4 : decode cX5_thrown 4 = .ok (.ireturn, 1) := by decide +kernel
theorem dX5_in_0 : decode cX5_in 0 = .ok (.iload_n 0, 1) := by decide +kernel
theorem dX5_in_1 : decode cX5_in 1 = .ok (.iload_n 1, 1) := by decide +kernel
theorem dX5_in_2 : decode cX5_in 2 = .ok (.if_icmp .lt 12, 3) := by decide +kernel
theorem dX5_in_5 : decode cX5_in 5 = .ok (.iload_n 0, 1) := by decide +kernel
theorem dX5_in_6 : decode cX5_in 6 = .ok (.iload_n 2, 1) := by decide +kernel
theorem dX5_in_7 : decode cX5_in 7 = .ok (.if_icmp .gt 7, 3) := by decide +kernel
theorem dX5_in_10 : decode cX5_in 10 = .ok (.iconst 1, 1) := by decide +kernel
theorem dX5_in_11 : decode cX5_in 11 = .ok (.goto 4, 3) := by decide +kernel
theorem dX5_in_14 : decode cX5_in 14 = .ok (.iconst 0, 1) := by decide +kernel
theorem dX5_in_15 : decode cX5_in 15 = .ok (.ireturn, 1) := by decide +kernel
theorem dX5_fails_0 : decode cX5_fails 0 = .ok (.aload_n 0, 1) := by decide +kernel
theorem dX5_fails_1 : decode cX5_fails 1 = .ok (.iload_n 1, 1) := by decide +kernel
theorem dX5_fails_2 : decode cX5_fails 2 = .ok (.putfield 25, 3) := by decide +kernel
theorem dX5_fails_5 : decode cX5_fails 5 = .ok (.iconst 0, 1) := by decide +kernel
theorem dX5_fails_6 : decode cX5_fails 6 = .ok (.ireturn, 1) := by decide +kernel
theorem dX5_lesser_0 : decode cX5_lesser 0 = .ok (.iload_n 0, 1) := by decide +kernel
theorem dX5_lesser_1 : decode cX5_lesser 1 = .ok (.iload_n 1, 1) := by decide +kernel
theorem dX5_lesser_2 : decode cX5_lesser 2 = .ok (.if_icmp .ge 7, 3) := by decide +kernel
theorem dX5_lesser_5 : decode cX5_lesser 5 = .ok (.iload_n 0, 1) := by decide +kernel
theorem dX5_lesser_6 : decode cX5_lesser 6 = .ok (.goto 4, 3) := by decide +kernel
theorem dX5_lesser_9 : decode cX5_lesser 9 = .ok (.iload_n 1, 1) := by decide +kernel
theorem dX5_lesser_10 : decode cX5_lesser 10 = .ok (.ireturn, 1) := by decide +kernel
set_option maxRecDepth 20000 in
theorem ggX5_isSilo_X5_in : GoodIn wsX5_isSilo wsX5_in := goodIn_r _ [4] (by decide +kernel) (by decide +kernel)
set_option maxRecDepth 20000 in
theorem gX5_isSilo_X5_in : GoodIn wsX5_isSilo (va_wsS RX5 29 yX5_in wsX5_in) := goodIn_app (goodIn_of _ (by decide +kernel)) ggX5_isSilo_X5_in
theorem dX5_isSilo_0 : decode cX5_isSilo 0 = .ok (.iload_n 0, 1) := by decide +kernel
theorem dX5_isSilo_1 : decode cX5_isSilo 1 = .ok (.iconst 0, 1) := by decide +kernel
theorem dX5_isSilo_2 : decode cX5_isSilo 2 = .ok (.iconst 3, 1) := by decide +kernel
theorem dX5_isSilo_3 : decode cX5_isSilo 3 = .ok (.invokestatic 29, 3) := by decide +kernel
theorem dX5_isSilo_6 : decode cX5_isSilo 6 = .ok (.ireturn, 1) := by decide +kernel
set_option maxRecDepth 20000 in
theorem ggX5_isShip_X5_in : GoodIn wsX5_isShip wsX5_in := goodIn_r _ [4] (by decide +kernel) (by decide +kernel)
set_option maxRecDepth 20000 in
theorem gX5_isShip_X5_in : GoodIn wsX5_isShip (va_wsS RX5 29 yX5_in wsX5_in) := goodIn_app (goodIn_of _ (by decide +kernel)) ggX5_isShip_X5_in
theorem dX5_isShip_0 : decode cX5_isShip 0 = .ok (.iload_n 0, 1) := by decide +kernel
theorem dX5_isShip_1 : decode cX5_isShip 1 = .ok (.iconst 0, 1) := by decide +kernel
theorem dX5_isShip_2 : decode cX5_isShip 2 = .ok (.iconst 5, 1) := by decide +kernel
theorem dX5_isShip_3 : decode cX5_isShip 3 = .ok (.invokestatic 29, 3) := by decide +kernel
theorem dX5_isShip_6 : decode cX5_isShip 6 = .ok (.ireturn, 1) := by decide +kernel
theorem dX5_of_0 : decode cX5_of 0 = .ok (.aload_n 0, 1) := by decide +kernel
theorem dX5_of_1 : decode cX5_of 1 = .ok (.getfield 7, 3) := by decide +kernel
theorem dX5_of_4 : decode cX5_of 4 = .ok (.bipush 10, 2) := by decide +kernel
theorem dX5_of_6 : decode cX5_of 6 = .ok (.bipush 24, 2) := by decide +kernel
theorem dX5_of_8 : decode cX5_of 8 = .ok (.iload_n 1, 1) := by decide +kernel
theorem dX5_of_9 : decode cX5_of 9 = .ok (.imul, 1) := by decide +kernel
theorem dX5_of_10 : decode cX5_of 10 = .ok (.iadd, 1) := by decide +kernel
theorem dX5_of_11 : decode cX5_of 11 = .ok (.iload_n 2, 1) := by decide +kernel
theorem dX5_of_12 : decode cX5_of 12 = .ok (.iadd, 1) := by decide +kernel
theorem dX5_of_13 : decode cX5_of 13 = .ok (.iaload, 1) := by decide +kernel
theorem dX5_of_14 : decode cX5_of 14 = .ok (.ireturn, 1) := by decide +kernel
theorem dX5_lay_0 : decode cX5_lay 0 = .ok (.aload_n 0, 1) := by decide +kernel
theorem dX5_lay_1 : decode cX5_lay 1 = .ok (.getfield 7, 3) := by decide +kernel
theorem dX5_lay_4 : decode cX5_lay 4 = .ok (.bipush 10, 2) := by decide +kernel
theorem dX5_lay_6 : decode cX5_lay 6 = .ok (.bipush 24, 2) := by decide +kernel
theorem dX5_lay_8 : decode cX5_lay 8 = .ok (.iload_n 1, 1) := by decide +kernel
theorem dX5_lay_9 : decode cX5_lay 9 = .ok (.imul, 1) := by decide +kernel
theorem dX5_lay_10 : decode cX5_lay 10 = .ok (.iadd, 1) := by decide +kernel
theorem dX5_lay_11 : decode cX5_lay 11 = .ok (.iload_n 2, 1) := by decide +kernel
theorem dX5_lay_12 : decode cX5_lay 12 = .ok (.iadd, 1) := by decide +kernel
theorem dX5_lay_13 : decode cX5_lay 13 = .ok (.iload_n 3, 1) := by decide +kernel
theorem dX5_lay_14 : decode cX5_lay 14 = .ok (.iastore, 1) := by decide +kernel
theorem dX5_lay_15 : decode cX5_lay 15 = .ok (.return_, 1) := by decide +kernel
set_option maxRecDepth 20000 in
theorem ggX5_tonnes_X5_of : GoodIn wsX5_tonnes wsX5_of := goodIn_r _ [5, 6, 7, 8, 9, 10, 11, 12, 13, 14, 15, 16, 17, 18] (by decide +kernel) (by decide +kernel)
set_option maxRecDepth 20000 in
theorem gX5_tonnes_X5_of : GoodIn wsX5_tonnes (wsV RX5 33 RX5 yX5_of wsX5_of) := goodIn_app (goodIn_of _ (by decide +kernel)) ggX5_tonnes_X5_of
theorem dX5_tonnes_0 : decode cX5_tonnes 0 = .ok (.aload_n 0, 1) := by decide +kernel
theorem dX5_tonnes_1 : decode cX5_tonnes 1 = .ok (.iload_n 1, 1) := by decide +kernel
theorem dX5_tonnes_2 : decode cX5_tonnes 2 = .ok (.iconst 4, 1) := by decide +kernel
theorem dX5_tonnes_3 : decode cX5_tonnes 3 = .ok (.iconst 2, 1) := by decide +kernel
theorem dX5_tonnes_4 : decode cX5_tonnes 4 = .ok (.iload_n 2, 1) := by decide +kernel
theorem dX5_tonnes_5 : decode cX5_tonnes 5 = .ok (.imul, 1) := by decide +kernel
theorem dX5_tonnes_6 : decode cX5_tonnes 6 = .ok (.iadd, 1) := by decide +kernel
theorem dX5_tonnes_7 : decode cX5_tonnes 7 = .ok (.invokevirtual 33, 3) := by decide +kernel
theorem dX5_tonnes_10 : decode cX5_tonnes 10 = .ok (.ireturn, 1) := by decide +kernel
set_option maxRecDepth 20000 in
theorem ggX5_age_X5_of : GoodIn wsX5_age wsX5_of := goodIn_r _ [5, 6, 7, 8, 9, 10, 11, 12, 13, 14, 15, 16, 17, 18] (by decide +kernel) (by decide +kernel)
set_option maxRecDepth 20000 in
theorem gX5_age_X5_of : GoodIn wsX5_age (wsV RX5 33 RX5 yX5_of wsX5_of) := goodIn_app (goodIn_of _ (by decide +kernel)) ggX5_age_X5_of
theorem dX5_age_0 : decode cX5_age 0 = .ok (.aload_n 0, 1) := by decide +kernel
theorem dX5_age_1 : decode cX5_age 1 = .ok (.iload_n 1, 1) := by decide +kernel
theorem dX5_age_2 : decode cX5_age 2 = .ok (.iconst 4, 1) := by decide +kernel
theorem dX5_age_3 : decode cX5_age 3 = .ok (.iconst 2, 1) := by decide +kernel
theorem dX5_age_4 : decode cX5_age 4 = .ok (.iload_n 2, 1) := by decide +kernel
theorem dX5_age_5 : decode cX5_age 5 = .ok (.imul, 1) := by decide +kernel
theorem dX5_age_6 : decode cX5_age 6 = .ok (.iadd, 1) := by decide +kernel
theorem dX5_age_7 : decode cX5_age 7 = .ok (.iconst 1, 1) := by decide +kernel
theorem dX5_age_8 : decode cX5_age 8 = .ok (.iadd, 1) := by decide +kernel
theorem dX5_age_9 : decode cX5_age 9 = .ok (.invokevirtual 33, 3) := by decide +kernel
theorem dX5_age_12 : decode cX5_age 12 = .ok (.ireturn, 1) := by decide +kernel
theorem dX5_room_0 : decode cX5_room 0 = .ok (.aload_n 0, 1) := by decide +kernel
theorem dX5_room_1 : decode cX5_room 1 = .ok (.getfield 7, 3) := by decide +kernel
theorem dX5_room_4 : decode cX5_room 4 = .ok (.bipush 106, 2) := by decide +kernel
theorem dX5_room_6 : decode cX5_room 6 = .ok (.iconst 2, 1) := by decide +kernel
theorem dX5_room_7 : decode cX5_room 7 = .ok (.iload_n 1, 1) := by decide +kernel
theorem dX5_room_8 : decode cX5_room 8 = .ok (.imul, 1) := by decide +kernel
theorem dX5_room_9 : decode cX5_room 9 = .ok (.iadd, 1) := by decide +kernel
theorem dX5_room_10 : decode cX5_room 10 = .ok (.iconst 1, 1) := by decide +kernel
theorem dX5_room_11 : decode cX5_room 11 = .ok (.iadd, 1) := by decide +kernel
theorem dX5_room_12 : decode cX5_room 12 = .ok (.iaload, 1) := by decide +kernel
theorem dX5_room_13 : decode cX5_room 13 = .ok (.aload_n 0, 1) := by decide +kernel
theorem dX5_room_14 : decode cX5_room 14 = .ok (.getfield 7, 3) := by decide +kernel
theorem dX5_room_17 : decode cX5_room 17 = .ok (.bipush 106, 2) := by decide +kernel
theorem dX5_room_19 : decode cX5_room 19 = .ok (.iconst 2, 1) := by decide +kernel
theorem dX5_room_20 : decode cX5_room 20 = .ok (.iload_n 1, 1) := by decide +kernel
theorem dX5_room_21 : decode cX5_room 21 = .ok (.imul, 1) := by decide +kernel
theorem dX5_room_22 : decode cX5_room 22 = .ok (.iadd, 1) := by decide +kernel
theorem dX5_room_23 : decode cX5_room 23 = .ok (.iaload, 1) := by decide +kernel
theorem dX5_room_24 : decode cX5_room 24 = .ok (.isub, 1) := by decide +kernel
theorem dX5_room_25 : decode cX5_room 25 = .ok (.ireturn, 1) := by decide +kernel
theorem dX5_saves_0 : decode cX5_saves 0 = .ok (.aload_n 0, 1) := by decide +kernel
theorem dX5_saves_1 : decode cX5_saves 1 = .ok (.getfield 37, 3) := by decide +kernel
theorem dX5_saves_4 : decode cX5_saves 4 = .ok (.bipush 6, 2) := by decide +kernel
theorem dX5_saves_6 : decode cX5_saves 6 = .ok (.if_icmp .ne 43, 3) := by decide +kernel
theorem dX5_saves_9 : decode cX5_saves 9 = .ok (.iconst 0, 1) := by decide +kernel
theorem dX5_saves_10 : decode cX5_saves 10 = .ok (.istore_n 1, 1) := by decide +kernel
theorem dX5_saves_11 : decode cX5_saves 11 = .ok (.iload_n 1, 1) := by decide +kernel
theorem dX5_saves_12 : decode cX5_saves 12 = .ok (.sipush 590, 3) := by decide +kernel
theorem dX5_saves_15 : decode cX5_saves 15 = .ok (.if_icmp .ge 24, 3) := by decide +kernel
theorem dX5_saves_18 : decode cX5_saves 18 = .ok (.aload_n 0, 1) := by decide +kernel
theorem dX5_saves_19 : decode cX5_saves 19 = .ok (.getfield 16, 3) := by decide +kernel
theorem dX5_saves_22 : decode cX5_saves 22 = .ok (.iload_n 1, 1) := by decide +kernel
theorem dX5_saves_23 : decode cX5_saves 23 = .ok (.aload_n 0, 1) := by decide +kernel
theorem dX5_saves_24 : decode cX5_saves 24 = .ok (.getfield 16, 3) := by decide +kernel
theorem dX5_saves_27 : decode cX5_saves 27 = .ok (.iload_n 1, 1) := by decide +kernel
theorem dX5_saves_28 : decode cX5_saves 28 = .ok (.bipush 118, 2) := by decide +kernel
theorem dX5_saves_30 : decode cX5_saves 30 = .ok (.iadd, 1) := by decide +kernel
theorem dX5_saves_31 : decode cX5_saves 31 = .ok (.iaload, 1) := by decide +kernel
theorem dX5_saves_32 : decode cX5_saves 32 = .ok (.iastore, 1) := by decide +kernel
theorem dX5_saves_33 : decode cX5_saves 33 = .ok (.iinc 1 1, 3) := by decide +kernel
theorem dX5_saves_36 : decode cX5_saves 36 = .ok (.goto (-25), 3) := by decide +kernel
theorem dX5_saves_39 : decode cX5_saves 39 = .ok (.aload_n 0, 1) := by decide +kernel
theorem dX5_saves_40 : decode cX5_saves 40 = .ok (.dup, 1) := by decide +kernel
theorem dX5_saves_41 : decode cX5_saves 41 = .ok (.getfield 37, 3) := by decide +kernel
theorem dX5_saves_44 : decode cX5_saves 44 = .ok (.iconst 1, 1) := by decide +kernel
theorem dX5_saves_45 : decode cX5_saves 45 = .ok (.isub, 1) := by decide +kernel
theorem dX5_saves_46 : decode cX5_saves 46 = .ok (.putfield 37, 3) := by decide +kernel
theorem dX5_saves_49 : decode cX5_saves 49 = .ok (.iconst 0, 1) := by decide +kernel
theorem dX5_saves_50 : decode cX5_saves 50 = .ok (.istore_n 1, 1) := by decide +kernel
theorem dX5_saves_51 : decode cX5_saves 51 = .ok (.iload_n 1, 1) := by decide +kernel
theorem dX5_saves_52 : decode cX5_saves 52 = .ok (.bipush 118, 2) := by decide +kernel
theorem dX5_saves_54 : decode cX5_saves 54 = .ok (.if_icmp .ge 29, 3) := by decide +kernel
theorem dX5_saves_57 : decode cX5_saves 57 = .ok (.aload_n 0, 1) := by decide +kernel
theorem dX5_saves_58 : decode cX5_saves 58 = .ok (.getfield 16, 3) := by decide +kernel
theorem dX5_saves_61 : decode cX5_saves 61 = .ok (.bipush 118, 2) := by decide +kernel
theorem dX5_saves_63 : decode cX5_saves 63 = .ok (.aload_n 0, 1) := by decide +kernel
theorem dX5_saves_64 : decode cX5_saves 64 = .ok (.getfield 37, 3) := by decide +kernel
theorem dX5_saves_67 : decode cX5_saves 67 = .ok (.imul, 1) := by decide +kernel
theorem dX5_saves_68 : decode cX5_saves 68 = .ok (.iload_n 1, 1) := by decide +kernel
theorem dX5_saves_69 : decode cX5_saves 69 = .ok (.iadd, 1) := by decide +kernel
theorem dX5_saves_70 : decode cX5_saves 70 = .ok (.aload_n 0, 1) := by decide +kernel
theorem dX5_saves_71 : decode cX5_saves 71 = .ok (.getfield 7, 3) := by decide +kernel
theorem dX5_saves_74 : decode cX5_saves 74 = .ok (.iload_n 1, 1) := by decide +kernel
theorem dX5_saves_75 : decode cX5_saves 75 = .ok (.iaload, 1) := by decide +kernel
theorem dX5_saves_76 : decode cX5_saves 76 = .ok (.iastore, 1) := by decide +kernel
theorem dX5_saves_77 : decode cX5_saves 77 = .ok (.iinc 1 1, 3) := by decide +kernel
theorem dX5_saves_80 : decode cX5_saves 80 = .ok (.goto (-29), 3) := by decide +kernel
theorem dX5_saves_83 : decode cX5_saves 83 = .ok (.aload_n 0, 1) := by decide +kernel
theorem dX5_saves_84 : decode cX5_saves 84 = .ok (.dup, 1) := by decide +kernel
theorem dX5_saves_85 : decode cX5_saves 85 = .ok (.getfield 37, 3) := by decide +kernel
theorem dX5_saves_88 : decode cX5_saves 88 = .ok (.iconst 1, 1) := by decide +kernel
theorem dX5_saves_89 : decode cX5_saves 89 = .ok (.iadd, 1) := by decide +kernel
theorem dX5_saves_90 : decode cX5_saves 90 = .ok (.putfield 37, 3) := by decide +kernel
theorem dX5_saves_93 : decode cX5_saves 93 = .ok (.return_, 1) := by decide +kernel
theorem dX5_putAside_0 : decode cX5_putAside 0 = .ok (.iconst 0, 1) := by decide +kernel
theorem dX5_putAside_1 : decode cX5_putAside 1 = .ok (.istore_n 1, 1) := by decide +kernel
theorem dX5_putAside_2 : decode cX5_putAside 2 = .ok (.iload_n 1, 1) := by decide +kernel
theorem dX5_putAside_3 : decode cX5_putAside 3 = .ok (.bipush 118, 2) := by decide +kernel
theorem dX5_putAside_5 : decode cX5_putAside 5 = .ok (.if_icmp .ge 21, 3) := by decide +kernel
theorem dX5_putAside_8 : decode cX5_putAside 8 = .ok (.aload_n 0, 1) := by decide +kernel
theorem dX5_putAside_9 : decode cX5_putAside 9 = .ok (.getfield 13, 3) := by decide +kernel
theorem dX5_putAside_12 : decode cX5_putAside 12 = .ok (.iload_n 1, 1) := by decide +kernel
theorem dX5_putAside_13 : decode cX5_putAside 13 = .ok (.aload_n 0, 1) := by decide +kernel
theorem dX5_putAside_14 : decode cX5_putAside 14 = .ok (.getfield 7, 3) := by decide +kernel
theorem dX5_putAside_17 : decode cX5_putAside 17 = .ok (.iload_n 1, 1) := by decide +kernel
theorem dX5_putAside_18 : decode cX5_putAside 18 = .ok (.iaload, 1) := by decide +kernel
theorem dX5_putAside_19 : decode cX5_putAside 19 = .ok (.iastore, 1) := by decide +kernel
theorem dX5_putAside_20 : decode cX5_putAside 20 = .ok (.iinc 1 1, 3) := by decide +kernel
theorem dX5_putAside_23 : decode cX5_putAside 23 = .ok (.goto (-21), 3) := by decide +kernel
theorem dX5_putAside_26 : decode cX5_putAside 26 = .ok (.return_, 1) := by decide +kernel
theorem dX5_takeBack_0 : decode cX5_takeBack 0 = .ok (.iconst 0, 1) := by decide +kernel
theorem dX5_takeBack_1 : decode cX5_takeBack 1 = .ok (.istore_n 1, 1) := by decide +kernel
theorem dX5_takeBack_2 : decode cX5_takeBack 2 = .ok (.iload_n 1, 1) := by decide +kernel
theorem dX5_takeBack_3 : decode cX5_takeBack 3 = .ok (.bipush 118, 2) := by decide +kernel
theorem dX5_takeBack_5 : decode cX5_takeBack 5 = .ok (.if_icmp .ge 21, 3) := by decide +kernel
theorem dX5_takeBack_8 : decode cX5_takeBack 8 = .ok (.aload_n 0, 1) := by decide +kernel
theorem dX5_takeBack_9 : decode cX5_takeBack 9 = .ok (.getfield 7, 3) := by decide +kernel
theorem dX5_takeBack_12 : decode cX5_takeBack 12 = .ok (.iload_n 1, 1) := by decide +kernel
theorem dX5_takeBack_13 : decode cX5_takeBack 13 = .ok (.aload_n 0, 1) := by decide +kernel
theorem dX5_takeBack_14 : decode cX5_takeBack 14 = .ok (.getfield 13, 3) := by decide +kernel
theorem dX5_takeBack_17 : decode cX5_takeBack 17 = .ok (.iload_n 1, 1) := by decide +kernel
theorem dX5_takeBack_18 : decode cX5_takeBack 18 = .ok (.iaload, 1) := by decide +kernel
theorem dX5_takeBack_19 : decode cX5_takeBack 19 = .ok (.iastore, 1) := by decide +kernel
theorem dX5_takeBack_20 : decode cX5_takeBack 20 = .ok (.iinc 1 1, 3) := by decide +kernel
theorem dX5_takeBack_23 : decode cX5_takeBack 23 = .ok (.goto (-21), 3) := by decide +kernel
theorem dX5_takeBack_26 : decode cX5_takeBack 26 = .ok (.return_, 1) := by decide +kernel
set_option maxRecDepth 20000 in
theorem ggX5_setOf_X5_age : GoodIn wsX5_setOf wsX5_age := goodIn_r _ [6, 7, 8, 9, 5, 10, 1, 11, 12, 13, 14, 15, 16, 17, 18, 19, 20, 21, 22] (by decide +kernel) (by decide +kernel)
set_option maxRecDepth 20000 in
theorem gX5_setOf_X5_age : GoodIn wsX5_setOf (wsV RX5 40 RX5 yX5_age wsX5_age) := goodIn_app (goodIn_of _ (by decide +kernel)) ggX5_setOf_X5_age
theorem dX5_setOf_0 : decode cX5_setOf 0 = .ok (.aload_n 0, 1) := by decide +kernel
theorem dX5_setOf_1 : decode cX5_setOf 1 = .ok (.iload_n 1, 1) := by decide +kernel
theorem dX5_setOf_2 : decode cX5_setOf 2 = .ok (.iload_n 2, 1) := by decide +kernel
theorem dX5_setOf_3 : decode cX5_setOf 3 = .ok (.invokevirtual 40, 3) := by decide +kernel
theorem dX5_setOf_6 : decode cX5_setOf 6 = .ok (.istore_n 3, 1) := by decide +kernel
theorem dX5_setOf_7 : decode cX5_setOf 7 = .ok (.iload_n 3, 1) := by decide +kernel
theorem dX5_setOf_8 : decode cX5_setOf 8 = .ok (.aload_n 0, 1) := by decide +kernel
theorem dX5_setOf_9 : decode cX5_setOf 9 = .ok (.getfield 7, 3) := by decide +kernel
theorem dX5_setOf_12 : decode cX5_setOf 12 = .ok (.bipush 7, 2) := by decide +kernel
theorem dX5_setOf_14 : decode cX5_setOf 14 = .ok (.iaload, 1) := by decide +kernel
theorem dX5_setOf_15 : decode cX5_setOf 15 = .ok (.if_icmp .gt 7, 3) := by decide +kernel
theorem dX5_setOf_18 : decode cX5_setOf 18 = .ok (.iconst 0, 1) := by decide +kernel
theorem dX5_setOf_19 : decode cX5_setOf 19 = .ok (.goto 21, 3) := by decide +kernel
theorem dX5_setOf_22 : decode cX5_setOf 22 = .ok (.iload_n 3, 1) := by decide +kernel
theorem dX5_setOf_23 : decode cX5_setOf 23 = .ok (.iconst 2, 1) := by decide +kernel
theorem dX5_setOf_24 : decode cX5_setOf 24 = .ok (.aload_n 0, 1) := by decide +kernel
theorem dX5_setOf_25 : decode cX5_setOf 25 = .ok (.getfield 7, 3) := by decide +kernel
theorem dX5_setOf_28 : decode cX5_setOf 28 = .ok (.bipush 7, 2) := by decide +kernel
theorem dX5_setOf_30 : decode cX5_setOf 30 = .ok (.iaload, 1) := by decide +kernel
theorem dX5_setOf_31 : decode cX5_setOf 31 = .ok (.imul, 1) := by decide +kernel
theorem dX5_setOf_32 : decode cX5_setOf 32 = .ok (.if_icmp .gt 7, 3) := by decide +kernel
theorem dX5_setOf_35 : decode cX5_setOf 35 = .ok (.iconst 1, 1) := by decide +kernel
theorem dX5_setOf_36 : decode cX5_setOf 36 = .ok (.goto 4, 3) := by decide +kernel
theorem dX5_setOf_39 : decode cX5_setOf 39 = .ok (.iconst 2, 1) := by decide +kernel
theorem dX5_setOf_40 : decode cX5_setOf 40 = .ok (.ireturn, 1) := by decide +kernel
set_option maxRecDepth 20000 in
theorem ggX5_sumFrom_X5_of : GoodIn wsX5_sumFrom wsX5_of := goodIn_r _ [5, 6, 11, 12, 13, 14, 15, 16, 17, 18, 19, 20, 21, 22] (by decide +kernel) (by decide +kernel)
set_option maxRecDepth 20000 in
theorem gX5_sumFrom_X5_of : GoodIn wsX5_sumFrom (wsV RX5 33 RX5 yX5_of wsX5_of) := goodIn_app (goodIn_of _ (by decide +kernel)) ggX5_sumFrom_X5_of
set_option maxRecDepth 20000 in
theorem ggX5_sumFrom_X5_tonnes : GoodIn wsX5_sumFrom wsX5_tonnes := goodIn_r _ [10, 1, 2, 3, 4, 5, 6, 11, 12, 13, 14, 15, 16, 17, 18, 19, 20, 21, 22] (by decide +kernel) (by decide +kernel)
set_option maxRecDepth 20000 in
theorem gX5_sumFrom_X5_tonnes : GoodIn wsX5_sumFrom (wsV RX5 43 RX5 yX5_tonnes wsX5_tonnes) := goodIn_app (goodIn_of _ (by decide +kernel)) ggX5_sumFrom_X5_tonnes
theorem dX5_sumFrom_0 : decode cX5_sumFrom 0 = .ok (.iconst 0, 1) := by decide +kernel
theorem dX5_sumFrom_1 : decode cX5_sumFrom 1 = .ok (.istore_n 3, 1) := by decide +kernel
theorem dX5_sumFrom_2 : decode cX5_sumFrom 2 = .ok (.iload_n 2, 1) := by decide +kernel
theorem dX5_sumFrom_3 : decode cX5_sumFrom 3 = .ok (.istore 4, 2) := by decide +kernel
theorem dX5_sumFrom_5 : decode cX5_sumFrom 5 = .ok (.iload 4, 2) := by decide +kernel
theorem dX5_sumFrom_7 : decode cX5_sumFrom 7 = .ok (.aload_n 0, 1) := by decide +kernel
theorem dX5_sumFrom_8 : decode cX5_sumFrom 8 = .ok (.iload_n 1, 1) := by decide +kernel
theorem dX5_sumFrom_9 : decode cX5_sumFrom 9 = .ok (.iconst 3, 1) := by decide +kernel
theorem dX5_sumFrom_10 : decode cX5_sumFrom 10 = .ok (.invokevirtual 33, 3) := by decide +kernel
theorem dX5_sumFrom_13 : decode cX5_sumFrom 13 = .ok (.if_icmp .ge 19, 3) := by decide +kernel
theorem dX5_sumFrom_16 : decode cX5_sumFrom 16 = .ok (.iload_n 3, 1) := by decide +kernel
theorem dX5_sumFrom_17 : decode cX5_sumFrom 17 = .ok (.aload_n 0, 1) := by decide +kernel
theorem dX5_sumFrom_18 : decode cX5_sumFrom 18 = .ok (.iload_n 1, 1) := by decide +kernel
theorem dX5_sumFrom_19 : decode cX5_sumFrom 19 = .ok (.iload 4, 2) := by decide +kernel
theorem dX5_sumFrom_21 : decode cX5_sumFrom 21 = .ok (.invokevirtual 43, 3) := by decide +kernel
theorem dX5_sumFrom_24 : decode cX5_sumFrom 24 = .ok (.iadd, 1) := by decide +kernel
theorem dX5_sumFrom_25 : decode cX5_sumFrom 25 = .ok (.istore_n 3, 1) := by decide +kernel
theorem dX5_sumFrom_26 : decode cX5_sumFrom 26 = .ok (.iinc 4 1, 3) := by decide +kernel
theorem dX5_sumFrom_29 : decode cX5_sumFrom 29 = .ok (.goto (-24), 3) := by decide +kernel
theorem dX5_sumFrom_32 : decode cX5_sumFrom 32 = .ok (.iload_n 3, 1) := by decide +kernel
theorem dX5_sumFrom_33 : decode cX5_sumFrom 33 = .ok (.ireturn, 1) := by decide +kernel
set_option maxRecDepth 20000 in
theorem ggX5_flows_X5_of : GoodIn wsX5_flows wsX5_of := goodIn_r _ [5, 6, 15, 16, 17, 18, 19, 20, 21, 22, 23, 24, 25, 26] (by decide +kernel) (by decide +kernel)
set_option maxRecDepth 20000 in
theorem gX5_flows_X5_of : GoodIn wsX5_flows (wsV RX5 33 RX5 yX5_of wsX5_of) := goodIn_app (goodIn_of _ (by decide +kernel)) ggX5_flows_X5_of
set_option maxRecDepth 20000 in
theorem ggX5_flows_X5_setOf : GoodIn wsX5_flows wsX5_setOf := goodIn_r _ [10, 6, 11, 12, 13, 4, 14, 1, 2, 3, 5, 15, 16, 17, 18, 19, 20, 21, 22, 23, 24, 25, 26] (by decide +kernel) (by decide +kernel)
set_option maxRecDepth 20000 in
theorem gX5_flows_X5_setOf : GoodIn wsX5_flows (wsV RX5 46 RX5 yX5_setOf wsX5_setOf) := goodIn_app (goodIn_of _ (by decide +kernel)) ggX5_flows_X5_setOf
theorem dX5_flows_0 : decode cX5_flows 0 = .ok (.aload_n 0, 1) := by decide +kernel
theorem dX5_flows_1 : decode cX5_flows 1 = .ok (.iload_n 1, 1) := by decide +kernel
theorem dX5_flows_2 : decode cX5_flows 2 = .ok (.iconst 3, 1) := by decide +kernel
theorem dX5_flows_3 : decode cX5_flows 3 = .ok (.invokevirtual 33, 3) := by decide +kernel
theorem dX5_flows_6 : decode cX5_flows 6 = .ok (.ifCond .ne 5, 3) := by decide +kernel
theorem dX5_flows_9 : decode cX5_flows 9 = .ok (.iconst 0, 1) := by decide +kernel
theorem dX5_flows_10 : decode cX5_flows 10 = .ok (.ireturn, 1) := by decide +kernel
theorem dX5_flows_11 : decode cX5_flows 11 = .ok (.aload_n 0, 1) := by decide +kernel
theorem dX5_flows_12 : decode cX5_flows 12 = .ok (.iload_n 1, 1) := by decide +kernel
theorem dX5_flows_13 : decode cX5_flows 13 = .ok (.iconst 0, 1) := by decide +kernel
theorem dX5_flows_14 : decode cX5_flows 14 = .ok (.invokevirtual 33, 3) := by decide +kernel
theorem dX5_flows_17 : decode cX5_flows 17 = .ok (.istore_n 2, 1) := by decide +kernel
theorem dX5_flows_18 : decode cX5_flows 18 = .ok (.aload_n 0, 1) := by decide +kernel
theorem dX5_flows_19 : decode cX5_flows 19 = .ok (.iload_n 1, 1) := by decide +kernel
theorem dX5_flows_20 : decode cX5_flows 20 = .ok (.iconst 0, 1) := by decide +kernel
theorem dX5_flows_21 : decode cX5_flows 21 = .ok (.invokevirtual 46, 3) := by decide +kernel
theorem dX5_flows_24 : decode cX5_flows 24 = .ok (.lookupswitch 56 #[(0, 28), (1, 41)], 28) := by decide +kernel
theorem dX5_flows_52 : decode cX5_flows 52 = .ok (.iload_n 2, 1) := by decide +kernel
theorem dX5_flows_53 : decode cX5_flows 53 = .ok (.ifCond .ne 7, 3) := by decide +kernel
theorem dX5_flows_56 : decode cX5_flows 56 = .ok (.iconst 5, 1) := by decide +kernel
theorem dX5_flows_57 : decode cX5_flows 57 = .ok (.goto 7, 3) := by decide +kernel
theorem dX5_flows_60 : decode cX5_flows 60 = .ok (.bipush 40, 2) := by decide +kernel
theorem dX5_flows_62 : decode cX5_flows 62 = .ok (.iload_n 2, 1) := by decide +kernel
theorem dX5_flows_63 : decode cX5_flows 63 = .ok (.imul, 1) := by decide +kernel
theorem dX5_flows_64 : decode cX5_flows 64 = .ok (.ireturn, 1) := by decide +kernel
theorem dX5_flows_65 : decode cX5_flows 65 = .ok (.iload_n 2, 1) := by decide +kernel
theorem dX5_flows_66 : decode cX5_flows 66 = .ok (.ifCond .ne 7, 3) := by decide +kernel
theorem dX5_flows_69 : decode cX5_flows 69 = .ok (.iconst 0, 1) := by decide +kernel
theorem dX5_flows_70 : decode cX5_flows 70 = .ok (.goto 9, 3) := by decide +kernel
theorem dX5_flows_73 : decode cX5_flows 73 = .ok (.bipush 20, 2) := by decide +kernel
theorem dX5_flows_75 : decode cX5_flows 75 = .ok (.iload_n 2, 1) := by decide +kernel
theorem dX5_flows_76 : decode cX5_flows 76 = .ok (.iconst 1, 1) := by decide +kernel
theorem dX5_flows_77 : decode cX5_flows 77 = .ok (.isub, 1) := by decide +kernel
theorem dX5_flows_78 : decode cX5_flows 78 = .ok (.imul, 1) := by decide +kernel
theorem dX5_flows_79 : decode cX5_flows 79 = .ok (.ireturn, 1) := by decide +kernel
theorem dX5_flows_80 : decode cX5_flows 80 = .ok (.iload_n 2, 1) := by decide +kernel
theorem dX5_flows_81 : decode cX5_flows 81 = .ok (.iconst 4, 1) := by decide +kernel
theorem dX5_flows_82 : decode cX5_flows 82 = .ok (.if_icmp .ne 8, 3) := by decide +kernel
theorem dX5_flows_85 : decode cX5_flows 85 = .ok (.bipush 10, 2) := by decide +kernel
theorem dX5_flows_87 : decode cX5_flows 87 = .ok (.goto 4, 3) := by decide +kernel
theorem dX5_flows_90 : decode cX5_flows 90 = .ok (.iconst 0, 1) := by decide +kernel
theorem dX5_flows_91 : decode cX5_flows 91 = .ok (.ireturn, 1) := by decide +kernel
set_option maxRecDepth 20000 in
theorem ggX5_drops_X5_of : GoodIn wsX5_drops wsX5_of := goodIn_r _ [5, 6, 11, 12, 13, 14, 15, 16, 17, 18, 19, 20, 21, 22] (by decide +kernel) (by decide +kernel)
set_option maxRecDepth 20000 in
theorem gX5_drops_X5_of : GoodIn wsX5_drops (wsV RX5 33 RX5 yX5_of wsX5_of) := goodIn_app (goodIn_of _ (by decide +kernel)) ggX5_drops_X5_of
set_option maxRecDepth 20000 in
theorem ggX5_drops_X5_lay : GoodIn wsX5_drops wsX5_lay := goodIn_r _ [10, 6, 11, 12, 13, 14, 15, 16, 17, 18, 19, 20, 21, 22] (by decide +kernel) (by decide +kernel)
set_option maxRecDepth 20000 in
theorem gX5_drops_X5_lay : GoodIn wsX5_drops (wsV RX5 49 RX5 yX5_lay wsX5_lay) := goodIn_app (goodIn_of _ (by decide +kernel)) ggX5_drops_X5_lay
theorem dX5_drops_0 : decode cX5_drops 0 = .ok (.aload_n 0, 1) := by decide +kernel
theorem dX5_drops_1 : decode cX5_drops 1 = .ok (.iload_n 1, 1) := by decide +kernel
theorem dX5_drops_2 : decode cX5_drops 2 = .ok (.iconst 3, 1) := by decide +kernel
theorem dX5_drops_3 : decode cX5_drops 3 = .ok (.invokevirtual 33, 3) := by decide +kernel
theorem dX5_drops_6 : decode cX5_drops 6 = .ok (.iconst 1, 1) := by decide +kernel
theorem dX5_drops_7 : decode cX5_drops 7 = .ok (.isub, 1) := by decide +kernel
theorem dX5_drops_8 : decode cX5_drops 8 = .ok (.istore_n 2, 1) := by decide +kernel
theorem dX5_drops_9 : decode cX5_drops 9 = .ok (.aload_n 0, 1) := by decide +kernel
theorem dX5_drops_10 : decode cX5_drops 10 = .ok (.iload_n 1, 1) := by decide +kernel
theorem dX5_drops_11 : decode cX5_drops 11 = .ok (.iconst 3, 1) := by decide +kernel
theorem dX5_drops_12 : decode cX5_drops 12 = .ok (.iload_n 2, 1) := by decide +kernel
theorem dX5_drops_13 : decode cX5_drops 13 = .ok (.invokevirtual 49, 3) := by decide +kernel
theorem dX5_drops_16 : decode cX5_drops 16 = .ok (.iconst 4, 1) := by decide +kernel
theorem dX5_drops_17 : decode cX5_drops 17 = .ok (.istore_n 3, 1) := by decide +kernel
theorem dX5_drops_18 : decode cX5_drops 18 = .ok (.iload_n 3, 1) := by decide +kernel
theorem dX5_drops_19 : decode cX5_drops 19 = .ok (.iconst 4, 1) := by decide +kernel
theorem dX5_drops_20 : decode cX5_drops 20 = .ok (.iconst 2, 1) := by decide +kernel
theorem dX5_drops_21 : decode cX5_drops 21 = .ok (.iload_n 2, 1) := by decide +kernel
theorem dX5_drops_22 : decode cX5_drops 22 = .ok (.imul, 1) := by decide +kernel
theorem dX5_drops_23 : decode cX5_drops 23 = .ok (.iadd, 1) := by decide +kernel
theorem dX5_drops_24 : decode cX5_drops 24 = .ok (.if_icmp .ge 23, 3) := by decide +kernel
theorem dX5_drops_27 : decode cX5_drops 27 = .ok (.aload_n 0, 1) := by decide +kernel
theorem dX5_drops_28 : decode cX5_drops 28 = .ok (.iload_n 1, 1) := by decide +kernel
theorem dX5_drops_29 : decode cX5_drops 29 = .ok (.iload_n 3, 1) := by decide +kernel
theorem dX5_drops_30 : decode cX5_drops 30 = .ok (.aload_n 0, 1) := by decide +kernel
theorem dX5_drops_31 : decode cX5_drops 31 = .ok (.iload_n 1, 1) := by decide +kernel
theorem dX5_drops_32 : decode cX5_drops 32 = .ok (.iload_n 3, 1) := by decide +kernel
theorem dX5_drops_33 : decode cX5_drops 33 = .ok (.iconst 2, 1) := by decide +kernel
theorem dX5_drops_34 : decode cX5_drops 34 = .ok (.iadd, 1) := by decide +kernel
theorem dX5_drops_35 : decode cX5_drops 35 = .ok (.invokevirtual 33, 3) := by decide +kernel
theorem dX5_drops_38 : decode cX5_drops 38 = .ok (.invokevirtual 49, 3) := by decide +kernel
theorem dX5_drops_41 : decode cX5_drops 41 = .ok (.iinc 3 1, 3) := by decide +kernel
theorem dX5_drops_44 : decode cX5_drops 44 = .ok (.goto (-26), 3) := by decide +kernel
theorem dX5_drops_47 : decode cX5_drops 47 = .ok (.aload_n 0, 1) := by decide +kernel
theorem dX5_drops_48 : decode cX5_drops 48 = .ok (.iload_n 1, 1) := by decide +kernel
theorem dX5_drops_49 : decode cX5_drops 49 = .ok (.iconst 4, 1) := by decide +kernel
theorem dX5_drops_50 : decode cX5_drops 50 = .ok (.iconst 2, 1) := by decide +kernel
theorem dX5_drops_51 : decode cX5_drops 51 = .ok (.iload_n 2, 1) := by decide +kernel
theorem dX5_drops_52 : decode cX5_drops 52 = .ok (.imul, 1) := by decide +kernel
theorem dX5_drops_53 : decode cX5_drops 53 = .ok (.iadd, 1) := by decide +kernel
theorem dX5_drops_54 : decode cX5_drops 54 = .ok (.iconst 0, 1) := by decide +kernel
theorem dX5_drops_55 : decode cX5_drops 55 = .ok (.invokevirtual 49, 3) := by decide +kernel
theorem dX5_drops_58 : decode cX5_drops 58 = .ok (.aload_n 0, 1) := by decide +kernel
theorem dX5_drops_59 : decode cX5_drops 59 = .ok (.iload_n 1, 1) := by decide +kernel
theorem dX5_drops_60 : decode cX5_drops 60 = .ok (.iconst 4, 1) := by decide +kernel
theorem dX5_drops_61 : decode cX5_drops 61 = .ok (.iconst 2, 1) := by decide +kernel
theorem dX5_drops_62 : decode cX5_drops 62 = .ok (.iload_n 2, 1) := by decide +kernel
theorem dX5_drops_63 : decode cX5_drops 63 = .ok (.imul, 1) := by decide +kernel
theorem dX5_drops_64 : decode cX5_drops 64 = .ok (.iadd, 1) := by decide +kernel
theorem dX5_drops_65 : decode cX5_drops 65 = .ok (.iconst 1, 1) := by decide +kernel
theorem dX5_drops_66 : decode cX5_drops 66 = .ok (.iadd, 1) := by decide +kernel
theorem dX5_drops_67 : decode cX5_drops 67 = .ok (.iconst 0, 1) := by decide +kernel
theorem dX5_drops_68 : decode cX5_drops 68 = .ok (.invokevirtual 49, 3) := by decide +kernel
theorem dX5_drops_71 : decode cX5_drops 71 = .ok (.aload_n 0, 1) := by decide +kernel
theorem dX5_drops_72 : decode cX5_drops 72 = .ok (.iload_n 1, 1) := by decide +kernel
theorem dX5_drops_73 : decode cX5_drops 73 = .ok (.iconst 1, 1) := by decide +kernel
theorem dX5_drops_74 : decode cX5_drops 74 = .ok (.aload_n 0, 1) := by decide +kernel
theorem dX5_drops_75 : decode cX5_drops 75 = .ok (.iload_n 1, 1) := by decide +kernel
theorem dX5_drops_76 : decode cX5_drops 76 = .ok (.iconst 1, 1) := by decide +kernel
theorem dX5_drops_77 : decode cX5_drops 77 = .ok (.invokevirtual 33, 3) := by decide +kernel
theorem dX5_drops_80 : decode cX5_drops 80 = .ok (.iconst 1, 1) := by decide +kernel
theorem dX5_drops_81 : decode cX5_drops 81 = .ok (.if_icmp .ne 7, 3) := by decide +kernel
theorem dX5_drops_84 : decode cX5_drops 84 = .ok (.iconst 2, 1) := by decide +kernel
theorem dX5_drops_85 : decode cX5_drops 85 = .ok (.goto 9, 3) := by decide +kernel
theorem dX5_drops_88 : decode cX5_drops 88 = .ok (.aload_n 0, 1) := by decide +kernel
theorem dX5_drops_89 : decode cX5_drops 89 = .ok (.iload_n 1, 1) := by decide +kernel
theorem dX5_drops_90 : decode cX5_drops 90 = .ok (.iconst 1, 1) := by decide +kernel
theorem dX5_drops_91 : decode cX5_drops 91 = .ok (.invokevirtual 33, 3) := by decide +kernel
theorem dX5_drops_94 : decode cX5_drops 94 = .ok (.invokevirtual 49, 3) := by decide +kernel
theorem dX5_drops_97 : decode cX5_drops 97 = .ok (.return_, 1) := by decide +kernel
set_option maxRecDepth 20000 in
theorem ggX5_flowsHour_X5_of : GoodIn wsX5_flowsHour wsX5_of := goodIn_r _ [6, 1, 38, 39, 40, 41, 42, 43, 44, 45, 46, 47, 48, 49] (by decide +kernel) (by decide +kernel)
set_option maxRecDepth 20000 in
theorem gX5_flowsHour_X5_of : GoodIn wsX5_flowsHour (wsV RX5 33 RX5 yX5_of wsX5_of) := goodIn_app (goodIn_of _ (by decide +kernel)) ggX5_flowsHour_X5_of
set_option maxRecDepth 20000 in
theorem ggX5_flowsHour_X5_flows : GoodIn wsX5_flowsHour wsX5_flows := goodIn_r _ [10, 2, 3, 4, 5, 6, 1, 11, 12, 13, 14, 15, 16, 17, 18, 38, 39, 40, 41, 42, 43, 44, 45, 46, 47, 48, 49] (by decide +kernel) (by decide +kernel)
set_option maxRecDepth 20000 in
theorem gX5_flowsHour_X5_flows : GoodIn wsX5_flowsHour (wsV RX5 53 RX5 yX5_flows wsX5_flows) := goodIn_app (goodIn_of _ (by decide +kernel)) ggX5_flowsHour_X5_flows
set_option maxRecDepth 20000 in
theorem ggX5_flowsHour_X5_tonnes : GoodIn wsX5_flowsHour wsX5_tonnes := goodIn_r _ [22, 2, 3, 4, 5, 6, 1, 38, 39, 40, 41, 42, 43, 44, 45, 46, 47, 48, 49] (by decide +kernel) (by decide +kernel)
set_option maxRecDepth 20000 in
theorem gX5_flowsHour_X5_tonnes : GoodIn wsX5_flowsHour (wsV RX5 43 RX5 yX5_tonnes wsX5_tonnes) := goodIn_app (goodIn_of _ (by decide +kernel)) ggX5_flowsHour_X5_tonnes
set_option maxRecDepth 20000 in
theorem ggX5_flowsHour_X5_lesser : GoodIn wsX5_flowsHour wsX5_lesser := goodIn_r _ [25] (by decide +kernel) (by decide +kernel)
set_option maxRecDepth 20000 in
theorem gX5_flowsHour_X5_lesser : GoodIn wsX5_flowsHour (va_wsS RX5 57 yX5_lesser wsX5_lesser) := goodIn_app (goodIn_of _ (by decide +kernel)) ggX5_flowsHour_X5_lesser
set_option maxRecDepth 20000 in
theorem ggX5_flowsHour_X5_room : GoodIn wsX5_flowsHour wsX5_room := goodIn_r _ [29, 1, 38, 39, 40, 41, 42, 43, 44, 45, 46, 47, 48, 49] (by decide +kernel) (by decide +kernel)
set_option maxRecDepth 20000 in
theorem gX5_flowsHour_X5_room : GoodIn wsX5_flowsHour (wsV RX5 60 RX5 yX5_room wsX5_room) := goodIn_app (goodIn_of _ (by decide +kernel)) ggX5_flowsHour_X5_room
set_option maxRecDepth 20000 in
theorem ggX5_flowsHour_X5_lay : GoodIn wsX5_flowsHour wsX5_lay := goodIn_r _ [33, 1, 38, 39, 40, 41, 42, 43, 44, 45, 46, 47, 48, 49] (by decide +kernel) (by decide +kernel)
set_option maxRecDepth 20000 in
theorem gX5_flowsHour_X5_lay : GoodIn wsX5_flowsHour (wsV RX5 49 RX5 yX5_lay wsX5_lay) := goodIn_app (goodIn_of _ (by decide +kernel)) ggX5_flowsHour_X5_lay
set_option maxRecDepth 20000 in
theorem ggX5_flowsHour_X5_drops : GoodIn wsX5_flowsHour wsX5_drops := goodIn_r _ [37, 2, 3, 4, 5, 6, 1, 30, 31, 32, 33, 38, 39, 40, 41, 42, 43, 44, 45, 46, 47, 48, 49] (by decide +kernel) (by decide +kernel)
set_option maxRecDepth 20000 in
theorem gX5_flowsHour_X5_drops : GoodIn wsX5_flowsHour (wsV RX5 63 RX5 yX5_drops wsX5_drops) := goodIn_app (goodIn_of _ (by decide +kernel)) ggX5_flowsHour_X5_drops
theorem dX5_flowsHour_0 : decode cX5_flowsHour 0 = .ok (.aload_n 0, 1) := by decide +kernel
theorem dX5_flowsHour_1 : decode cX5_flowsHour 1 = .ok (.iload_n 1, 1) := by decide +kernel
theorem dX5_flowsHour_2 : decode cX5_flowsHour 2 = .ok (.iconst 3, 1) := by decide +kernel
theorem dX5_flowsHour_3 : decode cX5_flowsHour 3 = .ok (.invokevirtual 33, 3) := by decide +kernel
theorem dX5_flowsHour_6 : decode cX5_flowsHour 6 = .ok (.ifCond .le 17, 3) := by decide +kernel
theorem dX5_flowsHour_9 : decode cX5_flowsHour 9 = .ok (.aload_n 0, 1) := by decide +kernel
theorem dX5_flowsHour_10 : decode cX5_flowsHour 10 = .ok (.iload_n 1, 1) := by decide +kernel
theorem dX5_flowsHour_11 : decode cX5_flowsHour 11 = .ok (.iconst 1, 1) := by decide +kernel
theorem dX5_flowsHour_12 : decode cX5_flowsHour 12 = .ok (.invokevirtual 33, 3) := by decide +kernel
theorem dX5_flowsHour_15 : decode cX5_flowsHour 15 = .ok (.iconst 2, 1) := by decide +kernel
theorem dX5_flowsHour_16 : decode cX5_flowsHour 16 = .ok (.if_icmp .ge 7, 3) := by decide +kernel
theorem dX5_flowsHour_19 : decode cX5_flowsHour 19 = .ok (.iconst 1, 1) := by decide +kernel
theorem dX5_flowsHour_20 : decode cX5_flowsHour 20 = .ok (.goto 4, 3) := by decide +kernel
theorem dX5_flowsHour_23 : decode cX5_flowsHour 23 = .ok (.iconst 0, 1) := by decide +kernel
theorem dX5_flowsHour_24 : decode cX5_flowsHour 24 = .ok (.istore_n 3, 1) := by decide +kernel
theorem dX5_flowsHour_25 : decode cX5_flowsHour 25 = .ok (.iload_n 3, 1) := by decide +kernel
theorem dX5_flowsHour_26 : decode cX5_flowsHour 26 = .ok (.ifCond .eq 28, 3) := by decide +kernel
theorem dX5_flowsHour_29 : decode cX5_flowsHour 29 = .ok (.aload_n 0, 1) := by decide +kernel
theorem dX5_flowsHour_30 : decode cX5_flowsHour 30 = .ok (.iload_n 1, 1) := by decide +kernel
theorem dX5_flowsHour_31 : decode cX5_flowsHour 31 = .ok (.invokevirtual 53, 3) := by decide +kernel
theorem dX5_flowsHour_34 : decode cX5_flowsHour 34 = .ok (.aload_n 0, 1) := by decide +kernel
theorem dX5_flowsHour_35 : decode cX5_flowsHour 35 = .ok (.iload_n 1, 1) := by decide +kernel
theorem dX5_flowsHour_36 : decode cX5_flowsHour 36 = .ok (.iconst 0, 1) := by decide +kernel
theorem dX5_flowsHour_37 : decode cX5_flowsHour 37 = .ok (.invokevirtual 43, 3) := by decide +kernel
theorem dX5_flowsHour_40 : decode cX5_flowsHour 40 = .ok (.invokestatic 57, 3) := by decide +kernel
theorem dX5_flowsHour_43 : decode cX5_flowsHour 43 = .ok (.aload_n 0, 1) := by decide +kernel
theorem dX5_flowsHour_44 : decode cX5_flowsHour 44 = .ok (.iload_n 2, 1) := by decide +kernel
theorem dX5_flowsHour_45 : decode cX5_flowsHour 45 = .ok (.invokevirtual 60, 3) := by decide +kernel
theorem dX5_flowsHour_48 : decode cX5_flowsHour 48 = .ok (.invokestatic 57, 3) := by decide +kernel
theorem dX5_flowsHour_51 : decode cX5_flowsHour 51 = .ok (.goto 4, 3) := by decide +kernel
theorem dX5_flowsHour_54 : decode cX5_flowsHour 54 = .ok (.iconst 0, 1) := by decide +kernel
theorem dX5_flowsHour_55 : decode cX5_flowsHour 55 = .ok (.istore 4, 2) := by decide +kernel
theorem dX5_flowsHour_57 : decode cX5_flowsHour 57 = .ok (.iload 4, 2) := by decide +kernel
theorem dX5_flowsHour_59 : decode cX5_flowsHour 59 = .ok (.aload_n 0, 1) := by decide +kernel
theorem dX5_flowsHour_60 : decode cX5_flowsHour 60 = .ok (.getfield 7, 3) := by decide +kernel
theorem dX5_flowsHour_63 : decode cX5_flowsHour 63 = .ok (.bipush 8, 2) := by decide +kernel
theorem dX5_flowsHour_65 : decode cX5_flowsHour 65 = .ok (.iaload, 1) := by decide +kernel
theorem dX5_flowsHour_66 : decode cX5_flowsHour 66 = .ok (.idiv, 1) := by decide +kernel
theorem dX5_flowsHour_67 : decode cX5_flowsHour 67 = .ok (.istore 5, 2) := by decide +kernel
theorem dX5_flowsHour_69 : decode cX5_flowsHour 69 = .ok (.iload 4, 2) := by decide +kernel
theorem dX5_flowsHour_71 : decode cX5_flowsHour 71 = .ok (.ifCond .le 62, 3) := by decide +kernel
theorem dX5_flowsHour_74 : decode cX5_flowsHour 74 = .ok (.aload_n 0, 1) := by decide +kernel
theorem dX5_flowsHour_75 : decode cX5_flowsHour 75 = .ok (.iload_n 1, 1) := by decide +kernel
theorem dX5_flowsHour_76 : decode cX5_flowsHour 76 = .ok (.iconst 4, 1) := by decide +kernel
theorem dX5_flowsHour_77 : decode cX5_flowsHour 77 = .ok (.aload_n 0, 1) := by decide +kernel
theorem dX5_flowsHour_78 : decode cX5_flowsHour 78 = .ok (.iload_n 1, 1) := by decide +kernel
theorem dX5_flowsHour_79 : decode cX5_flowsHour 79 = .ok (.iconst 0, 1) := by decide +kernel
theorem dX5_flowsHour_80 : decode cX5_flowsHour 80 = .ok (.invokevirtual 43, 3) := by decide +kernel
theorem dX5_flowsHour_83 : decode cX5_flowsHour 83 = .ok (.iload 4, 2) := by decide +kernel
theorem dX5_flowsHour_85 : decode cX5_flowsHour 85 = .ok (.isub, 1) := by decide +kernel
theorem dX5_flowsHour_86 : decode cX5_flowsHour 86 = .ok (.invokevirtual 49, 3) := by decide +kernel
theorem dX5_flowsHour_89 : decode cX5_flowsHour 89 = .ok (.aload_n 0, 1) := by decide +kernel
theorem dX5_flowsHour_90 : decode cX5_flowsHour 90 = .ok (.getfield 7, 3) := by decide +kernel
theorem dX5_flowsHour_93 : decode cX5_flowsHour 93 = .ok (.iconst 1, 1) := by decide +kernel
theorem dX5_flowsHour_94 : decode cX5_flowsHour 94 = .ok (.dup2, 1) := by decide +kernel
theorem dX5_flowsHour_95 : decode cX5_flowsHour 95 = .ok (.iaload, 1) := by decide +kernel
theorem dX5_flowsHour_96 : decode cX5_flowsHour 96 = .ok (.iload 5, 2) := by decide +kernel
theorem dX5_flowsHour_98 : decode cX5_flowsHour 98 = .ok (.iadd, 1) := by decide +kernel
theorem dX5_flowsHour_99 : decode cX5_flowsHour 99 = .ok (.iastore, 1) := by decide +kernel
theorem dX5_flowsHour_100 : decode cX5_flowsHour 100 = .ok (.aload_n 0, 1) := by decide +kernel
theorem dX5_flowsHour_101 : decode cX5_flowsHour 101 = .ok (.getfield 7, 3) := by decide +kernel
theorem dX5_flowsHour_104 : decode cX5_flowsHour 104 = .ok (.bipush 106, 2) := by decide +kernel
theorem dX5_flowsHour_106 : decode cX5_flowsHour 106 = .ok (.iconst 2, 1) := by decide +kernel
theorem dX5_flowsHour_107 : decode cX5_flowsHour 107 = .ok (.iload_n 2, 1) := by decide +kernel
theorem dX5_flowsHour_108 : decode cX5_flowsHour 108 = .ok (.imul, 1) := by decide +kernel
theorem dX5_flowsHour_109 : decode cX5_flowsHour 109 = .ok (.iadd, 1) := by decide +kernel
theorem dX5_flowsHour_110 : decode cX5_flowsHour 110 = .ok (.dup2, 1) := by decide +kernel
theorem dX5_flowsHour_111 : decode cX5_flowsHour 111 = .ok (.iaload, 1) := by decide +kernel
theorem dX5_flowsHour_112 : decode cX5_flowsHour 112 = .ok (.iload 4, 2) := by decide +kernel
theorem dX5_flowsHour_114 : decode cX5_flowsHour 114 = .ok (.iload 5, 2) := by decide +kernel
theorem dX5_flowsHour_116 : decode cX5_flowsHour 116 = .ok (.isub, 1) := by decide +kernel
theorem dX5_flowsHour_117 : decode cX5_flowsHour 117 = .ok (.iadd, 1) := by decide +kernel
theorem dX5_flowsHour_118 : decode cX5_flowsHour 118 = .ok (.iastore, 1) := by decide +kernel
theorem dX5_flowsHour_119 : decode cX5_flowsHour 119 = .ok (.aload_n 0, 1) := by decide +kernel
theorem dX5_flowsHour_120 : decode cX5_flowsHour 120 = .ok (.iload_n 1, 1) := by decide +kernel
theorem dX5_flowsHour_121 : decode cX5_flowsHour 121 = .ok (.iconst 0, 1) := by decide +kernel
theorem dX5_flowsHour_122 : decode cX5_flowsHour 122 = .ok (.invokevirtual 43, 3) := by decide +kernel
theorem dX5_flowsHour_125 : decode cX5_flowsHour 125 = .ok (.ifCond .ne 8, 3) := by decide +kernel
theorem dX5_flowsHour_128 : decode cX5_flowsHour 128 = .ok (.aload_n 0, 1) := by decide +kernel
theorem dX5_flowsHour_129 : decode cX5_flowsHour 129 = .ok (.iload_n 1, 1) := by decide +kernel
theorem dX5_flowsHour_130 : decode cX5_flowsHour 130 = .ok (.invokevirtual 63, 3) := by decide +kernel
theorem dX5_flowsHour_133 : decode cX5_flowsHour 133 = .ok (.iload 4, 2) := by decide +kernel
theorem dX5_flowsHour_135 : decode cX5_flowsHour 135 = .ok (.iload 5, 2) := by decide +kernel
theorem dX5_flowsHour_137 : decode cX5_flowsHour 137 = .ok (.isub, 1) := by decide +kernel
theorem dX5_flowsHour_138 : decode cX5_flowsHour 138 = .ok (.ireturn, 1) := by decide +kernel
set_option maxRecDepth 20000 in
theorem ggX5_flowsAll_X5_flowsHour : GoodIn wsX5_flowsAll wsX5_flowsHour := goodIn_r _ [5, 6, 7, 8, 9, 4, 10, 11, 12, 13, 14, 15, 16, 17, 18, 19, 20, 21, 22, 23, 24, 25, 26, 27, 28, 29, 30, 31, 32, 33, 34, 35, 36, 37, 38, 39, 40, 41, 42, 43, 44, 45, 46, 47, 48, 49, 50, 51, 52, 53] (by decide +kernel) (by decide +kernel)
set_option maxRecDepth 20000 in
theorem gX5_flowsAll_X5_flowsHour : GoodIn wsX5_flowsAll (wsV RX5 67 RX5 yX5_flowsHour wsX5_flowsHour) := goodIn_app (goodIn_of _ (by decide +kernel)) ggX5_flowsAll_X5_flowsHour
theorem dX5_flowsAll_0 : decode cX5_flowsAll 0 = .ok (.iconst 0, 1) := by decide +kernel
theorem dX5_flowsAll_1 : decode cX5_flowsAll 1 = .ok (.istore 4, 2) := by decide +kernel
theorem dX5_flowsAll_3 : decode cX5_flowsAll 3 = .ok (.iconst 0, 1) := by decide +kernel
theorem dX5_flowsAll_4 : decode cX5_flowsAll 4 = .ok (.istore 5, 2) := by decide +kernel
theorem dX5_flowsAll_6 : decode cX5_flowsAll 6 = .ok (.iload 5, 2) := by decide +kernel
theorem dX5_flowsAll_8 : decode cX5_flowsAll 8 = .ok (.iload_n 3, 1) := by decide +kernel
theorem dX5_flowsAll_9 : decode cX5_flowsAll 9 = .ok (.if_icmp .ge 20, 3) := by decide +kernel
theorem dX5_flowsAll_12 : decode cX5_flowsAll 12 = .ok (.iload 4, 2) := by decide +kernel
theorem dX5_flowsAll_14 : decode cX5_flowsAll 14 = .ok (.aload_n 0, 1) := by decide +kernel
theorem dX5_flowsAll_15 : decode cX5_flowsAll 15 = .ok (.iload_n 1, 1) := by decide +kernel
theorem dX5_flowsAll_16 : decode cX5_flowsAll 16 = .ok (.iload_n 2, 1) := by decide +kernel
theorem dX5_flowsAll_17 : decode cX5_flowsAll 17 = .ok (.invokevirtual 67, 3) := by decide +kernel
theorem dX5_flowsAll_20 : decode cX5_flowsAll 20 = .ok (.iadd, 1) := by decide +kernel
theorem dX5_flowsAll_21 : decode cX5_flowsAll 21 = .ok (.istore 4, 2) := by decide +kernel
theorem dX5_flowsAll_23 : decode cX5_flowsAll 23 = .ok (.iinc 5 1, 3) := by decide +kernel
theorem dX5_flowsAll_26 : decode cX5_flowsAll 26 = .ok (.goto (-20), 3) := by decide +kernel
theorem dX5_flowsAll_29 : decode cX5_flowsAll 29 = .ok (.iload 4, 2) := by decide +kernel
theorem dX5_flowsAll_31 : decode cX5_flowsAll 31 = .ok (.ireturn, 1) := by decide +kernel
set_option maxRecDepth 20000 in
theorem ggX5_comes_X5_sumFrom : GoodIn wsX5_comes wsX5_sumFrom := goodIn_r _ [5, 6, 7, 8, 4, 9, 10, 11, 12, 13, 14, 26, 27, 28, 29, 30, 31, 32, 33, 34, 35, 36, 37] (by decide +kernel) (by decide +kernel)
set_option maxRecDepth 20000 in
theorem gX5_comes_X5_sumFrom : GoodIn wsX5_comes (wsV RX5 70 RX5 yX5_sumFrom wsX5_sumFrom) := goodIn_app (goodIn_of _ (by decide +kernel)) ggX5_comes_X5_sumFrom
set_option maxRecDepth 20000 in
theorem ggX5_comes_X5_lesser : GoodIn wsX5_comes wsX5_lesser := goodIn_r _ [17] (by decide +kernel) (by decide +kernel)
set_option maxRecDepth 20000 in
theorem gX5_comes_X5_lesser : GoodIn wsX5_comes (va_wsS RX5 57 yX5_lesser wsX5_lesser) := goodIn_app (goodIn_of _ (by decide +kernel)) ggX5_comes_X5_lesser
set_option maxRecDepth 20000 in
theorem ggX5_comes_X5_of : GoodIn wsX5_comes wsX5_of := goodIn_r _ [9, 10, 26, 27, 28, 29, 30, 31, 32, 33, 34, 35, 36, 37] (by decide +kernel) (by decide +kernel)
set_option maxRecDepth 20000 in
theorem gX5_comes_X5_of : GoodIn wsX5_comes (wsV RX5 33 RX5 yX5_of wsX5_of) := goodIn_app (goodIn_of _ (by decide +kernel)) ggX5_comes_X5_of
set_option maxRecDepth 20000 in
theorem ggX5_comes_X5_age : GoodIn wsX5_comes wsX5_age := goodIn_r _ [21, 6, 7, 8, 4, 9, 10, 26, 27, 28, 29, 30, 31, 32, 33, 34, 35, 36, 37] (by decide +kernel) (by decide +kernel)
set_option maxRecDepth 20000 in
theorem gX5_comes_X5_age : GoodIn wsX5_comes (wsV RX5 40 RX5 yX5_age wsX5_age) := goodIn_app (goodIn_of _ (by decide +kernel)) ggX5_comes_X5_age
set_option maxRecDepth 20000 in
theorem ggX5_comes_X5_tonnes : GoodIn wsX5_comes wsX5_tonnes := goodIn_r _ [14, 6, 7, 8, 4, 9, 10, 26, 27, 28, 29, 30, 31, 32, 33, 34, 35, 36, 37] (by decide +kernel) (by decide +kernel)
set_option maxRecDepth 20000 in
theorem gX5_comes_X5_tonnes : GoodIn wsX5_comes (wsV RX5 43 RX5 yX5_tonnes wsX5_tonnes) := goodIn_app (goodIn_of _ (by decide +kernel)) ggX5_comes_X5_tonnes
set_option maxRecDepth 20000 in
theorem ggX5_comes_X5_lay : GoodIn wsX5_comes wsX5_lay := goodIn_r _ [25, 10, 26, 27, 28, 29, 30, 31, 32, 33, 34, 35, 36, 37] (by decide +kernel) (by decide +kernel)
set_option maxRecDepth 20000 in
theorem gX5_comes_X5_lay : GoodIn wsX5_comes (wsV RX5 49 RX5 yX5_lay wsX5_lay) := goodIn_app (goodIn_of _ (by decide +kernel)) ggX5_comes_X5_lay
theorem dX5_comes_0 : decode cX5_comes 0 = .ok (.iload_n 2, 1) := by decide +kernel
theorem dX5_comes_1 : decode cX5_comes 1 = .ok (.sipush 1200, 3) := by decide +kernel
theorem dX5_comes_4 : decode cX5_comes 4 = .ok (.aload_n 0, 1) := by decide +kernel
theorem dX5_comes_5 : decode cX5_comes 5 = .ok (.iload_n 1, 1) := by decide +kernel
theorem dX5_comes_6 : decode cX5_comes 6 = .ok (.iconst 0, 1) := by decide +kernel
theorem dX5_comes_7 : decode cX5_comes 7 = .ok (.invokevirtual 70, 3) := by decide +kernel
theorem dX5_comes_10 : decode cX5_comes 10 = .ok (.isub, 1) := by decide +kernel
theorem dX5_comes_11 : decode cX5_comes 11 = .ok (.invokestatic 57, 3) := by decide +kernel
theorem dX5_comes_14 : decode cX5_comes 14 = .ok (.istore_n 3, 1) := by decide +kernel
theorem dX5_comes_15 : decode cX5_comes 15 = .ok (.aload_n 0, 1) := by decide +kernel
theorem dX5_comes_16 : decode cX5_comes 16 = .ok (.iload_n 1, 1) := by decide +kernel
theorem dX5_comes_17 : decode cX5_comes 17 = .ok (.iconst 3, 1) := by decide +kernel
theorem dX5_comes_18 : decode cX5_comes 18 = .ok (.invokevirtual 33, 3) := by decide +kernel
theorem dX5_comes_21 : decode cX5_comes 21 = .ok (.istore 4, 2) := by decide +kernel
theorem dX5_comes_23 : decode cX5_comes 23 = .ok (.iload 4, 2) := by decide +kernel
theorem dX5_comes_25 : decode cX5_comes 25 = .ok (.ifCond .le 19, 3) := by decide +kernel
theorem dX5_comes_28 : decode cX5_comes 28 = .ok (.aload_n 0, 1) := by decide +kernel
theorem dX5_comes_29 : decode cX5_comes 29 = .ok (.iload_n 1, 1) := by decide +kernel
theorem dX5_comes_30 : decode cX5_comes 30 = .ok (.iload 4, 2) := by decide +kernel
theorem dX5_comes_32 : decode cX5_comes 32 = .ok (.iconst 1, 1) := by decide +kernel
theorem dX5_comes_33 : decode cX5_comes 33 = .ok (.isub, 1) := by decide +kernel
theorem dX5_comes_34 : decode cX5_comes 34 = .ok (.invokevirtual 40, 3) := by decide +kernel
theorem dX5_comes_37 : decode cX5_comes 37 = .ok (.ifCond .ne 7, 3) := by decide +kernel
theorem dX5_comes_40 : decode cX5_comes 40 = .ok (.iconst 1, 1) := by decide +kernel
theorem dX5_comes_41 : decode cX5_comes 41 = .ok (.goto 4, 3) := by decide +kernel
theorem dX5_comes_44 : decode cX5_comes 44 = .ok (.iconst 0, 1) := by decide +kernel
theorem dX5_comes_45 : decode cX5_comes 45 = .ok (.istore 5, 2) := by decide +kernel
theorem dX5_comes_47 : decode cX5_comes 47 = .ok (.iload 5, 2) := by decide +kernel
theorem dX5_comes_49 : decode cX5_comes 49 = .ok (.ifCond .eq 23, 3) := by decide +kernel
theorem dX5_comes_52 : decode cX5_comes 52 = .ok (.iload_n 3, 1) := by decide +kernel
theorem dX5_comes_53 : decode cX5_comes 53 = .ok (.sipush 500, 3) := by decide +kernel
theorem dX5_comes_56 : decode cX5_comes 56 = .ok (.aload_n 0, 1) := by decide +kernel
theorem dX5_comes_57 : decode cX5_comes 57 = .ok (.iload_n 1, 1) := by decide +kernel
theorem dX5_comes_58 : decode cX5_comes 58 = .ok (.iload 4, 2) := by decide +kernel
theorem dX5_comes_60 : decode cX5_comes 60 = .ok (.iconst 1, 1) := by decide +kernel
theorem dX5_comes_61 : decode cX5_comes 61 = .ok (.isub, 1) := by decide +kernel
theorem dX5_comes_62 : decode cX5_comes 62 = .ok (.invokevirtual 43, 3) := by decide +kernel
theorem dX5_comes_65 : decode cX5_comes 65 = .ok (.isub, 1) := by decide +kernel
theorem dX5_comes_66 : decode cX5_comes 66 = .ok (.invokestatic 57, 3) := by decide +kernel
theorem dX5_comes_69 : decode cX5_comes 69 = .ok (.goto 4, 3) := by decide +kernel
theorem dX5_comes_72 : decode cX5_comes 72 = .ok (.iconst 0, 1) := by decide +kernel
theorem dX5_comes_73 : decode cX5_comes 73 = .ok (.istore 6, 2) := by decide +kernel
theorem dX5_comes_75 : decode cX5_comes 75 = .ok (.iload 5, 2) := by decide +kernel
theorem dX5_comes_77 : decode cX5_comes 77 = .ok (.ifCond .eq 28, 3) := by decide +kernel
theorem dX5_comes_80 : decode cX5_comes 80 = .ok (.aload_n 0, 1) := by decide +kernel
theorem dX5_comes_81 : decode cX5_comes 81 = .ok (.iload_n 1, 1) := by decide +kernel
theorem dX5_comes_82 : decode cX5_comes 82 = .ok (.iconst 4, 1) := by decide +kernel
theorem dX5_comes_83 : decode cX5_comes 83 = .ok (.iconst 2, 1) := by decide +kernel
theorem dX5_comes_84 : decode cX5_comes 84 = .ok (.iload 4, 2) := by decide +kernel
theorem dX5_comes_86 : decode cX5_comes 86 = .ok (.iconst 1, 1) := by decide +kernel
theorem dX5_comes_87 : decode cX5_comes 87 = .ok (.isub, 1) := by decide +kernel
theorem dX5_comes_88 : decode cX5_comes 88 = .ok (.imul, 1) := by decide +kernel
theorem dX5_comes_89 : decode cX5_comes 89 = .ok (.iadd, 1) := by decide +kernel
theorem dX5_comes_90 : decode cX5_comes 90 = .ok (.aload_n 0, 1) := by decide +kernel
theorem dX5_comes_91 : decode cX5_comes 91 = .ok (.iload_n 1, 1) := by decide +kernel
theorem dX5_comes_92 : decode cX5_comes 92 = .ok (.iload 4, 2) := by decide +kernel
theorem dX5_comes_94 : decode cX5_comes 94 = .ok (.iconst 1, 1) := by decide +kernel
theorem dX5_comes_95 : decode cX5_comes 95 = .ok (.isub, 1) := by decide +kernel
theorem dX5_comes_96 : decode cX5_comes 96 = .ok (.invokevirtual 43, 3) := by decide +kernel
theorem dX5_comes_99 : decode cX5_comes 99 = .ok (.iload 6, 2) := by decide +kernel
theorem dX5_comes_101 : decode cX5_comes 101 = .ok (.iadd, 1) := by decide +kernel
theorem dX5_comes_102 : decode cX5_comes 102 = .ok (.invokevirtual 49, 3) := by decide +kernel
theorem dX5_comes_105 : decode cX5_comes 105 = .ok (.iload_n 3, 1) := by decide +kernel
theorem dX5_comes_106 : decode cX5_comes 106 = .ok (.iload 6, 2) := by decide +kernel
theorem dX5_comes_108 : decode cX5_comes 108 = .ok (.isub, 1) := by decide +kernel
theorem dX5_comes_109 : decode cX5_comes 109 = .ok (.istore_n 3, 1) := by decide +kernel
theorem dX5_comes_110 : decode cX5_comes 110 = .ok (.iload_n 3, 1) := by decide +kernel
theorem dX5_comes_111 : decode cX5_comes 111 = .ok (.ifCond .eq 10, 3) := by decide +kernel
theorem dX5_comes_114 : decode cX5_comes 114 = .ok (.iload 4, 2) := by decide +kernel
theorem dX5_comes_116 : decode cX5_comes 116 = .ok (.bipush 10, 2) := by decide +kernel
theorem dX5_comes_118 : decode cX5_comes 118 = .ok (.if_icmp .ne 6, 3) := by decide +kernel
theorem dX5_comes_121 : decode cX5_comes 121 = .ok (.iload 6, 2) := by decide +kernel
theorem dX5_comes_123 : decode cX5_comes 123 = .ok (.ireturn, 1) := by decide +kernel
theorem dX5_comes_124 : decode cX5_comes 124 = .ok (.aload_n 0, 1) := by decide +kernel
theorem dX5_comes_125 : decode cX5_comes 125 = .ok (.iload_n 1, 1) := by decide +kernel
theorem dX5_comes_126 : decode cX5_comes 126 = .ok (.iconst 4, 1) := by decide +kernel
theorem dX5_comes_127 : decode cX5_comes 127 = .ok (.iconst 2, 1) := by decide +kernel
theorem dX5_comes_128 : decode cX5_comes 128 = .ok (.iload 4, 2) := by decide +kernel
theorem dX5_comes_130 : decode cX5_comes 130 = .ok (.imul, 1) := by decide +kernel
theorem dX5_comes_131 : decode cX5_comes 131 = .ok (.iadd, 1) := by decide +kernel
theorem dX5_comes_132 : decode cX5_comes 132 = .ok (.iload_n 3, 1) := by decide +kernel
theorem dX5_comes_133 : decode cX5_comes 133 = .ok (.invokevirtual 49, 3) := by decide +kernel
theorem dX5_comes_136 : decode cX5_comes 136 = .ok (.aload_n 0, 1) := by decide +kernel
theorem dX5_comes_137 : decode cX5_comes 137 = .ok (.iload_n 1, 1) := by decide +kernel
theorem dX5_comes_138 : decode cX5_comes 138 = .ok (.iconst 4, 1) := by decide +kernel
theorem dX5_comes_139 : decode cX5_comes 139 = .ok (.iconst 2, 1) := by decide +kernel
theorem dX5_comes_140 : decode cX5_comes 140 = .ok (.iload 4, 2) := by decide +kernel
theorem dX5_comes_142 : decode cX5_comes 142 = .ok (.imul, 1) := by decide +kernel
theorem dX5_comes_143 : decode cX5_comes 143 = .ok (.iadd, 1) := by decide +kernel
theorem dX5_comes_144 : decode cX5_comes 144 = .ok (.iconst 1, 1) := by decide +kernel
theorem dX5_comes_145 : decode cX5_comes 145 = .ok (.iadd, 1) := by decide +kernel
theorem dX5_comes_146 : decode cX5_comes 146 = .ok (.iconst 0, 1) := by decide +kernel
theorem dX5_comes_147 : decode cX5_comes 147 = .ok (.invokevirtual 49, 3) := by decide +kernel
theorem dX5_comes_150 : decode cX5_comes 150 = .ok (.aload_n 0, 1) := by decide +kernel
theorem dX5_comes_151 : decode cX5_comes 151 = .ok (.iload_n 1, 1) := by decide +kernel
theorem dX5_comes_152 : decode cX5_comes 152 = .ok (.iconst 3, 1) := by decide +kernel
theorem dX5_comes_153 : decode cX5_comes 153 = .ok (.iload 4, 2) := by decide +kernel
theorem dX5_comes_155 : decode cX5_comes 155 = .ok (.iconst 1, 1) := by decide +kernel
theorem dX5_comes_156 : decode cX5_comes 156 = .ok (.iadd, 1) := by decide +kernel
theorem dX5_comes_157 : decode cX5_comes 157 = .ok (.invokevirtual 49, 3) := by decide +kernel
theorem dX5_comes_160 : decode cX5_comes 160 = .ok (.aload_n 0, 1) := by decide +kernel
theorem dX5_comes_161 : decode cX5_comes 161 = .ok (.iload_n 1, 1) := by decide +kernel
theorem dX5_comes_162 : decode cX5_comes 162 = .ok (.iconst 2, 1) := by decide +kernel
theorem dX5_comes_163 : decode cX5_comes 163 = .ok (.iconst 0, 1) := by decide +kernel
theorem dX5_comes_164 : decode cX5_comes 164 = .ok (.invokevirtual 49, 3) := by decide +kernel
theorem dX5_comes_167 : decode cX5_comes 167 = .ok (.iload 6, 2) := by decide +kernel
theorem dX5_comes_169 : decode cX5_comes 169 = .ok (.iload_n 3, 1) := by decide +kernel
theorem dX5_comes_170 : decode cX5_comes 170 = .ok (.iadd, 1) := by decide +kernel
theorem dX5_comes_171 : decode cX5_comes 171 = .ok (.ireturn, 1) := by decide +kernel
set_option maxRecDepth 20000 in
theorem ggX5_unloads_X5_lesser : GoodIn wsX5_unloads wsX5_lesser := goodIn_r _ [5] (by decide +kernel) (by decide +kernel)
set_option maxRecDepth 20000 in
theorem gX5_unloads_X5_lesser : GoodIn wsX5_unloads (va_wsS RX5 57 yX5_lesser wsX5_lesser) := goodIn_app (goodIn_of _ (by decide +kernel)) ggX5_unloads_X5_lesser
set_option maxRecDepth 20000 in
theorem ggX5_unloads_X5_comes : GoodIn wsX5_unloads wsX5_comes := goodIn_r _ [9, 10, 11, 12, 4, 13, 14, 15, 16, 17, 1, 18, 19, 20, 21, 2, 3, 5, 22, 23, 24, 25, 26, 27, 28, 29, 30, 31, 32, 33, 34, 35, 36, 37, 38, 39, 40, 41] (by decide +kernel) (by decide +kernel)
set_option maxRecDepth 20000 in
theorem gX5_unloads_X5_comes : GoodIn wsX5_unloads (wsV RX5 73 RX5 yX5_comes wsX5_comes) := goodIn_app (goodIn_of _ (by decide +kernel)) ggX5_unloads_X5_comes
theorem dX5_unloads_0 : decode cX5_unloads 0 = .ok (.aload_n 0, 1) := by decide +kernel
theorem dX5_unloads_1 : decode cX5_unloads 1 = .ok (.iload_n 1, 1) := by decide +kernel
theorem dX5_unloads_2 : decode cX5_unloads 2 = .ok (.iload_n 3, 1) := by decide +kernel
theorem dX5_unloads_3 : decode cX5_unloads 3 = .ok (.aload_n 0, 1) := by decide +kernel
theorem dX5_unloads_4 : decode cX5_unloads 4 = .ok (.getfield 7, 3) := by decide +kernel
theorem dX5_unloads_7 : decode cX5_unloads 7 = .ok (.bipush 106, 2) := by decide +kernel
theorem dX5_unloads_9 : decode cX5_unloads 9 = .ok (.iconst 2, 1) := by decide +kernel
theorem dX5_unloads_10 : decode cX5_unloads 10 = .ok (.iload_n 2, 1) := by decide +kernel
theorem dX5_unloads_11 : decode cX5_unloads 11 = .ok (.imul, 1) := by decide +kernel
theorem dX5_unloads_12 : decode cX5_unloads 12 = .ok (.iadd, 1) := by decide +kernel
theorem dX5_unloads_13 : decode cX5_unloads 13 = .ok (.iaload, 1) := by decide +kernel
theorem dX5_unloads_14 : decode cX5_unloads 14 = .ok (.invokestatic 57, 3) := by decide +kernel
theorem dX5_unloads_17 : decode cX5_unloads 17 = .ok (.invokevirtual 73, 3) := by decide +kernel
theorem dX5_unloads_20 : decode cX5_unloads 20 = .ok (.istore 4, 2) := by decide +kernel
theorem dX5_unloads_22 : decode cX5_unloads 22 = .ok (.aload_n 0, 1) := by decide +kernel
theorem dX5_unloads_23 : decode cX5_unloads 23 = .ok (.getfield 7, 3) := by decide +kernel
theorem dX5_unloads_26 : decode cX5_unloads 26 = .ok (.bipush 106, 2) := by decide +kernel
theorem dX5_unloads_28 : decode cX5_unloads 28 = .ok (.iconst 2, 1) := by decide +kernel
theorem dX5_unloads_29 : decode cX5_unloads 29 = .ok (.iload_n 2, 1) := by decide +kernel
theorem dX5_unloads_30 : decode cX5_unloads 30 = .ok (.imul, 1) := by decide +kernel
theorem dX5_unloads_31 : decode cX5_unloads 31 = .ok (.iadd, 1) := by decide +kernel
theorem dX5_unloads_32 : decode cX5_unloads 32 = .ok (.dup2, 1) := by decide +kernel
theorem dX5_unloads_33 : decode cX5_unloads 33 = .ok (.iaload, 1) := by decide +kernel
theorem dX5_unloads_34 : decode cX5_unloads 34 = .ok (.iload 4, 2) := by decide +kernel
theorem dX5_unloads_36 : decode cX5_unloads 36 = .ok (.isub, 1) := by decide +kernel
theorem dX5_unloads_37 : decode cX5_unloads 37 = .ok (.iastore, 1) := by decide +kernel
theorem dX5_unloads_38 : decode cX5_unloads 38 = .ok (.iload 4, 2) := by decide +kernel
theorem dX5_unloads_40 : decode cX5_unloads 40 = .ok (.ireturn, 1) := by decide +kernel
set_option maxRecDepth 20000 in
theorem ggX5_forms_X5_of : GoodIn wsX5_forms wsX5_of := goodIn_r _ [5, 6, 15, 16, 17, 18, 19, 20, 21, 22, 23, 24, 25, 26] (by decide +kernel) (by decide +kernel)
set_option maxRecDepth 20000 in
theorem gX5_forms_X5_of : GoodIn wsX5_forms (wsV RX5 33 RX5 yX5_of wsX5_of) := goodIn_app (goodIn_of _ (by decide +kernel)) ggX5_forms_X5_of
set_option maxRecDepth 20000 in
theorem ggX5_forms_X5_setOf : GoodIn wsX5_forms wsX5_setOf := goodIn_r _ [10, 6, 11, 12, 13, 4, 14, 1, 2, 3, 5, 15, 16, 17, 18, 19, 20, 21, 22, 23, 24, 25, 26] (by decide +kernel) (by decide +kernel)
set_option maxRecDepth 20000 in
theorem gX5_forms_X5_setOf : GoodIn wsX5_forms (wsV RX5 46 RX5 yX5_setOf wsX5_setOf) := goodIn_app (goodIn_of _ (by decide +kernel)) ggX5_forms_X5_setOf
theorem dX5_forms_0 : decode cX5_forms 0 = .ok (.aload_n 0, 1) := by decide +kernel
theorem dX5_forms_1 : decode cX5_forms 1 = .ok (.iload_n 1, 1) := by decide +kernel
theorem dX5_forms_2 : decode cX5_forms 2 = .ok (.iconst 3, 1) := by decide +kernel
theorem dX5_forms_3 : decode cX5_forms 3 = .ok (.invokevirtual 33, 3) := by decide +kernel
theorem dX5_forms_6 : decode cX5_forms 6 = .ok (.iconst 1, 1) := by decide +kernel
theorem dX5_forms_7 : decode cX5_forms 7 = .ok (.if_icmp .le 25, 3) := by decide +kernel
theorem dX5_forms_10 : decode cX5_forms 10 = .ok (.aload_n 0, 1) := by decide +kernel
theorem dX5_forms_11 : decode cX5_forms 11 = .ok (.iload_n 1, 1) := by decide +kernel
theorem dX5_forms_12 : decode cX5_forms 12 = .ok (.iconst 0, 1) := by decide +kernel
theorem dX5_forms_13 : decode cX5_forms 13 = .ok (.invokevirtual 46, 3) := by decide +kernel
theorem dX5_forms_16 : decode cX5_forms 16 = .ok (.ifCond .le 16, 3) := by decide +kernel
theorem dX5_forms_19 : decode cX5_forms 19 = .ok (.aload_n 0, 1) := by decide +kernel
theorem dX5_forms_20 : decode cX5_forms 20 = .ok (.iload_n 1, 1) := by decide +kernel
theorem dX5_forms_21 : decode cX5_forms 21 = .ok (.iconst 1, 1) := by decide +kernel
theorem dX5_forms_22 : decode cX5_forms 22 = .ok (.invokevirtual 33, 3) := by decide +kernel
theorem dX5_forms_25 : decode cX5_forms 25 = .ok (.ifCond .ne 7, 3) := by decide +kernel
theorem dX5_forms_28 : decode cX5_forms 28 = .ok (.iconst 1, 1) := by decide +kernel
theorem dX5_forms_29 : decode cX5_forms 29 = .ok (.goto 4, 3) := by decide +kernel
theorem dX5_forms_32 : decode cX5_forms 32 = .ok (.iconst 0, 1) := by decide +kernel
theorem dX5_forms_33 : decode cX5_forms 33 = .ok (.ireturn, 1) := by decide +kernel
set_option maxRecDepth 20000 in
theorem ggX5_passesDay_X5_of : GoodIn wsX5_passesDay wsX5_of := goodIn_r _ [6, 1, 23, 24, 25, 26, 27, 28, 29, 30, 31, 32, 33, 34] (by decide +kernel) (by decide +kernel)
set_option maxRecDepth 20000 in
theorem gX5_passesDay_X5_of : GoodIn wsX5_passesDay (wsV RX5 33 RX5 yX5_of wsX5_of) := goodIn_app (goodIn_of _ (by decide +kernel)) ggX5_passesDay_X5_of
set_option maxRecDepth 20000 in
theorem ggX5_passesDay_X5_age : GoodIn wsX5_passesDay wsX5_age := goodIn_r _ [10, 2, 3, 4, 5, 6, 1, 23, 24, 25, 26, 27, 28, 29, 30, 31, 32, 33, 34] (by decide +kernel) (by decide +kernel)
set_option maxRecDepth 20000 in
theorem gX5_passesDay_X5_age : GoodIn wsX5_passesDay (wsV RX5 40 RX5 yX5_age wsX5_age) := goodIn_app (goodIn_of _ (by decide +kernel)) ggX5_passesDay_X5_age
set_option maxRecDepth 20000 in
theorem ggX5_passesDay_X5_lay : GoodIn wsX5_passesDay wsX5_lay := goodIn_r _ [14, 1, 23, 24, 25, 26, 27, 28, 29, 30, 31, 32, 33, 34] (by decide +kernel) (by decide +kernel)
set_option maxRecDepth 20000 in
theorem gX5_passesDay_X5_lay : GoodIn wsX5_passesDay (wsV RX5 49 RX5 yX5_lay wsX5_lay) := goodIn_app (goodIn_of _ (by decide +kernel)) ggX5_passesDay_X5_lay
set_option maxRecDepth 20000 in
theorem ggX5_passesDay_X5_forms : GoodIn wsX5_passesDay wsX5_forms := goodIn_r _ [18, 2, 3, 4, 5, 6, 1, 19, 20, 21, 22, 7, 8, 9, 10, 23, 24, 25, 26, 27, 28, 29, 30, 31, 32, 33, 34] (by decide +kernel) (by decide +kernel)
set_option maxRecDepth 20000 in
theorem gX5_passesDay_X5_forms : GoodIn wsX5_passesDay (wsV RX5 76 RX5 yX5_forms wsX5_forms) := goodIn_app (goodIn_of _ (by decide +kernel)) ggX5_passesDay_X5_forms
theorem dX5_passesDay_0 : decode cX5_passesDay 0 = .ok (.iconst 0, 1) := by decide +kernel
theorem dX5_passesDay_1 : decode cX5_passesDay 1 = .ok (.istore_n 1, 1) := by decide +kernel
theorem dX5_passesDay_2 : decode cX5_passesDay 2 = .ok (.aload_n 0, 1) := by decide +kernel
theorem dX5_passesDay_3 : decode cX5_passesDay 3 = .ok (.getfield 7, 3) := by decide +kernel
theorem dX5_passesDay_6 : decode cX5_passesDay 6 = .ok (.iconst 0, 1) := by decide +kernel
theorem dX5_passesDay_7 : decode cX5_passesDay 7 = .ok (.dup2, 1) := by decide +kernel
theorem dX5_passesDay_8 : decode cX5_passesDay 8 = .ok (.iaload, 1) := by decide +kernel
theorem dX5_passesDay_9 : decode cX5_passesDay 9 = .ok (.iconst 1, 1) := by decide +kernel
theorem dX5_passesDay_10 : decode cX5_passesDay 10 = .ok (.iadd, 1) := by decide +kernel
theorem dX5_passesDay_11 : decode cX5_passesDay 11 = .ok (.iastore, 1) := by decide +kernel
theorem dX5_passesDay_12 : decode cX5_passesDay 12 = .ok (.iconst 0, 1) := by decide +kernel
theorem dX5_passesDay_13 : decode cX5_passesDay 13 = .ok (.istore_n 2, 1) := by decide +kernel
theorem dX5_passesDay_14 : decode cX5_passesDay 14 = .ok (.iload_n 2, 1) := by decide +kernel
theorem dX5_passesDay_15 : decode cX5_passesDay 15 = .ok (.iconst 4, 1) := by decide +kernel
theorem dX5_passesDay_16 : decode cX5_passesDay 16 = .ok (.if_icmp .ge 47, 3) := by decide +kernel
theorem dX5_passesDay_19 : decode cX5_passesDay 19 = .ok (.iconst 0, 1) := by decide +kernel
theorem dX5_passesDay_20 : decode cX5_passesDay 20 = .ok (.istore_n 3, 1) := by decide +kernel
theorem dX5_passesDay_21 : decode cX5_passesDay 21 = .ok (.iload_n 3, 1) := by decide +kernel
theorem dX5_passesDay_22 : decode cX5_passesDay 22 = .ok (.aload_n 0, 1) := by decide +kernel
theorem dX5_passesDay_23 : decode cX5_passesDay 23 = .ok (.iload_n 2, 1) := by decide +kernel
theorem dX5_passesDay_24 : decode cX5_passesDay 24 = .ok (.iconst 3, 1) := by decide +kernel
theorem dX5_passesDay_25 : decode cX5_passesDay 25 = .ok (.invokevirtual 33, 3) := by decide +kernel
theorem dX5_passesDay_28 : decode cX5_passesDay 28 = .ok (.if_icmp .ge 29, 3) := by decide +kernel
theorem dX5_passesDay_31 : decode cX5_passesDay 31 = .ok (.aload_n 0, 1) := by decide +kernel
theorem dX5_passesDay_32 : decode cX5_passesDay 32 = .ok (.iload_n 2, 1) := by decide +kernel
theorem dX5_passesDay_33 : decode cX5_passesDay 33 = .ok (.iconst 4, 1) := by decide +kernel
theorem dX5_passesDay_34 : decode cX5_passesDay 34 = .ok (.iconst 2, 1) := by decide +kernel
theorem dX5_passesDay_35 : decode cX5_passesDay 35 = .ok (.iload_n 3, 1) := by decide +kernel
theorem dX5_passesDay_36 : decode cX5_passesDay 36 = .ok (.imul, 1) := by decide +kernel
theorem dX5_passesDay_37 : decode cX5_passesDay 37 = .ok (.iadd, 1) := by decide +kernel
theorem dX5_passesDay_38 : decode cX5_passesDay 38 = .ok (.iconst 1, 1) := by decide +kernel
theorem dX5_passesDay_39 : decode cX5_passesDay 39 = .ok (.iadd, 1) := by decide +kernel
theorem dX5_passesDay_40 : decode cX5_passesDay 40 = .ok (.aload_n 0, 1) := by decide +kernel
theorem dX5_passesDay_41 : decode cX5_passesDay 41 = .ok (.iload_n 2, 1) := by decide +kernel
theorem dX5_passesDay_42 : decode cX5_passesDay 42 = .ok (.iload_n 3, 1) := by decide +kernel
theorem dX5_passesDay_43 : decode cX5_passesDay 43 = .ok (.invokevirtual 40, 3) := by decide +kernel
theorem dX5_passesDay_46 : decode cX5_passesDay 46 = .ok (.iconst 1, 1) := by decide +kernel
theorem dX5_passesDay_47 : decode cX5_passesDay 47 = .ok (.iadd, 1) := by decide +kernel
theorem dX5_passesDay_48 : decode cX5_passesDay 48 = .ok (.invokevirtual 49, 3) := by decide +kernel
theorem dX5_passesDay_51 : decode cX5_passesDay 51 = .ok (.iinc 3 1, 3) := by decide +kernel
theorem dX5_passesDay_54 : decode cX5_passesDay 54 = .ok (.goto (-33), 3) := by decide +kernel
theorem dX5_passesDay_57 : decode cX5_passesDay 57 = .ok (.iinc 2 1, 3) := by decide +kernel
theorem dX5_passesDay_60 : decode cX5_passesDay 60 = .ok (.goto (-46), 3) := by decide +kernel
theorem dX5_passesDay_63 : decode cX5_passesDay 63 = .ok (.iconst 0, 1) := by decide +kernel
theorem dX5_passesDay_64 : decode cX5_passesDay 64 = .ok (.istore_n 2, 1) := by decide +kernel
theorem dX5_passesDay_65 : decode cX5_passesDay 65 = .ok (.iload_n 2, 1) := by decide +kernel
theorem dX5_passesDay_66 : decode cX5_passesDay 66 = .ok (.iconst 4, 1) := by decide +kernel
theorem dX5_passesDay_67 : decode cX5_passesDay 67 = .ok (.if_icmp .ge 34, 3) := by decide +kernel
theorem dX5_passesDay_70 : decode cX5_passesDay 70 = .ok (.aload_n 0, 1) := by decide +kernel
theorem dX5_passesDay_71 : decode cX5_passesDay 71 = .ok (.iload_n 2, 1) := by decide +kernel
theorem dX5_passesDay_72 : decode cX5_passesDay 72 = .ok (.invokevirtual 76, 3) := by decide +kernel
theorem dX5_passesDay_75 : decode cX5_passesDay 75 = .ok (.ifCond .eq 20, 3) := by decide +kernel
theorem dX5_passesDay_78 : decode cX5_passesDay 78 = .ok (.aload_n 0, 1) := by decide +kernel
theorem dX5_passesDay_79 : decode cX5_passesDay 79 = .ok (.iload_n 2, 1) := by decide +kernel
theorem dX5_passesDay_80 : decode cX5_passesDay 80 = .ok (.iconst 1, 1) := by decide +kernel
theorem dX5_passesDay_81 : decode cX5_passesDay 81 = .ok (.iconst 1, 1) := by decide +kernel
theorem dX5_passesDay_82 : decode cX5_passesDay 82 = .ok (.invokevirtual 49, 3) := by decide +kernel
theorem dX5_passesDay_85 : decode cX5_passesDay 85 = .ok (.aload_n 0, 1) := by decide +kernel
theorem dX5_passesDay_86 : decode cX5_passesDay 86 = .ok (.iload_n 2, 1) := by decide +kernel
theorem dX5_passesDay_87 : decode cX5_passesDay 87 = .ok (.iconst 2, 1) := by decide +kernel
theorem dX5_passesDay_88 : decode cX5_passesDay 88 = .ok (.iconst 0, 1) := by decide +kernel
theorem dX5_passesDay_89 : decode cX5_passesDay 89 = .ok (.invokevirtual 49, 3) := by decide +kernel
theorem dX5_passesDay_92 : decode cX5_passesDay 92 = .ok (.iinc 1 1, 3) := by decide +kernel
theorem dX5_passesDay_95 : decode cX5_passesDay 95 = .ok (.iinc 2 1, 3) := by decide +kernel
theorem dX5_passesDay_98 : decode cX5_passesDay 98 = .ok (.goto (-33), 3) := by decide +kernel
theorem dX5_passesDay_101 : decode cX5_passesDay 101 = .ok (.aload_n 0, 1) := by decide +kernel
theorem dX5_passesDay_102 : decode cX5_passesDay 102 = .ok (.getfield 7, 3) := by decide +kernel
theorem dX5_passesDay_105 : decode cX5_passesDay 105 = .ok (.iconst 5, 1) := by decide +kernel
theorem dX5_passesDay_106 : decode cX5_passesDay 106 = .ok (.dup2, 1) := by decide +kernel
theorem dX5_passesDay_107 : decode cX5_passesDay 107 = .ok (.iaload, 1) := by decide +kernel
theorem dX5_passesDay_108 : decode cX5_passesDay 108 = .ok (.iload_n 1, 1) := by decide +kernel
theorem dX5_passesDay_109 : decode cX5_passesDay 109 = .ok (.iadd, 1) := by decide +kernel
theorem dX5_passesDay_110 : decode cX5_passesDay 110 = .ok (.iastore, 1) := by decide +kernel
theorem dX5_passesDay_111 : decode cX5_passesDay 111 = .ok (.iload_n 1, 1) := by decide +kernel
theorem dX5_passesDay_112 : decode cX5_passesDay 112 = .ok (.ireturn, 1) := by decide +kernel
set_option maxRecDepth 20000 in
theorem ggX5_passes_X5_passesDay : GoodIn wsX5_passes wsX5_passesDay := goodIn_r _ [5, 6, 7, 8, 9, 4, 10, 11, 12, 13, 14, 15, 16, 17, 18, 19, 20, 21, 22, 23, 24, 25, 26, 27, 28, 29, 30, 31, 32, 33, 34, 35, 36, 37, 38] (by decide +kernel) (by decide +kernel)
set_option maxRecDepth 20000 in
theorem gX5_passes_X5_passesDay : GoodIn wsX5_passes (wsV RX5 80 RX5 yX5_passesDay wsX5_passesDay) := goodIn_app (goodIn_of _ (by decide +kernel)) ggX5_passes_X5_passesDay
theorem dX5_passes_0 : decode cX5_passes 0 = .ok (.iconst 0, 1) := by decide +kernel
theorem dX5_passes_1 : decode cX5_passes 1 = .ok (.istore_n 2, 1) := by decide +kernel
theorem dX5_passes_2 : decode cX5_passes 2 = .ok (.iconst 0, 1) := by decide +kernel
theorem dX5_passes_3 : decode cX5_passes 3 = .ok (.istore_n 3, 1) := by decide +kernel
theorem dX5_passes_4 : decode cX5_passes 4 = .ok (.iload_n 3, 1) := by decide +kernel
theorem dX5_passes_5 : decode cX5_passes 5 = .ok (.iload_n 1, 1) := by decide +kernel
theorem dX5_passes_6 : decode cX5_passes 6 = .ok (.if_icmp .ge 16, 3) := by decide +kernel
theorem dX5_passes_9 : decode cX5_passes 9 = .ok (.iload_n 2, 1) := by decide +kernel
theorem dX5_passes_10 : decode cX5_passes 10 = .ok (.aload_n 0, 1) := by decide +kernel
theorem dX5_passes_11 : decode cX5_passes 11 = .ok (.invokevirtual 80, 3) := by decide +kernel
theorem dX5_passes_14 : decode cX5_passes 14 = .ok (.iadd, 1) := by decide +kernel
theorem dX5_passes_15 : decode cX5_passes 15 = .ok (.istore_n 2, 1) := by decide +kernel
theorem dX5_passes_16 : decode cX5_passes 16 = .ok (.iinc 3 1, 3) := by decide +kernel
theorem dX5_passes_19 : decode cX5_passes 19 = .ok (.goto (-15), 3) := by decide +kernel
theorem dX5_passes_22 : decode cX5_passes 22 = .ok (.iload_n 2, 1) := by decide +kernel
theorem dX5_passes_23 : decode cX5_passes 23 = .ok (.ireturn, 1) := by decide +kernel
set_option maxRecDepth 20000 in
theorem ggX5_isHeavy_X5_of : GoodIn wsX5_isHeavy wsX5_of := goodIn_r _ [6, 1, 15, 16, 17, 18, 19, 20, 21, 22, 23, 24, 25, 26] (by decide +kernel) (by decide +kernel)
set_option maxRecDepth 20000 in
theorem gX5_isHeavy_X5_of : GoodIn wsX5_isHeavy (wsV RX5 33 RX5 yX5_of wsX5_of) := goodIn_app (goodIn_of _ (by decide +kernel)) ggX5_isHeavy_X5_of
set_option maxRecDepth 20000 in
theorem ggX5_isHeavy_X5_sumFrom : GoodIn wsX5_isHeavy wsX5_sumFrom := goodIn_r _ [10, 2, 3, 4, 5, 6, 1, 11, 12, 13, 14, 15, 16, 17, 18, 19, 20, 21, 22, 23, 24, 25, 26] (by decide +kernel) (by decide +kernel)
set_option maxRecDepth 20000 in
theorem gX5_isHeavy_X5_sumFrom : GoodIn wsX5_isHeavy (wsV RX5 70 RX5 yX5_sumFrom wsX5_sumFrom) := goodIn_app (goodIn_of _ (by decide +kernel)) ggX5_isHeavy_X5_sumFrom
theorem dX5_isHeavy_0 : decode cX5_isHeavy 0 = .ok (.aload_n 0, 1) := by decide +kernel
theorem dX5_isHeavy_1 : decode cX5_isHeavy 1 = .ok (.iload_n 1, 1) := by decide +kernel
theorem dX5_isHeavy_2 : decode cX5_isHeavy 2 = .ok (.aload_n 0, 1) := by decide +kernel
theorem dX5_isHeavy_3 : decode cX5_isHeavy 3 = .ok (.iload_n 1, 1) := by decide +kernel
theorem dX5_isHeavy_4 : decode cX5_isHeavy 4 = .ok (.iconst 1, 1) := by decide +kernel
theorem dX5_isHeavy_5 : decode cX5_isHeavy 5 = .ok (.invokevirtual 33, 3) := by decide +kernel
theorem dX5_isHeavy_8 : decode cX5_isHeavy 8 = .ok (.iconst 2, 1) := by decide +kernel
theorem dX5_isHeavy_9 : decode cX5_isHeavy 9 = .ok (.if_icmp .ne 7, 3) := by decide +kernel
theorem dX5_isHeavy_12 : decode cX5_isHeavy 12 = .ok (.iconst 0, 1) := by decide +kernel
theorem dX5_isHeavy_13 : decode cX5_isHeavy 13 = .ok (.goto 4, 3) := by decide +kernel
theorem dX5_isHeavy_16 : decode cX5_isHeavy 16 = .ok (.iconst 1, 1) := by decide +kernel
theorem dX5_isHeavy_17 : decode cX5_isHeavy 17 = .ok (.invokevirtual 70, 3) := by decide +kernel
theorem dX5_isHeavy_20 : decode cX5_isHeavy 20 = .ok (.aload_n 0, 1) := by decide +kernel
theorem dX5_isHeavy_21 : decode cX5_isHeavy 21 = .ok (.getfield 7, 3) := by decide +kernel
theorem dX5_isHeavy_24 : decode cX5_isHeavy 24 = .ok (.bipush 9, 2) := by decide +kernel
theorem dX5_isHeavy_26 : decode cX5_isHeavy 26 = .ok (.iaload, 1) := by decide +kernel
theorem dX5_isHeavy_27 : decode cX5_isHeavy 27 = .ok (.if_icmp .lt 7, 3) := by decide +kernel
theorem dX5_isHeavy_30 : decode cX5_isHeavy 30 = .ok (.iconst 1, 1) := by decide +kernel
theorem dX5_isHeavy_31 : decode cX5_isHeavy 31 = .ok (.goto 4, 3) := by decide +kernel
theorem dX5_isHeavy_34 : decode cX5_isHeavy 34 = .ok (.iconst 0, 1) := by decide +kernel
theorem dX5_isHeavy_35 : decode cX5_isHeavy 35 = .ok (.ireturn, 1) := by decide +kernel
set_option maxRecDepth 20000 in
theorem ggX5_shakes_X5_of : GoodIn wsX5_shakes wsX5_of := goodIn_r _ [6, 1, 27, 28, 29, 30, 31, 32, 33, 34, 35, 36, 37, 38] (by decide +kernel) (by decide +kernel)
set_option maxRecDepth 20000 in
theorem gX5_shakes_X5_of : GoodIn wsX5_shakes (wsV RX5 33 RX5 yX5_of wsX5_of) := goodIn_app (goodIn_of _ (by decide +kernel)) ggX5_shakes_X5_of
set_option maxRecDepth 20000 in
theorem ggX5_shakes_X5_isHeavy : GoodIn wsX5_shakes wsX5_isHeavy := goodIn_r _ [10, 1, 2, 3, 4, 5, 6, 11, 12, 13, 14, 15, 16, 17, 18, 27, 28, 29, 30, 31, 32, 33, 34, 35, 36, 37, 38] (by decide +kernel) (by decide +kernel)
set_option maxRecDepth 20000 in
theorem gX5_shakes_X5_isHeavy : GoodIn wsX5_shakes (wsV RX5 84 RX5 yX5_isHeavy wsX5_isHeavy) := goodIn_app (goodIn_of _ (by decide +kernel)) ggX5_shakes_X5_isHeavy
set_option maxRecDepth 20000 in
theorem ggX5_shakes_X5_lay : GoodIn wsX5_shakes wsX5_lay := goodIn_r _ [22, 1, 27, 28, 29, 30, 31, 32, 33, 34, 35, 36, 37, 38] (by decide +kernel) (by decide +kernel)
set_option maxRecDepth 20000 in
theorem gX5_shakes_X5_lay : GoodIn wsX5_shakes (wsV RX5 49 RX5 yX5_lay wsX5_lay) := goodIn_app (goodIn_of _ (by decide +kernel)) ggX5_shakes_X5_lay
set_option maxRecDepth 20000 in
theorem ggX5_shakes_X5_age : GoodIn wsX5_shakes wsX5_age := goodIn_r _ [26, 2, 3, 4, 5, 6, 1, 27, 28, 29, 30, 31, 32, 33, 34, 35, 36, 37, 38] (by decide +kernel) (by decide +kernel)
set_option maxRecDepth 20000 in
theorem gX5_shakes_X5_age : GoodIn wsX5_shakes (wsV RX5 40 RX5 yX5_age wsX5_age) := goodIn_app (goodIn_of _ (by decide +kernel)) ggX5_shakes_X5_age
theorem dX5_shakes_0 : decode cX5_shakes 0 = .ok (.aload_n 0, 1) := by decide +kernel
theorem dX5_shakes_1 : decode cX5_shakes 1 = .ok (.iload_n 1, 1) := by decide +kernel
theorem dX5_shakes_2 : decode cX5_shakes 2 = .ok (.iconst 2, 1) := by decide +kernel
theorem dX5_shakes_3 : decode cX5_shakes 3 = .ok (.invokevirtual 33, 3) := by decide +kernel
theorem dX5_shakes_6 : decode cX5_shakes 6 = .ok (.iconst 1, 1) := by decide +kernel
theorem dX5_shakes_7 : decode cX5_shakes 7 = .ok (.iadd, 1) := by decide +kernel
theorem dX5_shakes_8 : decode cX5_shakes 8 = .ok (.istore_n 2, 1) := by decide +kernel
theorem dX5_shakes_9 : decode cX5_shakes 9 = .ok (.aload_n 0, 1) := by decide +kernel
theorem dX5_shakes_10 : decode cX5_shakes 10 = .ok (.iload_n 1, 1) := by decide +kernel
theorem dX5_shakes_11 : decode cX5_shakes 11 = .ok (.iconst 1, 1) := by decide +kernel
theorem dX5_shakes_12 : decode cX5_shakes 12 = .ok (.invokevirtual 33, 3) := by decide +kernel
theorem dX5_shakes_15 : decode cX5_shakes 15 = .ok (.ifCond .le 20, 3) := by decide +kernel
theorem dX5_shakes_18 : decode cX5_shakes 18 = .ok (.aload_n 0, 1) := by decide +kernel
theorem dX5_shakes_19 : decode cX5_shakes 19 = .ok (.iload_n 1, 1) := by decide +kernel
theorem dX5_shakes_20 : decode cX5_shakes 20 = .ok (.invokevirtual 84, 3) := by decide +kernel
theorem dX5_shakes_23 : decode cX5_shakes 23 = .ok (.ifCond .ne 8, 3) := by decide +kernel
theorem dX5_shakes_26 : decode cX5_shakes 26 = .ok (.iload_n 2, 1) := by decide +kernel
theorem dX5_shakes_27 : decode cX5_shakes 27 = .ok (.iconst 3, 1) := by decide +kernel
theorem dX5_shakes_28 : decode cX5_shakes 28 = .ok (.if_icmp .lt 7, 3) := by decide +kernel
theorem dX5_shakes_31 : decode cX5_shakes 31 = .ok (.iconst 1, 1) := by decide +kernel
theorem dX5_shakes_32 : decode cX5_shakes 32 = .ok (.goto 4, 3) := by decide +kernel
theorem dX5_shakes_35 : decode cX5_shakes 35 = .ok (.iconst 0, 1) := by decide +kernel
theorem dX5_shakes_36 : decode cX5_shakes 36 = .ok (.istore_n 3, 1) := by decide +kernel
theorem dX5_shakes_37 : decode cX5_shakes 37 = .ok (.aload_n 0, 1) := by decide +kernel
theorem dX5_shakes_38 : decode cX5_shakes 38 = .ok (.iload_n 1, 1) := by decide +kernel
theorem dX5_shakes_39 : decode cX5_shakes 39 = .ok (.iconst 2, 1) := by decide +kernel
theorem dX5_shakes_40 : decode cX5_shakes 40 = .ok (.iload_n 2, 1) := by decide +kernel
theorem dX5_shakes_41 : decode cX5_shakes 41 = .ok (.invokevirtual 49, 3) := by decide +kernel
theorem dX5_shakes_44 : decode cX5_shakes 44 = .ok (.aload_n 0, 1) := by decide +kernel
theorem dX5_shakes_45 : decode cX5_shakes 45 = .ok (.iload_n 1, 1) := by decide +kernel
theorem dX5_shakes_46 : decode cX5_shakes 46 = .ok (.iconst 1, 1) := by decide +kernel
theorem dX5_shakes_47 : decode cX5_shakes 47 = .ok (.iload_n 3, 1) := by decide +kernel
theorem dX5_shakes_48 : decode cX5_shakes 48 = .ok (.ifCond .eq 7, 3) := by decide +kernel
theorem dX5_shakes_51 : decode cX5_shakes 51 = .ok (.iconst 0, 1) := by decide +kernel
theorem dX5_shakes_52 : decode cX5_shakes 52 = .ok (.goto 9, 3) := by decide +kernel
theorem dX5_shakes_55 : decode cX5_shakes 55 = .ok (.aload_n 0, 1) := by decide +kernel
theorem dX5_shakes_56 : decode cX5_shakes 56 = .ok (.iload_n 1, 1) := by decide +kernel
theorem dX5_shakes_57 : decode cX5_shakes 57 = .ok (.iconst 1, 1) := by decide +kernel
theorem dX5_shakes_58 : decode cX5_shakes 58 = .ok (.invokevirtual 33, 3) := by decide +kernel
theorem dX5_shakes_61 : decode cX5_shakes 61 = .ok (.invokevirtual 49, 3) := by decide +kernel
theorem dX5_shakes_64 : decode cX5_shakes 64 = .ok (.aload_n 0, 1) := by decide +kernel
theorem dX5_shakes_65 : decode cX5_shakes 65 = .ok (.iload_n 1, 1) := by decide +kernel
theorem dX5_shakes_66 : decode cX5_shakes 66 = .ok (.iconst 5, 1) := by decide +kernel
theorem dX5_shakes_67 : decode cX5_shakes 67 = .ok (.aload_n 0, 1) := by decide +kernel
theorem dX5_shakes_68 : decode cX5_shakes 68 = .ok (.iload_n 1, 1) := by decide +kernel
theorem dX5_shakes_69 : decode cX5_shakes 69 = .ok (.iconst 0, 1) := by decide +kernel
theorem dX5_shakes_70 : decode cX5_shakes 70 = .ok (.invokevirtual 40, 3) := by decide +kernel
theorem dX5_shakes_73 : decode cX5_shakes 73 = .ok (.ifCond .le 14, 3) := by decide +kernel
theorem dX5_shakes_76 : decode cX5_shakes 76 = .ok (.aload_n 0, 1) := by decide +kernel
theorem dX5_shakes_77 : decode cX5_shakes 77 = .ok (.iload_n 1, 1) := by decide +kernel
theorem dX5_shakes_78 : decode cX5_shakes 78 = .ok (.iconst 0, 1) := by decide +kernel
theorem dX5_shakes_79 : decode cX5_shakes 79 = .ok (.invokevirtual 40, 3) := by decide +kernel
theorem dX5_shakes_82 : decode cX5_shakes 82 = .ok (.iconst 1, 1) := by decide +kernel
theorem dX5_shakes_83 : decode cX5_shakes 83 = .ok (.isub, 1) := by decide +kernel
theorem dX5_shakes_84 : decode cX5_shakes 84 = .ok (.goto 4, 3) := by decide +kernel
theorem dX5_shakes_87 : decode cX5_shakes 87 = .ok (.iconst 0, 1) := by decide +kernel
theorem dX5_shakes_88 : decode cX5_shakes 88 = .ok (.invokevirtual 49, 3) := by decide +kernel
theorem dX5_shakes_91 : decode cX5_shakes 91 = .ok (.aload_n 0, 1) := by decide +kernel
theorem dX5_shakes_92 : decode cX5_shakes 92 = .ok (.getfield 7, 3) := by decide +kernel
theorem dX5_shakes_95 : decode cX5_shakes 95 = .ok (.iconst 4, 1) := by decide +kernel
theorem dX5_shakes_96 : decode cX5_shakes 96 = .ok (.dup2, 1) := by decide +kernel
theorem dX5_shakes_97 : decode cX5_shakes 97 = .ok (.iaload, 1) := by decide +kernel
theorem dX5_shakes_98 : decode cX5_shakes 98 = .ok (.iconst 1, 1) := by decide +kernel
theorem dX5_shakes_99 : decode cX5_shakes 99 = .ok (.iadd, 1) := by decide +kernel
theorem dX5_shakes_100 : decode cX5_shakes 100 = .ok (.iastore, 1) := by decide +kernel
theorem dX5_shakes_101 : decode cX5_shakes 101 = .ok (.iload_n 3, 1) := by decide +kernel
theorem dX5_shakes_102 : decode cX5_shakes 102 = .ok (.ifCond .eq 7, 3) := by decide +kernel
theorem dX5_shakes_105 : decode cX5_shakes 105 = .ok (.iconst 1, 1) := by decide +kernel
theorem dX5_shakes_106 : decode cX5_shakes 106 = .ok (.goto 4, 3) := by decide +kernel
theorem dX5_shakes_109 : decode cX5_shakes 109 = .ok (.iconst 0, 1) := by decide +kernel
theorem dX5_shakes_110 : decode cX5_shakes 110 = .ok (.ireturn, 1) := by decide +kernel
set_option maxRecDepth 20000 in
theorem ggX5_ship_X5_isShip : GoodIn wsX5_ship wsX5_isShip := goodIn_r _ [6, 7, 8, 5, 9] (by decide +kernel) (by decide +kernel)
set_option maxRecDepth 20000 in
theorem gX5_ship_X5_isShip : GoodIn wsX5_ship (va_wsS RX5 87 yX5_isShip wsX5_isShip) := goodIn_app (goodIn_of _ (by decide +kernel)) ggX5_ship_X5_isShip
set_option maxRecDepth 20000 in
theorem ggX5_ship_X5_fails : GoodIn wsX5_ship wsX5_fails := goodIn_r _ [13, 1, 20, 21, 22, 23, 24, 25, 26, 27, 28, 29, 30, 31] (by decide +kernel) (by decide +kernel)
set_option maxRecDepth 20000 in
theorem gX5_ship_X5_fails : GoodIn wsX5_ship (wsV RX5 90 RX5 yX5_fails wsX5_fails) := goodIn_app (goodIn_of _ (by decide +kernel)) ggX5_ship_X5_fails
set_option maxRecDepth 20000 in
theorem ggX5_ship_X5_in : GoodIn wsX5_ship wsX5_in := goodIn_r _ [9] (by decide +kernel) (by decide +kernel)
set_option maxRecDepth 20000 in
theorem gX5_ship_X5_in : GoodIn wsX5_ship (va_wsS RX5 29 yX5_in wsX5_in) := goodIn_app (goodIn_of _ (by decide +kernel)) ggX5_ship_X5_in
set_option maxRecDepth 20000 in
theorem ggX5_ship_X5_saves : GoodIn wsX5_ship wsX5_saves := goodIn_r _ [17, 18, 19, 2, 20, 21, 22, 23, 24, 25, 26, 27, 28, 29, 30, 31] (by decide +kernel) (by decide +kernel)
set_option maxRecDepth 20000 in
theorem gX5_ship_X5_saves : GoodIn wsX5_ship (wsV RX5 93 RX5 yX5_saves wsX5_saves) := goodIn_app (goodIn_of _ (by decide +kernel)) ggX5_ship_X5_saves
theorem dX5_ship_0 : decode cX5_ship 0 = .ok (.aload_n 0, 1) := by decide +kernel
theorem dX5_ship_1 : decode cX5_ship 1 = .ok (.iconst 0, 1) := by decide +kernel
theorem dX5_ship_2 : decode cX5_ship 2 = .ok (.putfield 25, 3) := by decide +kernel
theorem dX5_ship_5 : decode cX5_ship 5 = .ok (.iload_n 1, 1) := by decide +kernel
theorem dX5_ship_6 : decode cX5_ship 6 = .ok (.invokestatic 87, 3) := by decide +kernel
theorem dX5_ship_9 : decode cX5_ship 9 = .ok (.ifCond .ne 9, 3) := by decide +kernel
theorem dX5_ship_12 : decode cX5_ship 12 = .ok (.aload_n 0, 1) := by decide +kernel
theorem dX5_ship_13 : decode cX5_ship 13 = .ok (.iconst 1, 1) := by decide +kernel
theorem dX5_ship_14 : decode cX5_ship 14 = .ok (.invokevirtual 90, 3) := by decide +kernel
theorem dX5_ship_17 : decode cX5_ship 17 = .ok (.ireturn, 1) := by decide +kernel
theorem dX5_ship_18 : decode cX5_ship 18 = .ok (.iload_n 2, 1) := by decide +kernel
theorem dX5_ship_19 : decode cX5_ship 19 = .ok (.iconst 0, 1) := by decide +kernel
theorem dX5_ship_20 : decode cX5_ship 20 = .ok (.sipush 900, 3) := by decide +kernel
theorem dX5_ship_23 : decode cX5_ship 23 = .ok (.invokestatic 29, 3) := by decide +kernel
theorem dX5_ship_26 : decode cX5_ship 26 = .ok (.ifCond .eq 12, 3) := by decide +kernel
theorem dX5_ship_29 : decode cX5_ship 29 = .ok (.iload_n 3, 1) := by decide +kernel
theorem dX5_ship_30 : decode cX5_ship 30 = .ok (.iconst 0, 1) := by decide +kernel
theorem dX5_ship_31 : decode cX5_ship 31 = .ok (.iload_n 2, 1) := by decide +kernel
theorem dX5_ship_32 : decode cX5_ship 32 = .ok (.invokestatic 29, 3) := by decide +kernel
theorem dX5_ship_35 : decode cX5_ship 35 = .ok (.ifCond .ne 9, 3) := by decide +kernel
theorem dX5_ship_38 : decode cX5_ship 38 = .ok (.aload_n 0, 1) := by decide +kernel
theorem dX5_ship_39 : decode cX5_ship 39 = .ok (.iconst 2, 1) := by decide +kernel
theorem dX5_ship_40 : decode cX5_ship 40 = .ok (.invokevirtual 90, 3) := by decide +kernel
theorem dX5_ship_43 : decode cX5_ship 43 = .ok (.ireturn, 1) := by decide +kernel
theorem dX5_ship_44 : decode cX5_ship 44 = .ok (.aload_n 0, 1) := by decide +kernel
theorem dX5_ship_45 : decode cX5_ship 45 = .ok (.invokevirtual 93, 3) := by decide +kernel
theorem dX5_ship_48 : decode cX5_ship 48 = .ok (.aload_n 0, 1) := by decide +kernel
theorem dX5_ship_49 : decode cX5_ship 49 = .ok (.getfield 7, 3) := by decide +kernel
theorem dX5_ship_52 : decode cX5_ship 52 = .ok (.bipush 106, 2) := by decide +kernel
theorem dX5_ship_54 : decode cX5_ship 54 = .ok (.iconst 2, 1) := by decide +kernel
theorem dX5_ship_55 : decode cX5_ship 55 = .ok (.iload_n 1, 1) := by decide +kernel
theorem dX5_ship_56 : decode cX5_ship 56 = .ok (.imul, 1) := by decide +kernel
theorem dX5_ship_57 : decode cX5_ship 57 = .ok (.iadd, 1) := by decide +kernel
theorem dX5_ship_58 : decode cX5_ship 58 = .ok (.iaload, 1) := by decide +kernel
theorem dX5_ship_59 : decode cX5_ship 59 = .ok (.istore 4, 2) := by decide +kernel
theorem dX5_ship_61 : decode cX5_ship 61 = .ok (.aload_n 0, 1) := by decide +kernel
theorem dX5_ship_62 : decode cX5_ship 62 = .ok (.getfield 7, 3) := by decide +kernel
theorem dX5_ship_65 : decode cX5_ship 65 = .ok (.bipush 106, 2) := by decide +kernel
theorem dX5_ship_67 : decode cX5_ship 67 = .ok (.iconst 2, 1) := by decide +kernel
theorem dX5_ship_68 : decode cX5_ship 68 = .ok (.iload_n 1, 1) := by decide +kernel
theorem dX5_ship_69 : decode cX5_ship 69 = .ok (.imul, 1) := by decide +kernel
theorem dX5_ship_70 : decode cX5_ship 70 = .ok (.iadd, 1) := by decide +kernel
theorem dX5_ship_71 : decode cX5_ship 71 = .ok (.iload_n 3, 1) := by decide +kernel
theorem dX5_ship_72 : decode cX5_ship 72 = .ok (.iastore, 1) := by decide +kernel
theorem dX5_ship_73 : decode cX5_ship 73 = .ok (.aload_n 0, 1) := by decide +kernel
theorem dX5_ship_74 : decode cX5_ship 74 = .ok (.getfield 7, 3) := by decide +kernel
theorem dX5_ship_77 : decode cX5_ship 77 = .ok (.bipush 106, 2) := by decide +kernel
theorem dX5_ship_79 : decode cX5_ship 79 = .ok (.iconst 2, 1) := by decide +kernel
theorem dX5_ship_80 : decode cX5_ship 80 = .ok (.iload_n 1, 1) := by decide +kernel
theorem dX5_ship_81 : decode cX5_ship 81 = .ok (.imul, 1) := by decide +kernel
theorem dX5_ship_82 : decode cX5_ship 82 = .ok (.iadd, 1) := by decide +kernel
theorem dX5_ship_83 : decode cX5_ship 83 = .ok (.iconst 1, 1) := by decide +kernel
theorem dX5_ship_84 : decode cX5_ship 84 = .ok (.iadd, 1) := by decide +kernel
theorem dX5_ship_85 : decode cX5_ship 85 = .ok (.iload_n 2, 1) := by decide +kernel
theorem dX5_ship_86 : decode cX5_ship 86 = .ok (.iastore, 1) := by decide +kernel
theorem dX5_ship_87 : decode cX5_ship 87 = .ok (.aload_n 0, 1) := by decide +kernel
theorem dX5_ship_88 : decode cX5_ship 88 = .ok (.getfield 7, 3) := by decide +kernel
theorem dX5_ship_91 : decode cX5_ship 91 = .ok (.iconst 2, 1) := by decide +kernel
theorem dX5_ship_92 : decode cX5_ship 92 = .ok (.dup2, 1) := by decide +kernel
theorem dX5_ship_93 : decode cX5_ship 93 = .ok (.iaload, 1) := by decide +kernel
theorem dX5_ship_94 : decode cX5_ship 94 = .ok (.iload_n 3, 1) := by decide +kernel
theorem dX5_ship_95 : decode cX5_ship 95 = .ok (.iadd, 1) := by decide +kernel
theorem dX5_ship_96 : decode cX5_ship 96 = .ok (.iastore, 1) := by decide +kernel
theorem dX5_ship_97 : decode cX5_ship 97 = .ok (.aload_n 0, 1) := by decide +kernel
theorem dX5_ship_98 : decode cX5_ship 98 = .ok (.getfield 7, 3) := by decide +kernel
theorem dX5_ship_101 : decode cX5_ship 101 = .ok (.iconst 3, 1) := by decide +kernel
theorem dX5_ship_102 : decode cX5_ship 102 = .ok (.dup2, 1) := by decide +kernel
theorem dX5_ship_103 : decode cX5_ship 103 = .ok (.iaload, 1) := by decide +kernel
theorem dX5_ship_104 : decode cX5_ship 104 = .ok (.iload 4, 2) := by decide +kernel
theorem dX5_ship_106 : decode cX5_ship 106 = .ok (.iadd, 1) := by decide +kernel
theorem dX5_ship_107 : decode cX5_ship 107 = .ok (.iastore, 1) := by decide +kernel
theorem dX5_ship_108 : decode cX5_ship 108 = .ok (.iload 4, 2) := by decide +kernel
theorem dX5_ship_110 : decode cX5_ship 110 = .ok (.ireturn, 1) := by decide +kernel
set_option maxRecDepth 20000 in
theorem ggX5_unload_X5_isSilo : GoodIn wsX5_unload wsX5_isSilo := goodIn_r _ [5, 6, 7, 4, 8] (by decide +kernel) (by decide +kernel)
set_option maxRecDepth 20000 in
theorem gX5_unload_X5_isSilo : GoodIn wsX5_unload (va_wsS RX5 96 yX5_isSilo wsX5_isSilo) := goodIn_app (goodIn_of _ (by decide +kernel)) ggX5_unload_X5_isSilo
set_option maxRecDepth 20000 in
theorem ggX5_unload_X5_isShip : GoodIn wsX5_unload wsX5_isShip := goodIn_r _ [11, 6, 7, 4, 8] (by decide +kernel) (by decide +kernel)
set_option maxRecDepth 20000 in
theorem gX5_unload_X5_isShip : GoodIn wsX5_unload (va_wsS RX5 87 yX5_isShip wsX5_isShip) := goodIn_app (goodIn_of _ (by decide +kernel)) ggX5_unload_X5_isShip
set_option maxRecDepth 20000 in
theorem ggX5_unload_X5_fails : GoodIn wsX5_unload wsX5_fails := goodIn_r _ [15, 1, 54, 55, 56, 57, 58, 59, 60, 61, 62, 63, 64, 65] (by decide +kernel) (by decide +kernel)
set_option maxRecDepth 20000 in
theorem gX5_unload_X5_fails : GoodIn wsX5_unload (wsV RX5 90 RX5 yX5_fails wsX5_fails) := goodIn_app (goodIn_of _ (by decide +kernel)) ggX5_unload_X5_fails
set_option maxRecDepth 20000 in
theorem ggX5_unload_X5_in : GoodIn wsX5_unload wsX5_in := goodIn_r _ [8] (by decide +kernel) (by decide +kernel)
set_option maxRecDepth 20000 in
theorem gX5_unload_X5_in : GoodIn wsX5_unload (va_wsS RX5 29 yX5_in wsX5_in) := goodIn_app (goodIn_of _ (by decide +kernel)) ggX5_unload_X5_in
set_option maxRecDepth 20000 in
theorem ggX5_unload_X5_saves : GoodIn wsX5_unload wsX5_saves := goodIn_r _ [19, 20, 21, 22, 54, 55, 56, 57, 58, 59, 60, 61, 62, 63, 64, 65] (by decide +kernel) (by decide +kernel)
set_option maxRecDepth 20000 in
theorem gX5_unload_X5_saves : GoodIn wsX5_unload (wsV RX5 93 RX5 yX5_saves wsX5_saves) := goodIn_app (goodIn_of _ (by decide +kernel)) ggX5_unload_X5_saves
set_option maxRecDepth 20000 in
theorem ggX5_unload_X5_unloads : GoodIn wsX5_unload wsX5_unloads := goodIn_r _ [26, 22, 27, 28, 4, 29, 30, 31, 32, 33, 34, 35, 36, 37, 38, 39, 40, 41, 42, 43, 44, 45, 46, 47, 48, 49, 50, 51, 52, 53, 54, 55, 56, 57, 58, 59, 60, 61, 62, 63, 64, 65] (by decide +kernel) (by decide +kernel)
set_option maxRecDepth 20000 in
theorem gX5_unload_X5_unloads : GoodIn wsX5_unload (wsV RX5 99 RX5 yX5_unloads wsX5_unloads) := goodIn_app (goodIn_of _ (by decide +kernel)) ggX5_unload_X5_unloads
theorem dX5_unload_0 : decode cX5_unload 0 = .ok (.aload_n 0, 1) := by decide +kernel
theorem dX5_unload_1 : decode cX5_unload 1 = .ok (.iconst 0, 1) := by decide +kernel
theorem dX5_unload_2 : decode cX5_unload 2 = .ok (.putfield 25, 3) := by decide +kernel
theorem dX5_unload_5 : decode cX5_unload 5 = .ok (.iload_n 1, 1) := by decide +kernel
theorem dX5_unload_6 : decode cX5_unload 6 = .ok (.invokestatic 96, 3) := by decide +kernel
theorem dX5_unload_9 : decode cX5_unload 9 = .ok (.ifCond .eq 10, 3) := by decide +kernel
theorem dX5_unload_12 : decode cX5_unload 12 = .ok (.iload_n 2, 1) := by decide +kernel
theorem dX5_unload_13 : decode cX5_unload 13 = .ok (.invokestatic 87, 3) := by decide +kernel
theorem dX5_unload_16 : decode cX5_unload 16 = .ok (.ifCond .ne 9, 3) := by decide +kernel
theorem dX5_unload_19 : decode cX5_unload 19 = .ok (.aload_n 0, 1) := by decide +kernel
theorem dX5_unload_20 : decode cX5_unload 20 = .ok (.iconst 1, 1) := by decide +kernel
theorem dX5_unload_21 : decode cX5_unload 21 = .ok (.invokevirtual 90, 3) := by decide +kernel
theorem dX5_unload_24 : decode cX5_unload 24 = .ok (.ireturn, 1) := by decide +kernel
theorem dX5_unload_25 : decode cX5_unload 25 = .ok (.iload_n 3, 1) := by decide +kernel
theorem dX5_unload_26 : decode cX5_unload 26 = .ok (.iconst 1, 1) := by decide +kernel
theorem dX5_unload_27 : decode cX5_unload 27 = .ok (.sipush 500, 3) := by decide +kernel
theorem dX5_unload_30 : decode cX5_unload 30 = .ok (.invokestatic 29, 3) := by decide +kernel
theorem dX5_unload_33 : decode cX5_unload 33 = .ok (.ifCond .ne 9, 3) := by decide +kernel
theorem dX5_unload_36 : decode cX5_unload 36 = .ok (.aload_n 0, 1) := by decide +kernel
theorem dX5_unload_37 : decode cX5_unload 37 = .ok (.iconst 2, 1) := by decide +kernel
theorem dX5_unload_38 : decode cX5_unload 38 = .ok (.invokevirtual 90, 3) := by decide +kernel
theorem dX5_unload_41 : decode cX5_unload 41 = .ok (.ireturn, 1) := by decide +kernel
theorem dX5_unload_42 : decode cX5_unload 42 = .ok (.aload_n 0, 1) := by decide +kernel
theorem dX5_unload_43 : decode cX5_unload 43 = .ok (.invokevirtual 93, 3) := by decide +kernel
theorem dX5_unload_46 : decode cX5_unload 46 = .ok (.aload_n 0, 1) := by decide +kernel
theorem dX5_unload_47 : decode cX5_unload 47 = .ok (.iload_n 1, 1) := by decide +kernel
theorem dX5_unload_48 : decode cX5_unload 48 = .ok (.iload_n 2, 1) := by decide +kernel
theorem dX5_unload_49 : decode cX5_unload 49 = .ok (.iload_n 3, 1) := by decide +kernel
theorem dX5_unload_50 : decode cX5_unload 50 = .ok (.invokevirtual 99, 3) := by decide +kernel
theorem dX5_unload_53 : decode cX5_unload 53 = .ok (.ireturn, 1) := by decide +kernel
set_option maxRecDepth 20000 in
theorem ggX5_flow_X5_isSilo : GoodIn wsX5_flow wsX5_isSilo := goodIn_r _ [5, 6, 7, 4, 8] (by decide +kernel) (by decide +kernel)
set_option maxRecDepth 20000 in
theorem gX5_flow_X5_isSilo : GoodIn wsX5_flow (va_wsS RX5 96 yX5_isSilo wsX5_isSilo) := goodIn_app (goodIn_of _ (by decide +kernel)) ggX5_flow_X5_isSilo
set_option maxRecDepth 20000 in
theorem ggX5_flow_X5_isShip : GoodIn wsX5_flow wsX5_isShip := goodIn_r _ [11, 6, 7, 4, 8] (by decide +kernel) (by decide +kernel)
set_option maxRecDepth 20000 in
theorem gX5_flow_X5_isShip : GoodIn wsX5_flow (va_wsS RX5 87 yX5_isShip wsX5_isShip) := goodIn_app (goodIn_of _ (by decide +kernel)) ggX5_flow_X5_isShip
set_option maxRecDepth 20000 in
theorem ggX5_flow_X5_fails : GoodIn wsX5_flow wsX5_fails := goodIn_r _ [15, 1, 66, 67, 68, 69, 70, 71, 72, 73, 74, 75, 76, 77] (by decide +kernel) (by decide +kernel)
set_option maxRecDepth 20000 in
theorem gX5_flow_X5_fails : GoodIn wsX5_flow (wsV RX5 90 RX5 yX5_fails wsX5_fails) := goodIn_app (goodIn_of _ (by decide +kernel)) ggX5_flow_X5_fails
set_option maxRecDepth 20000 in
theorem ggX5_flow_X5_in : GoodIn wsX5_flow wsX5_in := goodIn_r _ [8] (by decide +kernel) (by decide +kernel)
set_option maxRecDepth 20000 in
theorem gX5_flow_X5_in : GoodIn wsX5_flow (va_wsS RX5 29 yX5_in wsX5_in) := goodIn_app (goodIn_of _ (by decide +kernel)) ggX5_flow_X5_in
set_option maxRecDepth 20000 in
theorem ggX5_flow_X5_saves : GoodIn wsX5_flow wsX5_saves := goodIn_r _ [19, 20, 21, 22, 66, 67, 68, 69, 70, 71, 72, 73, 74, 75, 76, 77] (by decide +kernel) (by decide +kernel)
set_option maxRecDepth 20000 in
theorem gX5_flow_X5_saves : GoodIn wsX5_flow (wsV RX5 93 RX5 yX5_saves wsX5_saves) := goodIn_app (goodIn_of _ (by decide +kernel)) ggX5_flow_X5_saves
set_option maxRecDepth 20000 in
theorem ggX5_flow_X5_flowsAll : GoodIn wsX5_flow wsX5_flowsAll := goodIn_r _ [26, 27, 28, 29, 4, 30, 22, 31, 32, 33, 34, 35, 36, 37, 38, 39, 40, 41, 42, 43, 44, 45, 46, 47, 48, 49, 50, 51, 52, 53, 54, 55, 56, 57, 58, 59, 60, 61, 62, 63, 64, 65, 66, 67, 68, 69, 70, 71, 72, 73, 74, 75, 76, 77] (by decide +kernel) (by decide +kernel)
set_option maxRecDepth 20000 in
theorem gX5_flow_X5_flowsAll : GoodIn wsX5_flow (wsV RX5 103 RX5 yX5_flowsAll wsX5_flowsAll) := goodIn_app (goodIn_of _ (by decide +kernel)) ggX5_flow_X5_flowsAll
theorem dX5_flow_0 : decode cX5_flow 0 = .ok (.aload_n 0, 1) := by decide +kernel
theorem dX5_flow_1 : decode cX5_flow 1 = .ok (.iconst 0, 1) := by decide +kernel
theorem dX5_flow_2 : decode cX5_flow 2 = .ok (.putfield 25, 3) := by decide +kernel
theorem dX5_flow_5 : decode cX5_flow 5 = .ok (.iload_n 1, 1) := by decide +kernel
theorem dX5_flow_6 : decode cX5_flow 6 = .ok (.invokestatic 96, 3) := by decide +kernel
theorem dX5_flow_9 : decode cX5_flow 9 = .ok (.ifCond .eq 10, 3) := by decide +kernel
theorem dX5_flow_12 : decode cX5_flow 12 = .ok (.iload_n 2, 1) := by decide +kernel
theorem dX5_flow_13 : decode cX5_flow 13 = .ok (.invokestatic 87, 3) := by decide +kernel
theorem dX5_flow_16 : decode cX5_flow 16 = .ok (.ifCond .ne 9, 3) := by decide +kernel
theorem dX5_flow_19 : decode cX5_flow 19 = .ok (.aload_n 0, 1) := by decide +kernel
theorem dX5_flow_20 : decode cX5_flow 20 = .ok (.iconst 1, 1) := by decide +kernel
theorem dX5_flow_21 : decode cX5_flow 21 = .ok (.invokevirtual 90, 3) := by decide +kernel
theorem dX5_flow_24 : decode cX5_flow 24 = .ok (.ireturn, 1) := by decide +kernel
theorem dX5_flow_25 : decode cX5_flow 25 = .ok (.iload_n 3, 1) := by decide +kernel
theorem dX5_flow_26 : decode cX5_flow 26 = .ok (.iconst 1, 1) := by decide +kernel
theorem dX5_flow_27 : decode cX5_flow 27 = .ok (.bipush 24, 2) := by decide +kernel
theorem dX5_flow_29 : decode cX5_flow 29 = .ok (.invokestatic 29, 3) := by decide +kernel
theorem dX5_flow_32 : decode cX5_flow 32 = .ok (.ifCond .ne 9, 3) := by decide +kernel
theorem dX5_flow_35 : decode cX5_flow 35 = .ok (.aload_n 0, 1) := by decide +kernel
theorem dX5_flow_36 : decode cX5_flow 36 = .ok (.iconst 2, 1) := by decide +kernel
theorem dX5_flow_37 : decode cX5_flow 37 = .ok (.invokevirtual 90, 3) := by decide +kernel
theorem dX5_flow_40 : decode cX5_flow 40 = .ok (.ireturn, 1) := by decide +kernel
theorem dX5_flow_41 : decode cX5_flow 41 = .ok (.aload_n 0, 1) := by decide +kernel
theorem dX5_flow_42 : decode cX5_flow 42 = .ok (.invokevirtual 93, 3) := by decide +kernel
theorem dX5_flow_45 : decode cX5_flow 45 = .ok (.aload_n 0, 1) := by decide +kernel
theorem dX5_flow_46 : decode cX5_flow 46 = .ok (.iload_n 1, 1) := by decide +kernel
theorem dX5_flow_47 : decode cX5_flow 47 = .ok (.iload_n 2, 1) := by decide +kernel
theorem dX5_flow_48 : decode cX5_flow 48 = .ok (.iload_n 3, 1) := by decide +kernel
theorem dX5_flow_49 : decode cX5_flow 49 = .ok (.invokevirtual 103, 3) := by decide +kernel
theorem dX5_flow_52 : decode cX5_flow 52 = .ok (.ireturn, 1) := by decide +kernel
set_option maxRecDepth 20000 in
theorem ggX5_padsOn_X5_of : GoodIn wsX5_padsOn wsX5_of := goodIn_r _ [5, 6, 7, 8, 9, 10, 11, 12, 13, 14, 15, 16, 17, 18] (by decide +kernel) (by decide +kernel)
set_option maxRecDepth 20000 in
theorem gX5_padsOn_X5_of : GoodIn wsX5_padsOn (wsV RX5 33 RX5 yX5_of wsX5_of) := goodIn_app (goodIn_of _ (by decide +kernel)) ggX5_padsOn_X5_of
theorem dX5_padsOn_0 : decode cX5_padsOn 0 = .ok (.iconst 0, 1) := by decide +kernel
theorem dX5_padsOn_1 : decode cX5_padsOn 1 = .ok (.istore_n 1, 1) := by decide +kernel
theorem dX5_padsOn_2 : decode cX5_padsOn 2 = .ok (.iconst 0, 1) := by decide +kernel
theorem dX5_padsOn_3 : decode cX5_padsOn 3 = .ok (.istore_n 2, 1) := by decide +kernel
theorem dX5_padsOn_4 : decode cX5_padsOn 4 = .ok (.iload_n 2, 1) := by decide +kernel
theorem dX5_padsOn_5 : decode cX5_padsOn 5 = .ok (.iconst 4, 1) := by decide +kernel
theorem dX5_padsOn_6 : decode cX5_padsOn 6 = .ok (.if_icmp .ge 18, 3) := by decide +kernel
theorem dX5_padsOn_9 : decode cX5_padsOn 9 = .ok (.iload_n 1, 1) := by decide +kernel
theorem dX5_padsOn_10 : decode cX5_padsOn 10 = .ok (.aload_n 0, 1) := by decide +kernel
theorem dX5_padsOn_11 : decode cX5_padsOn 11 = .ok (.iload_n 2, 1) := by decide +kernel
theorem dX5_padsOn_12 : decode cX5_padsOn 12 = .ok (.iconst 0, 1) := by decide +kernel
theorem dX5_padsOn_13 : decode cX5_padsOn 13 = .ok (.invokevirtual 33, 3) := by decide +kernel
theorem dX5_padsOn_16 : decode cX5_padsOn 16 = .ok (.iadd, 1) := by decide +kernel
theorem dX5_padsOn_17 : decode cX5_padsOn 17 = .ok (.istore_n 1, 1) := by decide +kernel
theorem dX5_padsOn_18 : decode cX5_padsOn 18 = .ok (.iinc 2 1, 3) := by decide +kernel
theorem dX5_padsOn_21 : decode cX5_padsOn 21 = .ok (.goto (-17), 3) := by decide +kernel
theorem dX5_padsOn_24 : decode cX5_padsOn 24 = .ok (.iload_n 1, 1) := by decide +kernel
theorem dX5_padsOn_25 : decode cX5_padsOn 25 = .ok (.ireturn, 1) := by decide +kernel
set_option maxRecDepth 20000 in
theorem ggX5_pads_X5_isSilo : GoodIn wsX5_pads wsX5_isSilo := goodIn_r _ [6, 7, 8, 5, 9] (by decide +kernel) (by decide +kernel)
set_option maxRecDepth 20000 in
theorem gX5_pads_X5_isSilo : GoodIn wsX5_pads (va_wsS RX5 96 yX5_isSilo wsX5_isSilo) := goodIn_app (goodIn_of _ (by decide +kernel)) ggX5_pads_X5_isSilo
set_option maxRecDepth 20000 in
theorem ggX5_pads_X5_fails : GoodIn wsX5_pads wsX5_fails := goodIn_r _ [13, 1, 32, 33, 34, 35, 36, 37, 38, 39, 40, 41, 42, 43] (by decide +kernel) (by decide +kernel)
set_option maxRecDepth 20000 in
theorem gX5_pads_X5_fails : GoodIn wsX5_pads (wsV RX5 90 RX5 yX5_fails wsX5_fails) := goodIn_app (goodIn_of _ (by decide +kernel)) ggX5_pads_X5_fails
set_option maxRecDepth 20000 in
theorem ggX5_pads_X5_in : GoodIn wsX5_pads wsX5_in := goodIn_r _ [9] (by decide +kernel) (by decide +kernel)
set_option maxRecDepth 20000 in
theorem gX5_pads_X5_in : GoodIn wsX5_pads (va_wsS RX5 29 yX5_in wsX5_in) := goodIn_app (goodIn_of _ (by decide +kernel)) ggX5_pads_X5_in
set_option maxRecDepth 20000 in
theorem ggX5_pads_X5_of : GoodIn wsX5_pads wsX5_of := goodIn_r _ [17, 2, 32, 33, 34, 35, 36, 37, 38, 39, 40, 41, 42, 43] (by decide +kernel) (by decide +kernel)
set_option maxRecDepth 20000 in
theorem gX5_pads_X5_of : GoodIn wsX5_pads (wsV RX5 33 RX5 yX5_of wsX5_of) := goodIn_app (goodIn_of _ (by decide +kernel)) ggX5_pads_X5_of
set_option maxRecDepth 20000 in
theorem ggX5_pads_X5_padsOn : GoodIn wsX5_pads wsX5_padsOn := goodIn_r _ [21, 14, 15, 16, 5, 17, 2, 32, 33, 34, 35, 36, 37, 38, 39, 40, 41, 42, 43] (by decide +kernel) (by decide +kernel)
set_option maxRecDepth 20000 in
theorem gX5_pads_X5_padsOn : GoodIn wsX5_pads (wsV RX5 106 RX5 yX5_padsOn wsX5_padsOn) := goodIn_app (goodIn_of _ (by decide +kernel)) ggX5_pads_X5_padsOn
set_option maxRecDepth 20000 in
theorem ggX5_pads_X5_saves : GoodIn wsX5_pads wsX5_saves := goodIn_r _ [25, 26, 27, 2, 32, 33, 34, 35, 36, 37, 38, 39, 40, 41, 42, 43] (by decide +kernel) (by decide +kernel)
set_option maxRecDepth 20000 in
theorem gX5_pads_X5_saves : GoodIn wsX5_pads (wsV RX5 93 RX5 yX5_saves wsX5_saves) := goodIn_app (goodIn_of _ (by decide +kernel)) ggX5_pads_X5_saves
set_option maxRecDepth 20000 in
theorem ggX5_pads_X5_lay : GoodIn wsX5_pads wsX5_lay := goodIn_r _ [31, 2, 32, 33, 34, 35, 36, 37, 38, 39, 40, 41, 42, 43] (by decide +kernel) (by decide +kernel)
set_option maxRecDepth 20000 in
theorem gX5_pads_X5_lay : GoodIn wsX5_pads (wsV RX5 49 RX5 yX5_lay wsX5_lay) := goodIn_app (goodIn_of _ (by decide +kernel)) ggX5_pads_X5_lay
theorem dX5_pads_0 : decode cX5_pads 0 = .ok (.aload_n 0, 1) := by decide +kernel
theorem dX5_pads_1 : decode cX5_pads 1 = .ok (.iconst 0, 1) := by decide +kernel
theorem dX5_pads_2 : decode cX5_pads 2 = .ok (.putfield 25, 3) := by decide +kernel
theorem dX5_pads_5 : decode cX5_pads 5 = .ok (.iload_n 1, 1) := by decide +kernel
theorem dX5_pads_6 : decode cX5_pads 6 = .ok (.invokestatic 96, 3) := by decide +kernel
theorem dX5_pads_9 : decode cX5_pads 9 = .ok (.ifCond .ne 9, 3) := by decide +kernel
theorem dX5_pads_12 : decode cX5_pads 12 = .ok (.aload_n 0, 1) := by decide +kernel
theorem dX5_pads_13 : decode cX5_pads 13 = .ok (.iconst 1, 1) := by decide +kernel
theorem dX5_pads_14 : decode cX5_pads 14 = .ok (.invokevirtual 90, 3) := by decide +kernel
theorem dX5_pads_17 : decode cX5_pads 17 = .ok (.ireturn, 1) := by decide +kernel
theorem dX5_pads_18 : decode cX5_pads 18 = .ok (.iload_n 2, 1) := by decide +kernel
theorem dX5_pads_19 : decode cX5_pads 19 = .ok (.iconst 0, 1) := by decide +kernel
theorem dX5_pads_20 : decode cX5_pads 20 = .ok (.iconst 4, 1) := by decide +kernel
theorem dX5_pads_21 : decode cX5_pads 21 = .ok (.invokestatic 29, 3) := by decide +kernel
theorem dX5_pads_24 : decode cX5_pads 24 = .ok (.ifCond .ne 9, 3) := by decide +kernel
theorem dX5_pads_27 : decode cX5_pads 27 = .ok (.aload_n 0, 1) := by decide +kernel
theorem dX5_pads_28 : decode cX5_pads 28 = .ok (.iconst 2, 1) := by decide +kernel
theorem dX5_pads_29 : decode cX5_pads 29 = .ok (.invokevirtual 90, 3) := by decide +kernel
theorem dX5_pads_32 : decode cX5_pads 32 = .ok (.ireturn, 1) := by decide +kernel
theorem dX5_pads_33 : decode cX5_pads 33 = .ok (.aload_n 0, 1) := by decide +kernel
theorem dX5_pads_34 : decode cX5_pads 34 = .ok (.iload_n 1, 1) := by decide +kernel
theorem dX5_pads_35 : decode cX5_pads 35 = .ok (.iconst 0, 1) := by decide +kernel
theorem dX5_pads_36 : decode cX5_pads 36 = .ok (.invokevirtual 33, 3) := by decide +kernel
theorem dX5_pads_39 : decode cX5_pads 39 = .ok (.istore_n 3, 1) := by decide +kernel
theorem dX5_pads_40 : decode cX5_pads 40 = .ok (.aload_n 0, 1) := by decide +kernel
theorem dX5_pads_41 : decode cX5_pads 41 = .ok (.invokevirtual 106, 3) := by decide +kernel
theorem dX5_pads_44 : decode cX5_pads 44 = .ok (.iload_n 3, 1) := by decide +kernel
theorem dX5_pads_45 : decode cX5_pads 45 = .ok (.isub, 1) := by decide +kernel
theorem dX5_pads_46 : decode cX5_pads 46 = .ok (.iload_n 2, 1) := by decide +kernel
theorem dX5_pads_47 : decode cX5_pads 47 = .ok (.iadd, 1) := by decide +kernel
theorem dX5_pads_48 : decode cX5_pads 48 = .ok (.aload_n 0, 1) := by decide +kernel
theorem dX5_pads_49 : decode cX5_pads 49 = .ok (.getfield 7, 3) := by decide +kernel
theorem dX5_pads_52 : decode cX5_pads 52 = .ok (.bipush 6, 2) := by decide +kernel
theorem dX5_pads_54 : decode cX5_pads 54 = .ok (.iaload, 1) := by decide +kernel
theorem dX5_pads_55 : decode cX5_pads 55 = .ok (.if_icmp .le 9, 3) := by decide +kernel
theorem dX5_pads_58 : decode cX5_pads 58 = .ok (.aload_n 0, 1) := by decide +kernel
theorem dX5_pads_59 : decode cX5_pads 59 = .ok (.iconst 3, 1) := by decide +kernel
theorem dX5_pads_60 : decode cX5_pads 60 = .ok (.invokevirtual 90, 3) := by decide +kernel
theorem dX5_pads_63 : decode cX5_pads 63 = .ok (.ireturn, 1) := by decide +kernel
theorem dX5_pads_64 : decode cX5_pads 64 = .ok (.aload_n 0, 1) := by decide +kernel
theorem dX5_pads_65 : decode cX5_pads 65 = .ok (.invokevirtual 93, 3) := by decide +kernel
theorem dX5_pads_68 : decode cX5_pads 68 = .ok (.aload_n 0, 1) := by decide +kernel
theorem dX5_pads_69 : decode cX5_pads 69 = .ok (.iload_n 1, 1) := by decide +kernel
theorem dX5_pads_70 : decode cX5_pads 70 = .ok (.iconst 0, 1) := by decide +kernel
theorem dX5_pads_71 : decode cX5_pads 71 = .ok (.iload_n 2, 1) := by decide +kernel
theorem dX5_pads_72 : decode cX5_pads 72 = .ok (.invokevirtual 49, 3) := by decide +kernel
theorem dX5_pads_75 : decode cX5_pads 75 = .ok (.iload_n 3, 1) := by decide +kernel
theorem dX5_pads_76 : decode cX5_pads 76 = .ok (.ireturn, 1) := by decide +kernel
set_option maxRecDepth 20000 in
theorem ggX5_shake_X5_isSilo : GoodIn wsX5_shake wsX5_isSilo := goodIn_r _ [5, 6, 7, 4, 8] (by decide +kernel) (by decide +kernel)
set_option maxRecDepth 20000 in
theorem gX5_shake_X5_isSilo : GoodIn wsX5_shake (va_wsS RX5 96 yX5_isSilo wsX5_isSilo) := goodIn_app (goodIn_of _ (by decide +kernel)) ggX5_shake_X5_isSilo
set_option maxRecDepth 20000 in
theorem ggX5_shake_X5_fails : GoodIn wsX5_shake wsX5_fails := goodIn_r _ [12, 1, 48, 49, 50, 51, 52, 53, 54, 55, 56, 57, 58, 59] (by decide +kernel) (by decide +kernel)
set_option maxRecDepth 20000 in
theorem gX5_shake_X5_fails : GoodIn wsX5_shake (wsV RX5 90 RX5 yX5_fails wsX5_fails) := goodIn_app (goodIn_of _ (by decide +kernel)) ggX5_shake_X5_fails
set_option maxRecDepth 20000 in
theorem ggX5_shake_X5_of : GoodIn wsX5_shake wsX5_of := goodIn_r _ [16, 17, 48, 49, 50, 51, 52, 53, 54, 55, 56, 57, 58, 59] (by decide +kernel) (by decide +kernel)
set_option maxRecDepth 20000 in
theorem gX5_shake_X5_of : GoodIn wsX5_shake (wsV RX5 33 RX5 yX5_of wsX5_of) := goodIn_app (goodIn_of _ (by decide +kernel)) ggX5_shake_X5_of
set_option maxRecDepth 20000 in
theorem ggX5_shake_X5_saves : GoodIn wsX5_shake wsX5_saves := goodIn_r _ [21, 22, 23, 17, 48, 49, 50, 51, 52, 53, 54, 55, 56, 57, 58, 59] (by decide +kernel) (by decide +kernel)
set_option maxRecDepth 20000 in
theorem gX5_shake_X5_saves : GoodIn wsX5_shake (wsV RX5 93 RX5 yX5_saves wsX5_saves) := goodIn_app (goodIn_of _ (by decide +kernel)) ggX5_shake_X5_saves
set_option maxRecDepth 20000 in
theorem ggX5_shake_X5_shakes : GoodIn wsX5_shake wsX5_shakes := goodIn_r _ [27, 17, 13, 14, 15, 4, 16, 28, 29, 30, 31, 32, 33, 34, 35, 36, 37, 38, 39, 40, 41, 42, 43, 44, 45, 46, 47, 48, 49, 50, 51, 52, 53, 54, 55, 56, 57, 58, 59] (by decide +kernel) (by decide +kernel)
set_option maxRecDepth 20000 in
theorem gX5_shake_X5_shakes : GoodIn wsX5_shake (wsV RX5 109 RX5 yX5_shakes wsX5_shakes) := goodIn_app (goodIn_of _ (by decide +kernel)) ggX5_shake_X5_shakes
theorem dX5_shake_0 : decode cX5_shake 0 = .ok (.aload_n 0, 1) := by decide +kernel
theorem dX5_shake_1 : decode cX5_shake 1 = .ok (.iconst 0, 1) := by decide +kernel
theorem dX5_shake_2 : decode cX5_shake 2 = .ok (.putfield 25, 3) := by decide +kernel
theorem dX5_shake_5 : decode cX5_shake 5 = .ok (.iload_n 1, 1) := by decide +kernel
theorem dX5_shake_6 : decode cX5_shake 6 = .ok (.invokestatic 96, 3) := by decide +kernel
theorem dX5_shake_9 : decode cX5_shake 9 = .ok (.ifCond .ne 9, 3) := by decide +kernel
theorem dX5_shake_12 : decode cX5_shake 12 = .ok (.aload_n 0, 1) := by decide +kernel
theorem dX5_shake_13 : decode cX5_shake 13 = .ok (.iconst 1, 1) := by decide +kernel
theorem dX5_shake_14 : decode cX5_shake 14 = .ok (.invokevirtual 90, 3) := by decide +kernel
theorem dX5_shake_17 : decode cX5_shake 17 = .ok (.ireturn, 1) := by decide +kernel
theorem dX5_shake_18 : decode cX5_shake 18 = .ok (.aload_n 0, 1) := by decide +kernel
theorem dX5_shake_19 : decode cX5_shake 19 = .ok (.iload_n 1, 1) := by decide +kernel
theorem dX5_shake_20 : decode cX5_shake 20 = .ok (.iconst 3, 1) := by decide +kernel
theorem dX5_shake_21 : decode cX5_shake 21 = .ok (.invokevirtual 33, 3) := by decide +kernel
theorem dX5_shake_24 : decode cX5_shake 24 = .ok (.ifCond .ne 9, 3) := by decide +kernel
theorem dX5_shake_27 : decode cX5_shake 27 = .ok (.aload_n 0, 1) := by decide +kernel
theorem dX5_shake_28 : decode cX5_shake 28 = .ok (.iconst 2, 1) := by decide +kernel
theorem dX5_shake_29 : decode cX5_shake 29 = .ok (.invokevirtual 90, 3) := by decide +kernel
theorem dX5_shake_32 : decode cX5_shake 32 = .ok (.ireturn, 1) := by decide +kernel
theorem dX5_shake_33 : decode cX5_shake 33 = .ok (.aload_n 0, 1) := by decide +kernel
theorem dX5_shake_34 : decode cX5_shake 34 = .ok (.invokevirtual 93, 3) := by decide +kernel
theorem dX5_shake_37 : decode cX5_shake 37 = .ok (.aload_n 0, 1) := by decide +kernel
theorem dX5_shake_38 : decode cX5_shake 38 = .ok (.iload_n 1, 1) := by decide +kernel
theorem dX5_shake_39 : decode cX5_shake 39 = .ok (.invokevirtual 109, 3) := by decide +kernel
theorem dX5_shake_42 : decode cX5_shake 42 = .ok (.ireturn, 1) := by decide +kernel
set_option maxRecDepth 20000 in
theorem ggX5_pass_X5_in : GoodIn wsX5_pass wsX5_in := goodIn_r _ [5] (by decide +kernel) (by decide +kernel)
set_option maxRecDepth 20000 in
theorem gX5_pass_X5_in : GoodIn wsX5_pass (va_wsS RX5 29 yX5_in wsX5_in) := goodIn_app (goodIn_of _ (by decide +kernel)) ggX5_pass_X5_in
set_option maxRecDepth 20000 in
theorem ggX5_pass_X5_fails : GoodIn wsX5_pass wsX5_fails := goodIn_r _ [9, 1, 45, 46, 47, 48, 49, 50, 51, 52, 53, 54, 55, 56] (by decide +kernel) (by decide +kernel)
set_option maxRecDepth 20000 in
theorem gX5_pass_X5_fails : GoodIn wsX5_pass (wsV RX5 90 RX5 yX5_fails wsX5_fails) := goodIn_app (goodIn_of _ (by decide +kernel)) ggX5_pass_X5_fails
set_option maxRecDepth 20000 in
theorem ggX5_pass_X5_saves : GoodIn wsX5_pass wsX5_saves := goodIn_r _ [13, 14, 15, 16, 45, 46, 47, 48, 49, 50, 51, 52, 53, 54, 55, 56] (by decide +kernel) (by decide +kernel)
set_option maxRecDepth 20000 in
theorem gX5_pass_X5_saves : GoodIn wsX5_pass (wsV RX5 93 RX5 yX5_saves wsX5_saves) := goodIn_app (goodIn_of _ (by decide +kernel)) ggX5_pass_X5_saves
set_option maxRecDepth 20000 in
theorem ggX5_pass_X5_passes : GoodIn wsX5_pass wsX5_passes := goodIn_r _ [20, 21, 22, 23, 4, 24, 16, 25, 26, 27, 28, 29, 30, 31, 32, 33, 34, 35, 36, 37, 38, 39, 40, 41, 42, 43, 44, 45, 46, 47, 48, 49, 50, 51, 52, 53, 54, 55, 56] (by decide +kernel) (by decide +kernel)
set_option maxRecDepth 20000 in
theorem gX5_pass_X5_passes : GoodIn wsX5_pass (wsV RX5 112 RX5 yX5_passes wsX5_passes) := goodIn_app (goodIn_of _ (by decide +kernel)) ggX5_pass_X5_passes
theorem dX5_pass_0 : decode cX5_pass 0 = .ok (.aload_n 0, 1) := by decide +kernel
theorem dX5_pass_1 : decode cX5_pass 1 = .ok (.iconst 0, 1) := by decide +kernel
theorem dX5_pass_2 : decode cX5_pass 2 = .ok (.putfield 25, 3) := by decide +kernel
theorem dX5_pass_5 : decode cX5_pass 5 = .ok (.iload_n 1, 1) := by decide +kernel
theorem dX5_pass_6 : decode cX5_pass 6 = .ok (.iconst 1, 1) := by decide +kernel
theorem dX5_pass_7 : decode cX5_pass 7 = .ok (.bipush 30, 2) := by decide +kernel
theorem dX5_pass_9 : decode cX5_pass 9 = .ok (.invokestatic 29, 3) := by decide +kernel
theorem dX5_pass_12 : decode cX5_pass 12 = .ok (.ifCond .ne 9, 3) := by decide +kernel
theorem dX5_pass_15 : decode cX5_pass 15 = .ok (.aload_n 0, 1) := by decide +kernel
theorem dX5_pass_16 : decode cX5_pass 16 = .ok (.iconst 1, 1) := by decide +kernel
theorem dX5_pass_17 : decode cX5_pass 17 = .ok (.invokevirtual 90, 3) := by decide +kernel
theorem dX5_pass_20 : decode cX5_pass 20 = .ok (.ireturn, 1) := by decide +kernel
theorem dX5_pass_21 : decode cX5_pass 21 = .ok (.aload_n 0, 1) := by decide +kernel
theorem dX5_pass_22 : decode cX5_pass 22 = .ok (.invokevirtual 93, 3) := by decide +kernel
theorem dX5_pass_25 : decode cX5_pass 25 = .ok (.aload_n 0, 1) := by decide +kernel
theorem dX5_pass_26 : decode cX5_pass 26 = .ok (.iload_n 1, 1) := by decide +kernel
theorem dX5_pass_27 : decode cX5_pass 27 = .ok (.invokevirtual 112, 3) := by decide +kernel
theorem dX5_pass_30 : decode cX5_pass 30 = .ok (.ireturn, 1) := by decide +kernel
theorem dX5_leastOf_0 : decode cX5_leastOf 0 = .ok (.iload_n 0, 1) := by decide +kernel
theorem dX5_leastOf_1 : decode cX5_leastOf 1 = .ok (.iconst 1, 1) := by decide +kernel
theorem dX5_leastOf_2 : decode cX5_leastOf 2 = .ok (.if_icmp .ne 7, 3) := by decide +kernel
theorem dX5_leastOf_5 : decode cX5_leastOf 5 = .ok (.iconst 1, 1) := by decide +kernel
theorem dX5_leastOf_6 : decode cX5_leastOf 6 = .ok (.goto 13, 3) := by decide +kernel
theorem dX5_leastOf_9 : decode cX5_leastOf 9 = .ok (.iload_n 0, 1) := by decide +kernel
theorem dX5_leastOf_10 : decode cX5_leastOf 10 = .ok (.iconst 2, 1) := by decide +kernel
theorem dX5_leastOf_11 : decode cX5_leastOf 11 = .ok (.if_icmp .ne 7, 3) := by decide +kernel
theorem dX5_leastOf_14 : decode cX5_leastOf 14 = .ok (.iconst 5, 1) := by decide +kernel
theorem dX5_leastOf_15 : decode cX5_leastOf 15 = .ok (.goto 4, 3) := by decide +kernel
theorem dX5_leastOf_18 : decode cX5_leastOf 18 = .ok (.iconst 0, 1) := by decide +kernel
theorem dX5_leastOf_19 : decode cX5_leastOf 19 = .ok (.ireturn, 1) := by decide +kernel
theorem dX5_mostOf_0 : decode cX5_mostOf 0 = .ok (.iload_n 0, 1) := by decide +kernel
theorem dX5_mostOf_1 : decode cX5_mostOf 1 = .ok (.tableswitch 36 0 2 #[27, 30, 33], 27) := by decide +kernel
theorem dX5_mostOf_28 : decode cX5_mostOf 28 = .ok (.bipush 16, 2) := by decide +kernel
theorem dX5_mostOf_30 : decode cX5_mostOf 30 = .ok (.ireturn, 1) := by decide +kernel
theorem dX5_mostOf_31 : decode cX5_mostOf 31 = .ok (.bipush 20, 2) := by decide +kernel
theorem dX5_mostOf_33 : decode cX5_mostOf 33 = .ok (.ireturn, 1) := by decide +kernel
theorem dX5_mostOf_34 : decode cX5_mostOf 34 = .ok (.bipush 100, 2) := by decide +kernel
theorem dX5_mostOf_36 : decode cX5_mostOf 36 = .ok (.ireturn, 1) := by decide +kernel
theorem dX5_mostOf_37 : decode cX5_mostOf 37 = .ok (.sipush 900, 3) := by decide +kernel
theorem dX5_mostOf_40 : decode cX5_mostOf 40 = .ok (.ireturn, 1) := by decide +kernel
set_option maxRecDepth 20000 in
theorem ggX5_set_X5_in : GoodIn wsX5_set wsX5_in := goodIn_r _ [6] (by decide +kernel) (by decide +kernel)
set_option maxRecDepth 20000 in
theorem gX5_set_X5_in : GoodIn wsX5_set (va_wsS RX5 29 yX5_in wsX5_in) := goodIn_app (goodIn_of _ (by decide +kernel)) ggX5_set_X5_in
set_option maxRecDepth 20000 in
theorem ggX5_set_X5_fails : GoodIn wsX5_set wsX5_fails := goodIn_r _ [10, 1, 31, 32, 33, 34, 35, 36, 37, 38, 39, 40, 41, 42] (by decide +kernel) (by decide +kernel)
set_option maxRecDepth 20000 in
theorem gX5_set_X5_fails : GoodIn wsX5_set (wsV RX5 90 RX5 yX5_fails wsX5_fails) := goodIn_app (goodIn_of _ (by decide +kernel)) ggX5_set_X5_fails
set_option maxRecDepth 20000 in
theorem ggX5_set_X5_leastOf : GoodIn wsX5_set wsX5_leastOf := goodIn_r _ [13] (by decide +kernel) (by decide +kernel)
set_option maxRecDepth 20000 in
theorem gX5_set_X5_leastOf : GoodIn wsX5_set (va_wsS RX5 115 yX5_leastOf wsX5_leastOf) := goodIn_app (goodIn_of _ (by decide +kernel)) ggX5_set_X5_leastOf
set_option maxRecDepth 20000 in
theorem ggX5_set_X5_mostOf : GoodIn wsX5_set wsX5_mostOf := goodIn_r _ [16] (by decide +kernel) (by decide +kernel)
set_option maxRecDepth 20000 in
theorem gX5_set_X5_mostOf : GoodIn wsX5_set (va_wsS RX5 118 yX5_mostOf wsX5_mostOf) := goodIn_app (goodIn_of _ (by decide +kernel)) ggX5_set_X5_mostOf
set_option maxRecDepth 20000 in
theorem ggX5_set_X5_padsOn : GoodIn wsX5_set wsX5_padsOn := goodIn_r _ [20, 21, 22, 23, 5, 24, 2, 31, 32, 33, 34, 35, 36, 37, 38, 39, 40, 41, 42] (by decide +kernel) (by decide +kernel)
set_option maxRecDepth 20000 in
theorem gX5_set_X5_padsOn : GoodIn wsX5_set (wsV RX5 106 RX5 yX5_padsOn wsX5_padsOn) := goodIn_app (goodIn_of _ (by decide +kernel)) ggX5_set_X5_padsOn
set_option maxRecDepth 20000 in
theorem ggX5_set_X5_saves : GoodIn wsX5_set wsX5_saves := goodIn_r _ [28, 29, 30, 2, 31, 32, 33, 34, 35, 36, 37, 38, 39, 40, 41, 42] (by decide +kernel) (by decide +kernel)
set_option maxRecDepth 20000 in
theorem gX5_set_X5_saves : GoodIn wsX5_set (wsV RX5 93 RX5 yX5_saves wsX5_saves) := goodIn_app (goodIn_of _ (by decide +kernel)) ggX5_set_X5_saves
theorem dX5_set_0 : decode cX5_set 0 = .ok (.aload_n 0, 1) := by decide +kernel
theorem dX5_set_1 : decode cX5_set 1 = .ok (.iconst 0, 1) := by decide +kernel
theorem dX5_set_2 : decode cX5_set 2 = .ok (.putfield 25, 3) := by decide +kernel
theorem dX5_set_5 : decode cX5_set 5 = .ok (.iload_n 1, 1) := by decide +kernel
theorem dX5_set_6 : decode cX5_set 6 = .ok (.iconst 0, 1) := by decide +kernel
theorem dX5_set_7 : decode cX5_set 7 = .ok (.iconst 3, 1) := by decide +kernel
theorem dX5_set_8 : decode cX5_set 8 = .ok (.invokestatic 29, 3) := by decide +kernel
theorem dX5_set_11 : decode cX5_set 11 = .ok (.ifCond .ne 9, 3) := by decide +kernel
theorem dX5_set_14 : decode cX5_set 14 = .ok (.aload_n 0, 1) := by decide +kernel
theorem dX5_set_15 : decode cX5_set 15 = .ok (.iconst 1, 1) := by decide +kernel
theorem dX5_set_16 : decode cX5_set 16 = .ok (.invokevirtual 90, 3) := by decide +kernel
theorem dX5_set_19 : decode cX5_set 19 = .ok (.ireturn, 1) := by decide +kernel
theorem dX5_set_20 : decode cX5_set 20 = .ok (.iload_n 2, 1) := by decide +kernel
theorem dX5_set_21 : decode cX5_set 21 = .ok (.iload_n 1, 1) := by decide +kernel
theorem dX5_set_22 : decode cX5_set 22 = .ok (.invokestatic 115, 3) := by decide +kernel
theorem dX5_set_25 : decode cX5_set 25 = .ok (.iload_n 1, 1) := by decide +kernel
theorem dX5_set_26 : decode cX5_set 26 = .ok (.invokestatic 118, 3) := by decide +kernel
theorem dX5_set_29 : decode cX5_set 29 = .ok (.invokestatic 29, 3) := by decide +kernel
theorem dX5_set_32 : decode cX5_set 32 = .ok (.ifCond .ne 9, 3) := by decide +kernel
theorem dX5_set_35 : decode cX5_set 35 = .ok (.aload_n 0, 1) := by decide +kernel
theorem dX5_set_36 : decode cX5_set 36 = .ok (.iconst 2, 1) := by decide +kernel
theorem dX5_set_37 : decode cX5_set 37 = .ok (.invokevirtual 90, 3) := by decide +kernel
theorem dX5_set_40 : decode cX5_set 40 = .ok (.ireturn, 1) := by decide +kernel
theorem dX5_set_41 : decode cX5_set 41 = .ok (.iload_n 1, 1) := by decide +kernel
theorem dX5_set_42 : decode cX5_set 42 = .ok (.ifCond .ne 17, 3) := by decide +kernel
theorem dX5_set_45 : decode cX5_set 45 = .ok (.aload_n 0, 1) := by decide +kernel
theorem dX5_set_46 : decode cX5_set 46 = .ok (.invokevirtual 106, 3) := by decide +kernel
theorem dX5_set_49 : decode cX5_set 49 = .ok (.iload_n 2, 1) := by decide +kernel
theorem dX5_set_50 : decode cX5_set 50 = .ok (.if_icmp .le 9, 3) := by decide +kernel
theorem dX5_set_53 : decode cX5_set 53 = .ok (.aload_n 0, 1) := by decide +kernel
theorem dX5_set_54 : decode cX5_set 54 = .ok (.iconst 3, 1) := by decide +kernel
theorem dX5_set_55 : decode cX5_set 55 = .ok (.invokevirtual 90, 3) := by decide +kernel
theorem dX5_set_58 : decode cX5_set 58 = .ok (.ireturn, 1) := by decide +kernel
theorem dX5_set_59 : decode cX5_set 59 = .ok (.aload_n 0, 1) := by decide +kernel
theorem dX5_set_60 : decode cX5_set 60 = .ok (.invokevirtual 93, 3) := by decide +kernel
theorem dX5_set_63 : decode cX5_set 63 = .ok (.aload_n 0, 1) := by decide +kernel
theorem dX5_set_64 : decode cX5_set 64 = .ok (.getfield 7, 3) := by decide +kernel
theorem dX5_set_67 : decode cX5_set 67 = .ok (.bipush 6, 2) := by decide +kernel
theorem dX5_set_69 : decode cX5_set 69 = .ok (.iload_n 1, 1) := by decide +kernel
theorem dX5_set_70 : decode cX5_set 70 = .ok (.iadd, 1) := by decide +kernel
theorem dX5_set_71 : decode cX5_set 71 = .ok (.iaload, 1) := by decide +kernel
theorem dX5_set_72 : decode cX5_set 72 = .ok (.istore_n 3, 1) := by decide +kernel
theorem dX5_set_73 : decode cX5_set 73 = .ok (.aload_n 0, 1) := by decide +kernel
theorem dX5_set_74 : decode cX5_set 74 = .ok (.getfield 7, 3) := by decide +kernel
theorem dX5_set_77 : decode cX5_set 77 = .ok (.bipush 6, 2) := by decide +kernel
theorem dX5_set_79 : decode cX5_set 79 = .ok (.iload_n 1, 1) := by decide +kernel
theorem dX5_set_80 : decode cX5_set 80 = .ok (.iadd, 1) := by decide +kernel
theorem dX5_set_81 : decode cX5_set 81 = .ok (.iload_n 2, 1) := by decide +kernel
theorem dX5_set_82 : decode cX5_set 82 = .ok (.iastore, 1) := by decide +kernel
theorem dX5_set_83 : decode cX5_set 83 = .ok (.iload_n 3, 1) := by decide +kernel
theorem dX5_set_84 : decode cX5_set 84 = .ok (.ireturn, 1) := by decide +kernel
set_option maxRecDepth 20000 in
theorem ggX5_append_X5_in : GoodIn wsX5_append wsX5_in := goodIn_r _ [7] (by decide +kernel) (by decide +kernel)
set_option maxRecDepth 20000 in
theorem gX5_append_X5_in : GoodIn wsX5_append (va_wsS RX5 29 yX5_in wsX5_in) := goodIn_app (goodIn_of _ (by decide +kernel)) ggX5_append_X5_in
set_option maxRecDepth 20000 in
theorem ggX5_append_X5_fails : GoodIn wsX5_append wsX5_fails := goodIn_r _ [11, 1, 12, 13, 14, 15, 16, 17, 18, 19, 20, 21, 22, 23] (by decide +kernel) (by decide +kernel)
set_option maxRecDepth 20000 in
theorem gX5_append_X5_fails : GoodIn wsX5_append (wsV RX5 90 RX5 yX5_fails wsX5_fails) := goodIn_app (goodIn_of _ (by decide +kernel)) ggX5_append_X5_fails
theorem dX5_append_0 : decode cX5_append 0 = .ok (.aload_n 0, 1) := by decide +kernel
theorem dX5_append_1 : decode cX5_append 1 = .ok (.iconst 0, 1) := by decide +kernel
theorem dX5_append_2 : decode cX5_append 2 = .ok (.putfield 25, 3) := by decide +kernel
theorem dX5_append_5 : decode cX5_append 5 = .ok (.iload_n 1, 1) := by decide +kernel
theorem dX5_append_6 : decode cX5_append 6 = .ok (.bipush 33, 2) := by decide +kernel
theorem dX5_append_8 : decode cX5_append 8 = .ok (.bipush 126, 2) := by decide +kernel
theorem dX5_append_10 : decode cX5_append 10 = .ok (.invokestatic 29, 3) := by decide +kernel
theorem dX5_append_13 : decode cX5_append 13 = .ok (.ifCond .ne 9, 3) := by decide +kernel
theorem dX5_append_16 : decode cX5_append 16 = .ok (.aload_n 0, 1) := by decide +kernel
theorem dX5_append_17 : decode cX5_append 17 = .ok (.iconst 1, 1) := by decide +kernel
theorem dX5_append_18 : decode cX5_append 18 = .ok (.invokevirtual 90, 3) := by decide +kernel
theorem dX5_append_21 : decode cX5_append 21 = .ok (.ireturn, 1) := by decide +kernel
theorem dX5_append_22 : decode cX5_append 22 = .ok (.aload_n 0, 1) := by decide +kernel
theorem dX5_append_23 : decode cX5_append 23 = .ok (.getfield 121, 3) := by decide +kernel
theorem dX5_append_26 : decode cX5_append 26 = .ok (.bipush 60, 2) := by decide +kernel
theorem dX5_append_28 : decode cX5_append 28 = .ok (.if_icmp .ne 9, 3) := by decide +kernel
theorem dX5_append_31 : decode cX5_append 31 = .ok (.aload_n 0, 1) := by decide +kernel
theorem dX5_append_32 : decode cX5_append 32 = .ok (.iconst 2, 1) := by decide +kernel
theorem dX5_append_33 : decode cX5_append 33 = .ok (.invokevirtual 90, 3) := by decide +kernel
theorem dX5_append_36 : decode cX5_append 36 = .ok (.ireturn, 1) := by decide +kernel
theorem dX5_append_37 : decode cX5_append 37 = .ok (.aload_n 0, 1) := by decide +kernel
theorem dX5_append_38 : decode cX5_append 38 = .ok (.getfield 19, 3) := by decide +kernel
theorem dX5_append_41 : decode cX5_append 41 = .ok (.aload_n 0, 1) := by decide +kernel
theorem dX5_append_42 : decode cX5_append 42 = .ok (.getfield 121, 3) := by decide +kernel
theorem dX5_append_45 : decode cX5_append 45 = .ok (.iload_n 1, 1) := by decide +kernel
theorem dX5_append_46 : decode cX5_append 46 = .ok (.iastore, 1) := by decide +kernel
theorem dX5_append_47 : decode cX5_append 47 = .ok (.aload_n 0, 1) := by decide +kernel
theorem dX5_append_48 : decode cX5_append 48 = .ok (.dup, 1) := by decide +kernel
theorem dX5_append_49 : decode cX5_append 49 = .ok (.getfield 121, 3) := by decide +kernel
theorem dX5_append_52 : decode cX5_append 52 = .ok (.iconst 1, 1) := by decide +kernel
theorem dX5_append_53 : decode cX5_append 53 = .ok (.iadd, 1) := by decide +kernel
theorem dX5_append_54 : decode cX5_append 54 = .ok (.putfield 121, 3) := by decide +kernel
theorem dX5_append_57 : decode cX5_append 57 = .ok (.aload_n 0, 1) := by decide +kernel
theorem dX5_append_58 : decode cX5_append 58 = .ok (.getfield 121, 3) := by decide +kernel
theorem dX5_append_61 : decode cX5_append 61 = .ok (.ireturn, 1) := by decide +kernel
theorem dX5_clearBuffer_0 : decode cX5_clearBuffer 0 = .ok (.aload_n 0, 1) := by decide +kernel
theorem dX5_clearBuffer_1 : decode cX5_clearBuffer 1 = .ok (.iconst 0, 1) := by decide +kernel
theorem dX5_clearBuffer_2 : decode cX5_clearBuffer 2 = .ok (.putfield 25, 3) := by decide +kernel
theorem dX5_clearBuffer_5 : decode cX5_clearBuffer 5 = .ok (.aload_n 0, 1) := by decide +kernel
theorem dX5_clearBuffer_6 : decode cX5_clearBuffer 6 = .ok (.getfield 121, 3) := by decide +kernel
theorem dX5_clearBuffer_9 : decode cX5_clearBuffer 9 = .ok (.istore_n 1, 1) := by decide +kernel
theorem dX5_clearBuffer_10 : decode cX5_clearBuffer 10 = .ok (.aload_n 0, 1) := by decide +kernel
theorem dX5_clearBuffer_11 : decode cX5_clearBuffer 11 = .ok (.iconst 0, 1) := by decide +kernel
theorem dX5_clearBuffer_12 : decode cX5_clearBuffer 12 = .ok (.putfield 121, 3) := by decide +kernel
theorem dX5_clearBuffer_15 : decode cX5_clearBuffer 15 = .ok (.iload_n 1, 1) := by decide +kernel
theorem dX5_clearBuffer_16 : decode cX5_clearBuffer 16 = .ok (.ireturn, 1) := by decide +kernel
theorem dX5_sign_0 : decode cX5_sign 0 = .ok (.aload_n 0, 1) := by decide +kernel
theorem dX5_sign_1 : decode cX5_sign 1 = .ok (.getfield 124, 3) := by decide +kernel
theorem dX5_sign_4 : decode cX5_sign 4 = .ok (.aload_n 0, 1) := by decide +kernel
theorem dX5_sign_5 : decode cX5_sign 5 = .ok (.getfield 121, 3) := by decide +kernel
theorem dX5_sign_8 : decode cX5_sign 8 = .ok (.if_icmp .ge 15, 3) := by decide +kernel
theorem dX5_sign_11 : decode cX5_sign 11 = .ok (.aload_n 0, 1) := by decide +kernel
theorem dX5_sign_12 : decode cX5_sign 12 = .ok (.getfield 19, 3) := by decide +kernel
theorem dX5_sign_15 : decode cX5_sign 15 = .ok (.aload_n 0, 1) := by decide +kernel
theorem dX5_sign_16 : decode cX5_sign 16 = .ok (.getfield 124, 3) := by decide +kernel
theorem dX5_sign_19 : decode cX5_sign 19 = .ok (.iaload, 1) := by decide +kernel
theorem dX5_sign_20 : decode cX5_sign 20 = .ok (.goto 4, 3) := by decide +kernel
theorem dX5_sign_23 : decode cX5_sign 23 = .ok (.iconst 0, 1) := by decide +kernel
theorem dX5_sign_24 : decode cX5_sign 24 = .ok (.ireturn, 1) := by decide +kernel
set_option maxRecDepth 20000 in
theorem ggX5_takes_X5_sign : GoodIn wsX5_takes wsX5_sign := goodIn_r _ [7, 2, 8, 9, 13, 14, 15, 16, 17, 18, 19, 20, 21, 22, 23, 24] (by decide +kernel) (by decide +kernel)
set_option maxRecDepth 20000 in
theorem gX5_takes_X5_sign : GoodIn wsX5_takes (wsV RX5 131 RX5 yX5_sign wsX5_sign) := goodIn_app (goodIn_of _ (by decide +kernel)) ggX5_takes_X5_sign
set_option maxRecDepth 20000 in
theorem ggX5_takes_X5_in : GoodIn wsX5_takes wsX5_in := goodIn_r _ [12] (by decide +kernel) (by decide +kernel)
set_option maxRecDepth 20000 in
theorem gX5_takes_X5_in : GoodIn wsX5_takes (va_wsS RX5 29 yX5_in wsX5_in) := goodIn_app (goodIn_of _ (by decide +kernel)) ggX5_takes_X5_in
theorem dX5_takes_0 : decode cX5_takes 0 = .ok (.aload_n 0, 1) := by decide +kernel
theorem dX5_takes_1 : decode cX5_takes 1 = .ok (.aload_n 0, 1) := by decide +kernel
theorem dX5_takes_2 : decode cX5_takes 2 = .ok (.getfield 127, 3) := by decide +kernel
theorem dX5_takes_5 : decode cX5_takes 5 = .ok (.ifCond .eq 19, 3) := by decide +kernel
theorem dX5_takes_8 : decode cX5_takes 8 = .ok (.aload_n 0, 1) := by decide +kernel
theorem dX5_takes_9 : decode cX5_takes 9 = .ok (.invokevirtual 131, 3) := by decide +kernel
theorem dX5_takes_12 : decode cX5_takes 12 = .ok (.iload_n 1, 1) := by decide +kernel
theorem dX5_takes_13 : decode cX5_takes 13 = .ok (.iload_n 2, 1) := by decide +kernel
theorem dX5_takes_14 : decode cX5_takes 14 = .ok (.invokestatic 29, 3) := by decide +kernel
theorem dX5_takes_17 : decode cX5_takes 17 = .ok (.ifCond .eq 7, 3) := by decide +kernel
theorem dX5_takes_20 : decode cX5_takes 20 = .ok (.iconst 1, 1) := by decide +kernel
theorem dX5_takes_21 : decode cX5_takes 21 = .ok (.goto 4, 3) := by decide +kernel
theorem dX5_takes_24 : decode cX5_takes 24 = .ok (.iconst 0, 1) := by decide +kernel
theorem dX5_takes_25 : decode cX5_takes 25 = .ok (.putfield 127, 3) := by decide +kernel
theorem dX5_takes_28 : decode cX5_takes 28 = .ok (.aload_n 0, 1) := by decide +kernel
theorem dX5_takes_29 : decode cX5_takes 29 = .ok (.invokevirtual 131, 3) := by decide +kernel
theorem dX5_takes_32 : decode cX5_takes 32 = .ok (.istore_n 3, 1) := by decide +kernel
theorem dX5_takes_33 : decode cX5_takes 33 = .ok (.aload_n 0, 1) := by decide +kernel
theorem dX5_takes_34 : decode cX5_takes 34 = .ok (.dup, 1) := by decide +kernel
theorem dX5_takes_35 : decode cX5_takes 35 = .ok (.getfield 124, 3) := by decide +kernel
theorem dX5_takes_38 : decode cX5_takes 38 = .ok (.aload_n 0, 1) := by decide +kernel
theorem dX5_takes_39 : decode cX5_takes 39 = .ok (.getfield 127, 3) := by decide +kernel
theorem dX5_takes_42 : decode cX5_takes 42 = .ok (.ifCond .eq 7, 3) := by decide +kernel
theorem dX5_takes_45 : decode cX5_takes 45 = .ok (.iconst 1, 1) := by decide +kernel
theorem dX5_takes_46 : decode cX5_takes 46 = .ok (.goto 4, 3) := by decide +kernel
theorem dX5_takes_49 : decode cX5_takes 49 = .ok (.iconst 0, 1) := by decide +kernel
theorem dX5_takes_50 : decode cX5_takes 50 = .ok (.iadd, 1) := by decide +kernel
theorem dX5_takes_51 : decode cX5_takes 51 = .ok (.putfield 124, 3) := by decide +kernel
theorem dX5_takes_54 : decode cX5_takes 54 = .ok (.iload_n 3, 1) := by decide +kernel
theorem dX5_takes_55 : decode cX5_takes 55 = .ok (.ireturn, 1) := by decide +kernel
set_option maxRecDepth 20000 in
theorem ggX5_number_X5_takes : GoodIn wsX5_number wsX5_takes := goodIn_r _ [7, 1, 2, 8, 9, 10, 6, 11, 12, 13, 14, 15, 16, 17, 18, 19, 20, 21, 22, 23, 24, 25, 26, 27, 28] (by decide +kernel) (by decide +kernel)
set_option maxRecDepth 20000 in
theorem gX5_number_X5_takes : GoodIn wsX5_number (wsV RX5 134 RX5 yX5_takes wsX5_takes) := goodIn_app (goodIn_of _ (by decide +kernel)) ggX5_number_X5_takes
set_option maxRecDepth 20000 in
theorem ggX5_number_X5_sign : GoodIn wsX5_number wsX5_sign := goodIn_r _ [11, 2, 12, 13, 17, 18, 19, 20, 21, 22, 23, 24, 25, 26, 27, 28] (by decide +kernel) (by decide +kernel)
set_option maxRecDepth 20000 in
theorem gX5_number_X5_sign : GoodIn wsX5_number (wsV RX5 131 RX5 yX5_sign wsX5_sign) := goodIn_app (goodIn_of _ (by decide +kernel)) ggX5_number_X5_sign
set_option maxRecDepth 20000 in
theorem ggX5_number_X5_in : GoodIn wsX5_number wsX5_in := goodIn_r _ [16] (by decide +kernel) (by decide +kernel)
set_option maxRecDepth 20000 in
theorem gX5_number_X5_in : GoodIn wsX5_number (va_wsS RX5 29 yX5_in wsX5_in) := goodIn_app (goodIn_of _ (by decide +kernel)) ggX5_number_X5_in
theorem dX5_number_0 : decode cX5_number 0 = .ok (.aload_n 0, 1) := by decide +kernel
theorem dX5_number_1 : decode cX5_number 1 = .ok (.bipush 49, 2) := by decide +kernel
theorem dX5_number_3 : decode cX5_number 3 = .ok (.bipush 57, 2) := by decide +kernel
theorem dX5_number_5 : decode cX5_number 5 = .ok (.invokevirtual 134, 3) := by decide +kernel
theorem dX5_number_8 : decode cX5_number 8 = .ok (.bipush 48, 2) := by decide +kernel
theorem dX5_number_10 : decode cX5_number 10 = .ok (.isub, 1) := by decide +kernel
theorem dX5_number_11 : decode cX5_number 11 = .ok (.istore_n 2, 1) := by decide +kernel
theorem dX5_number_12 : decode cX5_number 12 = .ok (.aload_n 0, 1) := by decide +kernel
theorem dX5_number_13 : decode cX5_number 13 = .ok (.getfield 127, 3) := by decide +kernel
theorem dX5_number_16 : decode cX5_number 16 = .ok (.ifCond .eq 59, 3) := by decide +kernel
theorem dX5_number_19 : decode cX5_number 19 = .ok (.aload_n 0, 1) := by decide +kernel
theorem dX5_number_20 : decode cX5_number 20 = .ok (.invokevirtual 131, 3) := by decide +kernel
theorem dX5_number_23 : decode cX5_number 23 = .ok (.bipush 48, 2) := by decide +kernel
theorem dX5_number_25 : decode cX5_number 25 = .ok (.bipush 57, 2) := by decide +kernel
theorem dX5_number_27 : decode cX5_number 27 = .ok (.invokestatic 29, 3) := by decide +kernel
theorem dX5_number_30 : decode cX5_number 30 = .ok (.ifCond .eq 45, 3) := by decide +kernel
theorem dX5_number_33 : decode cX5_number 33 = .ok (.bipush 10, 2) := by decide +kernel
theorem dX5_number_35 : decode cX5_number 35 = .ok (.iload_n 2, 1) := by decide +kernel
theorem dX5_number_36 : decode cX5_number 36 = .ok (.imul, 1) := by decide +kernel
theorem dX5_number_37 : decode cX5_number 37 = .ok (.aload_n 0, 1) := by decide +kernel
theorem dX5_number_38 : decode cX5_number 38 = .ok (.invokevirtual 131, 3) := by decide +kernel
theorem dX5_number_41 : decode cX5_number 41 = .ok (.iadd, 1) := by decide +kernel
theorem dX5_number_42 : decode cX5_number 42 = .ok (.bipush 48, 2) := by decide +kernel
theorem dX5_number_44 : decode cX5_number 44 = .ok (.isub, 1) := by decide +kernel
theorem dX5_number_45 : decode cX5_number 45 = .ok (.iload_n 1, 1) := by decide +kernel
theorem dX5_number_46 : decode cX5_number 46 = .ok (.if_icmp .gt 29, 3) := by decide +kernel
theorem dX5_number_49 : decode cX5_number 49 = .ok (.bipush 10, 2) := by decide +kernel
theorem dX5_number_51 : decode cX5_number 51 = .ok (.iload_n 2, 1) := by decide +kernel
theorem dX5_number_52 : decode cX5_number 52 = .ok (.imul, 1) := by decide +kernel
theorem dX5_number_53 : decode cX5_number 53 = .ok (.aload_n 0, 1) := by decide +kernel
theorem dX5_number_54 : decode cX5_number 54 = .ok (.invokevirtual 131, 3) := by decide +kernel
theorem dX5_number_57 : decode cX5_number 57 = .ok (.iadd, 1) := by decide +kernel
theorem dX5_number_58 : decode cX5_number 58 = .ok (.bipush 48, 2) := by decide +kernel
theorem dX5_number_60 : decode cX5_number 60 = .ok (.isub, 1) := by decide +kernel
theorem dX5_number_61 : decode cX5_number 61 = .ok (.istore_n 2, 1) := by decide +kernel
theorem dX5_number_62 : decode cX5_number 62 = .ok (.aload_n 0, 1) := by decide +kernel
theorem dX5_number_63 : decode cX5_number 63 = .ok (.dup, 1) := by decide +kernel
theorem dX5_number_64 : decode cX5_number 64 = .ok (.getfield 124, 3) := by decide +kernel
theorem dX5_number_67 : decode cX5_number 67 = .ok (.iconst 1, 1) := by decide +kernel
theorem dX5_number_68 : decode cX5_number 68 = .ok (.iadd, 1) := by decide +kernel
theorem dX5_number_69 : decode cX5_number 69 = .ok (.putfield 124, 3) := by decide +kernel
theorem dX5_number_72 : decode cX5_number 72 = .ok (.goto (-60), 3) := by decide +kernel
theorem dX5_number_75 : decode cX5_number 75 = .ok (.iload_n 2, 1) := by decide +kernel
theorem dX5_number_76 : decode cX5_number 76 = .ok (.ireturn, 1) := by decide +kernel
set_option maxRecDepth 20000 in
theorem ggX5_readsPart_X5_sign : GoodIn wsX5_readsPart wsX5_sign := goodIn_r _ [8, 9, 10, 11, 23, 24, 25, 26, 27, 28, 29, 30, 31, 32, 33, 34] (by decide +kernel) (by decide +kernel)
set_option maxRecDepth 20000 in
theorem gX5_readsPart_X5_sign : GoodIn wsX5_readsPart (wsV RX5 131 RX5 yX5_sign wsX5_sign) := goodIn_app (goodIn_of _ (by decide +kernel)) ggX5_readsPart_X5_sign
set_option maxRecDepth 20000 in
theorem ggX5_readsPart_X5_takes : GoodIn wsX5_readsPart wsX5_takes := goodIn_r _ [15, 3, 9, 4, 5, 6, 7, 8, 10, 11, 16, 17, 18, 23, 24, 25, 26, 27, 28, 29, 30, 31, 32, 33, 34] (by decide +kernel) (by decide +kernel)
set_option maxRecDepth 20000 in
theorem gX5_readsPart_X5_takes : GoodIn wsX5_readsPart (wsV RX5 134 RX5 yX5_takes wsX5_takes) := goodIn_app (goodIn_of _ (by decide +kernel)) ggX5_readsPart_X5_takes
set_option maxRecDepth 20000 in
theorem ggX5_readsPart_X5_number : GoodIn wsX5_readsPart wsX5_number := goodIn_r _ [22, 3, 9, 12, 13, 14, 7, 15, 4, 5, 6, 8, 10, 11, 16, 17, 18, 23, 24, 25, 26, 27, 28, 29, 30, 31, 32, 33, 34] (by decide +kernel) (by decide +kernel)
set_option maxRecDepth 20000 in
theorem gX5_readsPart_X5_number : GoodIn wsX5_readsPart (wsV RX5 140 RX5 yX5_number wsX5_number) := goodIn_app (goodIn_of _ (by decide +kernel)) ggX5_readsPart_X5_number
theorem dX5_readsPart_0 : decode cX5_readsPart 0 = .ok (.iconst 4, 1) := by decide +kernel
theorem dX5_readsPart_1 : decode cX5_readsPart 1 = .ok (.aload_n 0, 1) := by decide +kernel
theorem dX5_readsPart_2 : decode cX5_readsPart 2 = .ok (.getfield 137, 3) := by decide +kernel
theorem dX5_readsPart_5 : decode cX5_readsPart 5 = .ok (.imul, 1) := by decide +kernel
theorem dX5_readsPart_6 : decode cX5_readsPart 6 = .ok (.istore_n 1, 1) := by decide +kernel
theorem dX5_readsPart_7 : decode cX5_readsPart 7 = .ok (.aload_n 0, 1) := by decide +kernel
theorem dX5_readsPart_8 : decode cX5_readsPart 8 = .ok (.invokevirtual 131, 3) := by decide +kernel
theorem dX5_readsPart_11 : decode cX5_readsPart 11 = .ok (.bipush 43, 2) := by decide +kernel
theorem dX5_readsPart_13 : decode cX5_readsPart 13 = .ok (.if_icmp .ne 52, 3) := by decide +kernel
theorem dX5_readsPart_16 : decode cX5_readsPart 16 = .ok (.aload_n 0, 1) := by decide +kernel
theorem dX5_readsPart_17 : decode cX5_readsPart 17 = .ok (.getfield 22, 3) := by decide +kernel
theorem dX5_readsPart_20 : decode cX5_readsPart 20 = .ok (.iload_n 1, 1) := by decide +kernel
theorem dX5_readsPart_21 : decode cX5_readsPart 21 = .ok (.aload_n 0, 1) := by decide +kernel
theorem dX5_readsPart_22 : decode cX5_readsPart 22 = .ok (.bipush 43, 2) := by decide +kernel
theorem dX5_readsPart_24 : decode cX5_readsPart 24 = .ok (.bipush 43, 2) := by decide +kernel
theorem dX5_readsPart_26 : decode cX5_readsPart 26 = .ok (.invokevirtual 134, 3) := by decide +kernel
theorem dX5_readsPart_29 : decode cX5_readsPart 29 = .ok (.iastore, 1) := by decide +kernel
theorem dX5_readsPart_30 : decode cX5_readsPart 30 = .ok (.aload_n 0, 1) := by decide +kernel
theorem dX5_readsPart_31 : decode cX5_readsPart 31 = .ok (.getfield 22, 3) := by decide +kernel
theorem dX5_readsPart_34 : decode cX5_readsPart 34 = .ok (.iload_n 1, 1) := by decide +kernel
theorem dX5_readsPart_35 : decode cX5_readsPart 35 = .ok (.iconst 1, 1) := by decide +kernel
theorem dX5_readsPart_36 : decode cX5_readsPart 36 = .ok (.iadd, 1) := by decide +kernel
theorem dX5_readsPart_37 : decode cX5_readsPart 37 = .ok (.aload_n 0, 1) := by decide +kernel
theorem dX5_readsPart_38 : decode cX5_readsPart 38 = .ok (.bipush 30, 2) := by decide +kernel
theorem dX5_readsPart_40 : decode cX5_readsPart 40 = .ok (.invokevirtual 140, 3) := by decide +kernel
theorem dX5_readsPart_43 : decode cX5_readsPart 43 = .ok (.iastore, 1) := by decide +kernel
theorem dX5_readsPart_44 : decode cX5_readsPart 44 = .ok (.aload_n 0, 1) := by decide +kernel
theorem dX5_readsPart_45 : decode cX5_readsPart 45 = .ok (.getfield 22, 3) := by decide +kernel
theorem dX5_readsPart_48 : decode cX5_readsPart 48 = .ok (.iload_n 1, 1) := by decide +kernel
theorem dX5_readsPart_49 : decode cX5_readsPart 49 = .ok (.iconst 2, 1) := by decide +kernel
theorem dX5_readsPart_50 : decode cX5_readsPart 50 = .ok (.iadd, 1) := by decide +kernel
theorem dX5_readsPart_51 : decode cX5_readsPart 51 = .ok (.iconst 0, 1) := by decide +kernel
theorem dX5_readsPart_52 : decode cX5_readsPart 52 = .ok (.iastore, 1) := by decide +kernel
theorem dX5_readsPart_53 : decode cX5_readsPart 53 = .ok (.aload_n 0, 1) := by decide +kernel
theorem dX5_readsPart_54 : decode cX5_readsPart 54 = .ok (.getfield 22, 3) := by decide +kernel
theorem dX5_readsPart_57 : decode cX5_readsPart 57 = .ok (.iload_n 1, 1) := by decide +kernel
theorem dX5_readsPart_58 : decode cX5_readsPart 58 = .ok (.iconst 3, 1) := by decide +kernel
theorem dX5_readsPart_59 : decode cX5_readsPart 59 = .ok (.iadd, 1) := by decide +kernel
theorem dX5_readsPart_60 : decode cX5_readsPart 60 = .ok (.iconst 0, 1) := by decide +kernel
theorem dX5_readsPart_61 : decode cX5_readsPart 61 = .ok (.iastore, 1) := by decide +kernel
theorem dX5_readsPart_62 : decode cX5_readsPart 62 = .ok (.goto 129, 3) := by decide +kernel
theorem dX5_readsPart_65 : decode cX5_readsPart 65 = .ok (.aload_n 0, 1) := by decide +kernel
theorem dX5_readsPart_66 : decode cX5_readsPart 66 = .ok (.getfield 22, 3) := by decide +kernel
theorem dX5_readsPart_69 : decode cX5_readsPart 69 = .ok (.iload_n 1, 1) := by decide +kernel
theorem dX5_readsPart_70 : decode cX5_readsPart 70 = .ok (.iconst 1, 1) := by decide +kernel
theorem dX5_readsPart_71 : decode cX5_readsPart 71 = .ok (.iadd, 1) := by decide +kernel
theorem dX5_readsPart_72 : decode cX5_readsPart 72 = .ok (.aload_n 0, 1) := by decide +kernel
theorem dX5_readsPart_73 : decode cX5_readsPart 73 = .ok (.bipush 48, 2) := by decide +kernel
theorem dX5_readsPart_75 : decode cX5_readsPart 75 = .ok (.bipush 51, 2) := by decide +kernel
theorem dX5_readsPart_77 : decode cX5_readsPart 77 = .ok (.invokevirtual 134, 3) := by decide +kernel
theorem dX5_readsPart_80 : decode cX5_readsPart 80 = .ok (.bipush 48, 2) := by decide +kernel
theorem dX5_readsPart_82 : decode cX5_readsPart 82 = .ok (.isub, 1) := by decide +kernel
theorem dX5_readsPart_83 : decode cX5_readsPart 83 = .ok (.iastore, 1) := by decide +kernel
theorem dX5_readsPart_84 : decode cX5_readsPart 84 = .ok (.aload_n 0, 1) := by decide +kernel
theorem dX5_readsPart_85 : decode cX5_readsPart 85 = .ok (.aload_n 0, 1) := by decide +kernel
theorem dX5_readsPart_86 : decode cX5_readsPart 86 = .ok (.getfield 127, 3) := by decide +kernel
theorem dX5_readsPart_89 : decode cX5_readsPart 89 = .ok (.ifCond .eq 25, 3) := by decide +kernel
theorem dX5_readsPart_92 : decode cX5_readsPart 92 = .ok (.aload_n 0, 1) := by decide +kernel
theorem dX5_readsPart_93 : decode cX5_readsPart 93 = .ok (.invokevirtual 131, 3) := by decide +kernel
theorem dX5_readsPart_96 : decode cX5_readsPart 96 = .ok (.bipush 60, 2) := by decide +kernel
theorem dX5_readsPart_98 : decode cX5_readsPart 98 = .ok (.if_icmp .eq 12, 3) := by decide +kernel
theorem dX5_readsPart_101 : decode cX5_readsPart 101 = .ok (.aload_n 0, 1) := by decide +kernel
theorem dX5_readsPart_102 : decode cX5_readsPart 102 = .ok (.invokevirtual 131, 3) := by decide +kernel
theorem dX5_readsPart_105 : decode cX5_readsPart 105 = .ok (.bipush 62, 2) := by decide +kernel
theorem dX5_readsPart_107 : decode cX5_readsPart 107 = .ok (.if_icmp .ne 7, 3) := by decide +kernel
theorem dX5_readsPart_110 : decode cX5_readsPart 110 = .ok (.iconst 1, 1) := by decide +kernel
theorem dX5_readsPart_111 : decode cX5_readsPart 111 = .ok (.goto 4, 3) := by decide +kernel
theorem dX5_readsPart_114 : decode cX5_readsPart 114 = .ok (.iconst 0, 1) := by decide +kernel
theorem dX5_readsPart_115 : decode cX5_readsPart 115 = .ok (.putfield 127, 3) := by decide +kernel
theorem dX5_readsPart_118 : decode cX5_readsPart 118 = .ok (.aload_n 0, 1) := by decide +kernel
theorem dX5_readsPart_119 : decode cX5_readsPart 119 = .ok (.getfield 22, 3) := by decide +kernel
theorem dX5_readsPart_122 : decode cX5_readsPart 122 = .ok (.iload_n 1, 1) := by decide +kernel
theorem dX5_readsPart_123 : decode cX5_readsPart 123 = .ok (.aload_n 0, 1) := by decide +kernel
theorem dX5_readsPart_124 : decode cX5_readsPart 124 = .ok (.bipush 60, 2) := by decide +kernel
theorem dX5_readsPart_126 : decode cX5_readsPart 126 = .ok (.bipush 62, 2) := by decide +kernel
theorem dX5_readsPart_128 : decode cX5_readsPart 128 = .ok (.invokevirtual 134, 3) := by decide +kernel
theorem dX5_readsPart_131 : decode cX5_readsPart 131 = .ok (.iastore, 1) := by decide +kernel
theorem dX5_readsPart_132 : decode cX5_readsPart 132 = .ok (.aload_n 0, 1) := by decide +kernel
theorem dX5_readsPart_133 : decode cX5_readsPart 133 = .ok (.getfield 22, 3) := by decide +kernel
theorem dX5_readsPart_136 : decode cX5_readsPart 136 = .ok (.iload_n 1, 1) := by decide +kernel
theorem dX5_readsPart_137 : decode cX5_readsPart 137 = .ok (.iconst 2, 1) := by decide +kernel
theorem dX5_readsPart_138 : decode cX5_readsPart 138 = .ok (.iadd, 1) := by decide +kernel
theorem dX5_readsPart_139 : decode cX5_readsPart 139 = .ok (.aload_n 0, 1) := by decide +kernel
theorem dX5_readsPart_140 : decode cX5_readsPart 140 = .ok (.bipush 48, 2) := by decide +kernel
theorem dX5_readsPart_142 : decode cX5_readsPart 142 = .ok (.bipush 53, 2) := by decide +kernel
theorem dX5_readsPart_144 : decode cX5_readsPart 144 = .ok (.invokevirtual 134, 3) := by decide +kernel
theorem dX5_readsPart_147 : decode cX5_readsPart 147 = .ok (.bipush 48, 2) := by decide +kernel
theorem dX5_readsPart_149 : decode cX5_readsPart 149 = .ok (.isub, 1) := by decide +kernel
theorem dX5_readsPart_150 : decode cX5_readsPart 150 = .ok (.iastore, 1) := by decide +kernel
theorem dX5_readsPart_151 : decode cX5_readsPart 151 = .ok (.aload_n 0, 1) := by decide +kernel
theorem dX5_readsPart_152 : decode cX5_readsPart 152 = .ok (.bipush 58, 2) := by decide +kernel
theorem dX5_readsPart_154 : decode cX5_readsPart 154 = .ok (.bipush 58, 2) := by decide +kernel
theorem dX5_readsPart_156 : decode cX5_readsPart 156 = .ok (.invokevirtual 134, 3) := by decide +kernel
theorem dX5_readsPart_159 : decode cX5_readsPart 159 = .ok (.pop, 1) := by decide +kernel
theorem dX5_readsPart_160 : decode cX5_readsPart 160 = .ok (.aload_n 0, 1) := by decide +kernel
theorem dX5_readsPart_161 : decode cX5_readsPart 161 = .ok (.getfield 22, 3) := by decide +kernel
theorem dX5_readsPart_164 : decode cX5_readsPart 164 = .ok (.iload_n 1, 1) := by decide +kernel
theorem dX5_readsPart_165 : decode cX5_readsPart 165 = .ok (.iconst 3, 1) := by decide +kernel
theorem dX5_readsPart_166 : decode cX5_readsPart 166 = .ok (.iadd, 1) := by decide +kernel
theorem dX5_readsPart_167 : decode cX5_readsPart 167 = .ok (.aload_n 0, 1) := by decide +kernel
theorem dX5_readsPart_168 : decode cX5_readsPart 168 = .ok (.aload_n 0, 1) := by decide +kernel
theorem dX5_readsPart_169 : decode cX5_readsPart 169 = .ok (.getfield 22, 3) := by decide +kernel
theorem dX5_readsPart_172 : decode cX5_readsPart 172 = .ok (.iload_n 1, 1) := by decide +kernel
theorem dX5_readsPart_173 : decode cX5_readsPart 173 = .ok (.iaload, 1) := by decide +kernel
theorem dX5_readsPart_174 : decode cX5_readsPart 174 = .ok (.bipush 60, 2) := by decide +kernel
theorem dX5_readsPart_176 : decode cX5_readsPart 176 = .ok (.if_icmp .ne 9, 3) := by decide +kernel
theorem dX5_readsPart_179 : decode cX5_readsPart 179 = .ok (.sipush 500, 3) := by decide +kernel
theorem dX5_readsPart_182 : decode cX5_readsPart 182 = .ok (.goto 5, 3) := by decide +kernel
theorem dX5_readsPart_185 : decode cX5_readsPart 185 = .ok (.bipush 24, 2) := by decide +kernel
theorem dX5_readsPart_187 : decode cX5_readsPart 187 = .ok (.invokevirtual 140, 3) := by decide +kernel
theorem dX5_readsPart_190 : decode cX5_readsPart 190 = .ok (.iastore, 1) := by decide +kernel
theorem dX5_readsPart_191 : decode cX5_readsPart 191 = .ok (.aload_n 0, 1) := by decide +kernel
theorem dX5_readsPart_192 : decode cX5_readsPart 192 = .ok (.dup, 1) := by decide +kernel
theorem dX5_readsPart_193 : decode cX5_readsPart 193 = .ok (.getfield 137, 3) := by decide +kernel
theorem dX5_readsPart_196 : decode cX5_readsPart 196 = .ok (.aload_n 0, 1) := by decide +kernel
theorem dX5_readsPart_197 : decode cX5_readsPart 197 = .ok (.getfield 127, 3) := by decide +kernel
theorem dX5_readsPart_200 : decode cX5_readsPart 200 = .ok (.ifCond .eq 7, 3) := by decide +kernel
theorem dX5_readsPart_203 : decode cX5_readsPart 203 = .ok (.iconst 1, 1) := by decide +kernel
theorem dX5_readsPart_204 : decode cX5_readsPart 204 = .ok (.goto 4, 3) := by decide +kernel
theorem dX5_readsPart_207 : decode cX5_readsPart 207 = .ok (.iconst 0, 1) := by decide +kernel
theorem dX5_readsPart_208 : decode cX5_readsPart 208 = .ok (.iadd, 1) := by decide +kernel
theorem dX5_readsPart_209 : decode cX5_readsPart 209 = .ok (.putfield 137, 3) := by decide +kernel
theorem dX5_readsPart_212 : decode cX5_readsPart 212 = .ok (.return_, 1) := by decide +kernel
set_option maxRecDepth 20000 in
theorem ggX5_readsAll_X5_readsPart : GoodIn wsX5_readsAll wsX5_readsPart := goodIn_r _ [9, 3, 10, 2, 11, 12, 13, 8, 14, 1, 4, 15, 16, 17, 18, 19, 20, 21, 22, 23, 24, 25, 26, 27, 28, 29, 30, 31, 32, 33, 34, 35, 36, 37, 38] (by decide +kernel) (by decide +kernel)
set_option maxRecDepth 20000 in
theorem gX5_readsAll_X5_readsPart : GoodIn wsX5_readsAll (wsV RX5 143 RX5 yX5_readsPart wsX5_readsPart) := goodIn_app (goodIn_of _ (by decide +kernel)) ggX5_readsAll_X5_readsPart
set_option maxRecDepth 20000 in
theorem ggX5_readsAll_X5_takes : GoodIn wsX5_readsAll wsX5_takes := goodIn_r _ [19, 2, 1, 11, 12, 13, 8, 14, 4, 15, 20, 21, 22, 27, 28, 29, 30, 31, 32, 33, 34, 35, 36, 37, 38] (by decide +kernel) (by decide +kernel)
set_option maxRecDepth 20000 in
theorem gX5_readsAll_X5_takes : GoodIn wsX5_readsAll (wsV RX5 134 RX5 yX5_takes wsX5_takes) := goodIn_app (goodIn_of _ (by decide +kernel)) ggX5_readsAll_X5_takes
theorem dX5_readsAll_0 : decode cX5_readsAll 0 = .ok (.aload_n 0, 1) := by decide +kernel
theorem dX5_readsAll_1 : decode cX5_readsAll 1 = .ok (.iconst 0, 1) := by decide +kernel
theorem dX5_readsAll_2 : decode cX5_readsAll 2 = .ok (.putfield 124, 3) := by decide +kernel
theorem dX5_readsAll_5 : decode cX5_readsAll 5 = .ok (.aload_n 0, 1) := by decide +kernel
theorem dX5_readsAll_6 : decode cX5_readsAll 6 = .ok (.iconst 1, 1) := by decide +kernel
theorem dX5_readsAll_7 : decode cX5_readsAll 7 = .ok (.putfield 127, 3) := by decide +kernel
theorem dX5_readsAll_10 : decode cX5_readsAll 10 = .ok (.aload_n 0, 1) := by decide +kernel
theorem dX5_readsAll_11 : decode cX5_readsAll 11 = .ok (.iconst 0, 1) := by decide +kernel
theorem dX5_readsAll_12 : decode cX5_readsAll 12 = .ok (.putfield 137, 3) := by decide +kernel
theorem dX5_readsAll_15 : decode cX5_readsAll 15 = .ok (.aload_n 0, 1) := by decide +kernel
theorem dX5_readsAll_16 : decode cX5_readsAll 16 = .ok (.invokevirtual 143, 3) := by decide +kernel
theorem dX5_readsAll_19 : decode cX5_readsAll 19 = .ok (.aload_n 0, 1) := by decide +kernel
theorem dX5_readsAll_20 : decode cX5_readsAll 20 = .ok (.getfield 127, 3) := by decide +kernel
theorem dX5_readsAll_23 : decode cX5_readsAll 23 = .ok (.ifCond .eq 37, 3) := by decide +kernel
theorem dX5_readsAll_26 : decode cX5_readsAll 26 = .ok (.aload_n 0, 1) := by decide +kernel
theorem dX5_readsAll_27 : decode cX5_readsAll 27 = .ok (.getfield 124, 3) := by decide +kernel
theorem dX5_readsAll_30 : decode cX5_readsAll 30 = .ok (.aload_n 0, 1) := by decide +kernel
theorem dX5_readsAll_31 : decode cX5_readsAll 31 = .ok (.getfield 121, 3) := by decide +kernel
theorem dX5_readsAll_34 : decode cX5_readsAll 34 = .ok (.if_icmp .ge 26, 3) := by decide +kernel
theorem dX5_readsAll_37 : decode cX5_readsAll 37 = .ok (.aload_n 0, 1) := by decide +kernel
theorem dX5_readsAll_38 : decode cX5_readsAll 38 = .ok (.bipush 59, 2) := by decide +kernel
theorem dX5_readsAll_40 : decode cX5_readsAll 40 = .ok (.bipush 59, 2) := by decide +kernel
theorem dX5_readsAll_42 : decode cX5_readsAll 42 = .ok (.invokevirtual 134, 3) := by decide +kernel
theorem dX5_readsAll_45 : decode cX5_readsAll 45 = .ok (.pop, 1) := by decide +kernel
theorem dX5_readsAll_46 : decode cX5_readsAll 46 = .ok (.aload_n 0, 1) := by decide +kernel
theorem dX5_readsAll_47 : decode cX5_readsAll 47 = .ok (.getfield 127, 3) := by decide +kernel
theorem dX5_readsAll_50 : decode cX5_readsAll 50 = .ok (.ifCond .eq (-31), 3) := by decide +kernel
theorem dX5_readsAll_53 : decode cX5_readsAll 53 = .ok (.aload_n 0, 1) := by decide +kernel
theorem dX5_readsAll_54 : decode cX5_readsAll 54 = .ok (.invokevirtual 143, 3) := by decide +kernel
theorem dX5_readsAll_57 : decode cX5_readsAll 57 = .ok (.goto (-38), 3) := by decide +kernel
theorem dX5_readsAll_60 : decode cX5_readsAll 60 = .ok (.return_, 1) := by decide +kernel
set_option maxRecDepth 20000 in
theorem ggX5_firstError_X5_readsAll : GoodIn wsX5_firstError wsX5_readsAll := goodIn_r _ [7, 2, 8, 9, 10, 11, 12, 13, 6, 14, 15, 16, 17, 18, 19, 20, 21, 22, 23, 24, 25, 26, 27, 28, 29, 30, 31, 32, 33, 34, 35, 36, 37, 38, 39, 40, 41, 42, 43] (by decide +kernel) (by decide +kernel)
set_option maxRecDepth 20000 in
theorem gX5_firstError_X5_readsAll : GoodIn wsX5_firstError (wsV RX5 146 RX5 yX5_readsAll wsX5_readsAll) := goodIn_app (goodIn_of _ (by decide +kernel)) ggX5_firstError_X5_readsAll
theorem dX5_firstError_0 : decode cX5_firstError 0 = .ok (.aload_n 0, 1) := by decide +kernel
theorem dX5_firstError_1 : decode cX5_firstError 1 = .ok (.iconst 0, 1) := by decide +kernel
theorem dX5_firstError_2 : decode cX5_firstError 2 = .ok (.putfield 25, 3) := by decide +kernel
theorem dX5_firstError_5 : decode cX5_firstError 5 = .ok (.aload_n 0, 1) := by decide +kernel
theorem dX5_firstError_6 : decode cX5_firstError 6 = .ok (.invokevirtual 146, 3) := by decide +kernel
theorem dX5_firstError_9 : decode cX5_firstError 9 = .ok (.aload_n 0, 1) := by decide +kernel
theorem dX5_firstError_10 : decode cX5_firstError 10 = .ok (.getfield 124, 3) := by decide +kernel
theorem dX5_firstError_13 : decode cX5_firstError 13 = .ok (.ireturn, 1) := by decide +kernel
set_option maxRecDepth 20000 in
theorem ggX5_plays_X5_unloads : GoodIn wsX5_plays wsX5_unloads := goodIn_r _ [6, 7, 8, 9, 5, 10, 11, 12, 13, 14, 15, 16, 17, 18, 19, 20, 21, 22, 23, 24, 25, 26, 27, 28, 29, 30, 31, 32, 33, 34, 71, 72, 73, 74, 75, 76, 77, 78, 79, 80, 81, 82] (by decide +kernel) (by decide +kernel)
set_option maxRecDepth 20000 in
theorem gX5_plays_X5_unloads : GoodIn wsX5_plays (wsV RX5 99 RX5 yX5_unloads wsX5_unloads) := goodIn_app (goodIn_of _ (by decide +kernel)) ggX5_plays_X5_unloads
set_option maxRecDepth 20000 in
theorem ggX5_plays_X5_flowsAll : GoodIn wsX5_plays wsX5_flowsAll := goodIn_r _ [38, 39, 40, 41, 5, 42, 7, 19, 20, 21, 22, 43, 44, 45, 46, 47, 48, 49, 50, 27, 28, 29, 30, 23, 24, 25, 26, 8, 9, 10, 51, 52, 53, 54, 31, 32, 33, 34, 55, 56, 57, 58, 71, 72, 73, 74, 75, 76, 77, 78, 79, 80, 81, 82] (by decide +kernel) (by decide +kernel)
set_option maxRecDepth 20000 in
theorem gX5_plays_X5_flowsAll : GoodIn wsX5_plays (wsV RX5 103 RX5 yX5_flowsAll wsX5_flowsAll) := goodIn_app (goodIn_of _ (by decide +kernel)) ggX5_plays_X5_flowsAll
set_option maxRecDepth 20000 in
theorem ggX5_plays_X5_passes : GoodIn wsX5_plays wsX5_passes := goodIn_r _ [62, 63, 64, 65, 5, 66, 7, 19, 20, 21, 22, 27, 28, 29, 30, 31, 32, 33, 34, 67, 68, 69, 70, 47, 48, 49, 50, 71, 72, 73, 74, 75, 76, 77, 78, 79, 80, 81, 82] (by decide +kernel) (by decide +kernel)
set_option maxRecDepth 20000 in
theorem gX5_plays_X5_passes : GoodIn wsX5_plays (wsV RX5 112 RX5 yX5_passes wsX5_passes) := goodIn_app (goodIn_of _ (by decide +kernel)) ggX5_plays_X5_passes
theorem dX5_plays_0 : decode cX5_plays 0 = .ok (.aload_n 0, 1) := by decide +kernel
theorem dX5_plays_1 : decode cX5_plays 1 = .ok (.getfield 22, 3) := by decide +kernel
theorem dX5_plays_4 : decode cX5_plays 4 = .ok (.iload_n 1, 1) := by decide +kernel
theorem dX5_plays_5 : decode cX5_plays 5 = .ok (.iaload, 1) := by decide +kernel
theorem dX5_plays_6 : decode cX5_plays 6 = .ok (.lookupswitch 84 #[(60, 26), (62, 55)], 26) := by decide +kernel
theorem dX5_plays_32 : decode cX5_plays 32 = .ok (.aload_n 0, 1) := by decide +kernel
theorem dX5_plays_33 : decode cX5_plays 33 = .ok (.aload_n 0, 1) := by decide +kernel
theorem dX5_plays_34 : decode cX5_plays 34 = .ok (.getfield 22, 3) := by decide +kernel
theorem dX5_plays_37 : decode cX5_plays 37 = .ok (.iload_n 1, 1) := by decide +kernel
theorem dX5_plays_38 : decode cX5_plays 38 = .ok (.iconst 1, 1) := by decide +kernel
theorem dX5_plays_39 : decode cX5_plays 39 = .ok (.iadd, 1) := by decide +kernel
theorem dX5_plays_40 : decode cX5_plays 40 = .ok (.iaload, 1) := by decide +kernel
theorem dX5_plays_41 : decode cX5_plays 41 = .ok (.aload_n 0, 1) := by decide +kernel
theorem dX5_plays_42 : decode cX5_plays 42 = .ok (.getfield 22, 3) := by decide +kernel
theorem dX5_plays_45 : decode cX5_plays 45 = .ok (.iload_n 1, 1) := by decide +kernel
theorem dX5_plays_46 : decode cX5_plays 46 = .ok (.iconst 2, 1) := by decide +kernel
theorem dX5_plays_47 : decode cX5_plays 47 = .ok (.iadd, 1) := by decide +kernel
theorem dX5_plays_48 : decode cX5_plays 48 = .ok (.iaload, 1) := by decide +kernel
theorem dX5_plays_49 : decode cX5_plays 49 = .ok (.aload_n 0, 1) := by decide +kernel
theorem dX5_plays_50 : decode cX5_plays 50 = .ok (.getfield 22, 3) := by decide +kernel
theorem dX5_plays_53 : decode cX5_plays 53 = .ok (.iload_n 1, 1) := by decide +kernel
theorem dX5_plays_54 : decode cX5_plays 54 = .ok (.iconst 3, 1) := by decide +kernel
theorem dX5_plays_55 : decode cX5_plays 55 = .ok (.iadd, 1) := by decide +kernel
theorem dX5_plays_56 : decode cX5_plays 56 = .ok (.iaload, 1) := by decide +kernel
theorem dX5_plays_57 : decode cX5_plays 57 = .ok (.invokevirtual 99, 3) := by decide +kernel
theorem dX5_plays_60 : decode cX5_plays 60 = .ok (.ireturn, 1) := by decide +kernel
theorem dX5_plays_61 : decode cX5_plays 61 = .ok (.aload_n 0, 1) := by decide +kernel
theorem dX5_plays_62 : decode cX5_plays 62 = .ok (.aload_n 0, 1) := by decide +kernel
theorem dX5_plays_63 : decode cX5_plays 63 = .ok (.getfield 22, 3) := by decide +kernel
theorem dX5_plays_66 : decode cX5_plays 66 = .ok (.iload_n 1, 1) := by decide +kernel
theorem dX5_plays_67 : decode cX5_plays 67 = .ok (.iconst 1, 1) := by decide +kernel
theorem dX5_plays_68 : decode cX5_plays 68 = .ok (.iadd, 1) := by decide +kernel
theorem dX5_plays_69 : decode cX5_plays 69 = .ok (.iaload, 1) := by decide +kernel
theorem dX5_plays_70 : decode cX5_plays 70 = .ok (.aload_n 0, 1) := by decide +kernel
theorem dX5_plays_71 : decode cX5_plays 71 = .ok (.getfield 22, 3) := by decide +kernel
theorem dX5_plays_74 : decode cX5_plays 74 = .ok (.iload_n 1, 1) := by decide +kernel
theorem dX5_plays_75 : decode cX5_plays 75 = .ok (.iconst 2, 1) := by decide +kernel
theorem dX5_plays_76 : decode cX5_plays 76 = .ok (.iadd, 1) := by decide +kernel
theorem dX5_plays_77 : decode cX5_plays 77 = .ok (.iaload, 1) := by decide +kernel
theorem dX5_plays_78 : decode cX5_plays 78 = .ok (.aload_n 0, 1) := by decide +kernel
theorem dX5_plays_79 : decode cX5_plays 79 = .ok (.getfield 22, 3) := by decide +kernel
theorem dX5_plays_82 : decode cX5_plays 82 = .ok (.iload_n 1, 1) := by decide +kernel
theorem dX5_plays_83 : decode cX5_plays 83 = .ok (.iconst 3, 1) := by decide +kernel
theorem dX5_plays_84 : decode cX5_plays 84 = .ok (.iadd, 1) := by decide +kernel
theorem dX5_plays_85 : decode cX5_plays 85 = .ok (.iaload, 1) := by decide +kernel
theorem dX5_plays_86 : decode cX5_plays 86 = .ok (.invokevirtual 103, 3) := by decide +kernel
theorem dX5_plays_89 : decode cX5_plays 89 = .ok (.ireturn, 1) := by decide +kernel
theorem dX5_plays_90 : decode cX5_plays 90 = .ok (.aload_n 0, 1) := by decide +kernel
theorem dX5_plays_91 : decode cX5_plays 91 = .ok (.aload_n 0, 1) := by decide +kernel
theorem dX5_plays_92 : decode cX5_plays 92 = .ok (.getfield 22, 3) := by decide +kernel
theorem dX5_plays_95 : decode cX5_plays 95 = .ok (.iload_n 1, 1) := by decide +kernel
theorem dX5_plays_96 : decode cX5_plays 96 = .ok (.iconst 1, 1) := by decide +kernel
theorem dX5_plays_97 : decode cX5_plays 97 = .ok (.iadd, 1) := by decide +kernel
theorem dX5_plays_98 : decode cX5_plays 98 = .ok (.iaload, 1) := by decide +kernel
theorem dX5_plays_99 : decode cX5_plays 99 = .ok (.invokevirtual 112, 3) := by decide +kernel
theorem dX5_plays_102 : decode cX5_plays 102 = .ok (.pop, 1) := by decide +kernel
theorem dX5_plays_103 : decode cX5_plays 103 = .ok (.iconst 0, 1) := by decide +kernel
theorem dX5_plays_104 : decode cX5_plays 104 = .ok (.ireturn, 1) := by decide +kernel
set_option maxRecDepth 20000 in
theorem ggX5_play_X5_readsAll : GoodIn wsX5_play wsX5_readsAll := goodIn_r _ [9, 10, 2, 4, 3, 11, 12, 13, 8, 14, 15, 16, 17, 18, 19, 20, 21, 22, 23, 24, 25, 26, 27, 28, 29, 30, 31, 114, 115, 116, 117, 118, 119, 120, 121, 122, 123, 124, 125] (by decide +kernel) (by decide +kernel)
set_option maxRecDepth 20000 in
theorem gX5_play_X5_readsAll : GoodIn wsX5_play (wsV RX5 146 RX5 yX5_readsAll wsX5_readsAll) := goodIn_app (goodIn_of _ (by decide +kernel)) ggX5_play_X5_readsAll
set_option maxRecDepth 20000 in
theorem ggX5_play_X5_fails : GoodIn wsX5_play wsX5_fails := goodIn_r _ [35, 1, 114, 115, 116, 117, 118, 119, 120, 121, 122, 123, 124, 125] (by decide +kernel) (by decide +kernel)
set_option maxRecDepth 20000 in
theorem gX5_play_X5_fails : GoodIn wsX5_play (wsV RX5 90 RX5 yX5_fails wsX5_fails) := goodIn_app (goodIn_of _ (by decide +kernel)) ggX5_play_X5_fails
set_option maxRecDepth 20000 in
theorem ggX5_play_X5_saves : GoodIn wsX5_play wsX5_saves := goodIn_r _ [39, 40, 41, 42, 114, 115, 116, 117, 118, 119, 120, 121, 122, 123, 124, 125] (by decide +kernel) (by decide +kernel)
set_option maxRecDepth 20000 in
theorem gX5_play_X5_saves : GoodIn wsX5_play (wsV RX5 93 RX5 yX5_saves wsX5_saves) := goodIn_app (goodIn_of _ (by decide +kernel)) ggX5_play_X5_saves
set_option maxRecDepth 20000 in
theorem ggX5_play_X5_plays : GoodIn wsX5_play wsX5_plays := goodIn_r _ [46, 15, 47, 48, 49, 8, 50, 42, 51, 52, 53, 54, 55, 56, 57, 58, 59, 60, 61, 62, 63, 64, 65, 66, 67, 68, 69, 70, 71, 72, 73, 74, 75, 76, 77, 78, 79, 80, 81, 82, 83, 84, 85, 86, 87, 88, 89, 90, 91, 92, 93, 94, 95, 96, 97, 98, 99, 100, 101, 102, 103, 104, 105, 106, 107, 108, 109, 110, 111, 112, 113, 114, 115, 116, 117, 118, 119, 120, 121, 122, 123, 124, 125] (by decide +kernel) (by decide +kernel)
set_option maxRecDepth 20000 in
theorem gX5_play_X5_plays : GoodIn wsX5_play (wsV RX5 149 RX5 yX5_plays wsX5_plays) := goodIn_app (goodIn_of _ (by decide +kernel)) ggX5_play_X5_plays
theorem dX5_play_0 : decode cX5_play 0 = .ok (.aload_n 0, 1) := by decide +kernel
theorem dX5_play_1 : decode cX5_play 1 = .ok (.iconst 0, 1) := by decide +kernel
theorem dX5_play_2 : decode cX5_play 2 = .ok (.putfield 25, 3) := by decide +kernel
theorem dX5_play_5 : decode cX5_play 5 = .ok (.aload_n 0, 1) := by decide +kernel
theorem dX5_play_6 : decode cX5_play 6 = .ok (.invokevirtual 146, 3) := by decide +kernel
theorem dX5_play_9 : decode cX5_play 9 = .ok (.aload_n 0, 1) := by decide +kernel
theorem dX5_play_10 : decode cX5_play 10 = .ok (.getfield 127, 3) := by decide +kernel
theorem dX5_play_13 : decode cX5_play 13 = .ok (.ifCond .ne 9, 3) := by decide +kernel
theorem dX5_play_16 : decode cX5_play 16 = .ok (.aload_n 0, 1) := by decide +kernel
theorem dX5_play_17 : decode cX5_play 17 = .ok (.iconst 1, 1) := by decide +kernel
theorem dX5_play_18 : decode cX5_play 18 = .ok (.invokevirtual 90, 3) := by decide +kernel
theorem dX5_play_21 : decode cX5_play 21 = .ok (.ireturn, 1) := by decide +kernel
theorem dX5_play_22 : decode cX5_play 22 = .ok (.aload_n 0, 1) := by decide +kernel
theorem dX5_play_23 : decode cX5_play 23 = .ok (.invokevirtual 93, 3) := by decide +kernel
theorem dX5_play_26 : decode cX5_play 26 = .ok (.aload_n 0, 1) := by decide +kernel
theorem dX5_play_27 : decode cX5_play 27 = .ok (.iconst 0, 1) := by decide +kernel
theorem dX5_play_28 : decode cX5_play 28 = .ok (.putfield 121, 3) := by decide +kernel
theorem dX5_play_31 : decode cX5_play 31 = .ok (.iconst 0, 1) := by decide +kernel
theorem dX5_play_32 : decode cX5_play 32 = .ok (.istore_n 1, 1) := by decide +kernel
theorem dX5_play_33 : decode cX5_play 33 = .ok (.iconst 0, 1) := by decide +kernel
theorem dX5_play_34 : decode cX5_play 34 = .ok (.istore_n 2, 1) := by decide +kernel
theorem dX5_play_35 : decode cX5_play 35 = .ok (.iload_n 2, 1) := by decide +kernel
theorem dX5_play_36 : decode cX5_play 36 = .ok (.aload_n 0, 1) := by decide +kernel
theorem dX5_play_37 : decode cX5_play 37 = .ok (.getfield 137, 3) := by decide +kernel
theorem dX5_play_40 : decode cX5_play 40 = .ok (.if_icmp .ge 19, 3) := by decide +kernel
theorem dX5_play_43 : decode cX5_play 43 = .ok (.iload_n 1, 1) := by decide +kernel
theorem dX5_play_44 : decode cX5_play 44 = .ok (.aload_n 0, 1) := by decide +kernel
theorem dX5_play_45 : decode cX5_play 45 = .ok (.iconst 4, 1) := by decide +kernel
theorem dX5_play_46 : decode cX5_play 46 = .ok (.iload_n 2, 1) := by decide +kernel
theorem dX5_play_47 : decode cX5_play 47 = .ok (.imul, 1) := by decide +kernel
theorem dX5_play_48 : decode cX5_play 48 = .ok (.invokevirtual 149, 3) := by decide +kernel
theorem dX5_play_51 : decode cX5_play 51 = .ok (.iadd, 1) := by decide +kernel
theorem dX5_play_52 : decode cX5_play 52 = .ok (.istore_n 1, 1) := by decide +kernel
theorem dX5_play_53 : decode cX5_play 53 = .ok (.iinc 2 1, 3) := by decide +kernel
theorem dX5_play_56 : decode cX5_play 56 = .ok (.goto (-21), 3) := by decide +kernel
theorem dX5_play_59 : decode cX5_play 59 = .ok (.iload_n 1, 1) := by decide +kernel
theorem dX5_play_60 : decode cX5_play 60 = .ok (.ireturn, 1) := by decide +kernel
set_option maxRecDepth 20000 in
theorem ggX5_undo_X5_fails : GoodIn wsX5_undo wsX5_fails := goodIn_r _ [9, 1, 10, 11, 12, 13, 14, 15, 16, 17, 18, 19, 20, 21] (by decide +kernel) (by decide +kernel)
set_option maxRecDepth 20000 in
theorem gX5_undo_X5_fails : GoodIn wsX5_undo (wsV RX5 90 RX5 yX5_fails wsX5_fails) := goodIn_app (goodIn_of _ (by decide +kernel)) ggX5_undo_X5_fails
theorem dX5_undo_0 : decode cX5_undo 0 = .ok (.aload_n 0, 1) := by decide +kernel
theorem dX5_undo_1 : decode cX5_undo 1 = .ok (.iconst 0, 1) := by decide +kernel
theorem dX5_undo_2 : decode cX5_undo 2 = .ok (.putfield 25, 3) := by decide +kernel
theorem dX5_undo_5 : decode cX5_undo 5 = .ok (.aload_n 0, 1) := by decide +kernel
theorem dX5_undo_6 : decode cX5_undo 6 = .ok (.getfield 37, 3) := by decide +kernel
theorem dX5_undo_9 : decode cX5_undo 9 = .ok (.ifCond .ne 9, 3) := by decide +kernel
theorem dX5_undo_12 : decode cX5_undo 12 = .ok (.aload_n 0, 1) := by decide +kernel
theorem dX5_undo_13 : decode cX5_undo 13 = .ok (.iconst 1, 1) := by decide +kernel
theorem dX5_undo_14 : decode cX5_undo 14 = .ok (.invokevirtual 90, 3) := by decide +kernel
theorem dX5_undo_17 : decode cX5_undo 17 = .ok (.ireturn, 1) := by decide +kernel
theorem dX5_undo_18 : decode cX5_undo 18 = .ok (.aload_n 0, 1) := by decide +kernel
theorem dX5_undo_19 : decode cX5_undo 19 = .ok (.dup, 1) := by decide +kernel
theorem dX5_undo_20 : decode cX5_undo 20 = .ok (.getfield 37, 3) := by decide +kernel
theorem dX5_undo_23 : decode cX5_undo 23 = .ok (.iconst 1, 1) := by decide +kernel
theorem dX5_undo_24 : decode cX5_undo 24 = .ok (.isub, 1) := by decide +kernel
theorem dX5_undo_25 : decode cX5_undo 25 = .ok (.putfield 37, 3) := by decide +kernel
theorem dX5_undo_28 : decode cX5_undo 28 = .ok (.iconst 0, 1) := by decide +kernel
theorem dX5_undo_29 : decode cX5_undo 29 = .ok (.istore_n 1, 1) := by decide +kernel
theorem dX5_undo_30 : decode cX5_undo 30 = .ok (.iload_n 1, 1) := by decide +kernel
theorem dX5_undo_31 : decode cX5_undo 31 = .ok (.bipush 118, 2) := by decide +kernel
theorem dX5_undo_33 : decode cX5_undo 33 = .ok (.if_icmp .ge 29, 3) := by decide +kernel
theorem dX5_undo_36 : decode cX5_undo 36 = .ok (.aload_n 0, 1) := by decide +kernel
theorem dX5_undo_37 : decode cX5_undo 37 = .ok (.getfield 7, 3) := by decide +kernel
theorem dX5_undo_40 : decode cX5_undo 40 = .ok (.iload_n 1, 1) := by decide +kernel
theorem dX5_undo_41 : decode cX5_undo 41 = .ok (.aload_n 0, 1) := by decide +kernel
theorem dX5_undo_42 : decode cX5_undo 42 = .ok (.getfield 16, 3) := by decide +kernel
theorem dX5_undo_45 : decode cX5_undo 45 = .ok (.bipush 118, 2) := by decide +kernel
theorem dX5_undo_47 : decode cX5_undo 47 = .ok (.aload_n 0, 1) := by decide +kernel
theorem dX5_undo_48 : decode cX5_undo 48 = .ok (.getfield 37, 3) := by decide +kernel
theorem dX5_undo_51 : decode cX5_undo 51 = .ok (.imul, 1) := by decide +kernel
theorem dX5_undo_52 : decode cX5_undo 52 = .ok (.iload_n 1, 1) := by decide +kernel
theorem dX5_undo_53 : decode cX5_undo 53 = .ok (.iadd, 1) := by decide +kernel
theorem dX5_undo_54 : decode cX5_undo 54 = .ok (.iaload, 1) := by decide +kernel
theorem dX5_undo_55 : decode cX5_undo 55 = .ok (.iastore, 1) := by decide +kernel
theorem dX5_undo_56 : decode cX5_undo 56 = .ok (.iinc 1 1, 3) := by decide +kernel
theorem dX5_undo_59 : decode cX5_undo 59 = .ok (.goto (-29), 3) := by decide +kernel
theorem dX5_undo_62 : decode cX5_undo 62 = .ok (.aload_n 0, 1) := by decide +kernel
theorem dX5_undo_63 : decode cX5_undo 63 = .ok (.getfield 37, 3) := by decide +kernel
theorem dX5_undo_66 : decode cX5_undo 66 = .ok (.ireturn, 1) := by decide +kernel
set_option maxRecDepth 20000 in
theorem ggX5_tellsSilo_X5_sumFrom : GoodIn wsX5_tellsSilo wsX5_sumFrom := goodIn_r _ [5, 6, 7, 8, 4, 9, 10, 11, 12, 13, 14, 27, 28, 29, 30, 31, 32, 33, 34, 35, 36, 37, 38] (by decide +kernel) (by decide +kernel)
set_option maxRecDepth 20000 in
theorem gX5_tellsSilo_X5_sumFrom : GoodIn wsX5_tellsSilo (wsV RX5 70 RX5 yX5_sumFrom wsX5_sumFrom) := goodIn_app (goodIn_of _ (by decide +kernel)) ggX5_tellsSilo_X5_sumFrom
set_option maxRecDepth 20000 in
theorem ggX5_tellsSilo_X5_of : GoodIn wsX5_tellsSilo wsX5_of := goodIn_r _ [9, 10, 27, 28, 29, 30, 31, 32, 33, 34, 35, 36, 37, 38] (by decide +kernel) (by decide +kernel)
set_option maxRecDepth 20000 in
theorem gX5_tellsSilo_X5_of : GoodIn wsX5_tellsSilo (wsV RX5 33 RX5 yX5_of wsX5_of) := goodIn_app (goodIn_of _ (by decide +kernel)) ggX5_tellsSilo_X5_of
set_option maxRecDepth 20000 in
theorem ggX5_tellsSilo_X5_flows : GoodIn wsX5_tellsSilo wsX5_flows := goodIn_r _ [18, 6, 7, 8, 4, 9, 10, 19, 20, 21, 22, 23, 24, 25, 26, 27, 28, 29, 30, 31, 32, 33, 34, 35, 36, 37, 38] (by decide +kernel) (by decide +kernel)
set_option maxRecDepth 20000 in
theorem gX5_tellsSilo_X5_flows : GoodIn wsX5_tellsSilo (wsV RX5 53 RX5 yX5_flows wsX5_flows) := goodIn_app (goodIn_of _ (by decide +kernel)) ggX5_tellsSilo_X5_flows
theorem dX5_tellsSilo_0 : decode cX5_tellsSilo 0 = .ok (.iload_n 2, 1) := by decide +kernel
theorem dX5_tellsSilo_1 : decode cX5_tellsSilo 1 = .ok (.tableswitch 78 0 4 #[35, 42, 49, 56, 71], 35) := by decide +kernel
theorem dX5_tellsSilo_36 : decode cX5_tellsSilo 36 = .ok (.aload_n 0, 1) := by decide +kernel
theorem dX5_tellsSilo_37 : decode cX5_tellsSilo 37 = .ok (.iload_n 1, 1) := by decide +kernel
theorem dX5_tellsSilo_38 : decode cX5_tellsSilo 38 = .ok (.iconst 0, 1) := by decide +kernel
theorem dX5_tellsSilo_39 : decode cX5_tellsSilo 39 = .ok (.invokevirtual 70, 3) := by decide +kernel
theorem dX5_tellsSilo_42 : decode cX5_tellsSilo 42 = .ok (.ireturn, 1) := by decide +kernel
theorem dX5_tellsSilo_43 : decode cX5_tellsSilo 43 = .ok (.aload_n 0, 1) := by decide +kernel
theorem dX5_tellsSilo_44 : decode cX5_tellsSilo 44 = .ok (.iload_n 1, 1) := by decide +kernel
theorem dX5_tellsSilo_45 : decode cX5_tellsSilo 45 = .ok (.iconst 3, 1) := by decide +kernel
theorem dX5_tellsSilo_46 : decode cX5_tellsSilo 46 = .ok (.invokevirtual 33, 3) := by decide +kernel
theorem dX5_tellsSilo_49 : decode cX5_tellsSilo 49 = .ok (.ireturn, 1) := by decide +kernel
theorem dX5_tellsSilo_50 : decode cX5_tellsSilo 50 = .ok (.aload_n 0, 1) := by decide +kernel
theorem dX5_tellsSilo_51 : decode cX5_tellsSilo 51 = .ok (.iload_n 1, 1) := by decide +kernel
theorem dX5_tellsSilo_52 : decode cX5_tellsSilo 52 = .ok (.iconst 0, 1) := by decide +kernel
theorem dX5_tellsSilo_53 : decode cX5_tellsSilo 53 = .ok (.invokevirtual 33, 3) := by decide +kernel
theorem dX5_tellsSilo_56 : decode cX5_tellsSilo 56 = .ok (.ireturn, 1) := by decide +kernel
theorem dX5_tellsSilo_57 : decode cX5_tellsSilo 57 = .ok (.aload_n 0, 1) := by decide +kernel
theorem dX5_tellsSilo_58 : decode cX5_tellsSilo 58 = .ok (.iload_n 1, 1) := by decide +kernel
theorem dX5_tellsSilo_59 : decode cX5_tellsSilo 59 = .ok (.iconst 1, 1) := by decide +kernel
theorem dX5_tellsSilo_60 : decode cX5_tellsSilo 60 = .ok (.invokevirtual 33, 3) := by decide +kernel
theorem dX5_tellsSilo_63 : decode cX5_tellsSilo 63 = .ok (.ifCond .le 7, 3) := by decide +kernel
theorem dX5_tellsSilo_66 : decode cX5_tellsSilo 66 = .ok (.iconst 1, 1) := by decide +kernel
theorem dX5_tellsSilo_67 : decode cX5_tellsSilo 67 = .ok (.goto 4, 3) := by decide +kernel
theorem dX5_tellsSilo_70 : decode cX5_tellsSilo 70 = .ok (.iconst 0, 1) := by decide +kernel
theorem dX5_tellsSilo_71 : decode cX5_tellsSilo 71 = .ok (.ireturn, 1) := by decide +kernel
theorem dX5_tellsSilo_72 : decode cX5_tellsSilo 72 = .ok (.aload_n 0, 1) := by decide +kernel
theorem dX5_tellsSilo_73 : decode cX5_tellsSilo 73 = .ok (.iload_n 1, 1) := by decide +kernel
theorem dX5_tellsSilo_74 : decode cX5_tellsSilo 74 = .ok (.iconst 2, 1) := by decide +kernel
theorem dX5_tellsSilo_75 : decode cX5_tellsSilo 75 = .ok (.invokevirtual 33, 3) := by decide +kernel
theorem dX5_tellsSilo_78 : decode cX5_tellsSilo 78 = .ok (.ireturn, 1) := by decide +kernel
theorem dX5_tellsSilo_79 : decode cX5_tellsSilo 79 = .ok (.aload_n 0, 1) := by decide +kernel
theorem dX5_tellsSilo_80 : decode cX5_tellsSilo 80 = .ok (.iload_n 1, 1) := by decide +kernel
theorem dX5_tellsSilo_81 : decode cX5_tellsSilo 81 = .ok (.invokevirtual 53, 3) := by decide +kernel
theorem dX5_tellsSilo_84 : decode cX5_tellsSilo 84 = .ok (.ireturn, 1) := by decide +kernel
set_option maxRecDepth 20000 in
theorem ggX5_silo_X5_isSilo : GoodIn wsX5_silo wsX5_isSilo := goodIn_r _ [5, 6, 7, 4, 8] (by decide +kernel) (by decide +kernel)
set_option maxRecDepth 20000 in
theorem gX5_silo_X5_isSilo : GoodIn wsX5_silo (va_wsS RX5 96 yX5_isSilo wsX5_isSilo) := goodIn_app (goodIn_of _ (by decide +kernel)) ggX5_silo_X5_isSilo
set_option maxRecDepth 20000 in
theorem ggX5_silo_X5_fails : GoodIn wsX5_silo wsX5_fails := goodIn_r _ [12, 1, 42, 43, 44, 45, 46, 47, 48, 49, 50, 51, 52, 53] (by decide +kernel) (by decide +kernel)
set_option maxRecDepth 20000 in
theorem gX5_silo_X5_fails : GoodIn wsX5_silo (wsV RX5 90 RX5 yX5_fails wsX5_fails) := goodIn_app (goodIn_of _ (by decide +kernel)) ggX5_silo_X5_fails
set_option maxRecDepth 20000 in
theorem ggX5_silo_X5_in : GoodIn wsX5_silo wsX5_in := goodIn_r _ [8] (by decide +kernel) (by decide +kernel)
set_option maxRecDepth 20000 in
theorem gX5_silo_X5_in : GoodIn wsX5_silo (va_wsS RX5 29 yX5_in wsX5_in) := goodIn_app (goodIn_of _ (by decide +kernel)) ggX5_silo_X5_in
set_option maxRecDepth 20000 in
theorem ggX5_silo_X5_tellsSilo : GoodIn wsX5_silo wsX5_tellsSilo := goodIn_r _ [16, 17, 18, 19, 4, 20, 21, 22, 23, 24, 25, 26, 27, 28, 29, 30, 31, 32, 33, 34, 35, 36, 37, 38, 39, 40, 41, 42, 43, 44, 45, 46, 47, 48, 49, 50, 51, 52, 53] (by decide +kernel) (by decide +kernel)
set_option maxRecDepth 20000 in
theorem gX5_silo_X5_tellsSilo : GoodIn wsX5_silo (wsV RX5 152 RX5 yX5_tellsSilo wsX5_tellsSilo) := goodIn_app (goodIn_of _ (by decide +kernel)) ggX5_silo_X5_tellsSilo
theorem dX5_silo_0 : decode cX5_silo 0 = .ok (.aload_n 0, 1) := by decide +kernel
theorem dX5_silo_1 : decode cX5_silo 1 = .ok (.iconst 0, 1) := by decide +kernel
theorem dX5_silo_2 : decode cX5_silo 2 = .ok (.putfield 25, 3) := by decide +kernel
theorem dX5_silo_5 : decode cX5_silo 5 = .ok (.iload_n 1, 1) := by decide +kernel
theorem dX5_silo_6 : decode cX5_silo 6 = .ok (.invokestatic 96, 3) := by decide +kernel
theorem dX5_silo_9 : decode cX5_silo 9 = .ok (.ifCond .ne 9, 3) := by decide +kernel
theorem dX5_silo_12 : decode cX5_silo 12 = .ok (.aload_n 0, 1) := by decide +kernel
theorem dX5_silo_13 : decode cX5_silo 13 = .ok (.iconst 1, 1) := by decide +kernel
theorem dX5_silo_14 : decode cX5_silo 14 = .ok (.invokevirtual 90, 3) := by decide +kernel
theorem dX5_silo_17 : decode cX5_silo 17 = .ok (.ireturn, 1) := by decide +kernel
theorem dX5_silo_18 : decode cX5_silo 18 = .ok (.iload_n 2, 1) := by decide +kernel
theorem dX5_silo_19 : decode cX5_silo 19 = .ok (.iconst 0, 1) := by decide +kernel
theorem dX5_silo_20 : decode cX5_silo 20 = .ok (.iconst 5, 1) := by decide +kernel
theorem dX5_silo_21 : decode cX5_silo 21 = .ok (.invokestatic 29, 3) := by decide +kernel
theorem dX5_silo_24 : decode cX5_silo 24 = .ok (.ifCond .eq 12, 3) := by decide +kernel
theorem dX5_silo_27 : decode cX5_silo 27 = .ok (.aload_n 0, 1) := by decide +kernel
theorem dX5_silo_28 : decode cX5_silo 28 = .ok (.iload_n 1, 1) := by decide +kernel
theorem dX5_silo_29 : decode cX5_silo 29 = .ok (.iload_n 2, 1) := by decide +kernel
theorem dX5_silo_30 : decode cX5_silo 30 = .ok (.invokevirtual 152, 3) := by decide +kernel
theorem dX5_silo_33 : decode cX5_silo 33 = .ok (.goto 8, 3) := by decide +kernel
theorem dX5_silo_36 : decode cX5_silo 36 = .ok (.aload_n 0, 1) := by decide +kernel
theorem dX5_silo_37 : decode cX5_silo 37 = .ok (.iconst 2, 1) := by decide +kernel
theorem dX5_silo_38 : decode cX5_silo 38 = .ok (.invokevirtual 90, 3) := by decide +kernel
theorem dX5_silo_41 : decode cX5_silo 41 = .ok (.ireturn, 1) := by decide +kernel
set_option maxRecDepth 20000 in
theorem ggX5_tellsLayer_X5_tonnes : GoodIn wsX5_tellsLayer wsX5_tonnes := goodIn_r _ [5, 6, 7, 8, 4, 9, 10, 19, 20, 21, 22, 23, 24, 25, 26, 27, 28, 29, 30] (by decide +kernel) (by decide +kernel)
set_option maxRecDepth 20000 in
theorem gX5_tellsLayer_X5_tonnes : GoodIn wsX5_tellsLayer (wsV RX5 43 RX5 yX5_tonnes wsX5_tonnes) := goodIn_app (goodIn_of _ (by decide +kernel)) ggX5_tellsLayer_X5_tonnes
set_option maxRecDepth 20000 in
theorem ggX5_tellsLayer_X5_age : GoodIn wsX5_tellsLayer wsX5_age := goodIn_r _ [14, 6, 7, 8, 4, 9, 10, 19, 20, 21, 22, 23, 24, 25, 26, 27, 28, 29, 30] (by decide +kernel) (by decide +kernel)
set_option maxRecDepth 20000 in
theorem gX5_tellsLayer_X5_age : GoodIn wsX5_tellsLayer (wsV RX5 40 RX5 yX5_age wsX5_age) := goodIn_app (goodIn_of _ (by decide +kernel)) ggX5_tellsLayer_X5_age
set_option maxRecDepth 20000 in
theorem ggX5_tellsLayer_X5_setOf : GoodIn wsX5_tellsLayer wsX5_setOf := goodIn_r _ [18, 10, 11, 12, 13, 4, 14, 6, 7, 8, 9, 19, 20, 21, 22, 23, 24, 25, 26, 27, 28, 29, 30] (by decide +kernel) (by decide +kernel)
set_option maxRecDepth 20000 in
theorem gX5_tellsLayer_X5_setOf : GoodIn wsX5_tellsLayer (wsV RX5 46 RX5 yX5_setOf wsX5_setOf) := goodIn_app (goodIn_of _ (by decide +kernel)) ggX5_tellsLayer_X5_setOf
theorem dX5_tellsLayer_0 : decode cX5_tellsLayer 0 = .ok (.iload_n 3, 1) := by decide +kernel
theorem dX5_tellsLayer_1 : decode cX5_tellsLayer 1 = .ok (.ifCond .ne 12, 3) := by decide +kernel
theorem dX5_tellsLayer_4 : decode cX5_tellsLayer 4 = .ok (.aload_n 0, 1) := by decide +kernel
theorem dX5_tellsLayer_5 : decode cX5_tellsLayer 5 = .ok (.iload_n 1, 1) := by decide +kernel
theorem dX5_tellsLayer_6 : decode cX5_tellsLayer 6 = .ok (.iload_n 2, 1) := by decide +kernel
theorem dX5_tellsLayer_7 : decode cX5_tellsLayer 7 = .ok (.invokevirtual 43, 3) := by decide +kernel
theorem dX5_tellsLayer_10 : decode cX5_tellsLayer 10 = .ok (.goto 23, 3) := by decide +kernel
theorem dX5_tellsLayer_13 : decode cX5_tellsLayer 13 = .ok (.iload_n 3, 1) := by decide +kernel
theorem dX5_tellsLayer_14 : decode cX5_tellsLayer 14 = .ok (.iconst 1, 1) := by decide +kernel
theorem dX5_tellsLayer_15 : decode cX5_tellsLayer 15 = .ok (.if_icmp .ne 12, 3) := by decide +kernel
theorem dX5_tellsLayer_18 : decode cX5_tellsLayer 18 = .ok (.aload_n 0, 1) := by decide +kernel
theorem dX5_tellsLayer_19 : decode cX5_tellsLayer 19 = .ok (.iload_n 1, 1) := by decide +kernel
theorem dX5_tellsLayer_20 : decode cX5_tellsLayer 20 = .ok (.iload_n 2, 1) := by decide +kernel
theorem dX5_tellsLayer_21 : decode cX5_tellsLayer 21 = .ok (.invokevirtual 40, 3) := by decide +kernel
theorem dX5_tellsLayer_24 : decode cX5_tellsLayer 24 = .ok (.goto 9, 3) := by decide +kernel
theorem dX5_tellsLayer_27 : decode cX5_tellsLayer 27 = .ok (.aload_n 0, 1) := by decide +kernel
theorem dX5_tellsLayer_28 : decode cX5_tellsLayer 28 = .ok (.iload_n 1, 1) := by decide +kernel
theorem dX5_tellsLayer_29 : decode cX5_tellsLayer 29 = .ok (.iload_n 2, 1) := by decide +kernel
theorem dX5_tellsLayer_30 : decode cX5_tellsLayer 30 = .ok (.invokevirtual 46, 3) := by decide +kernel
theorem dX5_tellsLayer_33 : decode cX5_tellsLayer 33 = .ok (.ireturn, 1) := by decide +kernel
set_option maxRecDepth 20000 in
theorem ggX5_layer_X5_isSilo : GoodIn wsX5_layer wsX5_isSilo := goodIn_r _ [5, 6, 7, 4, 8] (by decide +kernel) (by decide +kernel)
set_option maxRecDepth 20000 in
theorem gX5_layer_X5_isSilo : GoodIn wsX5_layer (va_wsS RX5 96 yX5_isSilo wsX5_isSilo) := goodIn_app (goodIn_of _ (by decide +kernel)) ggX5_layer_X5_isSilo
set_option maxRecDepth 20000 in
theorem ggX5_layer_X5_of : GoodIn wsX5_layer wsX5_of := goodIn_r _ [12, 13, 34, 35, 36, 37, 38, 39, 40, 41, 42, 43, 44, 45] (by decide +kernel) (by decide +kernel)
set_option maxRecDepth 20000 in
theorem gX5_layer_X5_of : GoodIn wsX5_layer (wsV RX5 33 RX5 yX5_of wsX5_of) := goodIn_app (goodIn_of _ (by decide +kernel)) ggX5_layer_X5_of
set_option maxRecDepth 20000 in
theorem ggX5_layer_X5_in : GoodIn wsX5_layer wsX5_in := goodIn_r _ [8] (by decide +kernel) (by decide +kernel)
set_option maxRecDepth 20000 in
theorem gX5_layer_X5_in : GoodIn wsX5_layer (va_wsS RX5 29 yX5_in wsX5_in) := goodIn_app (goodIn_of _ (by decide +kernel)) ggX5_layer_X5_in
set_option maxRecDepth 20000 in
theorem ggX5_layer_X5_fails : GoodIn wsX5_layer wsX5_fails := goodIn_r _ [17, 1, 34, 35, 36, 37, 38, 39, 40, 41, 42, 43, 44, 45] (by decide +kernel) (by decide +kernel)
set_option maxRecDepth 20000 in
theorem gX5_layer_X5_fails : GoodIn wsX5_layer (wsV RX5 90 RX5 yX5_fails wsX5_fails) := goodIn_app (goodIn_of _ (by decide +kernel)) ggX5_layer_X5_fails
set_option maxRecDepth 20000 in
theorem ggX5_layer_X5_tellsLayer : GoodIn wsX5_layer wsX5_tellsLayer := goodIn_r _ [21, 22, 23, 24, 4, 25, 9, 10, 11, 12, 13, 26, 27, 28, 29, 30, 31, 32, 33, 34, 35, 36, 37, 38, 39, 40, 41, 42, 43, 44, 45] (by decide +kernel) (by decide +kernel)
set_option maxRecDepth 20000 in
theorem gX5_layer_X5_tellsLayer : GoodIn wsX5_layer (wsV RX5 155 RX5 yX5_tellsLayer wsX5_tellsLayer) := goodIn_app (goodIn_of _ (by decide +kernel)) ggX5_layer_X5_tellsLayer
theorem dX5_layer_0 : decode cX5_layer 0 = .ok (.aload_n 0, 1) := by decide +kernel
theorem dX5_layer_1 : decode cX5_layer 1 = .ok (.iconst 0, 1) := by decide +kernel
theorem dX5_layer_2 : decode cX5_layer 2 = .ok (.putfield 25, 3) := by decide +kernel
theorem dX5_layer_5 : decode cX5_layer 5 = .ok (.iload_n 1, 1) := by decide +kernel
theorem dX5_layer_6 : decode cX5_layer 6 = .ok (.invokestatic 96, 3) := by decide +kernel
theorem dX5_layer_9 : decode cX5_layer 9 = .ok (.ifCond .eq 19, 3) := by decide +kernel
theorem dX5_layer_12 : decode cX5_layer 12 = .ok (.iload_n 2, 1) := by decide +kernel
theorem dX5_layer_13 : decode cX5_layer 13 = .ok (.iconst 0, 1) := by decide +kernel
theorem dX5_layer_14 : decode cX5_layer 14 = .ok (.aload_n 0, 1) := by decide +kernel
theorem dX5_layer_15 : decode cX5_layer 15 = .ok (.iload_n 1, 1) := by decide +kernel
theorem dX5_layer_16 : decode cX5_layer 16 = .ok (.iconst 3, 1) := by decide +kernel
theorem dX5_layer_17 : decode cX5_layer 17 = .ok (.invokevirtual 33, 3) := by decide +kernel
theorem dX5_layer_20 : decode cX5_layer 20 = .ok (.iconst 1, 1) := by decide +kernel
theorem dX5_layer_21 : decode cX5_layer 21 = .ok (.isub, 1) := by decide +kernel
theorem dX5_layer_22 : decode cX5_layer 22 = .ok (.invokestatic 29, 3) := by decide +kernel
theorem dX5_layer_25 : decode cX5_layer 25 = .ok (.ifCond .ne 9, 3) := by decide +kernel
theorem dX5_layer_28 : decode cX5_layer 28 = .ok (.aload_n 0, 1) := by decide +kernel
theorem dX5_layer_29 : decode cX5_layer 29 = .ok (.iconst 1, 1) := by decide +kernel
theorem dX5_layer_30 : decode cX5_layer 30 = .ok (.invokevirtual 90, 3) := by decide +kernel
theorem dX5_layer_33 : decode cX5_layer 33 = .ok (.ireturn, 1) := by decide +kernel
theorem dX5_layer_34 : decode cX5_layer 34 = .ok (.iload_n 3, 1) := by decide +kernel
theorem dX5_layer_35 : decode cX5_layer 35 = .ok (.iconst 0, 1) := by decide +kernel
theorem dX5_layer_36 : decode cX5_layer 36 = .ok (.iconst 2, 1) := by decide +kernel
theorem dX5_layer_37 : decode cX5_layer 37 = .ok (.invokestatic 29, 3) := by decide +kernel
theorem dX5_layer_40 : decode cX5_layer 40 = .ok (.ifCond .eq 13, 3) := by decide +kernel
theorem dX5_layer_43 : decode cX5_layer 43 = .ok (.aload_n 0, 1) := by decide +kernel
theorem dX5_layer_44 : decode cX5_layer 44 = .ok (.iload_n 1, 1) := by decide +kernel
theorem dX5_layer_45 : decode cX5_layer 45 = .ok (.iload_n 2, 1) := by decide +kernel
theorem dX5_layer_46 : decode cX5_layer 46 = .ok (.iload_n 3, 1) := by decide +kernel
theorem dX5_layer_47 : decode cX5_layer 47 = .ok (.invokevirtual 155, 3) := by decide +kernel
theorem dX5_layer_50 : decode cX5_layer 50 = .ok (.goto 8, 3) := by decide +kernel
theorem dX5_layer_53 : decode cX5_layer 53 = .ok (.aload_n 0, 1) := by decide +kernel
theorem dX5_layer_54 : decode cX5_layer 54 = .ok (.iconst 2, 1) := by decide +kernel
theorem dX5_layer_55 : decode cX5_layer 55 = .ok (.invokevirtual 90, 3) := by decide +kernel
theorem dX5_layer_58 : decode cX5_layer 58 = .ok (.ireturn, 1) := by decide +kernel
set_option maxRecDepth 20000 in
theorem ggX5_shipOf_X5_isShip : GoodIn wsX5_shipOf wsX5_isShip := goodIn_r _ [6, 7, 8, 5, 9] (by decide +kernel) (by decide +kernel)
set_option maxRecDepth 20000 in
theorem gX5_shipOf_X5_isShip : GoodIn wsX5_shipOf (va_wsS RX5 87 yX5_isShip wsX5_isShip) := goodIn_app (goodIn_of _ (by decide +kernel)) ggX5_shipOf_X5_isShip
set_option maxRecDepth 20000 in
theorem ggX5_shipOf_X5_fails : GoodIn wsX5_shipOf wsX5_fails := goodIn_r _ [13, 1, 14, 15, 16, 17, 18, 19, 20, 21, 22, 23, 24, 25] (by decide +kernel) (by decide +kernel)
set_option maxRecDepth 20000 in
theorem gX5_shipOf_X5_fails : GoodIn wsX5_shipOf (wsV RX5 90 RX5 yX5_fails wsX5_fails) := goodIn_app (goodIn_of _ (by decide +kernel)) ggX5_shipOf_X5_fails
set_option maxRecDepth 20000 in
theorem ggX5_shipOf_X5_in : GoodIn wsX5_shipOf wsX5_in := goodIn_r _ [9] (by decide +kernel) (by decide +kernel)
set_option maxRecDepth 20000 in
theorem gX5_shipOf_X5_in : GoodIn wsX5_shipOf (va_wsS RX5 29 yX5_in wsX5_in) := goodIn_app (goodIn_of _ (by decide +kernel)) ggX5_shipOf_X5_in
theorem dX5_shipOf_0 : decode cX5_shipOf 0 = .ok (.aload_n 0, 1) := by decide +kernel
theorem dX5_shipOf_1 : decode cX5_shipOf 1 = .ok (.iconst 0, 1) := by decide +kernel
theorem dX5_shipOf_2 : decode cX5_shipOf 2 = .ok (.putfield 25, 3) := by decide +kernel
theorem dX5_shipOf_5 : decode cX5_shipOf 5 = .ok (.iload_n 1, 1) := by decide +kernel
theorem dX5_shipOf_6 : decode cX5_shipOf 6 = .ok (.invokestatic 87, 3) := by decide +kernel
theorem dX5_shipOf_9 : decode cX5_shipOf 9 = .ok (.ifCond .ne 9, 3) := by decide +kernel
theorem dX5_shipOf_12 : decode cX5_shipOf 12 = .ok (.aload_n 0, 1) := by decide +kernel
theorem dX5_shipOf_13 : decode cX5_shipOf 13 = .ok (.iconst 1, 1) := by decide +kernel
theorem dX5_shipOf_14 : decode cX5_shipOf 14 = .ok (.invokevirtual 90, 3) := by decide +kernel
theorem dX5_shipOf_17 : decode cX5_shipOf 17 = .ok (.ireturn, 1) := by decide +kernel
theorem dX5_shipOf_18 : decode cX5_shipOf 18 = .ok (.iload_n 2, 1) := by decide +kernel
theorem dX5_shipOf_19 : decode cX5_shipOf 19 = .ok (.iconst 0, 1) := by decide +kernel
theorem dX5_shipOf_20 : decode cX5_shipOf 20 = .ok (.iconst 1, 1) := by decide +kernel
theorem dX5_shipOf_21 : decode cX5_shipOf 21 = .ok (.invokestatic 29, 3) := by decide +kernel
theorem dX5_shipOf_24 : decode cX5_shipOf 24 = .ok (.ifCond .eq 19, 3) := by decide +kernel
theorem dX5_shipOf_27 : decode cX5_shipOf 27 = .ok (.aload_n 0, 1) := by decide +kernel
theorem dX5_shipOf_28 : decode cX5_shipOf 28 = .ok (.getfield 7, 3) := by decide +kernel
theorem dX5_shipOf_31 : decode cX5_shipOf 31 = .ok (.bipush 106, 2) := by decide +kernel
theorem dX5_shipOf_33 : decode cX5_shipOf 33 = .ok (.iconst 2, 1) := by decide +kernel
theorem dX5_shipOf_34 : decode cX5_shipOf 34 = .ok (.iload_n 1, 1) := by decide +kernel
theorem dX5_shipOf_35 : decode cX5_shipOf 35 = .ok (.imul, 1) := by decide +kernel
theorem dX5_shipOf_36 : decode cX5_shipOf 36 = .ok (.iadd, 1) := by decide +kernel
theorem dX5_shipOf_37 : decode cX5_shipOf 37 = .ok (.iload_n 2, 1) := by decide +kernel
theorem dX5_shipOf_38 : decode cX5_shipOf 38 = .ok (.iadd, 1) := by decide +kernel
theorem dX5_shipOf_39 : decode cX5_shipOf 39 = .ok (.iaload, 1) := by decide +kernel
theorem dX5_shipOf_40 : decode cX5_shipOf 40 = .ok (.goto 8, 3) := by decide +kernel
theorem dX5_shipOf_43 : decode cX5_shipOf 43 = .ok (.aload_n 0, 1) := by decide +kernel
theorem dX5_shipOf_44 : decode cX5_shipOf 44 = .ok (.iconst 2, 1) := by decide +kernel
theorem dX5_shipOf_45 : decode cX5_shipOf 45 = .ok (.invokevirtual 90, 3) := by decide +kernel
theorem dX5_shipOf_48 : decode cX5_shipOf 48 = .ok (.ireturn, 1) := by decide +kernel
set_option maxRecDepth 20000 in
theorem ggX5_inSilos_X5_sumFrom : GoodIn wsX5_inSilos wsX5_sumFrom := goodIn_r _ [5, 6, 7, 8, 4, 9, 10, 11, 12, 13, 14, 15, 16, 17, 18, 19, 20, 21, 22, 23, 24, 25, 26] (by decide +kernel) (by decide +kernel)
set_option maxRecDepth 20000 in
theorem gX5_inSilos_X5_sumFrom : GoodIn wsX5_inSilos (wsV RX5 70 RX5 yX5_sumFrom wsX5_sumFrom) := goodIn_app (goodIn_of _ (by decide +kernel)) ggX5_inSilos_X5_sumFrom
theorem dX5_inSilos_0 : decode cX5_inSilos 0 = .ok (.iconst 0, 1) := by decide +kernel
theorem dX5_inSilos_1 : decode cX5_inSilos 1 = .ok (.istore_n 1, 1) := by decide +kernel
theorem dX5_inSilos_2 : decode cX5_inSilos 2 = .ok (.iconst 0, 1) := by decide +kernel
theorem dX5_inSilos_3 : decode cX5_inSilos 3 = .ok (.istore_n 2, 1) := by decide +kernel
theorem dX5_inSilos_4 : decode cX5_inSilos 4 = .ok (.iload_n 2, 1) := by decide +kernel
theorem dX5_inSilos_5 : decode cX5_inSilos 5 = .ok (.iconst 4, 1) := by decide +kernel
theorem dX5_inSilos_6 : decode cX5_inSilos 6 = .ok (.if_icmp .ge 18, 3) := by decide +kernel
theorem dX5_inSilos_9 : decode cX5_inSilos 9 = .ok (.iload_n 1, 1) := by decide +kernel
theorem dX5_inSilos_10 : decode cX5_inSilos 10 = .ok (.aload_n 0, 1) := by decide +kernel
theorem dX5_inSilos_11 : decode cX5_inSilos 11 = .ok (.iload_n 2, 1) := by decide +kernel
theorem dX5_inSilos_12 : decode cX5_inSilos 12 = .ok (.iconst 0, 1) := by decide +kernel
theorem dX5_inSilos_13 : decode cX5_inSilos 13 = .ok (.invokevirtual 70, 3) := by decide +kernel
theorem dX5_inSilos_16 : decode cX5_inSilos 16 = .ok (.iadd, 1) := by decide +kernel
theorem dX5_inSilos_17 : decode cX5_inSilos 17 = .ok (.istore_n 1, 1) := by decide +kernel
theorem dX5_inSilos_18 : decode cX5_inSilos 18 = .ok (.iinc 2 1, 3) := by decide +kernel
theorem dX5_inSilos_21 : decode cX5_inSilos 21 = .ok (.goto (-17), 3) := by decide +kernel
theorem dX5_inSilos_24 : decode cX5_inSilos 24 = .ok (.iload_n 1, 1) := by decide +kernel
theorem dX5_inSilos_25 : decode cX5_inSilos 25 = .ok (.ireturn, 1) := by decide +kernel
theorem dX5_inShips_0 : decode cX5_inShips 0 = .ok (.iconst 0, 1) := by decide +kernel
theorem dX5_inShips_1 : decode cX5_inShips 1 = .ok (.istore_n 1, 1) := by decide +kernel
theorem dX5_inShips_2 : decode cX5_inShips 2 = .ok (.iconst 0, 1) := by decide +kernel
theorem dX5_inShips_3 : decode cX5_inShips 3 = .ok (.istore_n 2, 1) := by decide +kernel
theorem dX5_inShips_4 : decode cX5_inShips 4 = .ok (.iload_n 2, 1) := by decide +kernel
theorem dX5_inShips_5 : decode cX5_inShips 5 = .ok (.bipush 6, 2) := by decide +kernel
theorem dX5_inShips_7 : decode cX5_inShips 7 = .ok (.if_icmp .ge 23, 3) := by decide +kernel
theorem dX5_inShips_10 : decode cX5_inShips 10 = .ok (.iload_n 1, 1) := by decide +kernel
theorem dX5_inShips_11 : decode cX5_inShips 11 = .ok (.aload_n 0, 1) := by decide +kernel
theorem dX5_inShips_12 : decode cX5_inShips 12 = .ok (.getfield 7, 3) := by decide +kernel
theorem dX5_inShips_15 : decode cX5_inShips 15 = .ok (.bipush 106, 2) := by decide +kernel
theorem dX5_inShips_17 : decode cX5_inShips 17 = .ok (.iconst 2, 1) := by decide +kernel
theorem dX5_inShips_18 : decode cX5_inShips 18 = .ok (.iload_n 2, 1) := by decide +kernel
theorem dX5_inShips_19 : decode cX5_inShips 19 = .ok (.imul, 1) := by decide +kernel
theorem dX5_inShips_20 : decode cX5_inShips 20 = .ok (.iadd, 1) := by decide +kernel
theorem dX5_inShips_21 : decode cX5_inShips 21 = .ok (.iaload, 1) := by decide +kernel
theorem dX5_inShips_22 : decode cX5_inShips 22 = .ok (.iadd, 1) := by decide +kernel
theorem dX5_inShips_23 : decode cX5_inShips 23 = .ok (.istore_n 1, 1) := by decide +kernel
theorem dX5_inShips_24 : decode cX5_inShips 24 = .ok (.iinc 2 1, 3) := by decide +kernel
theorem dX5_inShips_27 : decode cX5_inShips 27 = .ok (.goto (-23), 3) := by decide +kernel
theorem dX5_inShips_30 : decode cX5_inShips 30 = .ok (.iload_n 1, 1) := by decide +kernel
theorem dX5_inShips_31 : decode cX5_inShips 31 = .ok (.ireturn, 1) := by decide +kernel
set_option maxRecDepth 20000 in
theorem ggX5_arches_X5_of : GoodIn wsX5_arches wsX5_of := goodIn_r _ [5, 6, 7, 8, 9, 10, 11, 12, 13, 14, 15, 16, 17, 18] (by decide +kernel) (by decide +kernel)
set_option maxRecDepth 20000 in
theorem gX5_arches_X5_of : GoodIn wsX5_arches (wsV RX5 33 RX5 yX5_of wsX5_of) := goodIn_app (goodIn_of _ (by decide +kernel)) ggX5_arches_X5_of
theorem dX5_arches_0 : decode cX5_arches 0 = .ok (.iconst 0, 1) := by decide +kernel
theorem dX5_arches_1 : decode cX5_arches 1 = .ok (.istore_n 1, 1) := by decide +kernel
theorem dX5_arches_2 : decode cX5_arches 2 = .ok (.iconst 0, 1) := by decide +kernel
theorem dX5_arches_3 : decode cX5_arches 3 = .ok (.istore_n 2, 1) := by decide +kernel
theorem dX5_arches_4 : decode cX5_arches 4 = .ok (.iload_n 2, 1) := by decide +kernel
theorem dX5_arches_5 : decode cX5_arches 5 = .ok (.iconst 4, 1) := by decide +kernel
theorem dX5_arches_6 : decode cX5_arches 6 = .ok (.if_icmp .ge 26, 3) := by decide +kernel
theorem dX5_arches_9 : decode cX5_arches 9 = .ok (.iload_n 1, 1) := by decide +kernel
theorem dX5_arches_10 : decode cX5_arches 10 = .ok (.aload_n 0, 1) := by decide +kernel
theorem dX5_arches_11 : decode cX5_arches 11 = .ok (.iload_n 2, 1) := by decide +kernel
theorem dX5_arches_12 : decode cX5_arches 12 = .ok (.iconst 1, 1) := by decide +kernel
theorem dX5_arches_13 : decode cX5_arches 13 = .ok (.invokevirtual 33, 3) := by decide +kernel
theorem dX5_arches_16 : decode cX5_arches 16 = .ok (.ifCond .le 7, 3) := by decide +kernel
theorem dX5_arches_19 : decode cX5_arches 19 = .ok (.iconst 1, 1) := by decide +kernel
theorem dX5_arches_20 : decode cX5_arches 20 = .ok (.goto 4, 3) := by decide +kernel
theorem dX5_arches_23 : decode cX5_arches 23 = .ok (.iconst 0, 1) := by decide +kernel
theorem dX5_arches_24 : decode cX5_arches 24 = .ok (.iadd, 1) := by decide +kernel
theorem dX5_arches_25 : decode cX5_arches 25 = .ok (.istore_n 1, 1) := by decide +kernel
theorem dX5_arches_26 : decode cX5_arches 26 = .ok (.iinc 2 1, 3) := by decide +kernel
theorem dX5_arches_29 : decode cX5_arches 29 = .ok (.goto (-25), 3) := by decide +kernel
theorem dX5_arches_32 : decode cX5_arches 32 = .ok (.iload_n 1, 1) := by decide +kernel
theorem dX5_arches_33 : decode cX5_arches 33 = .ok (.ireturn, 1) := by decide +kernel
set_option maxRecDepth 20000 in
theorem ggX5_tellsCount_X5_inSilos : GoodIn wsX5_tellsCount wsX5_inSilos := goodIn_r _ [7, 8, 9, 10, 6, 11, 12, 13, 14, 15, 1, 16, 17, 18, 19, 32, 33, 34, 35, 36, 37, 38, 39, 40, 41, 42, 43] (by decide +kernel) (by decide +kernel)
set_option maxRecDepth 20000 in
theorem gX5_tellsCount_X5_inSilos : GoodIn wsX5_tellsCount (wsV RX5 158 RX5 yX5_inSilos wsX5_inSilos) := goodIn_app (goodIn_of _ (by decide +kernel)) ggX5_tellsCount_X5_inSilos
set_option maxRecDepth 20000 in
theorem ggX5_tellsCount_X5_inShips : GoodIn wsX5_tellsCount wsX5_inShips := goodIn_r _ [23, 1, 32, 33, 34, 35, 36, 37, 38, 39, 40, 41, 42, 43] (by decide +kernel) (by decide +kernel)
set_option maxRecDepth 20000 in
theorem gX5_tellsCount_X5_inShips : GoodIn wsX5_tellsCount (wsV RX5 161 RX5 yX5_inShips wsX5_inShips) := goodIn_app (goodIn_of _ (by decide +kernel)) ggX5_tellsCount_X5_inShips
set_option maxRecDepth 20000 in
theorem ggX5_tellsCount_X5_padsOn : GoodIn wsX5_tellsCount wsX5_padsOn := goodIn_r _ [27, 12, 13, 14, 6, 15, 1, 32, 33, 34, 35, 36, 37, 38, 39, 40, 41, 42, 43] (by decide +kernel) (by decide +kernel)
set_option maxRecDepth 20000 in
theorem gX5_tellsCount_X5_padsOn : GoodIn wsX5_tellsCount (wsV RX5 106 RX5 yX5_padsOn wsX5_padsOn) := goodIn_app (goodIn_of _ (by decide +kernel)) ggX5_tellsCount_X5_padsOn
set_option maxRecDepth 20000 in
theorem ggX5_tellsCount_X5_arches : GoodIn wsX5_tellsCount wsX5_arches := goodIn_r _ [31, 12, 13, 14, 6, 15, 1, 32, 33, 34, 35, 36, 37, 38, 39, 40, 41, 42, 43] (by decide +kernel) (by decide +kernel)
set_option maxRecDepth 20000 in
theorem gX5_tellsCount_X5_arches : GoodIn wsX5_tellsCount (wsV RX5 164 RX5 yX5_arches wsX5_arches) := goodIn_app (goodIn_of _ (by decide +kernel)) ggX5_tellsCount_X5_arches
theorem dX5_tellsCount_0 : decode cX5_tellsCount 0 = .ok (.iload_n 1, 1) := by decide +kernel
theorem dX5_tellsCount_1 : decode cX5_tellsCount 1 = .ok (.tableswitch 118 0 14 #[75, 82, 87, 92, 92, 92, 103, 108, 118, 118, 118, 118, 118, 118, 113], 75) := by decide +kernel
theorem dX5_tellsCount_76 : decode cX5_tellsCount 76 = .ok (.aload_n 0, 1) := by decide +kernel
theorem dX5_tellsCount_77 : decode cX5_tellsCount 77 = .ok (.getfield 7, 3) := by decide +kernel
theorem dX5_tellsCount_80 : decode cX5_tellsCount 80 = .ok (.iconst 0, 1) := by decide +kernel
theorem dX5_tellsCount_81 : decode cX5_tellsCount 81 = .ok (.iaload, 1) := by decide +kernel
theorem dX5_tellsCount_82 : decode cX5_tellsCount 82 = .ok (.ireturn, 1) := by decide +kernel
theorem dX5_tellsCount_83 : decode cX5_tellsCount 83 = .ok (.aload_n 0, 1) := by decide +kernel
theorem dX5_tellsCount_84 : decode cX5_tellsCount 84 = .ok (.invokevirtual 158, 3) := by decide +kernel
theorem dX5_tellsCount_87 : decode cX5_tellsCount 87 = .ok (.ireturn, 1) := by decide +kernel
theorem dX5_tellsCount_88 : decode cX5_tellsCount 88 = .ok (.aload_n 0, 1) := by decide +kernel
theorem dX5_tellsCount_89 : decode cX5_tellsCount 89 = .ok (.invokevirtual 161, 3) := by decide +kernel
theorem dX5_tellsCount_92 : decode cX5_tellsCount 92 = .ok (.ireturn, 1) := by decide +kernel
theorem dX5_tellsCount_93 : decode cX5_tellsCount 93 = .ok (.aload_n 0, 1) := by decide +kernel
theorem dX5_tellsCount_94 : decode cX5_tellsCount 94 = .ok (.getfield 7, 3) := by decide +kernel
theorem dX5_tellsCount_97 : decode cX5_tellsCount 97 = .ok (.iconst 1, 1) := by decide +kernel
theorem dX5_tellsCount_98 : decode cX5_tellsCount 98 = .ok (.iload_n 1, 1) := by decide +kernel
theorem dX5_tellsCount_99 : decode cX5_tellsCount 99 = .ok (.iadd, 1) := by decide +kernel
theorem dX5_tellsCount_100 : decode cX5_tellsCount 100 = .ok (.iconst 3, 1) := by decide +kernel
theorem dX5_tellsCount_101 : decode cX5_tellsCount 101 = .ok (.isub, 1) := by decide +kernel
theorem dX5_tellsCount_102 : decode cX5_tellsCount 102 = .ok (.iaload, 1) := by decide +kernel
theorem dX5_tellsCount_103 : decode cX5_tellsCount 103 = .ok (.ireturn, 1) := by decide +kernel
theorem dX5_tellsCount_104 : decode cX5_tellsCount 104 = .ok (.aload_n 0, 1) := by decide +kernel
theorem dX5_tellsCount_105 : decode cX5_tellsCount 105 = .ok (.invokevirtual 106, 3) := by decide +kernel
theorem dX5_tellsCount_108 : decode cX5_tellsCount 108 = .ok (.ireturn, 1) := by decide +kernel
theorem dX5_tellsCount_109 : decode cX5_tellsCount 109 = .ok (.aload_n 0, 1) := by decide +kernel
theorem dX5_tellsCount_110 : decode cX5_tellsCount 110 = .ok (.invokevirtual 164, 3) := by decide +kernel
theorem dX5_tellsCount_113 : decode cX5_tellsCount 113 = .ok (.ireturn, 1) := by decide +kernel
theorem dX5_tellsCount_114 : decode cX5_tellsCount 114 = .ok (.aload_n 0, 1) := by decide +kernel
theorem dX5_tellsCount_115 : decode cX5_tellsCount 115 = .ok (.getfield 37, 3) := by decide +kernel
theorem dX5_tellsCount_118 : decode cX5_tellsCount 118 = .ok (.ireturn, 1) := by decide +kernel
theorem dX5_tellsCount_119 : decode cX5_tellsCount 119 = .ok (.aload_n 0, 1) := by decide +kernel
theorem dX5_tellsCount_120 : decode cX5_tellsCount 120 = .ok (.getfield 7, 3) := by decide +kernel
theorem dX5_tellsCount_123 : decode cX5_tellsCount 123 = .ok (.iconst 4, 1) := by decide +kernel
theorem dX5_tellsCount_124 : decode cX5_tellsCount 124 = .ok (.iload_n 1, 1) := by decide +kernel
theorem dX5_tellsCount_125 : decode cX5_tellsCount 125 = .ok (.iadd, 1) := by decide +kernel
theorem dX5_tellsCount_126 : decode cX5_tellsCount 126 = .ok (.bipush 8, 2) := by decide +kernel
theorem dX5_tellsCount_128 : decode cX5_tellsCount 128 = .ok (.isub, 1) := by decide +kernel
theorem dX5_tellsCount_129 : decode cX5_tellsCount 129 = .ok (.iaload, 1) := by decide +kernel
theorem dX5_tellsCount_130 : decode cX5_tellsCount 130 = .ok (.ireturn, 1) := by decide +kernel
set_option maxRecDepth 20000 in
theorem ggX5_count_X5_in : GoodIn wsX5_count wsX5_in := goodIn_r _ [5] (by decide +kernel) (by decide +kernel)
set_option maxRecDepth 20000 in
theorem gX5_count_X5_in : GoodIn wsX5_count (va_wsS RX5 29 yX5_in wsX5_in) := goodIn_app (goodIn_of _ (by decide +kernel)) ggX5_count_X5_in
set_option maxRecDepth 20000 in
theorem ggX5_count_X5_tellsCount : GoodIn wsX5_count wsX5_tellsCount := goodIn_r _ [9, 10, 11, 12, 13, 14, 4, 15, 16, 17, 18, 19, 20, 21, 22, 23, 24, 25, 26, 27, 28, 29, 30, 31, 32, 33, 34, 35, 36, 37, 38, 39, 44, 45, 46, 47, 48, 49, 50, 51, 52, 53, 54, 55] (by decide +kernel) (by decide +kernel)
set_option maxRecDepth 20000 in
theorem gX5_count_X5_tellsCount : GoodIn wsX5_count (wsV RX5 167 RX5 yX5_tellsCount wsX5_tellsCount) := goodIn_app (goodIn_of _ (by decide +kernel)) ggX5_count_X5_tellsCount
set_option maxRecDepth 20000 in
theorem ggX5_count_X5_fails : GoodIn wsX5_count wsX5_fails := goodIn_r _ [43, 1, 44, 45, 46, 47, 48, 49, 50, 51, 52, 53, 54, 55] (by decide +kernel) (by decide +kernel)
set_option maxRecDepth 20000 in
theorem gX5_count_X5_fails : GoodIn wsX5_count (wsV RX5 90 RX5 yX5_fails wsX5_fails) := goodIn_app (goodIn_of _ (by decide +kernel)) ggX5_count_X5_fails
theorem dX5_count_0 : decode cX5_count 0 = .ok (.aload_n 0, 1) := by decide +kernel
theorem dX5_count_1 : decode cX5_count 1 = .ok (.iconst 0, 1) := by decide +kernel
theorem dX5_count_2 : decode cX5_count 2 = .ok (.putfield 25, 3) := by decide +kernel
theorem dX5_count_5 : decode cX5_count 5 = .ok (.iload_n 1, 1) := by decide +kernel
theorem dX5_count_6 : decode cX5_count 6 = .ok (.iconst 0, 1) := by decide +kernel
theorem dX5_count_7 : decode cX5_count 7 = .ok (.bipush 14, 2) := by decide +kernel
theorem dX5_count_9 : decode cX5_count 9 = .ok (.invokestatic 29, 3) := by decide +kernel
theorem dX5_count_12 : decode cX5_count 12 = .ok (.ifCond .eq 11, 3) := by decide +kernel
theorem dX5_count_15 : decode cX5_count 15 = .ok (.aload_n 0, 1) := by decide +kernel
theorem dX5_count_16 : decode cX5_count 16 = .ok (.iload_n 1, 1) := by decide +kernel
theorem dX5_count_17 : decode cX5_count 17 = .ok (.invokevirtual 167, 3) := by decide +kernel
theorem dX5_count_20 : decode cX5_count 20 = .ok (.goto 8, 3) := by decide +kernel
theorem dX5_count_23 : decode cX5_count 23 = .ok (.aload_n 0, 1) := by decide +kernel
theorem dX5_count_24 : decode cX5_count 24 = .ok (.iconst 1, 1) := by decide +kernel
theorem dX5_count_25 : decode cX5_count 25 = .ok (.invokevirtual 90, 3) := by decide +kernel
theorem dX5_count_28 : decode cX5_count 28 = .ok (.ireturn, 1) := by decide +kernel
set_option maxRecDepth 20000 in
theorem ggX5_reason_X5_of : GoodIn wsX5_reason wsX5_of := goodIn_r _ [5, 6, 23, 24, 25, 26, 27, 28, 29, 30, 31, 32, 33, 34] (by decide +kernel) (by decide +kernel)
set_option maxRecDepth 20000 in
theorem gX5_reason_X5_of : GoodIn wsX5_reason (wsV RX5 33 RX5 yX5_of wsX5_of) := goodIn_app (goodIn_of _ (by decide +kernel)) ggX5_reason_X5_of
set_option maxRecDepth 20000 in
theorem ggX5_reason_X5_room : GoodIn wsX5_reason wsX5_room := goodIn_r _ [10, 6, 23, 24, 25, 26, 27, 28, 29, 30, 31, 32, 33, 34] (by decide +kernel) (by decide +kernel)
set_option maxRecDepth 20000 in
theorem gX5_reason_X5_room : GoodIn wsX5_reason (wsV RX5 60 RX5 yX5_room wsX5_room) := goodIn_app (goodIn_of _ (by decide +kernel)) ggX5_reason_X5_room
set_option maxRecDepth 20000 in
theorem ggX5_reason_X5_flows : GoodIn wsX5_reason wsX5_flows := goodIn_r _ [14, 1, 2, 3, 4, 5, 6, 15, 16, 17, 18, 19, 20, 21, 22, 23, 24, 25, 26, 27, 28, 29, 30, 31, 32, 33, 34] (by decide +kernel) (by decide +kernel)
set_option maxRecDepth 20000 in
theorem gX5_reason_X5_flows : GoodIn wsX5_reason (wsV RX5 53 RX5 yX5_flows wsX5_flows) := goodIn_app (goodIn_of _ (by decide +kernel)) ggX5_reason_X5_flows
theorem dX5_reason_0 : decode cX5_reason 0 = .ok (.aload_n 0, 1) := by decide +kernel
theorem dX5_reason_1 : decode cX5_reason 1 = .ok (.iload_n 1, 1) := by decide +kernel
theorem dX5_reason_2 : decode cX5_reason 2 = .ok (.iconst 3, 1) := by decide +kernel
theorem dX5_reason_3 : decode cX5_reason 3 = .ok (.invokevirtual 33, 3) := by decide +kernel
theorem dX5_reason_6 : decode cX5_reason 6 = .ok (.ifCond .ne 5, 3) := by decide +kernel
theorem dX5_reason_9 : decode cX5_reason 9 = .ok (.iconst 1, 1) := by decide +kernel
theorem dX5_reason_10 : decode cX5_reason 10 = .ok (.ireturn, 1) := by decide +kernel
theorem dX5_reason_11 : decode cX5_reason 11 = .ok (.aload_n 0, 1) := by decide +kernel
theorem dX5_reason_12 : decode cX5_reason 12 = .ok (.iload_n 1, 1) := by decide +kernel
theorem dX5_reason_13 : decode cX5_reason 13 = .ok (.iconst 1, 1) := by decide +kernel
theorem dX5_reason_14 : decode cX5_reason 14 = .ok (.invokevirtual 33, 3) := by decide +kernel
theorem dX5_reason_17 : decode cX5_reason 17 = .ok (.iconst 2, 1) := by decide +kernel
theorem dX5_reason_18 : decode cX5_reason 18 = .ok (.if_icmp .ne 7, 3) := by decide +kernel
theorem dX5_reason_21 : decode cX5_reason 21 = .ok (.iconst 2, 1) := by decide +kernel
theorem dX5_reason_22 : decode cX5_reason 22 = .ok (.goto 28, 3) := by decide +kernel
theorem dX5_reason_25 : decode cX5_reason 25 = .ok (.aload_n 0, 1) := by decide +kernel
theorem dX5_reason_26 : decode cX5_reason 26 = .ok (.iload_n 2, 1) := by decide +kernel
theorem dX5_reason_27 : decode cX5_reason 27 = .ok (.invokevirtual 60, 3) := by decide +kernel
theorem dX5_reason_30 : decode cX5_reason 30 = .ok (.ifCond .ne 7, 3) := by decide +kernel
theorem dX5_reason_33 : decode cX5_reason 33 = .ok (.iconst 3, 1) := by decide +kernel
theorem dX5_reason_34 : decode cX5_reason 34 = .ok (.goto 16, 3) := by decide +kernel
theorem dX5_reason_37 : decode cX5_reason 37 = .ok (.aload_n 0, 1) := by decide +kernel
theorem dX5_reason_38 : decode cX5_reason 38 = .ok (.iload_n 1, 1) := by decide +kernel
theorem dX5_reason_39 : decode cX5_reason 39 = .ok (.invokevirtual 53, 3) := by decide +kernel
theorem dX5_reason_42 : decode cX5_reason 42 = .ok (.ifCond .ne 7, 3) := by decide +kernel
theorem dX5_reason_45 : decode cX5_reason 45 = .ok (.iconst 4, 1) := by decide +kernel
theorem dX5_reason_46 : decode cX5_reason 46 = .ok (.goto 4, 3) := by decide +kernel
theorem dX5_reason_49 : decode cX5_reason 49 = .ok (.iconst 0, 1) := by decide +kernel
theorem dX5_reason_50 : decode cX5_reason 50 = .ok (.ireturn, 1) := by decide +kernel
set_option maxRecDepth 20000 in
theorem ggX5_whyNot_X5_isSilo : GoodIn wsX5_whyNot wsX5_isSilo := goodIn_r _ [5, 6, 7, 4, 8] (by decide +kernel) (by decide +kernel)
set_option maxRecDepth 20000 in
theorem gX5_whyNot_X5_isSilo : GoodIn wsX5_whyNot (va_wsS RX5 96 yX5_isSilo wsX5_isSilo) := goodIn_app (goodIn_of _ (by decide +kernel)) ggX5_whyNot_X5_isSilo
set_option maxRecDepth 20000 in
theorem ggX5_whyNot_X5_isShip : GoodIn wsX5_whyNot wsX5_isShip := goodIn_r _ [11, 6, 7, 4, 8] (by decide +kernel) (by decide +kernel)
set_option maxRecDepth 20000 in
theorem gX5_whyNot_X5_isShip : GoodIn wsX5_whyNot (va_wsS RX5 87 yX5_isShip wsX5_isShip) := goodIn_app (goodIn_of _ (by decide +kernel)) ggX5_whyNot_X5_isShip
set_option maxRecDepth 20000 in
theorem ggX5_whyNot_X5_reason : GoodIn wsX5_whyNot wsX5_reason := goodIn_r _ [15, 16, 17, 18, 4, 19, 20, 21, 22, 23, 24, 25, 26, 27, 28, 29, 30, 31, 32, 33, 34, 35, 36, 41, 42, 43, 44, 45, 46, 47, 48, 49, 50, 51, 52] (by decide +kernel) (by decide +kernel)
set_option maxRecDepth 20000 in
theorem gX5_whyNot_X5_reason : GoodIn wsX5_whyNot (wsV RX5 170 RX5 yX5_reason wsX5_reason) := goodIn_app (goodIn_of _ (by decide +kernel)) ggX5_whyNot_X5_reason
set_option maxRecDepth 20000 in
theorem ggX5_whyNot_X5_fails : GoodIn wsX5_whyNot wsX5_fails := goodIn_r _ [40, 1, 41, 42, 43, 44, 45, 46, 47, 48, 49, 50, 51, 52] (by decide +kernel) (by decide +kernel)
set_option maxRecDepth 20000 in
theorem gX5_whyNot_X5_fails : GoodIn wsX5_whyNot (wsV RX5 90 RX5 yX5_fails wsX5_fails) := goodIn_app (goodIn_of _ (by decide +kernel)) ggX5_whyNot_X5_fails
theorem dX5_whyNot_0 : decode cX5_whyNot 0 = .ok (.aload_n 0, 1) := by decide +kernel
theorem dX5_whyNot_1 : decode cX5_whyNot 1 = .ok (.iconst 0, 1) := by decide +kernel
theorem dX5_whyNot_2 : decode cX5_whyNot 2 = .ok (.putfield 25, 3) := by decide +kernel
theorem dX5_whyNot_5 : decode cX5_whyNot 5 = .ok (.iload_n 1, 1) := by decide +kernel
theorem dX5_whyNot_6 : decode cX5_whyNot 6 = .ok (.invokestatic 96, 3) := by decide +kernel
theorem dX5_whyNot_9 : decode cX5_whyNot 9 = .ok (.ifCond .eq 19, 3) := by decide +kernel
theorem dX5_whyNot_12 : decode cX5_whyNot 12 = .ok (.iload_n 2, 1) := by decide +kernel
theorem dX5_whyNot_13 : decode cX5_whyNot 13 = .ok (.invokestatic 87, 3) := by decide +kernel
theorem dX5_whyNot_16 : decode cX5_whyNot 16 = .ok (.ifCond .eq 12, 3) := by decide +kernel
theorem dX5_whyNot_19 : decode cX5_whyNot 19 = .ok (.aload_n 0, 1) := by decide +kernel
theorem dX5_whyNot_20 : decode cX5_whyNot 20 = .ok (.iload_n 1, 1) := by decide +kernel
theorem dX5_whyNot_21 : decode cX5_whyNot 21 = .ok (.iload_n 2, 1) := by decide +kernel
theorem dX5_whyNot_22 : decode cX5_whyNot 22 = .ok (.invokevirtual 170, 3) := by decide +kernel
theorem dX5_whyNot_25 : decode cX5_whyNot 25 = .ok (.goto 8, 3) := by decide +kernel
theorem dX5_whyNot_28 : decode cX5_whyNot 28 = .ok (.aload_n 0, 1) := by decide +kernel
theorem dX5_whyNot_29 : decode cX5_whyNot 29 = .ok (.iconst 1, 1) := by decide +kernel
theorem dX5_whyNot_30 : decode cX5_whyNot 30 = .ok (.invokevirtual 90, 3) := by decide +kernel
theorem dX5_whyNot_33 : decode cX5_whyNot 33 = .ok (.ireturn, 1) := by decide +kernel
set_option maxRecDepth 20000 in
theorem ggX5_wouldFlow_X5_putAside : GoodIn wsX5_wouldFlow wsX5_putAside := goodIn_r _ [5, 6, 7, 55, 56, 57, 58, 59, 60, 61, 62, 63, 64, 65, 66] (by decide +kernel) (by decide +kernel)
set_option maxRecDepth 20000 in
theorem gX5_wouldFlow_X5_putAside : GoodIn wsX5_wouldFlow (wsV RX5 173 RX5 yX5_putAside wsX5_putAside) := goodIn_app (goodIn_of _ (by decide +kernel)) ggX5_wouldFlow_X5_putAside
set_option maxRecDepth 20000 in
theorem ggX5_wouldFlow_X5_lay : GoodIn wsX5_wouldFlow wsX5_lay := goodIn_r _ [11, 7, 55, 56, 57, 58, 59, 60, 61, 62, 63, 64, 65, 66] (by decide +kernel) (by decide +kernel)
set_option maxRecDepth 20000 in
theorem gX5_wouldFlow_X5_lay : GoodIn wsX5_wouldFlow (wsV RX5 49 RX5 yX5_lay wsX5_lay) := goodIn_app (goodIn_of _ (by decide +kernel)) ggX5_wouldFlow_X5_lay
set_option maxRecDepth 20000 in
theorem ggX5_wouldFlow_X5_flowsAll : GoodIn wsX5_wouldFlow wsX5_flowsAll := goodIn_r _ [15, 16, 17, 18, 4, 19, 7, 20, 21, 22, 23, 24, 25, 26, 27, 28, 29, 30, 31, 32, 33, 34, 35, 36, 37, 38, 39, 40, 41, 42, 43, 44, 45, 46, 8, 9, 10, 11, 47, 48, 49, 50, 55, 56, 57, 58, 59, 60, 61, 62, 63, 64, 65, 66] (by decide +kernel) (by decide +kernel)
set_option maxRecDepth 20000 in
theorem gX5_wouldFlow_X5_flowsAll : GoodIn wsX5_wouldFlow (wsV RX5 103 RX5 yX5_flowsAll wsX5_flowsAll) := goodIn_app (goodIn_of _ (by decide +kernel)) ggX5_wouldFlow_X5_flowsAll
set_option maxRecDepth 20000 in
theorem ggX5_wouldFlow_X5_takeBack : GoodIn wsX5_wouldFlow wsX5_takeBack := goodIn_r _ [54, 7, 6, 55, 56, 57, 58, 59, 60, 61, 62, 63, 64, 65, 66] (by decide +kernel) (by decide +kernel)
set_option maxRecDepth 20000 in
theorem gX5_wouldFlow_X5_takeBack : GoodIn wsX5_wouldFlow (wsV RX5 176 RX5 yX5_takeBack wsX5_takeBack) := goodIn_app (goodIn_of _ (by decide +kernel)) ggX5_wouldFlow_X5_takeBack
theorem dX5_wouldFlow_0 : decode cX5_wouldFlow 0 = .ok (.aload_n 0, 1) := by decide +kernel
theorem dX5_wouldFlow_1 : decode cX5_wouldFlow 1 = .ok (.invokevirtual 173, 3) := by decide +kernel
theorem dX5_wouldFlow_4 : decode cX5_wouldFlow 4 = .ok (.aload_n 0, 1) := by decide +kernel
theorem dX5_wouldFlow_5 : decode cX5_wouldFlow 5 = .ok (.iload_n 1, 1) := by decide +kernel
theorem dX5_wouldFlow_6 : decode cX5_wouldFlow 6 = .ok (.iconst 0, 1) := by decide +kernel
theorem dX5_wouldFlow_7 : decode cX5_wouldFlow 7 = .ok (.iload 4, 2) := by decide +kernel
theorem dX5_wouldFlow_9 : decode cX5_wouldFlow 9 = .ok (.invokevirtual 49, 3) := by decide +kernel
theorem dX5_wouldFlow_12 : decode cX5_wouldFlow 12 = .ok (.aload_n 0, 1) := by decide +kernel
theorem dX5_wouldFlow_13 : decode cX5_wouldFlow 13 = .ok (.iload_n 1, 1) := by decide +kernel
theorem dX5_wouldFlow_14 : decode cX5_wouldFlow 14 = .ok (.iload_n 2, 1) := by decide +kernel
theorem dX5_wouldFlow_15 : decode cX5_wouldFlow 15 = .ok (.iload_n 3, 1) := by decide +kernel
theorem dX5_wouldFlow_16 : decode cX5_wouldFlow 16 = .ok (.invokevirtual 103, 3) := by decide +kernel
theorem dX5_wouldFlow_19 : decode cX5_wouldFlow 19 = .ok (.istore 5, 2) := by decide +kernel
theorem dX5_wouldFlow_21 : decode cX5_wouldFlow 21 = .ok (.aload_n 0, 1) := by decide +kernel
theorem dX5_wouldFlow_22 : decode cX5_wouldFlow 22 = .ok (.invokevirtual 176, 3) := by decide +kernel
theorem dX5_wouldFlow_25 : decode cX5_wouldFlow 25 = .ok (.iload 5, 2) := by decide +kernel
theorem dX5_wouldFlow_27 : decode cX5_wouldFlow 27 = .ok (.ireturn, 1) := by decide +kernel
set_option maxRecDepth 20000 in
theorem ggX5_ifFlowed_X5_isSilo : GoodIn wsX5_ifFlowed wsX5_isSilo := goodIn_r _ [5, 6, 7, 4, 8] (by decide +kernel) (by decide +kernel)
set_option maxRecDepth 20000 in
theorem gX5_ifFlowed_X5_isSilo : GoodIn wsX5_ifFlowed (va_wsS RX5 96 yX5_isSilo wsX5_isSilo) := goodIn_app (goodIn_of _ (by decide +kernel)) ggX5_ifFlowed_X5_isSilo
set_option maxRecDepth 20000 in
theorem ggX5_ifFlowed_X5_isShip : GoodIn wsX5_ifFlowed wsX5_isShip := goodIn_r _ [11, 6, 7, 4, 8] (by decide +kernel) (by decide +kernel)
set_option maxRecDepth 20000 in
theorem gX5_ifFlowed_X5_isShip : GoodIn wsX5_ifFlowed (va_wsS RX5 87 yX5_isShip wsX5_isShip) := goodIn_app (goodIn_of _ (by decide +kernel)) ggX5_ifFlowed_X5_isShip
set_option maxRecDepth 20000 in
theorem ggX5_ifFlowed_X5_fails : GoodIn wsX5_ifFlowed wsX5_fails := goodIn_r _ [15, 1, 73, 74, 75, 76, 77, 78, 79, 80, 81, 82, 83, 84] (by decide +kernel) (by decide +kernel)
set_option maxRecDepth 20000 in
theorem gX5_ifFlowed_X5_fails : GoodIn wsX5_ifFlowed (wsV RX5 90 RX5 yX5_fails wsX5_fails) := goodIn_app (goodIn_of _ (by decide +kernel)) ggX5_ifFlowed_X5_fails
set_option maxRecDepth 20000 in
theorem ggX5_ifFlowed_X5_in : GoodIn wsX5_ifFlowed wsX5_in := goodIn_r _ [8] (by decide +kernel) (by decide +kernel)
set_option maxRecDepth 20000 in
theorem gX5_ifFlowed_X5_in : GoodIn wsX5_ifFlowed (va_wsS RX5 29 yX5_in wsX5_in) := goodIn_app (goodIn_of _ (by decide +kernel)) ggX5_ifFlowed_X5_in
set_option maxRecDepth 20000 in
theorem ggX5_ifFlowed_X5_wouldFlow : GoodIn wsX5_ifFlowed wsX5_wouldFlow := goodIn_r _ [19, 20, 21, 22, 4, 23, 24, 25, 26, 27, 28, 29, 30, 31, 32, 33, 34, 35, 36, 37, 38, 39, 40, 41, 42, 43, 44, 45, 46, 47, 48, 49, 50, 51, 52, 53, 54, 55, 56, 57, 58, 59, 60, 61, 62, 63, 64, 65, 66, 67, 68, 69, 70, 71, 72, 73, 74, 75, 76, 77, 78, 79, 80, 81, 82, 83, 84] (by decide +kernel) (by decide +kernel)
set_option maxRecDepth 20000 in
theorem gX5_ifFlowed_X5_wouldFlow : GoodIn wsX5_ifFlowed (wsV RX5 179 RX5 yX5_wouldFlow wsX5_wouldFlow) := goodIn_app (goodIn_of _ (by decide +kernel)) ggX5_ifFlowed_X5_wouldFlow
theorem dX5_ifFlowed_0 : decode cX5_ifFlowed 0 = .ok (.aload_n 0, 1) := by decide +kernel
theorem dX5_ifFlowed_1 : decode cX5_ifFlowed 1 = .ok (.iconst 0, 1) := by decide +kernel
theorem dX5_ifFlowed_2 : decode cX5_ifFlowed 2 = .ok (.putfield 25, 3) := by decide +kernel
theorem dX5_ifFlowed_5 : decode cX5_ifFlowed 5 = .ok (.iload_n 1, 1) := by decide +kernel
theorem dX5_ifFlowed_6 : decode cX5_ifFlowed 6 = .ok (.invokestatic 96, 3) := by decide +kernel
theorem dX5_ifFlowed_9 : decode cX5_ifFlowed 9 = .ok (.ifCond .eq 10, 3) := by decide +kernel
theorem dX5_ifFlowed_12 : decode cX5_ifFlowed 12 = .ok (.iload_n 2, 1) := by decide +kernel
theorem dX5_ifFlowed_13 : decode cX5_ifFlowed 13 = .ok (.invokestatic 87, 3) := by decide +kernel
theorem dX5_ifFlowed_16 : decode cX5_ifFlowed 16 = .ok (.ifCond .ne 9, 3) := by decide +kernel
theorem dX5_ifFlowed_19 : decode cX5_ifFlowed 19 = .ok (.aload_n 0, 1) := by decide +kernel
theorem dX5_ifFlowed_20 : decode cX5_ifFlowed 20 = .ok (.iconst 1, 1) := by decide +kernel
theorem dX5_ifFlowed_21 : decode cX5_ifFlowed 21 = .ok (.invokevirtual 90, 3) := by decide +kernel
theorem dX5_ifFlowed_24 : decode cX5_ifFlowed 24 = .ok (.ireturn, 1) := by decide +kernel
theorem dX5_ifFlowed_25 : decode cX5_ifFlowed 25 = .ok (.iload_n 3, 1) := by decide +kernel
theorem dX5_ifFlowed_26 : decode cX5_ifFlowed 26 = .ok (.iconst 1, 1) := by decide +kernel
theorem dX5_ifFlowed_27 : decode cX5_ifFlowed 27 = .ok (.bipush 24, 2) := by decide +kernel
theorem dX5_ifFlowed_29 : decode cX5_ifFlowed 29 = .ok (.invokestatic 29, 3) := by decide +kernel
theorem dX5_ifFlowed_32 : decode cX5_ifFlowed 32 = .ok (.ifCond .eq 25, 3) := by decide +kernel
theorem dX5_ifFlowed_35 : decode cX5_ifFlowed 35 = .ok (.iload 4, 2) := by decide +kernel
theorem dX5_ifFlowed_37 : decode cX5_ifFlowed 37 = .ok (.iconst 0, 1) := by decide +kernel
theorem dX5_ifFlowed_38 : decode cX5_ifFlowed 38 = .ok (.iconst 4, 1) := by decide +kernel
theorem dX5_ifFlowed_39 : decode cX5_ifFlowed 39 = .ok (.invokestatic 29, 3) := by decide +kernel
theorem dX5_ifFlowed_42 : decode cX5_ifFlowed 42 = .ok (.ifCond .eq 15, 3) := by decide +kernel
theorem dX5_ifFlowed_45 : decode cX5_ifFlowed 45 = .ok (.aload_n 0, 1) := by decide +kernel
theorem dX5_ifFlowed_46 : decode cX5_ifFlowed 46 = .ok (.iload_n 1, 1) := by decide +kernel
theorem dX5_ifFlowed_47 : decode cX5_ifFlowed 47 = .ok (.iload_n 2, 1) := by decide +kernel
theorem dX5_ifFlowed_48 : decode cX5_ifFlowed 48 = .ok (.iload_n 3, 1) := by decide +kernel
theorem dX5_ifFlowed_49 : decode cX5_ifFlowed 49 = .ok (.iload 4, 2) := by decide +kernel
theorem dX5_ifFlowed_51 : decode cX5_ifFlowed 51 = .ok (.invokevirtual 179, 3) := by decide +kernel
theorem dX5_ifFlowed_54 : decode cX5_ifFlowed 54 = .ok (.goto 8, 3) := by decide +kernel
theorem dX5_ifFlowed_57 : decode cX5_ifFlowed 57 = .ok (.aload_n 0, 1) := by decide +kernel
theorem dX5_ifFlowed_58 : decode cX5_ifFlowed 58 = .ok (.iconst 2, 1) := by decide +kernel
theorem dX5_ifFlowed_59 : decode cX5_ifFlowed 59 = .ok (.invokevirtual 90, 3) := by decide +kernel
theorem dX5_ifFlowed_62 : decode cX5_ifFlowed 62 = .ok (.ireturn, 1) := by decide +kernel
set_option maxRecDepth 20000 in
theorem ggX5_isMoreUrgent_X5_age : GoodIn wsX5_isMoreUrgent wsX5_age := goodIn_r _ [5, 6, 7, 8, 4, 9, 10, 19, 20, 21, 22, 23, 24, 25, 26, 27, 28, 29, 30] (by decide +kernel) (by decide +kernel)
set_option maxRecDepth 20000 in
theorem gX5_isMoreUrgent_X5_age : GoodIn wsX5_isMoreUrgent (wsV RX5 40 RX5 yX5_age wsX5_age) := goodIn_app (goodIn_of _ (by decide +kernel)) ggX5_isMoreUrgent_X5_age
set_option maxRecDepth 20000 in
theorem ggX5_isMoreUrgent_X5_sumFrom : GoodIn wsX5_isMoreUrgent wsX5_sumFrom := goodIn_r _ [14, 6, 7, 8, 4, 9, 10, 15, 16, 17, 18, 19, 20, 21, 22, 23, 24, 25, 26, 27, 28, 29, 30] (by decide +kernel) (by decide +kernel)
set_option maxRecDepth 20000 in
theorem gX5_isMoreUrgent_X5_sumFrom : GoodIn wsX5_isMoreUrgent (wsV RX5 70 RX5 yX5_sumFrom wsX5_sumFrom) := goodIn_app (goodIn_of _ (by decide +kernel)) ggX5_isMoreUrgent_X5_sumFrom
theorem dX5_isMoreUrgent_0 : decode cX5_isMoreUrgent 0 = .ok (.aload_n 0, 1) := by decide +kernel
theorem dX5_isMoreUrgent_1 : decode cX5_isMoreUrgent 1 = .ok (.iload_n 1, 1) := by decide +kernel
theorem dX5_isMoreUrgent_2 : decode cX5_isMoreUrgent 2 = .ok (.iconst 0, 1) := by decide +kernel
theorem dX5_isMoreUrgent_3 : decode cX5_isMoreUrgent 3 = .ok (.invokevirtual 40, 3) := by decide +kernel
theorem dX5_isMoreUrgent_6 : decode cX5_isMoreUrgent 6 = .ok (.aload_n 0, 1) := by decide +kernel
theorem dX5_isMoreUrgent_7 : decode cX5_isMoreUrgent 7 = .ok (.iload_n 2, 1) := by decide +kernel
theorem dX5_isMoreUrgent_8 : decode cX5_isMoreUrgent 8 = .ok (.iconst 0, 1) := by decide +kernel
theorem dX5_isMoreUrgent_9 : decode cX5_isMoreUrgent 9 = .ok (.invokevirtual 40, 3) := by decide +kernel
theorem dX5_isMoreUrgent_12 : decode cX5_isMoreUrgent 12 = .ok (.isub, 1) := by decide +kernel
theorem dX5_isMoreUrgent_13 : decode cX5_isMoreUrgent 13 = .ok (.istore_n 3, 1) := by decide +kernel
theorem dX5_isMoreUrgent_14 : decode cX5_isMoreUrgent 14 = .ok (.iload_n 3, 1) := by decide +kernel
theorem dX5_isMoreUrgent_15 : decode cX5_isMoreUrgent 15 = .ok (.ifCond .eq 15, 3) := by decide +kernel
theorem dX5_isMoreUrgent_18 : decode cX5_isMoreUrgent 18 = .ok (.iload_n 3, 1) := by decide +kernel
theorem dX5_isMoreUrgent_19 : decode cX5_isMoreUrgent 19 = .ok (.ifCond .le 7, 3) := by decide +kernel
theorem dX5_isMoreUrgent_22 : decode cX5_isMoreUrgent 22 = .ok (.iconst 1, 1) := by decide +kernel
theorem dX5_isMoreUrgent_23 : decode cX5_isMoreUrgent 23 = .ok (.goto 27, 3) := by decide +kernel
theorem dX5_isMoreUrgent_26 : decode cX5_isMoreUrgent 26 = .ok (.iconst 0, 1) := by decide +kernel
theorem dX5_isMoreUrgent_27 : decode cX5_isMoreUrgent 27 = .ok (.goto 23, 3) := by decide +kernel
theorem dX5_isMoreUrgent_30 : decode cX5_isMoreUrgent 30 = .ok (.aload_n 0, 1) := by decide +kernel
theorem dX5_isMoreUrgent_31 : decode cX5_isMoreUrgent 31 = .ok (.iload_n 1, 1) := by decide +kernel
theorem dX5_isMoreUrgent_32 : decode cX5_isMoreUrgent 32 = .ok (.iconst 0, 1) := by decide +kernel
theorem dX5_isMoreUrgent_33 : decode cX5_isMoreUrgent 33 = .ok (.invokevirtual 70, 3) := by decide +kernel
theorem dX5_isMoreUrgent_36 : decode cX5_isMoreUrgent 36 = .ok (.aload_n 0, 1) := by decide +kernel
theorem dX5_isMoreUrgent_37 : decode cX5_isMoreUrgent 37 = .ok (.iload_n 2, 1) := by decide +kernel
theorem dX5_isMoreUrgent_38 : decode cX5_isMoreUrgent 38 = .ok (.iconst 0, 1) := by decide +kernel
theorem dX5_isMoreUrgent_39 : decode cX5_isMoreUrgent 39 = .ok (.invokevirtual 70, 3) := by decide +kernel
theorem dX5_isMoreUrgent_42 : decode cX5_isMoreUrgent 42 = .ok (.if_icmp .le 7, 3) := by decide +kernel
theorem dX5_isMoreUrgent_45 : decode cX5_isMoreUrgent 45 = .ok (.iconst 1, 1) := by decide +kernel
theorem dX5_isMoreUrgent_46 : decode cX5_isMoreUrgent 46 = .ok (.goto 4, 3) := by decide +kernel
theorem dX5_isMoreUrgent_49 : decode cX5_isMoreUrgent 49 = .ok (.iconst 0, 1) := by decide +kernel
theorem dX5_isMoreUrgent_50 : decode cX5_isMoreUrgent 50 = .ok (.ireturn, 1) := by decide +kernel
set_option maxRecDepth 20000 in
theorem ggX5_mostUrgent_X5_of : GoodIn wsX5_mostUrgent wsX5_of := goodIn_r _ [5, 6, 23, 24, 25, 26, 27, 28, 29, 30, 31, 32, 33, 34] (by decide +kernel) (by decide +kernel)
set_option maxRecDepth 20000 in
theorem gX5_mostUrgent_X5_of : GoodIn wsX5_mostUrgent (wsV RX5 33 RX5 yX5_of wsX5_of) := goodIn_app (goodIn_of _ (by decide +kernel)) ggX5_mostUrgent_X5_of
set_option maxRecDepth 20000 in
theorem ggX5_mostUrgent_X5_isMoreUrgent : GoodIn wsX5_mostUrgent wsX5_isMoreUrgent := goodIn_r _ [10, 11, 12, 13, 4, 14, 1, 2, 3, 5, 6, 15, 16, 17, 18, 19, 20, 21, 22, 23, 24, 25, 26, 27, 28, 29, 30, 31, 32, 33, 34] (by decide +kernel) (by decide +kernel)
set_option maxRecDepth 20000 in
theorem gX5_mostUrgent_X5_isMoreUrgent : GoodIn wsX5_mostUrgent (wsV RX5 183 RX5 yX5_isMoreUrgent wsX5_isMoreUrgent) := goodIn_app (goodIn_of _ (by decide +kernel)) ggX5_mostUrgent_X5_isMoreUrgent
theorem dX5_mostUrgent_0 : decode cX5_mostUrgent 0 = .ok (.iconst (-1), 1) := by decide +kernel
theorem dX5_mostUrgent_1 : decode cX5_mostUrgent 1 = .ok (.istore_n 1, 1) := by decide +kernel
theorem dX5_mostUrgent_2 : decode cX5_mostUrgent 2 = .ok (.iconst 0, 1) := by decide +kernel
theorem dX5_mostUrgent_3 : decode cX5_mostUrgent 3 = .ok (.istore_n 2, 1) := by decide +kernel
theorem dX5_mostUrgent_4 : decode cX5_mostUrgent 4 = .ok (.iload_n 2, 1) := by decide +kernel
theorem dX5_mostUrgent_5 : decode cX5_mostUrgent 5 = .ok (.iconst 4, 1) := by decide +kernel
theorem dX5_mostUrgent_6 : decode cX5_mostUrgent 6 = .ok (.if_icmp .ge 48, 3) := by decide +kernel
theorem dX5_mostUrgent_9 : decode cX5_mostUrgent 9 = .ok (.aload_n 0, 1) := by decide +kernel
theorem dX5_mostUrgent_10 : decode cX5_mostUrgent 10 = .ok (.iload_n 2, 1) := by decide +kernel
theorem dX5_mostUrgent_11 : decode cX5_mostUrgent 11 = .ok (.iconst 3, 1) := by decide +kernel
theorem dX5_mostUrgent_12 : decode cX5_mostUrgent 12 = .ok (.invokevirtual 33, 3) := by decide +kernel
theorem dX5_mostUrgent_15 : decode cX5_mostUrgent 15 = .ok (.ifCond .le 21, 3) := by decide +kernel
theorem dX5_mostUrgent_18 : decode cX5_mostUrgent 18 = .ok (.iload_n 1, 1) := by decide +kernel
theorem dX5_mostUrgent_19 : decode cX5_mostUrgent 19 = .ok (.iconst (-1), 1) := by decide +kernel
theorem dX5_mostUrgent_20 : decode cX5_mostUrgent 20 = .ok (.if_icmp .eq 12, 3) := by decide +kernel
theorem dX5_mostUrgent_23 : decode cX5_mostUrgent 23 = .ok (.aload_n 0, 1) := by decide +kernel
theorem dX5_mostUrgent_24 : decode cX5_mostUrgent 24 = .ok (.iload_n 2, 1) := by decide +kernel
theorem dX5_mostUrgent_25 : decode cX5_mostUrgent 25 = .ok (.iload_n 1, 1) := by decide +kernel
theorem dX5_mostUrgent_26 : decode cX5_mostUrgent 26 = .ok (.invokevirtual 183, 3) := by decide +kernel
theorem dX5_mostUrgent_29 : decode cX5_mostUrgent 29 = .ok (.ifCond .eq 7, 3) := by decide +kernel
theorem dX5_mostUrgent_32 : decode cX5_mostUrgent 32 = .ok (.iconst 1, 1) := by decide +kernel
theorem dX5_mostUrgent_33 : decode cX5_mostUrgent 33 = .ok (.goto 4, 3) := by decide +kernel
theorem dX5_mostUrgent_36 : decode cX5_mostUrgent 36 = .ok (.iconst 0, 1) := by decide +kernel
theorem dX5_mostUrgent_37 : decode cX5_mostUrgent 37 = .ok (.istore_n 3, 1) := by decide +kernel
theorem dX5_mostUrgent_38 : decode cX5_mostUrgent 38 = .ok (.iload_n 3, 1) := by decide +kernel
theorem dX5_mostUrgent_39 : decode cX5_mostUrgent 39 = .ok (.ifCond .eq 7, 3) := by decide +kernel
theorem dX5_mostUrgent_42 : decode cX5_mostUrgent 42 = .ok (.iload_n 2, 1) := by decide +kernel
theorem dX5_mostUrgent_43 : decode cX5_mostUrgent 43 = .ok (.goto 4, 3) := by decide +kernel
theorem dX5_mostUrgent_46 : decode cX5_mostUrgent 46 = .ok (.iload_n 1, 1) := by decide +kernel
theorem dX5_mostUrgent_47 : decode cX5_mostUrgent 47 = .ok (.istore_n 1, 1) := by decide +kernel
theorem dX5_mostUrgent_48 : decode cX5_mostUrgent 48 = .ok (.iinc 2 1, 3) := by decide +kernel
theorem dX5_mostUrgent_51 : decode cX5_mostUrgent 51 = .ok (.goto (-47), 3) := by decide +kernel
theorem dX5_mostUrgent_54 : decode cX5_mostUrgent 54 = .ok (.iload_n 1, 1) := by decide +kernel
theorem dX5_mostUrgent_55 : decode cX5_mostUrgent 55 = .ok (.ireturn, 1) := by decide +kernel
set_option maxRecDepth 20000 in
theorem ggX5_urgent_X5_mostUrgent : GoodIn wsX5_urgent wsX5_mostUrgent := goodIn_r _ [6, 7, 8, 9, 5, 10, 11, 12, 13, 14, 15, 16, 17, 18, 19, 20, 21, 22, 23, 24, 25, 26, 27, 28, 29, 30, 31, 32, 33, 34, 35, 36, 37, 38, 39] (by decide +kernel) (by decide +kernel)
set_option maxRecDepth 20000 in
theorem gX5_urgent_X5_mostUrgent : GoodIn wsX5_urgent (wsV RX5 187 RX5 yX5_mostUrgent wsX5_mostUrgent) := goodIn_app (goodIn_of _ (by decide +kernel)) ggX5_urgent_X5_mostUrgent
theorem dX5_urgent_0 : decode cX5_urgent 0 = .ok (.aload_n 0, 1) := by decide +kernel
theorem dX5_urgent_1 : decode cX5_urgent 1 = .ok (.iconst 0, 1) := by decide +kernel
theorem dX5_urgent_2 : decode cX5_urgent 2 = .ok (.putfield 25, 3) := by decide +kernel
theorem dX5_urgent_5 : decode cX5_urgent 5 = .ok (.aload_n 0, 1) := by decide +kernel
theorem dX5_urgent_6 : decode cX5_urgent 6 = .ok (.invokevirtual 187, 3) := by decide +kernel
theorem dX5_urgent_9 : decode cX5_urgent 9 = .ok (.ireturn, 1) := by decide +kernel
set_option maxRecDepth 20000 in
theorem ggX5_archAhead_X5_putAside : GoodIn wsX5_archAhead wsX5_putAside := goodIn_r _ [5, 6, 7, 36, 37, 38, 39, 40, 41, 42, 43, 44, 45, 46, 47] (by decide +kernel) (by decide +kernel)
set_option maxRecDepth 20000 in
theorem gX5_archAhead_X5_putAside : GoodIn wsX5_archAhead (wsV RX5 173 RX5 yX5_putAside wsX5_putAside) := goodIn_app (goodIn_of _ (by decide +kernel)) ggX5_archAhead_X5_putAside
set_option maxRecDepth 20000 in
theorem ggX5_archAhead_X5_passesDay : GoodIn wsX5_archAhead wsX5_passesDay := goodIn_r _ [11, 7, 12, 13, 14, 4, 15, 16, 17, 18, 19, 20, 21, 22, 23, 24, 25, 26, 27, 28, 29, 30, 31, 36, 37, 38, 39, 40, 41, 42, 43, 44, 45, 46, 47] (by decide +kernel) (by decide +kernel)
set_option maxRecDepth 20000 in
theorem gX5_archAhead_X5_passesDay : GoodIn wsX5_archAhead (wsV RX5 80 RX5 yX5_passesDay wsX5_passesDay) := goodIn_app (goodIn_of _ (by decide +kernel)) ggX5_archAhead_X5_passesDay
set_option maxRecDepth 20000 in
theorem ggX5_archAhead_X5_takeBack : GoodIn wsX5_archAhead wsX5_takeBack := goodIn_r _ [35, 7, 6, 36, 37, 38, 39, 40, 41, 42, 43, 44, 45, 46, 47] (by decide +kernel) (by decide +kernel)
set_option maxRecDepth 20000 in
theorem gX5_archAhead_X5_takeBack : GoodIn wsX5_archAhead (wsV RX5 176 RX5 yX5_takeBack wsX5_takeBack) := goodIn_app (goodIn_of _ (by decide +kernel)) ggX5_archAhead_X5_takeBack
theorem dX5_archAhead_0 : decode cX5_archAhead 0 = .ok (.aload_n 0, 1) := by decide +kernel
theorem dX5_archAhead_1 : decode cX5_archAhead 1 = .ok (.invokevirtual 173, 3) := by decide +kernel
theorem dX5_archAhead_4 : decode cX5_archAhead 4 = .ok (.iconst (-1), 1) := by decide +kernel
theorem dX5_archAhead_5 : decode cX5_archAhead 5 = .ok (.istore_n 1, 1) := by decide +kernel
theorem dX5_archAhead_6 : decode cX5_archAhead 6 = .ok (.iconst 1, 1) := by decide +kernel
theorem dX5_archAhead_7 : decode cX5_archAhead 7 = .ok (.istore_n 2, 1) := by decide +kernel
theorem dX5_archAhead_8 : decode cX5_archAhead 8 = .ok (.iload_n 2, 1) := by decide +kernel
theorem dX5_archAhead_9 : decode cX5_archAhead 9 = .ok (.bipush 60, 2) := by decide +kernel
theorem dX5_archAhead_11 : decode cX5_archAhead 11 = .ok (.if_icmp .gt 27, 3) := by decide +kernel
theorem dX5_archAhead_14 : decode cX5_archAhead 14 = .ok (.iload_n 1, 1) := by decide +kernel
theorem dX5_archAhead_15 : decode cX5_archAhead 15 = .ok (.iconst (-1), 1) := by decide +kernel
theorem dX5_archAhead_16 : decode cX5_archAhead 16 = .ok (.if_icmp .ne 22, 3) := by decide +kernel
theorem dX5_archAhead_19 : decode cX5_archAhead 19 = .ok (.aload_n 0, 1) := by decide +kernel
theorem dX5_archAhead_20 : decode cX5_archAhead 20 = .ok (.invokevirtual 80, 3) := by decide +kernel
theorem dX5_archAhead_23 : decode cX5_archAhead 23 = .ok (.ifCond .le 7, 3) := by decide +kernel
theorem dX5_archAhead_26 : decode cX5_archAhead 26 = .ok (.iload_n 2, 1) := by decide +kernel
theorem dX5_archAhead_27 : decode cX5_archAhead 27 = .ok (.goto 4, 3) := by decide +kernel
theorem dX5_archAhead_30 : decode cX5_archAhead 30 = .ok (.iconst (-1), 1) := by decide +kernel
theorem dX5_archAhead_31 : decode cX5_archAhead 31 = .ok (.istore_n 1, 1) := by decide +kernel
theorem dX5_archAhead_32 : decode cX5_archAhead 32 = .ok (.iinc 2 1, 3) := by decide +kernel
theorem dX5_archAhead_35 : decode cX5_archAhead 35 = .ok (.goto (-27), 3) := by decide +kernel
theorem dX5_archAhead_38 : decode cX5_archAhead 38 = .ok (.aload_n 0, 1) := by decide +kernel
theorem dX5_archAhead_39 : decode cX5_archAhead 39 = .ok (.invokevirtual 176, 3) := by decide +kernel
theorem dX5_archAhead_42 : decode cX5_archAhead 42 = .ok (.iload_n 1, 1) := by decide +kernel
theorem dX5_archAhead_43 : decode cX5_archAhead 43 = .ok (.ireturn, 1) := by decide +kernel
set_option maxRecDepth 20000 in
theorem ggX5_nextArch_X5_archAhead : GoodIn wsX5_nextArch wsX5_archAhead := goodIn_r _ [6, 7, 8, 9, 5, 10, 11, 12, 13, 14, 15, 16, 17, 18, 19, 20, 21, 22, 23, 24, 25, 26, 27, 28, 29, 30, 31, 32, 33, 34, 35, 36, 37, 38, 39, 40, 41, 42, 43, 44, 45, 46, 47, 48, 49, 50, 51, 52] (by decide +kernel) (by decide +kernel)
set_option maxRecDepth 20000 in
theorem gX5_nextArch_X5_archAhead : GoodIn wsX5_nextArch (wsV RX5 190 RX5 yX5_archAhead wsX5_archAhead) := goodIn_app (goodIn_of _ (by decide +kernel)) ggX5_nextArch_X5_archAhead
theorem dX5_nextArch_0 : decode cX5_nextArch 0 = .ok (.aload_n 0, 1) := by decide +kernel
theorem dX5_nextArch_1 : decode cX5_nextArch 1 = .ok (.iconst 0, 1) := by decide +kernel
theorem dX5_nextArch_2 : decode cX5_nextArch 2 = .ok (.putfield 25, 3) := by decide +kernel
theorem dX5_nextArch_5 : decode cX5_nextArch 5 = .ok (.aload_n 0, 1) := by decide +kernel
theorem dX5_nextArch_6 : decode cX5_nextArch 6 = .ok (.invokevirtual 190, 3) := by decide +kernel
theorem dX5_nextArch_9 : decode cX5_nextArch 9 = .ok (.ireturn, 1) := by decide +kernel
set_option maxRecDepth 20000 in
theorem ggX5_needed_X5_of : GoodIn wsX5_needed wsX5_of := goodIn_r _ [5, 6, 19, 20, 21, 22, 23, 24, 25, 26, 27, 28, 29, 30] (by decide +kernel) (by decide +kernel)
set_option maxRecDepth 20000 in
theorem gX5_needed_X5_of : GoodIn wsX5_needed (wsV RX5 33 RX5 yX5_of wsX5_of) := goodIn_app (goodIn_of _ (by decide +kernel)) ggX5_needed_X5_of
set_option maxRecDepth 20000 in
theorem ggX5_needed_X5_isHeavy : GoodIn wsX5_needed wsX5_isHeavy := goodIn_r _ [10, 6, 1, 2, 3, 4, 5, 11, 12, 13, 14, 15, 16, 17, 18, 19, 20, 21, 22, 23, 24, 25, 26, 27, 28, 29, 30] (by decide +kernel) (by decide +kernel)
set_option maxRecDepth 20000 in
theorem gX5_needed_X5_isHeavy : GoodIn wsX5_needed (wsV RX5 84 RX5 yX5_isHeavy wsX5_isHeavy) := goodIn_app (goodIn_of _ (by decide +kernel)) ggX5_needed_X5_isHeavy
theorem dX5_needed_0 : decode cX5_needed 0 = .ok (.aload_n 0, 1) := by decide +kernel
theorem dX5_needed_1 : decode cX5_needed 1 = .ok (.iload_n 1, 1) := by decide +kernel
theorem dX5_needed_2 : decode cX5_needed 2 = .ok (.iconst 1, 1) := by decide +kernel
theorem dX5_needed_3 : decode cX5_needed 3 = .ok (.invokevirtual 33, 3) := by decide +kernel
theorem dX5_needed_6 : decode cX5_needed 6 = .ok (.ifCond .ne 7, 3) := by decide +kernel
theorem dX5_needed_9 : decode cX5_needed 9 = .ok (.iconst 0, 1) := by decide +kernel
theorem dX5_needed_10 : decode cX5_needed 10 = .ok (.goto 23, 3) := by decide +kernel
theorem dX5_needed_13 : decode cX5_needed 13 = .ok (.aload_n 0, 1) := by decide +kernel
theorem dX5_needed_14 : decode cX5_needed 14 = .ok (.iload_n 1, 1) := by decide +kernel
theorem dX5_needed_15 : decode cX5_needed 15 = .ok (.invokevirtual 84, 3) := by decide +kernel
theorem dX5_needed_18 : decode cX5_needed 18 = .ok (.ifCond .eq 7, 3) := by decide +kernel
theorem dX5_needed_21 : decode cX5_needed 21 = .ok (.iconst 1, 1) := by decide +kernel
theorem dX5_needed_22 : decode cX5_needed 22 = .ok (.goto 11, 3) := by decide +kernel
theorem dX5_needed_25 : decode cX5_needed 25 = .ok (.iconst 3, 1) := by decide +kernel
theorem dX5_needed_26 : decode cX5_needed 26 = .ok (.aload_n 0, 1) := by decide +kernel
theorem dX5_needed_27 : decode cX5_needed 27 = .ok (.iload_n 1, 1) := by decide +kernel
theorem dX5_needed_28 : decode cX5_needed 28 = .ok (.iconst 2, 1) := by decide +kernel
theorem dX5_needed_29 : decode cX5_needed 29 = .ok (.invokevirtual 33, 3) := by decide +kernel
theorem dX5_needed_32 : decode cX5_needed 32 = .ok (.isub, 1) := by decide +kernel
theorem dX5_needed_33 : decode cX5_needed 33 = .ok (.ireturn, 1) := by decide +kernel
set_option maxRecDepth 20000 in
theorem ggX5_shakesNeeded_X5_isSilo : GoodIn wsX5_shakesNeeded wsX5_isSilo := goodIn_r _ [5, 6, 7, 4, 8] (by decide +kernel) (by decide +kernel)
set_option maxRecDepth 20000 in
theorem gX5_shakesNeeded_X5_isSilo : GoodIn wsX5_shakesNeeded (va_wsS RX5 96 yX5_isSilo wsX5_isSilo) := goodIn_app (goodIn_of _ (by decide +kernel)) ggX5_shakesNeeded_X5_isSilo
set_option maxRecDepth 20000 in
theorem ggX5_shakesNeeded_X5_needed : GoodIn wsX5_shakesNeeded wsX5_needed := goodIn_r _ [12, 13, 14, 15, 4, 16, 17, 18, 19, 20, 21, 22, 23, 24, 25, 26, 27, 28, 29, 34, 35, 36, 37, 38, 39, 40, 41, 42, 43, 44, 45] (by decide +kernel) (by decide +kernel)
set_option maxRecDepth 20000 in
theorem gX5_shakesNeeded_X5_needed : GoodIn wsX5_shakesNeeded (wsV RX5 193 RX5 yX5_needed wsX5_needed) := goodIn_app (goodIn_of _ (by decide +kernel)) ggX5_shakesNeeded_X5_needed
set_option maxRecDepth 20000 in
theorem ggX5_shakesNeeded_X5_fails : GoodIn wsX5_shakesNeeded wsX5_fails := goodIn_r _ [33, 1, 34, 35, 36, 37, 38, 39, 40, 41, 42, 43, 44, 45] (by decide +kernel) (by decide +kernel)
set_option maxRecDepth 20000 in
theorem gX5_shakesNeeded_X5_fails : GoodIn wsX5_shakesNeeded (wsV RX5 90 RX5 yX5_fails wsX5_fails) := goodIn_app (goodIn_of _ (by decide +kernel)) ggX5_shakesNeeded_X5_fails
theorem dX5_shakesNeeded_0 : decode cX5_shakesNeeded 0 = .ok (.aload_n 0, 1) := by decide +kernel
theorem dX5_shakesNeeded_1 : decode cX5_shakesNeeded 1 = .ok (.iconst 0, 1) := by decide +kernel
theorem dX5_shakesNeeded_2 : decode cX5_shakesNeeded 2 = .ok (.putfield 25, 3) := by decide +kernel
theorem dX5_shakesNeeded_5 : decode cX5_shakesNeeded 5 = .ok (.iload_n 1, 1) := by decide +kernel
theorem dX5_shakesNeeded_6 : decode cX5_shakesNeeded 6 = .ok (.invokestatic 96, 3) := by decide +kernel
theorem dX5_shakesNeeded_9 : decode cX5_shakesNeeded 9 = .ok (.ifCond .eq 11, 3) := by decide +kernel
theorem dX5_shakesNeeded_12 : decode cX5_shakesNeeded 12 = .ok (.aload_n 0, 1) := by decide +kernel
theorem dX5_shakesNeeded_13 : decode cX5_shakesNeeded 13 = .ok (.iload_n 1, 1) := by decide +kernel
theorem dX5_shakesNeeded_14 : decode cX5_shakesNeeded 14 = .ok (.invokevirtual 193, 3) := by decide +kernel
theorem dX5_shakesNeeded_17 : decode cX5_shakesNeeded 17 = .ok (.goto 8, 3) := by decide +kernel
theorem dX5_shakesNeeded_20 : decode cX5_shakesNeeded 20 = .ok (.aload_n 0, 1) := by decide +kernel
theorem dX5_shakesNeeded_21 : decode cX5_shakesNeeded 21 = .ok (.iconst 1, 1) := by decide +kernel
theorem dX5_shakesNeeded_22 : decode cX5_shakesNeeded 22 = .ok (.invokevirtual 90, 3) := by decide +kernel
theorem dX5_shakesNeeded_25 : decode cX5_shakesNeeded 25 = .ok (.ireturn, 1) := by decide +kernel
set_option maxRecDepth 20000 in
theorem ggX5_soft_X5_of : GoodIn wsX5_soft wsX5_of := goodIn_r _ [5, 6, 27, 28, 29, 30, 31, 32, 33, 34, 35, 36, 37, 38] (by decide +kernel) (by decide +kernel)
set_option maxRecDepth 20000 in
theorem gX5_soft_X5_of : GoodIn wsX5_soft (wsV RX5 33 RX5 yX5_of wsX5_of) := goodIn_app (goodIn_of _ (by decide +kernel)) ggX5_soft_X5_of
set_option maxRecDepth 20000 in
theorem ggX5_soft_X5_setOf : GoodIn wsX5_soft wsX5_setOf := goodIn_r _ [10, 6, 11, 12, 13, 4, 14, 1, 2, 3, 5, 27, 28, 29, 30, 31, 32, 33, 34, 35, 36, 37, 38] (by decide +kernel) (by decide +kernel)
set_option maxRecDepth 20000 in
theorem gX5_soft_X5_setOf : GoodIn wsX5_soft (wsV RX5 46 RX5 yX5_setOf wsX5_setOf) := goodIn_app (goodIn_of _ (by decide +kernel)) ggX5_soft_X5_setOf
set_option maxRecDepth 20000 in
theorem ggX5_soft_X5_tonnes : GoodIn wsX5_soft wsX5_tonnes := goodIn_r _ [18, 1, 2, 3, 4, 5, 6, 27, 28, 29, 30, 31, 32, 33, 34, 35, 36, 37, 38] (by decide +kernel) (by decide +kernel)
set_option maxRecDepth 20000 in
theorem gX5_soft_X5_tonnes : GoodIn wsX5_soft (wsV RX5 43 RX5 yX5_tonnes wsX5_tonnes) := goodIn_app (goodIn_of _ (by decide +kernel)) ggX5_soft_X5_tonnes
set_option maxRecDepth 20000 in
theorem ggX5_soft_X5_inSilos : GoodIn wsX5_soft wsX5_inSilos := goodIn_r _ [22, 23, 24, 25, 4, 26, 1, 2, 3, 5, 6, 15, 16, 17, 18, 27, 28, 29, 30, 31, 32, 33, 34, 35, 36, 37, 38] (by decide +kernel) (by decide +kernel)
set_option maxRecDepth 20000 in
theorem gX5_soft_X5_inSilos : GoodIn wsX5_soft (wsV RX5 158 RX5 yX5_inSilos wsX5_inSilos) := goodIn_app (goodIn_of _ (by decide +kernel)) ggX5_soft_X5_inSilos
theorem dX5_soft_0 : decode cX5_soft 0 = .ok (.iconst 0, 1) := by decide +kernel
theorem dX5_soft_1 : decode cX5_soft 1 = .ok (.istore_n 1, 1) := by decide +kernel
theorem dX5_soft_2 : decode cX5_soft 2 = .ok (.iconst 0, 1) := by decide +kernel
theorem dX5_soft_3 : decode cX5_soft 3 = .ok (.istore_n 2, 1) := by decide +kernel
theorem dX5_soft_4 : decode cX5_soft 4 = .ok (.iload_n 2, 1) := by decide +kernel
theorem dX5_soft_5 : decode cX5_soft 5 = .ok (.iconst 4, 1) := by decide +kernel
theorem dX5_soft_6 : decode cX5_soft 6 = .ok (.if_icmp .ge 49, 3) := by decide +kernel
theorem dX5_soft_9 : decode cX5_soft 9 = .ok (.iconst 0, 1) := by decide +kernel
theorem dX5_soft_10 : decode cX5_soft 10 = .ok (.istore_n 3, 1) := by decide +kernel
theorem dX5_soft_11 : decode cX5_soft 11 = .ok (.iload_n 3, 1) := by decide +kernel
theorem dX5_soft_12 : decode cX5_soft 12 = .ok (.aload_n 0, 1) := by decide +kernel
theorem dX5_soft_13 : decode cX5_soft 13 = .ok (.iload_n 2, 1) := by decide +kernel
theorem dX5_soft_14 : decode cX5_soft 14 = .ok (.iconst 3, 1) := by decide +kernel
theorem dX5_soft_15 : decode cX5_soft 15 = .ok (.invokevirtual 33, 3) := by decide +kernel
theorem dX5_soft_18 : decode cX5_soft 18 = .ok (.if_icmp .ge 31, 3) := by decide +kernel
theorem dX5_soft_21 : decode cX5_soft 21 = .ok (.iload_n 1, 1) := by decide +kernel
theorem dX5_soft_22 : decode cX5_soft 22 = .ok (.aload_n 0, 1) := by decide +kernel
theorem dX5_soft_23 : decode cX5_soft 23 = .ok (.iload_n 2, 1) := by decide +kernel
theorem dX5_soft_24 : decode cX5_soft 24 = .ok (.iload_n 3, 1) := by decide +kernel
theorem dX5_soft_25 : decode cX5_soft 25 = .ok (.invokevirtual 46, 3) := by decide +kernel
theorem dX5_soft_28 : decode cX5_soft 28 = .ok (.ifCond .ne 12, 3) := by decide +kernel
theorem dX5_soft_31 : decode cX5_soft 31 = .ok (.aload_n 0, 1) := by decide +kernel
theorem dX5_soft_32 : decode cX5_soft 32 = .ok (.iload_n 2, 1) := by decide +kernel
theorem dX5_soft_33 : decode cX5_soft 33 = .ok (.iload_n 3, 1) := by decide +kernel
theorem dX5_soft_34 : decode cX5_soft 34 = .ok (.invokevirtual 43, 3) := by decide +kernel
theorem dX5_soft_37 : decode cX5_soft 37 = .ok (.goto 4, 3) := by decide +kernel
theorem dX5_soft_40 : decode cX5_soft 40 = .ok (.iconst 0, 1) := by decide +kernel
theorem dX5_soft_41 : decode cX5_soft 41 = .ok (.iadd, 1) := by decide +kernel
theorem dX5_soft_42 : decode cX5_soft 42 = .ok (.istore_n 1, 1) := by decide +kernel
theorem dX5_soft_43 : decode cX5_soft 43 = .ok (.iinc 3 1, 3) := by decide +kernel
theorem dX5_soft_46 : decode cX5_soft 46 = .ok (.goto (-35), 3) := by decide +kernel
theorem dX5_soft_49 : decode cX5_soft 49 = .ok (.iinc 2 1, 3) := by decide +kernel
theorem dX5_soft_52 : decode cX5_soft 52 = .ok (.goto (-48), 3) := by decide +kernel
theorem dX5_soft_55 : decode cX5_soft 55 = .ok (.aload_n 0, 1) := by decide +kernel
theorem dX5_soft_56 : decode cX5_soft 56 = .ok (.invokevirtual 158, 3) := by decide +kernel
theorem dX5_soft_59 : decode cX5_soft 59 = .ok (.istore_n 2, 1) := by decide +kernel
theorem dX5_soft_60 : decode cX5_soft 60 = .ok (.iload_n 2, 1) := by decide +kernel
theorem dX5_soft_61 : decode cX5_soft 61 = .ok (.ifCond .ne 7, 3) := by decide +kernel
theorem dX5_soft_64 : decode cX5_soft 64 = .ok (.dconst 1, 1) := by decide +kernel
theorem dX5_soft_65 : decode cX5_soft 65 = .ok (.goto 8, 3) := by decide +kernel
theorem dX5_soft_68 : decode cX5_soft 68 = .ok (.iload_n 1, 1) := by decide +kernel
theorem dX5_soft_69 : decode cX5_soft 69 = .ok (.i2d, 1) := by decide +kernel
theorem dX5_soft_70 : decode cX5_soft 70 = .ok (.iload_n 2, 1) := by decide +kernel
theorem dX5_soft_71 : decode cX5_soft 71 = .ok (.i2d, 1) := by decide +kernel
theorem dX5_soft_72 : decode cX5_soft 72 = .ok (.ddiv, 1) := by decide +kernel
theorem dX5_soft_73 : decode cX5_soft 73 = .ok (.dreturn, 1) := by decide +kernel
set_option maxRecDepth 20000 in
theorem ggX5_softness_X5_soft : GoodIn wsX5_softness wsX5_soft := goodIn_r _ [6, 7, 8, 9, 5, 10, 11, 12, 13, 14, 15, 16, 17, 18, 19, 20, 21, 22, 23, 24, 25, 26, 27, 28, 29, 30, 31, 32, 33, 34, 35, 36, 37, 38, 39, 40, 41, 42, 43] (by decide +kernel) (by decide +kernel)
set_option maxRecDepth 20000 in
theorem gX5_softness_X5_soft : GoodIn wsX5_softness (wsV RX5 196 RX5 yX5_soft wsX5_soft) := goodIn_app (goodIn_of _ (by decide +kernel)) ggX5_softness_X5_soft
theorem dX5_softness_0 : decode cX5_softness 0 = .ok (.aload_n 0, 1) := by decide +kernel
theorem dX5_softness_1 : decode cX5_softness 1 = .ok (.iconst 0, 1) := by decide +kernel
theorem dX5_softness_2 : decode cX5_softness 2 = .ok (.putfield 25, 3) := by decide +kernel
theorem dX5_softness_5 : decode cX5_softness 5 = .ok (.aload_n 0, 1) := by decide +kernel
theorem dX5_softness_6 : decode cX5_softness 6 = .ok (.invokevirtual 196, 3) := by decide +kernel
theorem dX5_softness_9 : decode cX5_softness 9 = .ok (.dreturn, 1) := by decide +kernel
theorem dX5_hashes_0 : decode cX5_hashes 0 = .ok (.aload_n 0, 1) := by decide +kernel
theorem dX5_hashes_1 : decode cX5_hashes 1 = .ok (.ldc2_w 200, 3) := by decide +kernel
theorem dX5_hashes_4 : decode cX5_hashes 4 = .ok (.aload_n 0, 1) := by decide +kernel
theorem dX5_hashes_5 : decode cX5_hashes 5 = .ok (.getfield 202, 3) := by decide +kernel
theorem dX5_hashes_8 : decode cX5_hashes 8 = .ok (.lmul, 1) := by decide +kernel
theorem dX5_hashes_9 : decode cX5_hashes 9 = .ok (.lload_n 1, 1) := by decide +kernel
theorem dX5_hashes_10 : decode cX5_hashes 10 = .ok (.ladd, 1) := by decide +kernel
theorem dX5_hashes_11 : decode cX5_hashes 11 = .ok (.putfield 202, 3) := by decide +kernel
theorem dX5_hashes_14 : decode cX5_hashes 14 = .ok (.return_, 1) := by decide +kernel
set_option maxRecDepth 20000 in
theorem ggX5_hashesSilo_X5_tellsSilo : GoodIn wsX5_hashesSilo wsX5_tellsSilo := goodIn_r _ [5, 6, 7, 8, 4, 9, 10, 11, 12, 13, 14, 15, 16, 17, 18, 19, 20, 21, 22, 23, 24, 25, 26, 27, 28, 29, 30, 89, 90, 91, 92, 93, 94, 95, 96, 97, 98, 99, 100] (by decide +kernel) (by decide +kernel)
set_option maxRecDepth 20000 in
theorem gX5_hashesSilo_X5_tellsSilo : GoodIn wsX5_hashesSilo (wsV RX5 152 RX5 yX5_tellsSilo wsX5_tellsSilo) := goodIn_app (goodIn_of _ (by decide +kernel)) ggX5_hashesSilo_X5_tellsSilo
set_option maxRecDepth 20000 in
theorem ggX5_hashesSilo_X5_hashes : GoodIn wsX5_hashesSilo wsX5_hashes := goodIn_r _ [34, 35, 36, 89, 90, 91, 92, 93, 94, 95, 96, 97, 98, 99, 100] (by decide +kernel) (by decide +kernel)
set_option maxRecDepth 20000 in
theorem gX5_hashesSilo_X5_hashes : GoodIn wsX5_hashesSilo (wsV RX5 206 RX5 yX5_hashes wsX5_hashes) := goodIn_app (goodIn_of _ (by decide +kernel)) ggX5_hashesSilo_X5_hashes
set_option maxRecDepth 20000 in
theorem ggX5_hashesSilo_X5_of : GoodIn wsX5_hashesSilo wsX5_of := goodIn_r _ [13, 14, 89, 90, 91, 92, 93, 94, 95, 96, 97, 98, 99, 100] (by decide +kernel) (by decide +kernel)
set_option maxRecDepth 20000 in
theorem gX5_hashesSilo_X5_of : GoodIn wsX5_hashesSilo (wsV RX5 33 RX5 yX5_of wsX5_of) := goodIn_app (goodIn_of _ (by decide +kernel)) ggX5_hashesSilo_X5_of
set_option maxRecDepth 20000 in
theorem ggX5_hashesSilo_X5_tellsLayer : GoodIn wsX5_hashesSilo wsX5_tellsLayer := goodIn_r _ [40, 15, 16, 17, 4, 18, 10, 11, 12, 13, 14, 27, 28, 29, 30, 23, 24, 25, 26, 89, 90, 91, 92, 93, 94, 95, 96, 97, 98, 99, 100] (by decide +kernel) (by decide +kernel)
set_option maxRecDepth 20000 in
theorem gX5_hashesSilo_X5_tellsLayer : GoodIn wsX5_hashesSilo (wsV RX5 155 RX5 yX5_tellsLayer wsX5_tellsLayer) := goodIn_app (goodIn_of _ (by decide +kernel)) ggX5_hashesSilo_X5_tellsLayer
set_option maxRecDepth 20000 in
theorem ggX5_hashesSilo_X5_needed : GoodIn wsX5_hashesSilo wsX5_needed := goodIn_r _ [44, 10, 11, 12, 4, 13, 14, 45, 46, 47, 48, 6, 7, 8, 9, 15, 16, 17, 18, 89, 90, 91, 92, 93, 94, 95, 96, 97, 98, 99, 100] (by decide +kernel) (by decide +kernel)
set_option maxRecDepth 20000 in
theorem gX5_hashesSilo_X5_needed : GoodIn wsX5_hashesSilo (wsV RX5 193 RX5 yX5_needed wsX5_needed) := goodIn_app (goodIn_of _ (by decide +kernel)) ggX5_hashesSilo_X5_needed
set_option maxRecDepth 20000 in
theorem ggX5_hashesSilo_X5_reason : GoodIn wsX5_hashesSilo wsX5_reason := goodIn_r _ [52, 10, 11, 12, 4, 13, 14, 53, 54, 55, 56, 19, 20, 21, 22, 23, 24, 25, 26, 27, 28, 29, 30, 89, 90, 91, 92, 93, 94, 95, 96, 97, 98, 99, 100] (by decide +kernel) (by decide +kernel)
set_option maxRecDepth 20000 in
theorem gX5_hashesSilo_X5_reason : GoodIn wsX5_hashesSilo (wsV RX5 170 RX5 yX5_reason wsX5_reason) := goodIn_app (goodIn_of _ (by decide +kernel)) ggX5_hashesSilo_X5_reason
set_option maxRecDepth 20000 in
theorem ggX5_hashesSilo_X5_wouldFlow : GoodIn wsX5_hashesSilo wsX5_wouldFlow := goodIn_r _ [60, 61, 62, 63, 4, 64, 65, 14, 66, 67, 68, 69, 70, 71, 72, 73, 74, 75, 76, 77, 10, 11, 12, 13, 19, 20, 21, 22, 23, 24, 25, 26, 27, 28, 29, 30, 15, 16, 17, 18, 78, 79, 80, 53, 54, 55, 56, 81, 82, 83, 84, 85, 86, 87, 88, 89, 90, 91, 92, 93, 94, 95, 96, 97, 98, 99, 100] (by decide +kernel) (by decide +kernel)
set_option maxRecDepth 20000 in
theorem gX5_hashesSilo_X5_wouldFlow : GoodIn wsX5_hashesSilo (wsV RX5 179 RX5 yX5_wouldFlow wsX5_wouldFlow) := goodIn_app (goodIn_of _ (by decide +kernel)) ggX5_hashesSilo_X5_wouldFlow
theorem dX5_hashesSilo_0 : decode cX5_hashesSilo 0 = .ok (.iconst 0, 1) := by decide +kernel
theorem dX5_hashesSilo_1 : decode cX5_hashesSilo 1 = .ok (.istore_n 2, 1) := by decide +kernel
theorem dX5_hashesSilo_2 : decode cX5_hashesSilo 2 = .ok (.iload_n 2, 1) := by decide +kernel
theorem dX5_hashesSilo_3 : decode cX5_hashesSilo 3 = .ok (.bipush 6, 2) := by decide +kernel
theorem dX5_hashesSilo_5 : decode cX5_hashesSilo 5 = .ok (.if_icmp .ge 20, 3) := by decide +kernel
theorem dX5_hashesSilo_8 : decode cX5_hashesSilo 8 = .ok (.aload_n 0, 1) := by decide +kernel
theorem dX5_hashesSilo_9 : decode cX5_hashesSilo 9 = .ok (.aload_n 0, 1) := by decide +kernel
theorem dX5_hashesSilo_10 : decode cX5_hashesSilo 10 = .ok (.iload_n 1, 1) := by decide +kernel
theorem dX5_hashesSilo_11 : decode cX5_hashesSilo 11 = .ok (.iload_n 2, 1) := by decide +kernel
theorem dX5_hashesSilo_12 : decode cX5_hashesSilo 12 = .ok (.invokevirtual 152, 3) := by decide +kernel
theorem dX5_hashesSilo_15 : decode cX5_hashesSilo 15 = .ok (.i2l, 1) := by decide +kernel
theorem dX5_hashesSilo_16 : decode cX5_hashesSilo 16 = .ok (.invokevirtual 206, 3) := by decide +kernel
theorem dX5_hashesSilo_19 : decode cX5_hashesSilo 19 = .ok (.iinc 2 1, 3) := by decide +kernel
theorem dX5_hashesSilo_22 : decode cX5_hashesSilo 22 = .ok (.goto (-20), 3) := by decide +kernel
theorem dX5_hashesSilo_25 : decode cX5_hashesSilo 25 = .ok (.iconst 0, 1) := by decide +kernel
theorem dX5_hashesSilo_26 : decode cX5_hashesSilo 26 = .ok (.istore_n 2, 1) := by decide +kernel
theorem dX5_hashesSilo_27 : decode cX5_hashesSilo 27 = .ok (.iload_n 2, 1) := by decide +kernel
theorem dX5_hashesSilo_28 : decode cX5_hashesSilo 28 = .ok (.iconst 3, 1) := by decide +kernel
theorem dX5_hashesSilo_29 : decode cX5_hashesSilo 29 = .ok (.aload_n 0, 1) := by decide +kernel
theorem dX5_hashesSilo_30 : decode cX5_hashesSilo 30 = .ok (.iload_n 1, 1) := by decide +kernel
theorem dX5_hashesSilo_31 : decode cX5_hashesSilo 31 = .ok (.iconst 3, 1) := by decide +kernel
theorem dX5_hashesSilo_32 : decode cX5_hashesSilo 32 = .ok (.invokevirtual 33, 3) := by decide +kernel
theorem dX5_hashesSilo_35 : decode cX5_hashesSilo 35 = .ok (.imul, 1) := by decide +kernel
theorem dX5_hashesSilo_36 : decode cX5_hashesSilo 36 = .ok (.if_icmp .ge 25, 3) := by decide +kernel
theorem dX5_hashesSilo_39 : decode cX5_hashesSilo 39 = .ok (.aload_n 0, 1) := by decide +kernel
theorem dX5_hashesSilo_40 : decode cX5_hashesSilo 40 = .ok (.aload_n 0, 1) := by decide +kernel
theorem dX5_hashesSilo_41 : decode cX5_hashesSilo 41 = .ok (.iload_n 1, 1) := by decide +kernel
theorem dX5_hashesSilo_42 : decode cX5_hashesSilo 42 = .ok (.iload_n 2, 1) := by decide +kernel
theorem dX5_hashesSilo_43 : decode cX5_hashesSilo 43 = .ok (.iconst 3, 1) := by decide +kernel
theorem dX5_hashesSilo_44 : decode cX5_hashesSilo 44 = .ok (.idiv, 1) := by decide +kernel
theorem dX5_hashesSilo_45 : decode cX5_hashesSilo 45 = .ok (.iload_n 2, 1) := by decide +kernel
theorem dX5_hashesSilo_46 : decode cX5_hashesSilo 46 = .ok (.iconst 3, 1) := by decide +kernel
theorem dX5_hashesSilo_47 : decode cX5_hashesSilo 47 = .ok (.irem, 1) := by decide +kernel
theorem dX5_hashesSilo_48 : decode cX5_hashesSilo 48 = .ok (.invokevirtual 155, 3) := by decide +kernel
theorem dX5_hashesSilo_51 : decode cX5_hashesSilo 51 = .ok (.i2l, 1) := by decide +kernel
theorem dX5_hashesSilo_52 : decode cX5_hashesSilo 52 = .ok (.invokevirtual 206, 3) := by decide +kernel
theorem dX5_hashesSilo_55 : decode cX5_hashesSilo 55 = .ok (.iinc 2 1, 3) := by decide +kernel
theorem dX5_hashesSilo_58 : decode cX5_hashesSilo 58 = .ok (.goto (-31), 3) := by decide +kernel
theorem dX5_hashesSilo_61 : decode cX5_hashesSilo 61 = .ok (.aload_n 0, 1) := by decide +kernel
theorem dX5_hashesSilo_62 : decode cX5_hashesSilo 62 = .ok (.aload_n 0, 1) := by decide +kernel
theorem dX5_hashesSilo_63 : decode cX5_hashesSilo 63 = .ok (.iload_n 1, 1) := by decide +kernel
theorem dX5_hashesSilo_64 : decode cX5_hashesSilo 64 = .ok (.invokevirtual 193, 3) := by decide +kernel
theorem dX5_hashesSilo_67 : decode cX5_hashesSilo 67 = .ok (.i2l, 1) := by decide +kernel
theorem dX5_hashesSilo_68 : decode cX5_hashesSilo 68 = .ok (.invokevirtual 206, 3) := by decide +kernel
theorem dX5_hashesSilo_71 : decode cX5_hashesSilo 71 = .ok (.aload_n 0, 1) := by decide +kernel
theorem dX5_hashesSilo_72 : decode cX5_hashesSilo 72 = .ok (.aload_n 0, 1) := by decide +kernel
theorem dX5_hashesSilo_73 : decode cX5_hashesSilo 73 = .ok (.iload_n 1, 1) := by decide +kernel
theorem dX5_hashesSilo_74 : decode cX5_hashesSilo 74 = .ok (.iconst 0, 1) := by decide +kernel
theorem dX5_hashesSilo_75 : decode cX5_hashesSilo 75 = .ok (.invokevirtual 170, 3) := by decide +kernel
theorem dX5_hashesSilo_78 : decode cX5_hashesSilo 78 = .ok (.i2l, 1) := by decide +kernel
theorem dX5_hashesSilo_79 : decode cX5_hashesSilo 79 = .ok (.invokevirtual 206, 3) := by decide +kernel
theorem dX5_hashesSilo_82 : decode cX5_hashesSilo 82 = .ok (.aload_n 0, 1) := by decide +kernel
theorem dX5_hashesSilo_83 : decode cX5_hashesSilo 83 = .ok (.aload_n 0, 1) := by decide +kernel
theorem dX5_hashesSilo_84 : decode cX5_hashesSilo 84 = .ok (.iload_n 1, 1) := by decide +kernel
theorem dX5_hashesSilo_85 : decode cX5_hashesSilo 85 = .ok (.iconst 0, 1) := by decide +kernel
theorem dX5_hashesSilo_86 : decode cX5_hashesSilo 86 = .ok (.iconst 4, 1) := by decide +kernel
theorem dX5_hashesSilo_87 : decode cX5_hashesSilo 87 = .ok (.iconst 4, 1) := by decide +kernel
theorem dX5_hashesSilo_88 : decode cX5_hashesSilo 88 = .ok (.invokevirtual 179, 3) := by decide +kernel
theorem dX5_hashesSilo_91 : decode cX5_hashesSilo 91 = .ok (.i2l, 1) := by decide +kernel
theorem dX5_hashesSilo_92 : decode cX5_hashesSilo 92 = .ok (.invokevirtual 206, 3) := by decide +kernel
theorem dX5_hashesSilo_95 : decode cX5_hashesSilo 95 = .ok (.return_, 1) := by decide +kernel
set_option maxRecDepth 20000 in
theorem ggX5_digest_X5_tellsCount : GoodIn wsX5_digest wsX5_tellsCount := goodIn_r _ [11, 4, 12, 13, 14, 15, 10, 16, 17, 18, 19, 20, 21, 22, 23, 24, 25, 26, 27, 28, 29, 30, 31, 32, 33, 34, 35, 36, 37, 38, 39, 40, 154, 155, 156, 157, 158, 159, 160, 161, 162, 163, 164, 165] (by decide +kernel) (by decide +kernel)
set_option maxRecDepth 20000 in
theorem gX5_digest_X5_tellsCount : GoodIn wsX5_digest (wsV RX5 167 RX5 yX5_tellsCount wsX5_tellsCount) := goodIn_app (goodIn_of _ (by decide +kernel)) ggX5_digest_X5_tellsCount
set_option maxRecDepth 20000 in
theorem ggX5_digest_X5_hashes : GoodIn wsX5_digest wsX5_hashes := goodIn_r _ [44, 45, 3, 154, 155, 156, 157, 158, 159, 160, 161, 162, 163, 164, 165] (by decide +kernel) (by decide +kernel)
set_option maxRecDepth 20000 in
theorem gX5_digest_X5_hashes : GoodIn wsX5_digest (wsV RX5 206 RX5 yX5_hashes wsX5_hashes) := goodIn_app (goodIn_of _ (by decide +kernel)) ggX5_digest_X5_hashes
set_option maxRecDepth 20000 in
theorem ggX5_digest_X5_hashesSilo : GoodIn wsX5_digest wsX5_hashesSilo := goodIn_r _ [49, 50, 51, 52, 10, 53, 17, 18, 19, 20, 21, 22, 23, 24, 4, 25, 26, 27, 28, 54, 55, 56, 57, 58, 59, 60, 61, 62, 63, 64, 65, 41, 42, 43, 44, 45, 3, 66, 67, 68, 69, 70, 71, 72, 73, 74, 75, 76, 77, 78, 79, 80, 81, 82, 83, 84, 85, 86, 87, 88, 89, 90, 91, 92, 93, 94, 95, 96, 97, 98, 99, 100, 101, 102, 103, 104, 105, 106, 107, 108, 109, 110, 111, 112, 113, 114, 115, 116, 117, 154, 155, 156, 157, 158, 159, 160, 161, 162, 163, 164, 165] (by decide +kernel) (by decide +kernel)
set_option maxRecDepth 20000 in
theorem gX5_digest_X5_hashesSilo : GoodIn wsX5_digest (wsV RX5 212 RX5 yX5_hashesSilo wsX5_hashesSilo) := goodIn_app (goodIn_of _ (by decide +kernel)) ggX5_digest_X5_hashesSilo
set_option maxRecDepth 20000 in
theorem ggX5_digest_X5_mostUrgent : GoodIn wsX5_digest wsX5_mostUrgent := goodIn_r _ [121, 21, 22, 23, 10, 24, 4, 122, 123, 124, 125, 62, 63, 64, 65, 17, 18, 19, 20, 25, 26, 27, 28, 154, 155, 156, 157, 158, 159, 160, 161, 162, 163, 164, 165] (by decide +kernel) (by decide +kernel)
set_option maxRecDepth 20000 in
theorem gX5_digest_X5_mostUrgent : GoodIn wsX5_digest (wsV RX5 187 RX5 yX5_mostUrgent wsX5_mostUrgent) := goodIn_app (goodIn_of _ (by decide +kernel)) ggX5_digest_X5_mostUrgent
set_option maxRecDepth 20000 in
theorem ggX5_digest_X5_archAhead : GoodIn wsX5_digest wsX5_archAhead := goodIn_r _ [129, 90, 91, 92, 10, 93, 94, 4, 130, 131, 132, 133, 21, 22, 23, 24, 62, 63, 64, 65, 95, 96, 97, 98, 134, 135, 136, 137, 58, 59, 60, 61, 114, 115, 116, 117, 154, 155, 156, 157, 158, 159, 160, 161, 162, 163, 164, 165] (by decide +kernel) (by decide +kernel)
set_option maxRecDepth 20000 in
theorem gX5_digest_X5_archAhead : GoodIn wsX5_digest (wsV RX5 190 RX5 yX5_archAhead wsX5_archAhead) := goodIn_app (goodIn_of _ (by decide +kernel)) ggX5_digest_X5_archAhead
set_option maxRecDepth 20000 in
theorem ggX5_digest_X5_soft : GoodIn wsX5_digest wsX5_soft := goodIn_r _ [141, 21, 22, 23, 10, 24, 4, 58, 59, 60, 61, 62, 63, 64, 65, 25, 26, 27, 28, 13, 14, 15, 16, 17, 18, 19, 20, 154, 155, 156, 157, 158, 159, 160, 161, 162, 163, 164, 165] (by decide +kernel) (by decide +kernel)
set_option maxRecDepth 20000 in
theorem gX5_digest_X5_soft : GoodIn wsX5_digest (wsV RX5 196 RX5 yX5_soft wsX5_soft) := goodIn_app (goodIn_of _ (by decide +kernel)) ggX5_digest_X5_soft
set_option maxRecDepth 20000 in
theorem ggX5_digest_Jxe99ae_doubleToLongBits_ccdee : GoodIn wsX5_digest wsJxe99ae_doubleToLongBits_ccdee := goodIn_r _ [145, 146, 147, 148, 149, 150, 151, 152, 144, 153] (by decide +kernel) (by decide +kernel)
set_option maxRecDepth 20000 in
theorem gX5_digest_Jxe99ae_doubleToLongBits_ccdee : GoodIn wsX5_digest (va_wsS RX5 215 yJxe99ae_doubleToLongBits_ccdee wsJxe99ae_doubleToLongBits_ccdee) := goodIn_app (goodIn_of _ (by decide +kernel)) ggX5_digest_Jxe99ae_doubleToLongBits_ccdee
theorem dX5_digest_0 : decode cX5_digest 0 = .ok (.aload_n 0, 1) := by decide +kernel
theorem dX5_digest_1 : decode cX5_digest 1 = .ok (.iconst 0, 1) := by decide +kernel
theorem dX5_digest_2 : decode cX5_digest 2 = .ok (.putfield 25, 3) := by decide +kernel
theorem dX5_digest_5 : decode cX5_digest 5 = .ok (.aload_n 0, 1) := by decide +kernel
theorem dX5_digest_6 : decode cX5_digest 6 = .ok (.ldc2_w 210, 3) := by decide +kernel
theorem dX5_digest_9 : decode cX5_digest 9 = .ok (.putfield 202, 3) := by decide +kernel
theorem dX5_digest_12 : decode cX5_digest 12 = .ok (.iconst 0, 1) := by decide +kernel
theorem dX5_digest_13 : decode cX5_digest 13 = .ok (.istore_n 1, 1) := by decide +kernel
theorem dX5_digest_14 : decode cX5_digest 14 = .ok (.iload_n 1, 1) := by decide +kernel
theorem dX5_digest_15 : decode cX5_digest 15 = .ok (.bipush 15, 2) := by decide +kernel
theorem dX5_digest_17 : decode cX5_digest 17 = .ok (.if_icmp .ge 19, 3) := by decide +kernel
theorem dX5_digest_20 : decode cX5_digest 20 = .ok (.aload_n 0, 1) := by decide +kernel
theorem dX5_digest_21 : decode cX5_digest 21 = .ok (.aload_n 0, 1) := by decide +kernel
theorem dX5_digest_22 : decode cX5_digest 22 = .ok (.iload_n 1, 1) := by decide +kernel
theorem dX5_digest_23 : decode cX5_digest 23 = .ok (.invokevirtual 167, 3) := by decide +kernel
theorem dX5_digest_26 : decode cX5_digest 26 = .ok (.i2l, 1) := by decide +kernel
theorem dX5_digest_27 : decode cX5_digest 27 = .ok (.invokevirtual 206, 3) := by decide +kernel
theorem dX5_digest_30 : decode cX5_digest 30 = .ok (.iinc 1 1, 3) := by decide +kernel
theorem dX5_digest_33 : decode cX5_digest 33 = .ok (.goto (-19), 3) := by decide +kernel
theorem dX5_digest_36 : decode cX5_digest 36 = .ok (.iconst 0, 1) := by decide +kernel
theorem dX5_digest_37 : decode cX5_digest 37 = .ok (.istore_n 1, 1) := by decide +kernel
theorem dX5_digest_38 : decode cX5_digest 38 = .ok (.iload_n 1, 1) := by decide +kernel
theorem dX5_digest_39 : decode cX5_digest 39 = .ok (.iconst 4, 1) := by decide +kernel
theorem dX5_digest_40 : decode cX5_digest 40 = .ok (.if_icmp .ge 14, 3) := by decide +kernel
theorem dX5_digest_43 : decode cX5_digest 43 = .ok (.aload_n 0, 1) := by decide +kernel
theorem dX5_digest_44 : decode cX5_digest 44 = .ok (.iload_n 1, 1) := by decide +kernel
theorem dX5_digest_45 : decode cX5_digest 45 = .ok (.invokevirtual 212, 3) := by decide +kernel
theorem dX5_digest_48 : decode cX5_digest 48 = .ok (.iinc 1 1, 3) := by decide +kernel
theorem dX5_digest_51 : decode cX5_digest 51 = .ok (.goto (-13), 3) := by decide +kernel
theorem dX5_digest_54 : decode cX5_digest 54 = .ok (.iconst 0, 1) := by decide +kernel
theorem dX5_digest_55 : decode cX5_digest 55 = .ok (.istore_n 1, 1) := by decide +kernel
theorem dX5_digest_56 : decode cX5_digest 56 = .ok (.iload_n 1, 1) := by decide +kernel
theorem dX5_digest_57 : decode cX5_digest 57 = .ok (.bipush 12, 2) := by decide +kernel
theorem dX5_digest_59 : decode cX5_digest 59 = .ok (.if_icmp .ge 23, 3) := by decide +kernel
theorem dX5_digest_62 : decode cX5_digest 62 = .ok (.aload_n 0, 1) := by decide +kernel
theorem dX5_digest_63 : decode cX5_digest 63 = .ok (.aload_n 0, 1) := by decide +kernel
theorem dX5_digest_64 : decode cX5_digest 64 = .ok (.getfield 7, 3) := by decide +kernel
theorem dX5_digest_67 : decode cX5_digest 67 = .ok (.bipush 106, 2) := by decide +kernel
theorem dX5_digest_69 : decode cX5_digest 69 = .ok (.iload_n 1, 1) := by decide +kernel
theorem dX5_digest_70 : decode cX5_digest 70 = .ok (.iadd, 1) := by decide +kernel
theorem dX5_digest_71 : decode cX5_digest 71 = .ok (.iaload, 1) := by decide +kernel
theorem dX5_digest_72 : decode cX5_digest 72 = .ok (.i2l, 1) := by decide +kernel
theorem dX5_digest_73 : decode cX5_digest 73 = .ok (.invokevirtual 206, 3) := by decide +kernel
theorem dX5_digest_76 : decode cX5_digest 76 = .ok (.iinc 1 1, 3) := by decide +kernel
theorem dX5_digest_79 : decode cX5_digest 79 = .ok (.goto (-23), 3) := by decide +kernel
theorem dX5_digest_82 : decode cX5_digest 82 = .ok (.aload_n 0, 1) := by decide +kernel
theorem dX5_digest_83 : decode cX5_digest 83 = .ok (.aload_n 0, 1) := by decide +kernel
theorem dX5_digest_84 : decode cX5_digest 84 = .ok (.invokevirtual 187, 3) := by decide +kernel
theorem dX5_digest_87 : decode cX5_digest 87 = .ok (.i2l, 1) := by decide +kernel
theorem dX5_digest_88 : decode cX5_digest 88 = .ok (.invokevirtual 206, 3) := by decide +kernel
theorem dX5_digest_91 : decode cX5_digest 91 = .ok (.aload_n 0, 1) := by decide +kernel
theorem dX5_digest_92 : decode cX5_digest 92 = .ok (.aload_n 0, 1) := by decide +kernel
theorem dX5_digest_93 : decode cX5_digest 93 = .ok (.invokevirtual 190, 3) := by decide +kernel
theorem dX5_digest_96 : decode cX5_digest 96 = .ok (.i2l, 1) := by decide +kernel
theorem dX5_digest_97 : decode cX5_digest 97 = .ok (.invokevirtual 206, 3) := by decide +kernel
theorem dX5_digest_100 : decode cX5_digest 100 = .ok (.aload_n 0, 1) := by decide +kernel
theorem dX5_digest_101 : decode cX5_digest 101 = .ok (.aload_n 0, 1) := by decide +kernel
theorem dX5_digest_102 : decode cX5_digest 102 = .ok (.invokevirtual 196, 3) := by decide +kernel
theorem dX5_digest_105 : decode cX5_digest 105 = .ok (.invokestatic 215, 3) := by decide +kernel
theorem dX5_digest_108 : decode cX5_digest 108 = .ok (.invokevirtual 206, 3) := by decide +kernel
theorem dX5_digest_111 : decode cX5_digest 111 = .ok (.aload_n 0, 1) := by decide +kernel
theorem dX5_digest_112 : decode cX5_digest 112 = .ok (.aload_n 0, 1) := by decide +kernel
theorem dX5_digest_113 : decode cX5_digest 113 = .ok (.getfield 121, 3) := by decide +kernel
theorem dX5_digest_116 : decode cX5_digest 116 = .ok (.i2l, 1) := by decide +kernel
theorem dX5_digest_117 : decode cX5_digest 117 = .ok (.invokevirtual 206, 3) := by decide +kernel
theorem dX5_digest_120 : decode cX5_digest 120 = .ok (.iconst 0, 1) := by decide +kernel
theorem dX5_digest_121 : decode cX5_digest 121 = .ok (.istore_n 1, 1) := by decide +kernel
theorem dX5_digest_122 : decode cX5_digest 122 = .ok (.iload_n 1, 1) := by decide +kernel
theorem dX5_digest_123 : decode cX5_digest 123 = .ok (.aload_n 0, 1) := by decide +kernel
theorem dX5_digest_124 : decode cX5_digest 124 = .ok (.getfield 121, 3) := by decide +kernel
theorem dX5_digest_127 : decode cX5_digest 127 = .ok (.if_icmp .ge 20, 3) := by decide +kernel
theorem dX5_digest_130 : decode cX5_digest 130 = .ok (.aload_n 0, 1) := by decide +kernel
theorem dX5_digest_131 : decode cX5_digest 131 = .ok (.aload_n 0, 1) := by decide +kernel
theorem dX5_digest_132 : decode cX5_digest 132 = .ok (.getfield 19, 3) := by decide +kernel
theorem dX5_digest_135 : decode cX5_digest 135 = .ok (.iload_n 1, 1) := by decide +kernel
theorem dX5_digest_136 : decode cX5_digest 136 = .ok (.iaload, 1) := by decide +kernel
theorem dX5_digest_137 : decode cX5_digest 137 = .ok (.i2l, 1) := by decide +kernel
theorem dX5_digest_138 : decode cX5_digest 138 = .ok (.invokevirtual 206, 3) := by decide +kernel
theorem dX5_digest_141 : decode cX5_digest 141 = .ok (.iinc 1 1, 3) := by decide +kernel
theorem dX5_digest_144 : decode cX5_digest 144 = .ok (.goto (-22), 3) := by decide +kernel
theorem dX5_digest_147 : decode cX5_digest 147 = .ok (.aload_n 0, 1) := by decide +kernel
theorem dX5_digest_148 : decode cX5_digest 148 = .ok (.getfield 202, 3) := by decide +kernel
theorem dX5_digest_151 : decode cX5_digest 151 = .ok (.lreturn, 1) := by decide +kernel
end
section
set_option maxHeartbeats 4000000 in
set_option maxRecDepth 100000 in
theorem k_X5_thrown (l : Launch) (D : va_G) (cy : Nat → ClassId) (N : Nat) (L : Nat → Nat) (F : Nat → va_E) (hN : 168 ≤ N) (mt : Int32) (ms ma mv : Nat → Int32) (mn : Int32) (mb : Nat → Int32) (ml mp mw : Int32) (mr : Nat → Int32) (mq : Int32) (mh : Int64)   : GM l D cy N L yX5_thrown wsX5_thrown ({ frames := 0, cells := 0, slots := 0, locals := 0 }) [.ref (L 162)] (mW cy L F mt ms ma mv mn mb ml mp mw mr mq mh) (some (.int mt)) (mW cy L F mt ms ma mv mn mb ml mp mw mr mq mh) := by
  refine GM.ofW (cc := cX5_thrown) (maxL := 1) (ret := (some .int)) (by decide) rfl (Nat.le_of_ble_eq_true rfl) ?_
  intro p e s m below meth c ls hx hb hr hts hown hlocks hml hK hA hG hS hl
  have hl : lv_has ls 1 [(0, .ref (L 162))] := hl
  have i162 : 162 < N := by omega
  have i163 : 163 < N := by omega
  have i164 : 164 < N := by omega
  have i165 : 165 < N := by omega
  have i166 : 166 < N := by omega
  have i167 : 167 < N := by omega
  have hf25 := hts (.fieldLink RX5 25 "SiloPadsModel" "thrown" "I") (by decide +kernel)
  have hinX5 : ∀ w ∈ u_ws RX5 TX5 12, w ∈ wsX5_thrown := by decide +kernel
  refine lv_aload_n hx hb dX5_thrown_0 rfl (lv_at hl 0 rfl) ?_
  refine g_get (ci := 5) (C := RX5) (T := TX5) (M := 12) hx hb hts hinX5 hown hK hG i162 mW_o rfl 0 (by decide) hf25 rfl rfl dX5_thrown_1 ?_
  exact g_iret hx hb hr hlocks hK hG hS rfl dX5_thrown_4 ⟨rfl, rfl⟩
set_option maxHeartbeats 4000000 in
set_option maxRecDepth 100000 in
theorem k_X5_in (l : Launch) (D : va_G) (cy : Nat → ClassId) (N : Nat) (L : Nat → Nat) (F : Nat → va_E) (v a b : Int32)  : GM l D cy N L yX5_in wsX5_in ({ frames := 0, cells := 0, slots := 0, locals := 0 }) [.int v, .int a, .int b] (F) (some (.int (g_in v a b))) (F) := by
  refine GM.ofW (cc := cX5_in) (maxL := 3) (ret := (some .boolean)) (by decide) rfl (Nat.le_of_ble_eq_true rfl) ?_
  intro p e s m below meth c ls hx hb hr hts hown hlocks hml hK hA hG hS hl
  have hl : lv_has ls 3 [(0, .int v), (1, .int a), (2, .int b)] := hl
  refine lv_iload_n hx hb dX5_in_0 rfl (lv_at hl 0 rfl) ?_
  refine lv_iload_n hx hb dX5_in_1 rfl (lv_at hl 1 rfl) ?_
  refine lv_icmp_lt (tgt := 14) hx hb dX5_in_2 (by decide) (fun c_2 => ?_) (fun c_2 => ?_)
  · skip
    refine lv_iconst (v := 0) hx hb dX5_in_14 (by decide) ?_
    exact g_iret hx hb hr hlocks hK hG hS rfl dX5_in_15 ⟨(congrArg (fun z9 => some (Value.int z9)) (by first | rfl | (simp only [g_in, c_2, if_true, if_false, not_true_eq_false, not_false_eq_true]; done) | (simp [g_in, c_2]; done))), rfl⟩
  · skip
    refine lv_iload_n hx hb dX5_in_5 rfl (lv_at hl 0 rfl) ?_
    refine lv_iload_n hx hb dX5_in_6 rfl (lv_at hl 2 rfl) ?_
    refine lv_icmp_gt (tgt := 14) hx hb dX5_in_7 (by decide) (fun c_7 => ?_) (fun c_7 => ?_)
    · skip
      refine lv_iconst (v := 0) hx hb dX5_in_14 (by decide) ?_
      exact g_iret hx hb hr hlocks hK hG hS rfl dX5_in_15 ⟨(congrArg (fun z9 => some (Value.int z9)) (by first | rfl | (simp only [g_in, c_2, c_7, if_true, if_false, not_true_eq_false, not_false_eq_true]; done) | (simp [g_in, c_2, c_7]; done))), rfl⟩
    · skip
      refine lv_iconst (v := 1) hx hb dX5_in_10 (by decide) ?_
      refine lv_goto (tgt := 15) hx hb dX5_in_11 (by decide) ?_
      exact g_iret hx hb hr hlocks hK hG hS rfl dX5_in_15 ⟨(congrArg (fun z9 => some (Value.int z9)) (by first | rfl | (simp only [g_in, c_2, c_7, if_true, if_false, not_true_eq_false, not_false_eq_true]; done) | (simp [g_in, c_2, c_7]; done))), rfl⟩
set_option maxHeartbeats 4000000 in
set_option maxRecDepth 100000 in
theorem k_X5_fails (l : Launch) (D : va_G) (cy : Nat → ClassId) (N : Nat) (L : Nat → Nat) (F : Nat → va_E) (hN : 168 ≤ N) (mt : Int32) (ms ma mv : Nat → Int32) (mn : Int32) (mb : Nat → Int32) (ml mp mw : Int32) (mr : Nat → Int32) (mq : Int32) (mh : Int64) (v : Int32)  : GM l D cy N L yX5_fails wsX5_fails ({ frames := 0, cells := 0, slots := 0, locals := 0 }) [.ref (L 162), .int v] (mW cy L F mt ms ma mv mn mb ml mp mw mr mq mh) (some (.int 0)) (mW cy L F v ms ma mv mn mb ml mp mw mr mq mh) := by
  refine GM.ofW (cc := cX5_fails) (maxL := 2) (ret := (some .int)) (by decide) rfl (Nat.le_of_ble_eq_true rfl) ?_
  intro p e s m below meth c ls hx hb hr hts hown hlocks hml hK hA hG hS hl
  have hl : lv_has ls 2 [(0, .ref (L 162)), (1, .int v)] := hl
  have i162 : 162 < N := by omega
  have i163 : 163 < N := by omega
  have i164 : 164 < N := by omega
  have i165 : 165 < N := by omega
  have i166 : 166 < N := by omega
  have i167 : 167 < N := by omega
  have hf25 := hts (.fieldLink RX5 25 "SiloPadsModel" "thrown" "I") (by decide +kernel)
  have hinX5 : ∀ w ∈ u_ws RX5 TX5 12, w ∈ wsX5_fails := by decide +kernel
  refine lv_aload_n hx hb dX5_fails_0 rfl (lv_at hl 0 rfl) ?_
  refine lv_iload_n hx hb dX5_fails_1 rfl (lv_at hl 1 rfl) ?_
  refine g_put (ci := 5) (C := RX5) (T := TX5) (M := 12) (ty := .int) hx hb hts hinX5 tyX5 tyX5_ok nmX5 hown hK hG hS i162 mW_o rfl 0 (by decide) hf25 rfl rfl rfl rfl rfl (Nat.le_of_ble_eq_true rfl) dX5_fails_2 rfl (fun H locs hG hS => ?_)
  have hG := hG.to mW_uo
  refine lv_iconst (v := 0) hx hb dX5_fails_5 (by decide) ?_
  exact g_iret hx hb hr hlocks hK hG hS rfl dX5_fails_6 ⟨rfl, rfl⟩
set_option maxHeartbeats 4000000 in
set_option maxRecDepth 100000 in
theorem k_X5_lesser (l : Launch) (D : va_G) (cy : Nat → ClassId) (N : Nat) (L : Nat → Nat) (F : Nat → va_E) (a b : Int32)  : GM l D cy N L yX5_lesser wsX5_lesser ({ frames := 0, cells := 0, slots := 0, locals := 0 }) [.int a, .int b] (F) (some (.int (g_min a b))) (F) := by
  refine GM.ofW (cc := cX5_lesser) (maxL := 2) (ret := (some .int)) (by decide) rfl (Nat.le_of_ble_eq_true rfl) ?_
  intro p e s m below meth c ls hx hb hr hts hown hlocks hml hK hA hG hS hl
  have hl : lv_has ls 2 [(0, .int a), (1, .int b)] := hl
  refine lv_iload_n hx hb dX5_lesser_0 rfl (lv_at hl 0 rfl) ?_
  refine lv_iload_n hx hb dX5_lesser_1 rfl (lv_at hl 1 rfl) ?_
  refine lv_icmp_ge (tgt := 9) hx hb dX5_lesser_2 (by decide) (fun c_2 => ?_) (fun c_2 => ?_)
  · skip
    refine lv_iload_n hx hb dX5_lesser_9 rfl (lv_at hl 1 rfl) ?_
    exact g_iret hx hb hr hlocks hK hG hS rfl dX5_lesser_10 ⟨(congrArg (fun z9 => some (Value.int z9)) (by first | rfl | (simp only [g_min, c_2, if_true, if_false, not_true_eq_false, not_false_eq_true]; done) | (simp [g_min, c_2]; done))), rfl⟩
  · skip
    refine lv_iload_n hx hb dX5_lesser_5 rfl (lv_at hl 0 rfl) ?_
    refine lv_goto (tgt := 10) hx hb dX5_lesser_6 (by decide) ?_
    exact g_iret hx hb hr hlocks hK hG hS rfl dX5_lesser_10 ⟨(congrArg (fun z9 => some (Value.int z9)) (by first | rfl | (simp only [g_min, c_2, if_true, if_false, not_true_eq_false, not_false_eq_true]; done) | (simp [g_min, c_2]; done))), rfl⟩
set_option maxHeartbeats 4000000 in
set_option maxRecDepth 100000 in
theorem k_X5_isSilo (l : Launch) (D : va_G) (cy : Nat → ClassId) (N : Nat) (L : Nat → Nat) (F : Nat → va_E) (v : Int32)  : GM l D cy N L yX5_isSilo wsX5_isSilo ({ frames := 1, cells := 0, slots := 0, locals := 22 }) [.int v] (F) (some (.int (g_in v 0 3))) (F) := by
  refine GM.ofW (cc := cX5_isSilo) (maxL := 1) (ret := (some .boolean)) (by decide) rfl (Nat.le_of_ble_eq_true rfl) ?_
  intro p e s m below meth c ls hx hb hr hts hown hlocks hml hK hA hG hS hl
  have hl : lv_has ls 1 [(0, .int v)] := hl
  refine lv_iload_n hx hb dX5_isSilo_0 rfl (lv_at hl 0 rfl) ?_
  refine lv_iconst (v := 0) hx hb dX5_isSilo_1 (by decide) ?_
  refine lv_iconst (v := 3) hx hb dX5_isSilo_2 (by decide) ?_
  refine g_cSi (As := [.int v, .int 0, .int 3]) (rest := []) hx hb hml hown hts hK hA hG hS (k_X5_in l D cy N L F v 0 3 ) (g_cwS 3 hts gX5_isSilo_X5_in rfl rfl rfl (by decide +kernel) ⟨Nat.le_of_ble_eq_true rfl, Nat.le_of_ble_eq_true rfl⟩) rfl rfl hl.1 (Nat.le_of_ble_eq_true rfl) dX5_isSilo_3 ⟨Nat.zero_le _, Nat.zero_le _⟩ (fun H locs hG hS => ?_)
  exact g_iret hx hb hr hlocks hK hG hS (g_in_nar) dX5_isSilo_6 ⟨rfl, rfl⟩
set_option maxHeartbeats 4000000 in
set_option maxRecDepth 100000 in
theorem k_X5_isShip (l : Launch) (D : va_G) (cy : Nat → ClassId) (N : Nat) (L : Nat → Nat) (F : Nat → va_E) (v : Int32)  : GM l D cy N L yX5_isShip wsX5_isShip ({ frames := 1, cells := 0, slots := 0, locals := 22 }) [.int v] (F) (some (.int (g_in v 0 5))) (F) := by
  refine GM.ofW (cc := cX5_isShip) (maxL := 1) (ret := (some .boolean)) (by decide) rfl (Nat.le_of_ble_eq_true rfl) ?_
  intro p e s m below meth c ls hx hb hr hts hown hlocks hml hK hA hG hS hl
  have hl : lv_has ls 1 [(0, .int v)] := hl
  refine lv_iload_n hx hb dX5_isShip_0 rfl (lv_at hl 0 rfl) ?_
  refine lv_iconst (v := 0) hx hb dX5_isShip_1 (by decide) ?_
  refine lv_iconst (v := 5) hx hb dX5_isShip_2 (by decide) ?_
  refine g_cSi (As := [.int v, .int 0, .int 5]) (rest := []) hx hb hml hown hts hK hA hG hS (k_X5_in l D cy N L F v 0 5 ) (g_cwS 3 hts gX5_isShip_X5_in rfl rfl rfl (by decide +kernel) ⟨Nat.le_of_ble_eq_true rfl, Nat.le_of_ble_eq_true rfl⟩) rfl rfl hl.1 (Nat.le_of_ble_eq_true rfl) dX5_isShip_3 ⟨Nat.zero_le _, Nat.zero_le _⟩ (fun H locs hG hS => ?_)
  exact g_iret hx hb hr hlocks hK hG hS (g_in_nar) dX5_isShip_6 ⟨rfl, rfl⟩
set_option maxHeartbeats 4000000 in
set_option maxRecDepth 100000 in
theorem k_X5_of (l : Launch) (D : va_G) (cy : Nat → ClassId) (N : Nat) (L : Nat → Nat) (F : Nat → va_E) (hN : 168 ≤ N) (mt : Int32) (ms ma mv : Nat → Int32) (mn : Int32) (mb : Nat → Int32) (ml mp mw : Int32) (mr : Nat → Int32) (mq : Int32) (mh : Int64) (k w : Nat) (h : 10 + 24 * k + w < 118) : GM l D cy N L yX5_of wsX5_of ({ frames := 0, cells := 0, slots := 0, locals := 0 }) [.ref (L 162), .int (nI k), .int (nI w)] (mW cy L F mt ms ma mv mn mb ml mp mw mr mq mh) (some (.int (ms (10 + 24 * k + w)))) (mW cy L F mt ms ma mv mn mb ml mp mw mr mq mh) := by
  refine GM.ofW (cc := cX5_of) (maxL := 3) (ret := (some .int)) (by decide) rfl (Nat.le_of_ble_eq_true rfl) ?_
  intro p e s m below meth c ls hx hb hr hts hown hlocks hml hK hA hG hS hl
  have hl : lv_has ls 3 [(0, .ref (L 162)), (1, .int (nI k)), (2, .int (nI w))] := hl
  have i162 : 162 < N := by omega
  have i163 : 163 < N := by omega
  have i164 : 164 < N := by omega
  have i165 : 165 < N := by omega
  have i166 : 166 < N := by omega
  have i167 : 167 < N := by omega
  have hf7 := hts (.fieldLink RX5 7 "SiloPadsModel" "s" "[I") (by decide +kernel)
  have hinX5 : ∀ w ∈ u_ws RX5 TX5 12, w ∈ wsX5_of := by decide +kernel
  refine lv_aload_n hx hb dX5_of_0 rfl (lv_at hl 0 rfl) ?_
  refine g_get (ci := 5) (C := RX5) (T := TX5) (M := 12) hx hb hts hinX5 hown hK hG i162 mW_o rfl 1 (by decide) hf7 rfl rfl dX5_of_1 ?_
  refine lv_bipush (v := 10) hx hb dX5_of_4 (by decide) ?_
  refine lv_bipush (v := 24) hx hb dX5_of_6 (by decide) ?_
  refine lv_iload_n hx hb dX5_of_8 rfl (lv_at hl 1 rfl) ?_
  refine lv_imul hx hb dX5_of_9 ?_
  refine lv_toN (k := 24 * k) (pk_mul 24 k) ?_
  refine lv_iadd hx hb dX5_of_10 ?_
  refine lv_toN (k := 10 + (24 * k)) (nI_add 10 (24 * k)) ?_
  refine lv_iload_n hx hb dX5_of_11 rfl (lv_at hl 2 rfl) ?_
  refine lv_iadd hx hb dX5_of_12 ?_
  refine lv_toN (k := (10 + (24 * k)) + w) (nI_add (10 + (24 * k)) w) ?_
  refine g_iald hx hb hK hG i163 mW_a163 (k := (10 + (24 * k)) + w) rfl (by omega) (by decide) dX5_of_13 ?_
  exact g_iret hx hb hr hlocks hK hG hS rfl dX5_of_14 ⟨(congrArg (fun z9 => some (Value.int z9)) (by first | rfl | (simp only [if_true, if_false, not_true_eq_false, not_false_eq_true]; done) | (simp []; done))), rfl⟩
set_option maxHeartbeats 4000000 in
set_option maxRecDepth 100000 in
theorem k_X5_lay (l : Launch) (D : va_G) (cy : Nat → ClassId) (N : Nat) (L : Nat → Nat) (F : Nat → va_E) (hN : 168 ≤ N) (mt : Int32) (ms ma mv : Nat → Int32) (mn : Int32) (mb : Nat → Int32) (ml mp mw : Int32) (mr : Nat → Int32) (mq : Int32) (mh : Int64) (k w : Nat) (v : Int32) (h : 10 + 24 * k + w < 118) : GM l D cy N L yX5_lay wsX5_lay ({ frames := 0, cells := 0, slots := 0, locals := 0 }) [.ref (L 162), .int (nI k), .int (nI w), .int v] (mW cy L F mt ms ma mv mn mb ml mp mw mr mq mh) (none) (mW cy L F mt (upd ms (10 + 24 * k + w) v) ma mv mn mb ml mp mw mr mq mh) := by
  refine GM.ofW (cc := cX5_lay) (maxL := 4) (ret := none) (by decide) rfl (Nat.le_of_ble_eq_true rfl) ?_
  intro p e s m below meth c ls hx hb hr hts hown hlocks hml hK hA hG hS hl
  have hl : lv_has ls 4 [(0, .ref (L 162)), (1, .int (nI k)), (2, .int (nI w)), (3, .int v)] := hl
  have i162 : 162 < N := by omega
  have i163 : 163 < N := by omega
  have i164 : 164 < N := by omega
  have i165 : 165 < N := by omega
  have i166 : 166 < N := by omega
  have i167 : 167 < N := by omega
  have hf7 := hts (.fieldLink RX5 7 "SiloPadsModel" "s" "[I") (by decide +kernel)
  have hinX5 : ∀ w ∈ u_ws RX5 TX5 12, w ∈ wsX5_lay := by decide +kernel
  refine lv_aload_n hx hb dX5_lay_0 rfl (lv_at hl 0 rfl) ?_
  refine g_get (ci := 5) (C := RX5) (T := TX5) (M := 12) hx hb hts hinX5 hown hK hG i162 mW_o rfl 1 (by decide) hf7 rfl rfl dX5_lay_1 ?_
  refine lv_bipush (v := 10) hx hb dX5_lay_4 (by decide) ?_
  refine lv_bipush (v := 24) hx hb dX5_lay_6 (by decide) ?_
  refine lv_iload_n hx hb dX5_lay_8 rfl (lv_at hl 1 rfl) ?_
  refine lv_imul hx hb dX5_lay_9 ?_
  refine lv_toN (k := 24 * k) (pk_mul 24 k) ?_
  refine lv_iadd hx hb dX5_lay_10 ?_
  refine lv_toN (k := 10 + (24 * k)) (nI_add 10 (24 * k)) ?_
  refine lv_iload_n hx hb dX5_lay_11 rfl (lv_at hl 2 rfl) ?_
  refine lv_iadd hx hb dX5_lay_12 ?_
  refine lv_toN (k := (10 + (24 * k)) + w) (nI_add (10 + (24 * k)) w) ?_
  refine lv_iload_n hx hb dX5_lay_13 rfl (lv_at hl 3 rfl) ?_
  refine g_iast hx hb hK hG hS i163 mW_a163 (k := (10 + (24 * k)) + w) rfl (by omega) (by decide) dX5_lay_14 (fun H locs hG hS => ?_)
  have hG := hG.to mW_us
  exact g_vret hx hb hr hlocks hK hG hS dX5_lay_15 ⟨rfl, (by first | rfl | (simp only [if_true, if_false, not_true_eq_false, not_false_eq_true]; done) | (simp []; done))⟩
set_option maxHeartbeats 4000000 in
set_option maxRecDepth 100000 in
theorem k_X5_tonnes (l : Launch) (D : va_G) (cy : Nat → ClassId) (N : Nat) (L : Nat → Nat) (F : Nat → va_E) (hN : 168 ≤ N) (mt : Int32) (ms ma mv : Nat → Int32) (mn : Int32) (mb : Nat → Int32) (ml mp mw : Int32) (mr : Nat → Int32) (mq : Int32) (mh : Int64) (k j : Nat) (h : 10 + 24 * k + (4 + 2 * j) < 118) : GM l D cy N L yX5_tonnes wsX5_tonnes ({ frames := 1, cells := 0, slots := 0, locals := 22 }) [.ref (L 162), .int (nI k), .int (nI j)] (mW cy L F mt ms ma mv mn mb ml mp mw mr mq mh) (some (.int (ms (10 + 24 * k + (4 + 2 * j))))) (mW cy L F mt ms ma mv mn mb ml mp mw mr mq mh) := by
  refine GM.ofW (cc := cX5_tonnes) (maxL := 3) (ret := (some .int)) (by decide) rfl (Nat.le_of_ble_eq_true rfl) ?_
  intro p e s m below meth c ls hx hb hr hts hown hlocks hml hK hA hG hS hl
  have hl : lv_has ls 3 [(0, .ref (L 162)), (1, .int (nI k)), (2, .int (nI j))] := hl
  have i162 : 162 < N := by omega
  have i163 : 163 < N := by omega
  have i164 : 164 < N := by omega
  have i165 : 165 < N := by omega
  have i166 : 166 < N := by omega
  have i167 : 167 < N := by omega
  refine lv_aload_n hx hb dX5_tonnes_0 rfl (lv_at hl 0 rfl) ?_
  refine lv_iload_n hx hb dX5_tonnes_1 rfl (lv_at hl 1 rfl) ?_
  refine lv_iconst (v := 4) hx hb dX5_tonnes_2 (by decide) ?_
  refine lv_iconst (v := 2) hx hb dX5_tonnes_3 (by decide) ?_
  refine lv_iload_n hx hb dX5_tonnes_4 rfl (lv_at hl 2 rfl) ?_
  refine lv_imul hx hb dX5_tonnes_5 ?_
  refine lv_toN (k := 2 * j) (pk_mul 2 j) ?_
  refine lv_iadd hx hb dX5_tonnes_6 ?_
  refine lv_toN (k := 4 + (2 * j)) (nI_add 4 (2 * j)) ?_
  refine g_cVi (As := [.int (nI k), .int (nI (4 + (2 * j)))]) (rest := []) hx hb hml hown hts hK hA hG hS (k_X5_of l D cy N L F hN mt ms ma mv mn mb ml mp mw mr mq mh k (4 + (2 * j)) (by omega)) (cwV 2 hts gX5_tonnes_X5_of rfl rfl rfl (by decide +kernel) ⟨Nat.le_of_ble_eq_true rfl, Nat.le_of_ble_eq_true rfl⟩) i162 mW_o (ci := 5) rfl rfl rfl rfl hl.1 (Nat.le_of_ble_eq_true rfl) dX5_tonnes_7 ⟨Nat.zero_le _, Nat.zero_le _⟩ (fun H locs hG hS => ?_)
  exact g_iret hx hb hr hlocks hK hG hS rfl dX5_tonnes_10 ⟨(congrArg (fun z9 => some (Value.int z9)) (by first | rfl | (simp only [if_true, if_false, not_true_eq_false, not_false_eq_true]; done) | (simp []; done))), rfl⟩
set_option maxHeartbeats 4000000 in
set_option maxRecDepth 100000 in
theorem k_X5_age (l : Launch) (D : va_G) (cy : Nat → ClassId) (N : Nat) (L : Nat → Nat) (F : Nat → va_E) (hN : 168 ≤ N) (mt : Int32) (ms ma mv : Nat → Int32) (mn : Int32) (mb : Nat → Int32) (ml mp mw : Int32) (mr : Nat → Int32) (mq : Int32) (mh : Int64) (k j : Nat) (h : 10 + 24 * k + (4 + 2 * j + 1) < 118) : GM l D cy N L yX5_age wsX5_age ({ frames := 1, cells := 0, slots := 0, locals := 22 }) [.ref (L 162), .int (nI k), .int (nI j)] (mW cy L F mt ms ma mv mn mb ml mp mw mr mq mh) (some (.int (ms (10 + 24 * k + (4 + 2 * j + 1))))) (mW cy L F mt ms ma mv mn mb ml mp mw mr mq mh) := by
  refine GM.ofW (cc := cX5_age) (maxL := 3) (ret := (some .int)) (by decide) rfl (Nat.le_of_ble_eq_true rfl) ?_
  intro p e s m below meth c ls hx hb hr hts hown hlocks hml hK hA hG hS hl
  have hl : lv_has ls 3 [(0, .ref (L 162)), (1, .int (nI k)), (2, .int (nI j))] := hl
  have i162 : 162 < N := by omega
  have i163 : 163 < N := by omega
  have i164 : 164 < N := by omega
  have i165 : 165 < N := by omega
  have i166 : 166 < N := by omega
  have i167 : 167 < N := by omega
  refine lv_aload_n hx hb dX5_age_0 rfl (lv_at hl 0 rfl) ?_
  refine lv_iload_n hx hb dX5_age_1 rfl (lv_at hl 1 rfl) ?_
  refine lv_iconst (v := 4) hx hb dX5_age_2 (by decide) ?_
  refine lv_iconst (v := 2) hx hb dX5_age_3 (by decide) ?_
  refine lv_iload_n hx hb dX5_age_4 rfl (lv_at hl 2 rfl) ?_
  refine lv_imul hx hb dX5_age_5 ?_
  refine lv_toN (k := 2 * j) (pk_mul 2 j) ?_
  refine lv_iadd hx hb dX5_age_6 ?_
  refine lv_toN (k := 4 + (2 * j)) (nI_add 4 (2 * j)) ?_
  refine lv_iconst (v := 1) hx hb dX5_age_7 (by decide) ?_
  refine lv_iadd hx hb dX5_age_8 ?_
  refine lv_toN (k := (4 + (2 * j)) + 1) (nI_add (4 + (2 * j)) 1) ?_
  refine g_cVi (As := [.int (nI k), .int (nI ((4 + (2 * j)) + 1))]) (rest := []) hx hb hml hown hts hK hA hG hS (k_X5_of l D cy N L F hN mt ms ma mv mn mb ml mp mw mr mq mh k ((4 + (2 * j)) + 1) (by omega)) (cwV 2 hts gX5_age_X5_of rfl rfl rfl (by decide +kernel) ⟨Nat.le_of_ble_eq_true rfl, Nat.le_of_ble_eq_true rfl⟩) i162 mW_o (ci := 5) rfl rfl rfl rfl hl.1 (Nat.le_of_ble_eq_true rfl) dX5_age_9 ⟨Nat.zero_le _, Nat.zero_le _⟩ (fun H locs hG hS => ?_)
  exact g_iret hx hb hr hlocks hK hG hS rfl dX5_age_12 ⟨(congrArg (fun z9 => some (Value.int z9)) (by first | rfl | (simp only [if_true, if_false, not_true_eq_false, not_false_eq_true]; done) | (simp []; done))), rfl⟩
set_option maxHeartbeats 4000000 in
set_option maxRecDepth 100000 in
theorem k_X5_room (l : Launch) (D : va_G) (cy : Nat → ClassId) (N : Nat) (L : Nat → Nat) (F : Nat → va_E) (hN : 168 ≤ N) (mt : Int32) (ms ma mv : Nat → Int32) (mn : Int32) (mb : Nat → Int32) (ml mp mw : Int32) (mr : Nat → Int32) (mq : Int32) (mh : Int64) (j : Nat) (h : j < 6) : GM l D cy N L yX5_room wsX5_room ({ frames := 0, cells := 0, slots := 0, locals := 0 }) [.ref (L 162), .int (nI j)] (mW cy L F mt ms ma mv mn mb ml mp mw mr mq mh) (some (.int (ms (106 + 2 * j + 1) - ms (106 + 2 * j)))) (mW cy L F mt ms ma mv mn mb ml mp mw mr mq mh) := by
  refine GM.ofW (cc := cX5_room) (maxL := 2) (ret := (some .int)) (by decide) rfl (Nat.le_of_ble_eq_true rfl) ?_
  intro p e s m below meth c ls hx hb hr hts hown hlocks hml hK hA hG hS hl
  have hl : lv_has ls 2 [(0, .ref (L 162)), (1, .int (nI j))] := hl
  have i162 : 162 < N := by omega
  have i163 : 163 < N := by omega
  have i164 : 164 < N := by omega
  have i165 : 165 < N := by omega
  have i166 : 166 < N := by omega
  have i167 : 167 < N := by omega
  have hf7 := hts (.fieldLink RX5 7 "SiloPadsModel" "s" "[I") (by decide +kernel)
  have hinX5 : ∀ w ∈ u_ws RX5 TX5 12, w ∈ wsX5_room := by decide +kernel
  refine lv_aload_n hx hb dX5_room_0 rfl (lv_at hl 0 rfl) ?_
  refine g_get (ci := 5) (C := RX5) (T := TX5) (M := 12) hx hb hts hinX5 hown hK hG i162 mW_o rfl 1 (by decide) hf7 rfl rfl dX5_room_1 ?_
  refine lv_bipush (v := 106) hx hb dX5_room_4 (by decide) ?_
  refine lv_iconst (v := 2) hx hb dX5_room_6 (by decide) ?_
  refine lv_iload_n hx hb dX5_room_7 rfl (lv_at hl 1 rfl) ?_
  refine lv_imul hx hb dX5_room_8 ?_
  refine lv_toN (k := 2 * j) (pk_mul 2 j) ?_
  refine lv_iadd hx hb dX5_room_9 ?_
  refine lv_toN (k := 106 + (2 * j)) (nI_add 106 (2 * j)) ?_
  refine lv_iconst (v := 1) hx hb dX5_room_10 (by decide) ?_
  refine lv_iadd hx hb dX5_room_11 ?_
  refine lv_toN (k := (106 + (2 * j)) + 1) (nI_add (106 + (2 * j)) 1) ?_
  refine g_iald hx hb hK hG i163 mW_a163 (k := (106 + (2 * j)) + 1) rfl (by omega) (by decide) dX5_room_12 ?_
  refine lv_aload_n hx hb dX5_room_13 rfl (lv_at hl 0 rfl) ?_
  refine g_get (ci := 5) (C := RX5) (T := TX5) (M := 12) hx hb hts hinX5 hown hK hG i162 mW_o rfl 1 (by decide) hf7 rfl rfl dX5_room_14 ?_
  refine lv_bipush (v := 106) hx hb dX5_room_17 (by decide) ?_
  refine lv_iconst (v := 2) hx hb dX5_room_19 (by decide) ?_
  refine lv_iload_n hx hb dX5_room_20 rfl (lv_at hl 1 rfl) ?_
  refine lv_imul hx hb dX5_room_21 ?_
  refine lv_toN (k := 2 * j) (pk_mul 2 j) ?_
  refine lv_iadd hx hb dX5_room_22 ?_
  refine lv_toN (k := 106 + (2 * j)) (nI_add 106 (2 * j)) ?_
  refine g_iald hx hb hK hG i163 mW_a163 (k := 106 + (2 * j)) rfl (by omega) (by decide) dX5_room_23 ?_
  refine lv_isub hx hb dX5_room_24 ?_
  exact g_iret hx hb hr hlocks hK hG hS rfl dX5_room_25 ⟨(congrArg (fun z9 => some (Value.int z9)) (by first | rfl | (simp only [if_true, if_false, not_true_eq_false, not_false_eq_true]; done) | (simp []; done))), rfl⟩
set_option maxHeartbeats 4000000 in
set_option maxRecDepth 100000 in
theorem k_X5_putAside (l : Launch) (D : va_G) (cy : Nat → ClassId) (N : Nat) (L : Nat → Nat) (F : Nat → va_E) (hN : 168 ≤ N) (mt : Int32) (ms ma mv : Nat → Int32) (mn : Int32) (mb : Nat → Int32) (ml mp mw : Int32) (mr : Nat → Int32) (mq : Int32) (mh : Int64)   : GM l D cy N L yX5_putAside wsX5_putAside ({ frames := 0, cells := 0, slots := 0, locals := 0 }) [.ref (L 162)] (mW cy L F mt ms ma mv mn mb ml mp mw mr mq mh) (none) (mW cy L F mt ms (cpN ma ms (0) (0) 118) mv mn mb ml mp mw mr mq mh) := by
  refine GM.ofW (cc := cX5_putAside) (maxL := 2) (ret := none) (by decide) rfl (Nat.le_of_ble_eq_true rfl) ?_
  intro p e s m below meth c ls hx hb hr hts hown hlocks hml hK hA hG hS hl
  have hl : lv_has ls 2 [(0, .ref (L 162))] := hl
  have i162 : 162 < N := by omega
  have i163 : 163 < N := by omega
  have i164 : 164 < N := by omega
  have i165 : 165 < N := by omega
  have i166 : 166 < N := by omega
  have i167 : 167 < N := by omega
  have hf13 := hts (.fieldLink RX5 13 "SiloPadsModel" "aside" "[I") (by decide +kernel)
  have hinX5 : ∀ w ∈ u_ws RX5 TX5 12, w ∈ wsX5_putAside := by decide +kernel
  have hf7 := hts (.fieldLink RX5 7 "SiloPadsModel" "s" "[I") (by decide +kernel)
  refine lv_iconst (v := 0) hx hb dX5_putAside_0 (by decide) ?_
  refine lv_istore_n (lv' := [(1, .int 0), (0, .ref (L 162))]) hx hb dX5_putAside_1 rfl hl (by decide) rfl (fun ls hl => ?_)
  refine W.loop (σ := Nat) (fun k H locs ls => (k ≤ 118) ∧ GW D N L (gA N L s.heap.size) (mW cy L F mt ms (cpN ma ms (0) (0) k) mv mn mb ml mp mw mr mq mh) H ∧ va_S (gA N L s.heap.size) s.heap H locs ∧ lv_has ls 2 [(1, .int (nI k)), (0, .ref (L 162))]) (fun k => 118 - k) 0 ⟨by omega, hG.to (by rw [cpN_0]), hS, lv_to (lv_sub hl [0, 1] rfl) (rfl)⟩ ?_
  intro k H locs ls hP9 ih2
  obtain ⟨hk9, hG, hS, hl⟩ := hP9
  refine lv_iload_n hx hb dX5_putAside_2 rfl (lv_at hl 0 rfl) ?_
  refine lv_bipush (v := 118) hx hb dX5_putAside_3 (by decide) ?_
  refine lv_icmp_ge (tgt := 26) hx hb dX5_putAside_5 (by decide) (fun c_5 => ?_) (fun c_5 => ?_)
  · skip
    have c_5 : 118 ≤ k := (nI_leI (a := 118) (b := k) (by omega) (by omega)).mp c_5
    exact g_vret hx hb hr hlocks hK hG hS dX5_putAside_26 ⟨rfl, (by rw [show k = 118 by omega])⟩
  · skip
    have c_5 : ¬ 118 ≤ k := fun h9 => c_5 ((nI_leI (a := 118) (b := k) (by omega) (by omega)).mpr h9)
    refine lv_aload_n hx hb dX5_putAside_8 rfl (lv_at hl 1 rfl) ?_
    refine g_get (ci := 5) (C := RX5) (T := TX5) (M := 12) hx hb hts hinX5 hown hK hG i162 mW_o rfl 2 (by decide) hf13 rfl rfl dX5_putAside_9 ?_
    refine lv_iload_n hx hb dX5_putAside_12 rfl (lv_at hl 0 rfl) ?_
    refine lv_aload_n hx hb dX5_putAside_13 rfl (lv_at hl 1 rfl) ?_
    refine g_get (ci := 5) (C := RX5) (T := TX5) (M := 12) hx hb hts hinX5 hown hK hG i162 mW_o rfl 1 (by decide) hf7 rfl rfl dX5_putAside_14 ?_
    refine lv_iload_n hx hb dX5_putAside_17 rfl (lv_at hl 0 rfl) ?_
    refine g_iald hx hb hK hG i163 mW_a163 (k := k) rfl (by omega) (by decide) dX5_putAside_18 ?_
    refine g_iast hx hb hK hG hS i164 mW_a164 (k := k) rfl (by omega) (by decide) dX5_putAside_19 (fun H locs hG hS => ?_)
    have hG := hG.to mW_ua
    refine lv_iinc (v := nI (k + 1)) (lv' := [(1, .int (nI (k + 1))), (0, .ref (L 162))]) hx hb dX5_putAside_20 hl (k := 0) rfl (nI_add k 1) (by decide) rfl (fun ls hl => ?_)
    refine lv_goto (tgt := 2) hx hb dX5_putAside_23 (by decide) ?_
    have hl : lv_has ls 2 [(1, .int (nI (k + 1))), (0, .ref (L 162))] := lv_sub hl [0, 1] rfl
    exact ih2 (k + 1) _ _ _ (by omega) ⟨by omega, hG.to (by rw [show upd (cpN ma ms 0 0 k) k (ms k) = cpN ma ms 0 0 (k + 1) by simpa using cpN_s (f := ma) (g := ms) (d := 0) (a := 0) (k := k)]), hS, lv_to hl (rfl)⟩
set_option maxHeartbeats 4000000 in
set_option maxRecDepth 100000 in
theorem k_X5_takeBack (l : Launch) (D : va_G) (cy : Nat → ClassId) (N : Nat) (L : Nat → Nat) (F : Nat → va_E) (hN : 168 ≤ N) (mt : Int32) (ms ma mv : Nat → Int32) (mn : Int32) (mb : Nat → Int32) (ml mp mw : Int32) (mr : Nat → Int32) (mq : Int32) (mh : Int64)   : GM l D cy N L yX5_takeBack wsX5_takeBack ({ frames := 0, cells := 0, slots := 0, locals := 0 }) [.ref (L 162)] (mW cy L F mt ms ma mv mn mb ml mp mw mr mq mh) (none) (mW cy L F mt (cpN ms ma (0) (0) 118) ma mv mn mb ml mp mw mr mq mh) := by
  refine GM.ofW (cc := cX5_takeBack) (maxL := 2) (ret := none) (by decide) rfl (Nat.le_of_ble_eq_true rfl) ?_
  intro p e s m below meth c ls hx hb hr hts hown hlocks hml hK hA hG hS hl
  have hl : lv_has ls 2 [(0, .ref (L 162))] := hl
  have i162 : 162 < N := by omega
  have i163 : 163 < N := by omega
  have i164 : 164 < N := by omega
  have i165 : 165 < N := by omega
  have i166 : 166 < N := by omega
  have i167 : 167 < N := by omega
  have hf7 := hts (.fieldLink RX5 7 "SiloPadsModel" "s" "[I") (by decide +kernel)
  have hinX5 : ∀ w ∈ u_ws RX5 TX5 12, w ∈ wsX5_takeBack := by decide +kernel
  have hf13 := hts (.fieldLink RX5 13 "SiloPadsModel" "aside" "[I") (by decide +kernel)
  refine lv_iconst (v := 0) hx hb dX5_takeBack_0 (by decide) ?_
  refine lv_istore_n (lv' := [(1, .int 0), (0, .ref (L 162))]) hx hb dX5_takeBack_1 rfl hl (by decide) rfl (fun ls hl => ?_)
  refine W.loop (σ := Nat) (fun k H locs ls => (k ≤ 118) ∧ GW D N L (gA N L s.heap.size) (mW cy L F mt (cpN ms ma (0) (0) k) ma mv mn mb ml mp mw mr mq mh) H ∧ va_S (gA N L s.heap.size) s.heap H locs ∧ lv_has ls 2 [(1, .int (nI k)), (0, .ref (L 162))]) (fun k => 118 - k) 0 ⟨by omega, hG.to (by rw [cpN_0]), hS, lv_to (lv_sub hl [0, 1] rfl) (rfl)⟩ ?_
  intro k H locs ls hP9 ih2
  obtain ⟨hk9, hG, hS, hl⟩ := hP9
  refine lv_iload_n hx hb dX5_takeBack_2 rfl (lv_at hl 0 rfl) ?_
  refine lv_bipush (v := 118) hx hb dX5_takeBack_3 (by decide) ?_
  refine lv_icmp_ge (tgt := 26) hx hb dX5_takeBack_5 (by decide) (fun c_5 => ?_) (fun c_5 => ?_)
  · skip
    have c_5 : 118 ≤ k := (nI_leI (a := 118) (b := k) (by omega) (by omega)).mp c_5
    exact g_vret hx hb hr hlocks hK hG hS dX5_takeBack_26 ⟨rfl, (by rw [show k = 118 by omega])⟩
  · skip
    have c_5 : ¬ 118 ≤ k := fun h9 => c_5 ((nI_leI (a := 118) (b := k) (by omega) (by omega)).mpr h9)
    refine lv_aload_n hx hb dX5_takeBack_8 rfl (lv_at hl 1 rfl) ?_
    refine g_get (ci := 5) (C := RX5) (T := TX5) (M := 12) hx hb hts hinX5 hown hK hG i162 mW_o rfl 1 (by decide) hf7 rfl rfl dX5_takeBack_9 ?_
    refine lv_iload_n hx hb dX5_takeBack_12 rfl (lv_at hl 0 rfl) ?_
    refine lv_aload_n hx hb dX5_takeBack_13 rfl (lv_at hl 1 rfl) ?_
    refine g_get (ci := 5) (C := RX5) (T := TX5) (M := 12) hx hb hts hinX5 hown hK hG i162 mW_o rfl 2 (by decide) hf13 rfl rfl dX5_takeBack_14 ?_
    refine lv_iload_n hx hb dX5_takeBack_17 rfl (lv_at hl 0 rfl) ?_
    refine g_iald hx hb hK hG i164 mW_a164 (k := k) rfl (by omega) (by decide) dX5_takeBack_18 ?_
    refine g_iast hx hb hK hG hS i163 mW_a163 (k := k) rfl (by omega) (by decide) dX5_takeBack_19 (fun H locs hG hS => ?_)
    have hG := hG.to mW_us
    refine lv_iinc (v := nI (k + 1)) (lv' := [(1, .int (nI (k + 1))), (0, .ref (L 162))]) hx hb dX5_takeBack_20 hl (k := 0) rfl (nI_add k 1) (by decide) rfl (fun ls hl => ?_)
    refine lv_goto (tgt := 2) hx hb dX5_takeBack_23 (by decide) ?_
    have hl : lv_has ls 2 [(1, .int (nI (k + 1))), (0, .ref (L 162))] := lv_sub hl [0, 1] rfl
    exact ih2 (k + 1) _ _ _ (by omega) ⟨by omega, hG.to (by rw [show upd (cpN ms ma 0 0 k) k (ma k) = cpN ms ma 0 0 (k + 1) by simpa using cpN_s (f := ms) (g := ma) (d := 0) (a := 0) (k := k)]), hS, lv_to hl (rfl)⟩
set_option maxHeartbeats 4000000 in
set_option maxRecDepth 100000 in
theorem k_X5_setOf (l : Launch) (D : va_G) (cy : Nat → ClassId) (N : Nat) (L : Nat → Nat) (F : Nat → va_E) (hN : 168 ≤ N) (mt : Int32) (ms ma mv : Nat → Int32) (mn : Int32) (mb : Nat → Int32) (ml mp mw : Int32) (mr : Nat → Int32) (mq : Int32) (mh : Int64) (k j : Nat) (h : 10 + 24 * k + (4 + 2 * j + 1) < 118) : GM l D cy N L yX5_setOf wsX5_setOf ({ frames := 2, cells := 0, slots := 0, locals := 44 }) [.ref (L 162), .int (nI k), .int (nI j)] (mW cy L F mt ms ma mv mn mb ml mp mw mr mq mh) (some (.int (g_set (ms (10 + 24 * k + (4 + 2 * j + 1))) (ms 7)))) (mW cy L F mt ms ma mv mn mb ml mp mw mr mq mh) := by
  refine GM.ofW (cc := cX5_setOf) (maxL := 4) (ret := (some .int)) (by decide) rfl (Nat.le_of_ble_eq_true rfl) ?_
  intro p e s m below meth c ls hx hb hr hts hown hlocks hml hK hA hG hS hl
  have hl : lv_has ls 4 [(0, .ref (L 162)), (1, .int (nI k)), (2, .int (nI j))] := hl
  have i162 : 162 < N := by omega
  have i163 : 163 < N := by omega
  have i164 : 164 < N := by omega
  have i165 : 165 < N := by omega
  have i166 : 166 < N := by omega
  have i167 : 167 < N := by omega
  have hf7 := hts (.fieldLink RX5 7 "SiloPadsModel" "s" "[I") (by decide +kernel)
  have hinX5 : ∀ w ∈ u_ws RX5 TX5 12, w ∈ wsX5_setOf := by decide +kernel
  refine lv_aload_n hx hb dX5_setOf_0 rfl (lv_at hl 0 rfl) ?_
  refine lv_iload_n hx hb dX5_setOf_1 rfl (lv_at hl 1 rfl) ?_
  refine lv_iload_n hx hb dX5_setOf_2 rfl (lv_at hl 2 rfl) ?_
  refine g_cVi (As := [.int (nI k), .int (nI j)]) (rest := []) hx hb hml hown hts hK hA hG hS (k_X5_age l D cy N L F hN mt ms ma mv mn mb ml mp mw mr mq mh k j (by omega)) (cwV 2 hts gX5_setOf_X5_age rfl rfl rfl (by decide +kernel) ⟨Nat.le_of_ble_eq_true rfl, Nat.le_of_ble_eq_true rfl⟩) i162 mW_o (ci := 5) rfl rfl rfl rfl hl.1 (Nat.le_of_ble_eq_true rfl) dX5_setOf_3 ⟨Nat.zero_le _, Nat.zero_le _⟩ (fun H locs hG hS => ?_)
  refine lv_istore_n (lv' := [(3, .int (ms (10 + 24 * k + (4 + 2 * j + 1)))), (0, .ref (L 162)), (1, .int (nI k)), (2, .int (nI j))]) hx hb dX5_setOf_6 rfl hl (by decide) rfl (fun ls hl => ?_)
  refine lv_iload_n hx hb dX5_setOf_7 rfl (lv_at hl 0 rfl) ?_
  refine lv_aload_n hx hb dX5_setOf_8 rfl (lv_at hl 1 rfl) ?_
  refine g_get (ci := 5) (C := RX5) (T := TX5) (M := 12) hx hb hts hinX5 hown hK hG i162 mW_o rfl 1 (by decide) hf7 rfl rfl dX5_setOf_9 ?_
  refine lv_bipush (v := 7) hx hb dX5_setOf_12 (by decide) ?_
  refine g_iald hx hb hK hG i163 mW_a163 (k := 7) rfl (by omega) (by decide) dX5_setOf_14 ?_
  refine lv_icmp_gt (tgt := 22) hx hb dX5_setOf_15 (by decide) (fun c_15 => ?_) (fun c_15 => ?_)
  · skip
    refine lv_iload_n hx hb dX5_setOf_22 rfl (lv_at hl 0 rfl) ?_
    refine lv_iconst (v := 2) hx hb dX5_setOf_23 (by decide) ?_
    refine lv_aload_n hx hb dX5_setOf_24 rfl (lv_at hl 1 rfl) ?_
    refine g_get (ci := 5) (C := RX5) (T := TX5) (M := 12) hx hb hts hinX5 hown hK hG i162 mW_o rfl 1 (by decide) hf7 rfl rfl dX5_setOf_25 ?_
    refine lv_bipush (v := 7) hx hb dX5_setOf_28 (by decide) ?_
    refine g_iald hx hb hK hG i163 mW_a163 (k := 7) rfl (by omega) (by decide) dX5_setOf_30 ?_
    refine lv_imul hx hb dX5_setOf_31 ?_
    refine lv_icmp_gt (tgt := 39) hx hb dX5_setOf_32 (by decide) (fun c_32 => ?_) (fun c_32 => ?_)
    · skip
      refine lv_iconst (v := 2) hx hb dX5_setOf_39 (by decide) ?_
      exact g_iret hx hb hr hlocks hK hG hS rfl dX5_setOf_40 ⟨(congrArg (fun z9 => some (Value.int z9)) (by first | rfl | (simp only [g_set, c_15, c_32, if_true, if_false, not_true_eq_false, not_false_eq_true]; done) | (simp [g_set, c_15, c_32]; done))), rfl⟩
    · skip
      refine lv_iconst (v := 1) hx hb dX5_setOf_35 (by decide) ?_
      refine lv_goto (tgt := 40) hx hb dX5_setOf_36 (by decide) ?_
      exact g_iret hx hb hr hlocks hK hG hS rfl dX5_setOf_40 ⟨(congrArg (fun z9 => some (Value.int z9)) (by first | rfl | (simp only [g_set, c_15, c_32, if_true, if_false, not_true_eq_false, not_false_eq_true]; done) | (simp [g_set, c_15, c_32]; done))), rfl⟩
  · skip
    refine lv_iconst (v := 0) hx hb dX5_setOf_18 (by decide) ?_
    refine lv_goto (tgt := 40) hx hb dX5_setOf_19 (by decide) ?_
    exact g_iret hx hb hr hlocks hK hG hS rfl dX5_setOf_40 ⟨(congrArg (fun z9 => some (Value.int z9)) (by first | rfl | (simp only [g_set, c_15, if_true, if_false, not_true_eq_false, not_false_eq_true]; done) | (simp [g_set, c_15]; done))), rfl⟩
set_option maxHeartbeats 4000000 in
set_option maxRecDepth 100000 in
theorem k_X5_sumFrom (l : Launch) (D : va_G) (cy : Nat → ClassId) (N : Nat) (L : Nat → Nat) (F : Nat → va_E) (hN : 168 ≤ N) (mt : Int32) (ms ma mv : Nat → Int32) (mn : Int32) (mb : Nat → Int32) (ml mp mw : Int32) (mr : Nat → Int32) (mq : Int32) (mh : Int64) (k j n : Nat) (hk : k < 4) (hn : ms (10 + 24 * k + 3) = nI n) (hn10 : n ≤ 10) (hj : j ≤ n) : GM l D cy N L yX5_sumFrom wsX5_sumFrom ({ frames := 2, cells := 0, slots := 0, locals := 44 }) [.ref (L 162), .int (nI k), .int (nI j)] (mW cy L F mt ms ma mv mn mb ml mp mw mr mq mh) (some (.int (g_sum ms k j (n - j)))) (mW cy L F mt ms ma mv mn mb ml mp mw mr mq mh) := by
  refine GM.ofW (cc := cX5_sumFrom) (maxL := 5) (ret := (some .int)) (by decide) rfl (Nat.le_of_ble_eq_true rfl) ?_
  intro p e s m below meth c ls hx hb hr hts hown hlocks hml hK hA hG hS hl
  have hl : lv_has ls 5 [(0, .ref (L 162)), (1, .int (nI k)), (2, .int (nI j))] := hl
  have i162 : 162 < N := by omega
  have i163 : 163 < N := by omega
  have i164 : 164 < N := by omega
  have i165 : 165 < N := by omega
  have i166 : 166 < N := by omega
  have i167 : 167 < N := by omega
  refine lv_iconst (v := 0) hx hb dX5_sumFrom_0 (by decide) ?_
  refine lv_istore_n (lv' := [(3, .int 0), (0, .ref (L 162)), (1, .int (nI k)), (2, .int (nI j))]) hx hb dX5_sumFrom_1 rfl hl (by decide) rfl (fun ls hl => ?_)
  refine lv_iload_n hx hb dX5_sumFrom_2 rfl (lv_at hl 3 rfl) ?_
  refine lv_istore (lv' := [(4, .int (nI j)), (3, .int 0), (0, .ref (L 162)), (1, .int (nI k)), (2, .int (nI j))]) hx hb dX5_sumFrom_3 hl (by decide) rfl (fun ls hl => ?_)
  refine W.loop (σ := Nat) (fun d H locs ls => (j + d ≤ n) ∧ GW D N L (gA N L s.heap.size) (mW cy L F mt ms ma mv mn mb ml mp mw mr mq mh) H ∧ va_S (gA N L s.heap.size) s.heap H locs ∧ lv_has ls 5 [(3, .int (g_sum ms k j d)), (4, .int (nI (j + d))), (0, .ref (L 162)), (1, .int (nI k)), (2, .int (nI j))]) (fun d => n - (j + d)) 0 ⟨by omega, hG.to (rfl), hS, lv_to (lv_sub hl [1, 0, 2, 3, 4] rfl) (rfl)⟩ ?_
  intro d H locs ls hP9 ih5
  obtain ⟨hd9, hG, hS, hl⟩ := hP9
  refine lv_iload hx hb dX5_sumFrom_5 (lv_at hl 1 rfl) ?_
  refine lv_aload_n hx hb dX5_sumFrom_7 rfl (lv_at hl 2 rfl) ?_
  refine lv_iload_n hx hb dX5_sumFrom_8 rfl (lv_at hl 3 rfl) ?_
  refine lv_iconst (v := 3) hx hb dX5_sumFrom_9 (by decide) ?_
  refine g_cVi (As := [.int (nI k), .int 3]) (rest := [.int (nI (j + d))]) hx hb hml hown hts hK hA hG hS (k_X5_of l D cy N L F hN mt ms ma mv mn mb ml mp mw mr mq mh k 3 (by omega)) (cwV 2 hts gX5_sumFrom_X5_of rfl rfl rfl (by decide +kernel) ⟨Nat.le_of_ble_eq_true rfl, Nat.le_of_ble_eq_true rfl⟩) i162 mW_o (ci := 5) rfl rfl rfl rfl hl.1 (Nat.le_of_ble_eq_true rfl) dX5_sumFrom_10 ⟨Nat.zero_le _, Nat.zero_le _⟩ (fun H locs hG hS => ?_)
  refine lv_toN (k := n) (hn) ?_
  refine lv_icmp_ge (tgt := 32) hx hb dX5_sumFrom_13 (by decide) (fun c_13 => ?_) (fun c_13 => ?_)
  · skip
    have c_13 : n ≤ (j + d) := (nI_leI (a := n) (b := j + d) (by omega) (by omega)).mp c_13
    refine lv_iload_n hx hb dX5_sumFrom_32 rfl (lv_at hl 0 rfl) ?_
    exact g_iret hx hb hr hlocks hK hG hS rfl dX5_sumFrom_33 ⟨(congrArg (fun z9 => some (Value.int z9)) (by rw [show d = n - j by omega])), rfl⟩
  · skip
    have c_13 : ¬ n ≤ (j + d) := fun h9 => c_13 ((nI_leI (a := n) (b := j + d) (by omega) (by omega)).mpr h9)
    refine lv_iload_n hx hb dX5_sumFrom_16 rfl (lv_at hl 0 rfl) ?_
    refine lv_aload_n hx hb dX5_sumFrom_17 rfl (lv_at hl 2 rfl) ?_
    refine lv_iload_n hx hb dX5_sumFrom_18 rfl (lv_at hl 3 rfl) ?_
    refine lv_iload hx hb dX5_sumFrom_19 (lv_at hl 1 rfl) ?_
    refine g_cVi (As := [.int (nI k), .int (nI (j + d))]) (rest := [.int (g_sum ms k j d)]) hx hb hml hown hts hK hA hG hS (k_X5_tonnes l D cy N L F hN mt ms ma mv mn mb ml mp mw mr mq mh k (j + d) (by omega)) (cwV 2 hts gX5_sumFrom_X5_tonnes rfl rfl rfl (by decide +kernel) ⟨Nat.le_of_ble_eq_true rfl, Nat.le_of_ble_eq_true rfl⟩) i162 mW_o (ci := 5) rfl rfl rfl rfl hl.1 (Nat.le_of_ble_eq_true rfl) dX5_sumFrom_21 ⟨Nat.zero_le _, Nat.zero_le _⟩ (fun H locs hG hS => ?_)
    refine lv_iadd hx hb dX5_sumFrom_24 ?_
    refine lv_istore_n (lv' := [(3, .int ((g_sum ms k j d) + (ms (10 + 24 * k + (4 + 2 * (j + d)))))), (4, .int (nI (j + d))), (0, .ref (L 162)), (1, .int (nI k)), (2, .int (nI j))]) hx hb dX5_sumFrom_25 rfl hl (by decide) rfl (fun ls hl => ?_)
    refine lv_iinc (v := nI ((j + d) + 1)) (lv' := [(4, .int (nI ((j + d) + 1))), (3, .int ((g_sum ms k j d) + (ms (10 + 24 * k + (4 + 2 * (j + d)))))), (0, .ref (L 162)), (1, .int (nI k)), (2, .int (nI j))]) hx hb dX5_sumFrom_26 hl (k := 1) rfl (nI_add (j + d) 1) (by decide) rfl (fun ls hl => ?_)
    refine lv_goto (tgt := 5) hx hb dX5_sumFrom_29 (by decide) ?_
    have hl : lv_has ls 5 [(3, .int ((g_sum ms k j d) + (ms (10 + 24 * k + (4 + 2 * (j + d)))))), (4, .int (nI ((j + d) + 1))), (0, .ref (L 162)), (1, .int (nI k)), (2, .int (nI j))] := lv_sub hl [1, 0, 2, 3, 4] rfl
    exact ih5 (d + 1) _ _ _ (by omega) ⟨by omega, hG.to (rfl), hS, lv_to hl (rfl)⟩
set_option maxHeartbeats 4000000 in
set_option maxRecDepth 100000 in
theorem k_X5_flows (l : Launch) (D : va_G) (cy : Nat → ClassId) (N : Nat) (L : Nat → Nat) (F : Nat → va_E) (hN : 168 ≤ N) (mt : Int32) (ms ma mv : Nat → Int32) (mn : Int32) (mb : Nat → Int32) (ml mp mw : Int32) (mr : Nat → Int32) (mq : Int32) (mh : Int64) (k : Nat) (hk : k < 4) : GM l D cy N L yX5_flows wsX5_flows ({ frames := 3, cells := 0, slots := 0, locals := 67 }) [.ref (L 162), .int (nI k)] (mW cy L F mt ms ma mv mn mb ml mp mw mr mq mh) (some (.int (g_flows ms k))) (mW cy L F mt ms ma mv mn mb ml mp mw mr mq mh) := by
  refine GM.ofW (cc := cX5_flows) (maxL := 3) (ret := (some .int)) (by decide) rfl (Nat.le_of_ble_eq_true rfl) ?_
  intro p e s m below meth c ls hx hb hr hts hown hlocks hml hK hA hG hS hl
  have hl : lv_has ls 3 [(0, .ref (L 162)), (1, .int (nI k))] := hl
  have i162 : 162 < N := by omega
  have i163 : 163 < N := by omega
  have i164 : 164 < N := by omega
  have i165 : 165 < N := by omega
  have i166 : 166 < N := by omega
  have i167 : 167 < N := by omega
  refine lv_aload_n hx hb dX5_flows_0 rfl (lv_at hl 0 rfl) ?_
  refine lv_iload_n hx hb dX5_flows_1 rfl (lv_at hl 1 rfl) ?_
  refine lv_iconst (v := 3) hx hb dX5_flows_2 (by decide) ?_
  refine g_cVi (As := [.int (nI k), .int 3]) (rest := []) hx hb hml hown hts hK hA hG hS (k_X5_of l D cy N L F hN mt ms ma mv mn mb ml mp mw mr mq mh k 3 (by omega)) (cwV 2 hts gX5_flows_X5_of rfl rfl rfl (by decide +kernel) ⟨Nat.le_of_ble_eq_true rfl, Nat.le_of_ble_eq_true rfl⟩) i162 mW_o (ci := 5) rfl rfl rfl rfl hl.1 (Nat.le_of_ble_eq_true rfl) dX5_flows_3 ⟨Nat.zero_le _, Nat.zero_le _⟩ (fun H locs hG hS => ?_)
  refine lv_if_ne (tgt := 11) hx hb dX5_flows_6 (by decide) (fun c_6 => ?_) (fun c_6 => ?_)
  · skip
    refine lv_aload_n hx hb dX5_flows_11 rfl (lv_at hl 0 rfl) ?_
    refine lv_iload_n hx hb dX5_flows_12 rfl (lv_at hl 1 rfl) ?_
    refine lv_iconst (v := 0) hx hb dX5_flows_13 (by decide) ?_
    refine g_cVi (As := [.int (nI k), .int 0]) (rest := []) hx hb hml hown hts hK hA hG hS (k_X5_of l D cy N L F hN mt ms ma mv mn mb ml mp mw mr mq mh k 0 (by omega)) (cwV 2 hts gX5_flows_X5_of rfl rfl rfl (by decide +kernel) ⟨Nat.le_of_ble_eq_true rfl, Nat.le_of_ble_eq_true rfl⟩) i162 mW_o (ci := 5) rfl rfl rfl rfl hl.1 (Nat.le_of_ble_eq_true rfl) dX5_flows_14 ⟨Nat.zero_le _, Nat.zero_le _⟩ (fun H locs hG hS => ?_)
    refine lv_istore_n (lv' := [(2, .int (ms (10 + 24 * k + 0))), (0, .ref (L 162)), (1, .int (nI k))]) hx hb dX5_flows_17 rfl hl (by decide) rfl (fun ls hl => ?_)
    refine lv_aload_n hx hb dX5_flows_18 rfl (lv_at hl 1 rfl) ?_
    refine lv_iload_n hx hb dX5_flows_19 rfl (lv_at hl 2 rfl) ?_
    refine lv_iconst (v := 0) hx hb dX5_flows_20 (by decide) ?_
    refine g_cVi (As := [.int (nI k), .int 0]) (rest := []) hx hb hml hown hts hK hA hG hS (k_X5_setOf l D cy N L F hN mt ms ma mv mn mb ml mp mw mr mq mh k 0 (by omega)) (cwV 2 hts gX5_flows_X5_setOf rfl rfl rfl (by decide +kernel) ⟨Nat.le_of_ble_eq_true rfl, Nat.le_of_ble_eq_true rfl⟩) i162 mW_o (ci := 5) rfl rfl rfl rfl hl.1 (Nat.le_of_ble_eq_true rfl) dX5_flows_21 ⟨Nat.zero_le _, Nat.zero_le _⟩ (fun H locs hG hS => ?_)
    by_cases c_24_0 : g_set (ms (10 + 24 * k + (4 + 2 * 0 + 1))) (ms 7) = 0
    · skip
      refine lv_lookup (off := 28) (tgt := 52) hx hb dX5_flows_24 (by decide) (by rw [c_24_0]; decide) (by decide) ?_
      refine lv_iload_n hx hb dX5_flows_52 rfl (lv_at hl 0 rfl) ?_
      refine lv_if_ne (tgt := 60) hx hb dX5_flows_53 (by decide) (fun c_53 => ?_) (fun c_53 => ?_)
      · skip
        refine lv_bipush (v := 40) hx hb dX5_flows_60 (by decide) ?_
        refine lv_iload_n hx hb dX5_flows_62 rfl (lv_at hl 0 rfl) ?_
        refine lv_imul hx hb dX5_flows_63 ?_
        exact g_iret hx hb hr hlocks hK hG hS rfl dX5_flows_64 ⟨(congrArg (fun z9 => some (Value.int z9)) (by first | rfl | (simp only [g_flows, c_6, eq_true c_24_0, c_53, if_true, if_false, not_true_eq_false, not_false_eq_true]; done) | (simp [g_flows, c_6, eq_true c_24_0, c_53]; done))), rfl⟩
      · skip
        refine lv_iconst (v := 5) hx hb dX5_flows_56 (by decide) ?_
        refine lv_goto (tgt := 64) hx hb dX5_flows_57 (by decide) ?_
        exact g_iret hx hb hr hlocks hK hG hS rfl dX5_flows_64 ⟨(congrArg (fun z9 => some (Value.int z9)) (by first | rfl | (simp only [g_flows, c_6, eq_true c_24_0, eq_true c_53, if_true, if_false, not_true_eq_false, not_false_eq_true]; done) | (simp [g_flows, c_6, eq_true c_24_0, eq_true c_53]; done))), rfl⟩
    by_cases c_24_1 : g_set (ms (10 + 24 * k + (4 + 2 * 0 + 1))) (ms 7) = 1
    · skip
      refine lv_lookup (off := 41) (tgt := 65) hx hb dX5_flows_24 (by decide) (by rw [c_24_1]; decide) (by decide) ?_
      refine lv_iload_n hx hb dX5_flows_65 rfl (lv_at hl 0 rfl) ?_
      refine lv_if_ne (tgt := 73) hx hb dX5_flows_66 (by decide) (fun c_66 => ?_) (fun c_66 => ?_)
      · skip
        refine lv_bipush (v := 20) hx hb dX5_flows_73 (by decide) ?_
        refine lv_iload_n hx hb dX5_flows_75 rfl (lv_at hl 0 rfl) ?_
        refine lv_iconst (v := 1) hx hb dX5_flows_76 (by decide) ?_
        refine lv_isub hx hb dX5_flows_77 ?_
        refine lv_imul hx hb dX5_flows_78 ?_
        exact g_iret hx hb hr hlocks hK hG hS rfl dX5_flows_79 ⟨(congrArg (fun z9 => some (Value.int z9)) (by first | rfl | (simp only [g_flows, c_6, c_24_0, eq_true c_24_1, c_66, if_true, if_false, not_true_eq_false, not_false_eq_true]; done) | (simp [g_flows, c_6, c_24_0, eq_true c_24_1, c_66]; done))), rfl⟩
      · skip
        refine lv_iconst (v := 0) hx hb dX5_flows_69 (by decide) ?_
        refine lv_goto (tgt := 79) hx hb dX5_flows_70 (by decide) ?_
        exact g_iret hx hb hr hlocks hK hG hS rfl dX5_flows_79 ⟨(congrArg (fun z9 => some (Value.int z9)) (by first | rfl | (simp only [g_flows, c_6, c_24_0, eq_true c_24_1, eq_true c_66, if_true, if_false, not_true_eq_false, not_false_eq_true]; done) | (simp [g_flows, c_6, c_24_0, eq_true c_24_1, eq_true c_66]; done))), rfl⟩
    refine lv_lookup (off := 56) (tgt := 80) hx hb dX5_flows_24 (by decide) (lk_out2 (k0 := 0) c_24_0 (k1 := 1) c_24_1) (by decide) ?_
    refine lv_iload_n hx hb dX5_flows_80 rfl (lv_at hl 0 rfl) ?_
    refine lv_iconst (v := 4) hx hb dX5_flows_81 (by decide) ?_
    refine lv_icmp_ne (tgt := 90) hx hb dX5_flows_82 (by decide) (fun c_82 => ?_) (fun c_82 => ?_)
    · skip
      refine lv_iconst (v := 0) hx hb dX5_flows_90 (by decide) ?_
      exact g_iret hx hb hr hlocks hK hG hS rfl dX5_flows_91 ⟨(congrArg (fun z9 => some (Value.int z9)) (by first | rfl | (simp only [g_flows, c_6, c_24_0, c_24_1, c_82, if_true, if_false, not_true_eq_false, not_false_eq_true]; done) | (simp [g_flows, c_6, c_24_0, c_24_1, c_82]; done))), rfl⟩
    · skip
      refine lv_bipush (v := 10) hx hb dX5_flows_85 (by decide) ?_
      refine lv_goto (tgt := 91) hx hb dX5_flows_87 (by decide) ?_
      exact g_iret hx hb hr hlocks hK hG hS rfl dX5_flows_91 ⟨(congrArg (fun z9 => some (Value.int z9)) (by first | rfl | (simp only [g_flows, c_6, c_24_0, c_24_1, eq_true c_82, if_true, if_false, not_true_eq_false, not_false_eq_true]; done) | (simp [g_flows, c_6, c_24_0, c_24_1, eq_true c_82]; done))), rfl⟩
  · skip
    refine lv_iconst (v := 0) hx hb dX5_flows_9 (by decide) ?_
    exact g_iret hx hb hr hlocks hK hG hS rfl dX5_flows_10 ⟨(congrArg (fun z9 => some (Value.int z9)) (by first | rfl | (simp only [g_flows, eq_true c_6, if_true, if_false, not_true_eq_false, not_false_eq_true]; done) | (simp [g_flows, eq_true c_6]; done))), rfl⟩
end
section
/-! the reference's methods that change the row s -/
def Nn (s : Nat → Int32) (k : Nat) : Nat := (s (10 + 24 * k + 3)).toNatClampNeg
def wfM (s : Nat → Int32) : Prop := (∀ k, k < 4 → s (10 + 24 * k + 3) = nI (Nn s k) ∧ Nn s k ≤ 10) ∧ ¬ s 8 = 0
theorem wfM_of {s : Nat → Int32} (h : ∀ k, k < 4 → ∃ n, n ≤ 10 ∧ s (10 + 24 * k + 3) = nI n) (h8 : ¬ s 8 = 0) : wfM s := by
  refine ⟨fun k hk => ?_, h8⟩
  obtain ⟨n, hn, e⟩ := h k hk
  have hN : Nn s k = n := by
    unfold Nn
    rw [e]
    exact nI_clamp (by omega)
  rw [hN]
  exact ⟨e, hn⟩
def g_drop1 (s : Nat → Int32) (k n : Nat) : Nat → Int32 := upd s (10 + 24 * k + 3) (nI (n - 1))
def g_drop2 (s : Nat → Int32) (k n : Nat) : Nat → Int32 := cpN (g_drop1 s k n) (g_drop1 s k n) (10 + 24 * k + 4) (10 + 24 * k + 6) (2 * (n - 1))
def g_drop3 (s : Nat → Int32) (k n : Nat) : Nat → Int32 := upd (upd (g_drop2 s k n) (10 + 24 * k + (4 + 2 * (n - 1))) 0) (10 + 24 * k + (4 + 2 * (n - 1) + 1)) 0
def g_drops (s : Nat → Int32) (k n : Nat) : Nat → Int32 := upd (g_drop3 s k n) (10 + 24 * k + 1) (if g_drop3 s k n (10 + 24 * k + 1) = 1 then 2 else g_drop3 s k n (10 + 24 * k + 1))
theorem g_drops_out {s : Nat → Int32} {k n i : Nat} (hn : n ≤ 10) (hi : i < 10 + 24 * k ∨ 10 + 24 * k + 24 ≤ i) (h1 : 1 ≤ n) : g_drops s k n i = s i := by
  unfold g_drops g_drop3 g_drop2
  rw [pk_un (by omega), pk_un (by omega), pk_un (by omega)]
  unfold cpN
  rw [if_neg (by omega)]
  unfold g_drop1
  rw [pk_un (by omega)]
theorem g_drops_many {s : Nat → Int32} {k n : Nat} (h1 : 1 ≤ n) : g_drops s k n (10 + 24 * k + 3) = nI (n - 1) := by
  unfold g_drops g_drop3 g_drop2
  rw [pk_un (by omega), pk_un (by omega), pk_un (by omega)]
  unfold cpN
  rw [if_neg (by omega)]
  unfold g_drop1
  rw [pk_us]
def g_out (s : Nat → Int32) (k j : Nat) : Int32 :=
  if s (10 + 24 * k + 3) ≤ 0 then 0 else if 2 ≤ s (10 + 24 * k + 1) then 0
  else g_min (g_min (g_flows s k) (s (10 + 24 * k + (4 + 2 * 0)))) (s (106 + 2 * j + 1) - s (106 + 2 * j))
theorem g_out_pos {s : Nat → Int32} {k j n : Nat} (hn : s (10 + 24 * k + 3) = nI n) (h : ¬ g_out s k j ≤ 0) : 1 ≤ n := by
  rcases Nat.eq_zero_or_pos n with h0 | h0
  · exfalso
    apply h
    unfold g_out
    rw [if_pos (by rw [hn, h0]; decide)]
    decide
  · exact h0
def g_hourR (s : Nat → Int32) (k j : Nat) : Int32 := g_out s k j - g_out s k j / s 8
def g_hour1 (s : Nat → Int32) (k j : Nat) : Nat → Int32 :=
  upd (upd (upd s (10 + 24 * k + 4) (s (10 + 24 * k + (4 + 2 * 0)) - g_out s k j)) 1 ((upd s (10 + 24 * k + 4) (s (10 + 24 * k + (4 + 2 * 0)) - g_out s k j)) 1 + g_out s k j / s 8)) (106 + 2 * j)
    ((upd (upd s (10 + 24 * k + 4) (s (10 + 24 * k + (4 + 2 * 0)) - g_out s k j)) 1 ((upd s (10 + 24 * k + 4) (s (10 + 24 * k + (4 + 2 * 0)) - g_out s k j)) 1 + g_out s k j / s 8)) (106 + 2 * j) + (g_out s k j - g_out s k j / s 8))
def g_hourS (s : Nat → Int32) (k j n : Nat) : Nat → Int32 :=
  if g_out s k j ≤ 0 then s else if g_hour1 s k j (10 + 24 * k + (4 + 2 * 0)) = 0 then g_drops (g_hour1 s k j) k n else g_hour1 s k j
theorem g_hour1_at {s : Nat → Int32} {k j i : Nat} (h1 : i ≠ 10 + 24 * k + 4) (h2 : i ≠ 1) (h3 : i ≠ 106 + 2 * j) : g_hour1 s k j i = s i := by
  unfold g_hour1
  rw [pk_un h3, pk_un h2, pk_un h1]
theorem wfM_hour {s : Nat → Int32} {k j : Nat} (hk : k < 4) (hj : j < 6) (hw : wfM s) : wfM (g_hourS s k j (Nn s k)) := by
  unfold g_hourS
  split
  · exact hw
  · rename_i h0
    have hn1 : 1 ≤ Nn s k := g_out_pos (hw.1 k hk).1 h0
    have hn10 := (hw.1 k hk).2
    split
    · refine wfM_of (fun k' hk' => ?_) ?_
      · by_cases hkk : k' = k
        · subst hkk
          exact ⟨Nn s k' - 1, by omega, g_drops_many hn1⟩
        · refine ⟨Nn s k', (hw.1 k' hk').2, ?_⟩
          rw [g_drops_out hn10 (by omega) hn1, g_hour1_at (by omega) (by omega) (by omega)]
          exact (hw.1 k' hk').1
      · rw [g_drops_out hn10 (by omega) hn1, g_hour1_at (by omega) (by omega) (by omega)]
        exact hw.2
    · refine wfM_of (fun k' hk' => ⟨Nn s k', (hw.1 k' hk').2, ?_⟩) ?_
      · rw [g_hour1_at (by omega) (by omega) (by omega)]
        exact (hw.1 k' hk').1
      · rw [g_hour1_at (by omega) (by omega) (by omega)]
        exact hw.2
def g_hoursS (s : Nat → Int32) (k j : Nat) : Nat → Nat → Int32
  | 0 => s
  | h + 1 => g_hourS (g_hoursS s k j h) k j (Nn (g_hoursS s k j h) k)
def g_hoursR (s : Nat → Int32) (k j : Nat) : Nat → Int32
  | 0 => 0
  | h + 1 => g_hoursR s k j h + g_hourR (g_hoursS s k j h) k j
theorem wfM_hours {s : Nat → Int32} {k j : Nat} (hk : k < 4) (hj : j < 6) (hw : wfM s) : ∀ h, wfM (g_hoursS s k j h)
  | 0 => hw
  | h + 1 => wfM_hour hk hj (wfM_hours hk hj hw h)
def g_left (s : Nat → Int32) (k n : Nat) (t : Int32) : Int32 := g_min t (1200 - g_sum s k 0 (n - 0))
def g_top (s : Nat → Int32) (k n : Nat) (t : Int32) : Int32 :=
  if n ≤ 0 then 0 else if ¬ s (10 + 24 * k + (4 + 2 * (n - 1) + 1)) = 0 then 0 else g_min (g_left s k n t) (500 - s (10 + 24 * k + (4 + 2 * (n - 1))))
def g_cs1 (s : Nat → Int32) (k n : Nat) (t : Int32) : Nat → Int32 :=
  if n ≤ 0 then s else if ¬ s (10 + 24 * k + (4 + 2 * (n - 1) + 1)) = 0 then s else upd s (10 + 24 * k + (4 + 2 * (n - 1))) (s (10 + 24 * k + (4 + 2 * (n - 1))) + g_top s k n t)
def g_cs2 (s : Nat → Int32) (k n : Nat) (x : Int32) : Nat → Int32 :=
  upd (upd (upd (upd s (10 + 24 * k + (4 + 2 * n)) x) (10 + 24 * k + (4 + 2 * n + 1)) 0) (10 + 24 * k + 3) (nI (n + 1))) (10 + 24 * k + 2) 0
def g_comesR (s : Nat → Int32) (k n : Nat) (t : Int32) : Int32 :=
  if g_left s k n t - g_top s k n t = 0 then g_top s k n t else if n = 10 then g_top s k n t else g_top s k n t + (g_left s k n t - g_top s k n t)
def g_comesS (s : Nat → Int32) (k n : Nat) (t : Int32) : Nat → Int32 :=
  if g_left s k n t - g_top s k n t = 0 then g_cs1 s k n t else if n = 10 then g_cs1 s k n t else g_cs2 (g_cs1 s k n t) k n (g_left s k n t - g_top s k n t)
def g_unlR (s : Nat → Int32) (k j n : Nat) (t : Int32) : Int32 := g_comesR s k n (g_min t (s (106 + 2 * j)))
def g_unlS (s : Nat → Int32) (k j n : Nat) (t : Int32) : Nat → Int32 :=
  upd (g_comesS s k n (g_min t (s (106 + 2 * j)))) (106 + 2 * j) (g_comesS s k n (g_min t (s (106 + 2 * j))) (106 + 2 * j) - g_unlR s k j n t)
def g_forms (s : Nat → Int32) (k : Nat) : Int32 :=
  if s (10 + 24 * k + 3) ≤ 1 then 0 else if g_set (s (10 + 24 * k + (4 + 2 * 0 + 1))) (s 7) ≤ 0 then 0 else if s (10 + 24 * k + 1) = 0 then 1 else 0
def g_heavy (s : Nat → Int32) (k n : Nat) : Int32 :=
  if s (10 + 24 * k + 1) = 2 then (if g_sum s k 0 (n - 0) < s 9 then 0 else 1) else (if g_sum s k 1 (n - 1) < s 9 then 0 else 1)
def g_padsOn (s : Nat → Int32) : Nat → Int32
  | 0 => 0
  | k + 1 => g_padsOn s k + s (10 + 24 * k + 0)
def g_arches (s : Nat → Int32) : Nat → Int32
  | 0 => 0
  | k + 1 => g_arches s k + (if s (10 + 24 * k + 1) ≤ 0 then 0 else 1)
def g_inSilos (s : Nat → Int32) : Nat → Int32
  | 0 => 0
  | k + 1 => g_inSilos s k + g_sum s k 0 (Nn s k - 0)
def g_inShips (s : Nat → Int32) : Nat → Int32
  | 0 => 0
  | k + 1 => g_inShips s k + s (106 + 2 * k)
def g_reason (s : Nat → Int32) (k j : Nat) : Int32 :=
  if s (10 + 24 * k + 3) = 0 then 1 else if s (10 + 24 * k + 1) = 2 then 2 else if s (106 + 2 * j + 1) - s (106 + 2 * j) = 0 then 3 else if g_flows s k = 0 then 4 else 0
def g_tellL (s : Nat → Int32) (k j : Nat) (v : Int32) : Int32 :=
  if v = 0 then s (10 + 24 * k + (4 + 2 * j)) else if v = 1 then s (10 + 24 * k + (4 + 2 * j + 1)) else g_set (s (10 + 24 * k + (4 + 2 * j + 1))) (s 7)
end
section
set_option maxHeartbeats 4000000 in
set_option maxRecDepth 100000 in
theorem k_X5_drops (l : Launch) (D : va_G) (cy : Nat → ClassId) (N : Nat) (L : Nat → Nat) (F : Nat → va_E) (hN : 168 ≤ N) (mt : Int32) (ms ma mv : Nat → Int32) (mn : Int32) (mb : Nat → Int32) (ml mp mw : Int32) (mr : Nat → Int32) (mq : Int32) (mh : Int64) (k n : Nat) (hk : k < 4) (hn : ms (10 + 24 * k + 3) = nI n) (hn10 : n ≤ 10) (hn1 : 1 ≤ n) : GM l D cy N L yX5_drops wsX5_drops ({ frames := 1, cells := 0, slots := 0, locals := 23 }) [.ref (L 162), .int (nI k)] (mW cy L F mt ms ma mv mn mb ml mp mw mr mq mh) (none) (mW cy L F mt (g_drops ms k n) ma mv mn mb ml mp mw mr mq mh) := by
  refine GM.ofW (cc := cX5_drops) (maxL := 4) (ret := none) (by decide) rfl (Nat.le_of_ble_eq_true rfl) ?_
  intro p e s m below meth c ls hx hb hr hts hown hlocks hml hK hA hG hS hl
  have hl : lv_has ls 4 [(0, .ref (L 162)), (1, .int (nI k))] := hl
  have i162 : 162 < N := by omega
  have i163 : 163 < N := by omega
  have i164 : 164 < N := by omega
  have i165 : 165 < N := by omega
  have i166 : 166 < N := by omega
  have i167 : 167 < N := by omega
  refine lv_aload_n hx hb dX5_drops_0 rfl (lv_at hl 0 rfl) ?_
  refine lv_iload_n hx hb dX5_drops_1 rfl (lv_at hl 1 rfl) ?_
  refine lv_iconst (v := 3) hx hb dX5_drops_2 (by decide) ?_
  refine g_cVi (As := [.int (nI k), .int 3]) (rest := []) hx hb hml hown hts hK hA hG hS (k_X5_of l D cy N L F hN mt ms ma mv mn mb ml mp mw mr mq mh k 3 (by omega)) (cwV 2 hts gX5_drops_X5_of rfl rfl rfl (by decide +kernel) ⟨Nat.le_of_ble_eq_true rfl, Nat.le_of_ble_eq_true rfl⟩) i162 mW_o (ci := 5) rfl rfl rfl rfl hl.1 (Nat.le_of_ble_eq_true rfl) dX5_drops_3 ⟨Nat.zero_le _, Nat.zero_le _⟩ (fun H locs hG hS => ?_)
  refine lv_toN (k := n) (hn) ?_
  refine lv_iconst (v := 1) hx hb dX5_drops_6 (by decide) ?_
  refine lv_isub hx hb dX5_drops_7 ?_
  refine lv_toN (k := n - 1) (pk_sub (a := n) (b := 1) (by omega)) ?_
  refine lv_istore_n (lv' := [(2, .int (nI (n - 1))), (0, .ref (L 162)), (1, .int (nI k))]) hx hb dX5_drops_8 rfl hl (by decide) rfl (fun ls hl => ?_)
  refine lv_aload_n hx hb dX5_drops_9 rfl (lv_at hl 1 rfl) ?_
  refine lv_iload_n hx hb dX5_drops_10 rfl (lv_at hl 2 rfl) ?_
  refine lv_iconst (v := 3) hx hb dX5_drops_11 (by decide) ?_
  refine lv_iload_n hx hb dX5_drops_12 rfl (lv_at hl 0 rfl) ?_
  refine g_cVv (As := [.int (nI k), .int 3, .int (nI (n - 1))]) (rest := []) hx hb hml hown hts hK hA hG hS (k_X5_lay l D cy N L F hN mt ms ma mv mn mb ml mp mw mr mq mh k 3 (nI (n - 1)) (by omega)) (cwV 3 hts gX5_drops_X5_lay rfl rfl rfl (by decide +kernel) ⟨Nat.le_of_ble_eq_true rfl, Nat.le_of_ble_eq_true rfl⟩) i162 mW_o (ci := 5) rfl rfl rfl rfl hl.1 (Nat.le_of_ble_eq_true rfl) dX5_drops_13 ⟨Nat.zero_le _, Nat.zero_le _⟩ (fun H locs hG hS => ?_)
  refine lv_iconst (v := 4) hx hb dX5_drops_16 (by decide) ?_
  refine lv_istore_n (lv' := [(3, .int 4), (2, .int (nI (n - 1))), (0, .ref (L 162)), (1, .int (nI k))]) hx hb dX5_drops_17 rfl hl (by decide) rfl (fun ls hl => ?_)
  refine W.loop (σ := Nat) (fun i H locs ls => (i ≤ 2 * (n - 1)) ∧ GW D N L (gA N L s.heap.size) (mW cy L F mt (cpN (g_drop1 ms k n) (g_drop1 ms k n) (10 + 24 * k + 4) (10 + 24 * k + 6) i) ma mv mn mb ml mp mw mr mq mh) H ∧ va_S (gA N L s.heap.size) s.heap H locs ∧ lv_has ls 4 [(3, .int (nI (4 + i))), (2, .int (nI (n - 1))), (0, .ref (L 162)), (1, .int (nI k))]) (fun i => 2 * (n - 1) - i) 0 ⟨by omega, hG.to (by rw [cpN_0]; rfl), hS, lv_to (lv_sub hl [0, 1, 2, 3] rfl) (rfl)⟩ ?_
  intro i H locs ls hP9 ih18
  obtain ⟨hi9, hG, hS, hl⟩ := hP9
  refine lv_iload_n hx hb dX5_drops_18 rfl (lv_at hl 0 rfl) ?_
  refine lv_iconst (v := 4) hx hb dX5_drops_19 (by decide) ?_
  refine lv_iconst (v := 2) hx hb dX5_drops_20 (by decide) ?_
  refine lv_iload_n hx hb dX5_drops_21 rfl (lv_at hl 1 rfl) ?_
  refine lv_imul hx hb dX5_drops_22 ?_
  refine lv_toN (k := 2 * (n - 1)) (pk_mul 2 (n - 1)) ?_
  refine lv_iadd hx hb dX5_drops_23 ?_
  refine lv_toN (k := 4 + (2 * (n - 1))) (nI_add 4 (2 * (n - 1))) ?_
  refine lv_icmp_ge (tgt := 47) hx hb dX5_drops_24 (by decide) (fun c_24 => ?_) (fun c_24 => ?_)
  · skip
    have c_24 : (4 + (2 * (n - 1))) ≤ (4 + i) := (nI_leI (a := 4 + (2 * (n - 1))) (b := 4 + i) (by omega) (by omega)).mp c_24
    have hie : i = 2 * (n - 1) := by omega
    refine lv_aload_n hx hb dX5_drops_47 rfl (lv_at hl 2 rfl) ?_
    refine lv_iload_n hx hb dX5_drops_48 rfl (lv_at hl 3 rfl) ?_
    refine lv_iconst (v := 4) hx hb dX5_drops_49 (by decide) ?_
    refine lv_iconst (v := 2) hx hb dX5_drops_50 (by decide) ?_
    refine lv_iload_n hx hb dX5_drops_51 rfl (lv_at hl 1 rfl) ?_
    refine lv_imul hx hb dX5_drops_52 ?_
    refine lv_toN (k := 2 * (n - 1)) (pk_mul 2 (n - 1)) ?_
    refine lv_iadd hx hb dX5_drops_53 ?_
    refine lv_toN (k := 4 + (2 * (n - 1))) (nI_add 4 (2 * (n - 1))) ?_
    refine lv_iconst (v := 0) hx hb dX5_drops_54 (by decide) ?_
    refine g_cVv (As := [.int (nI k), .int (nI (4 + (2 * (n - 1)))), .int 0]) (rest := []) hx hb hml hown hts hK hA hG hS (k_X5_lay l D cy N L F hN mt (cpN (g_drop1 ms k n) (g_drop1 ms k n) (10 + 24 * k + 4) (10 + 24 * k + 6) i) ma mv mn mb ml mp mw mr mq mh k (4 + (2 * (n - 1))) 0 (by omega)) (cwV 3 hts gX5_drops_X5_lay rfl rfl rfl (by decide +kernel) ⟨Nat.le_of_ble_eq_true rfl, Nat.le_of_ble_eq_true rfl⟩) i162 mW_o (ci := 5) rfl rfl rfl rfl hl.1 (Nat.le_of_ble_eq_true rfl) dX5_drops_55 ⟨Nat.zero_le _, Nat.zero_le _⟩ (fun H locs hG hS => ?_)
    refine lv_aload_n hx hb dX5_drops_58 rfl (lv_at hl 2 rfl) ?_
    refine lv_iload_n hx hb dX5_drops_59 rfl (lv_at hl 3 rfl) ?_
    refine lv_iconst (v := 4) hx hb dX5_drops_60 (by decide) ?_
    refine lv_iconst (v := 2) hx hb dX5_drops_61 (by decide) ?_
    refine lv_iload_n hx hb dX5_drops_62 rfl (lv_at hl 1 rfl) ?_
    refine lv_imul hx hb dX5_drops_63 ?_
    refine lv_toN (k := 2 * (n - 1)) (pk_mul 2 (n - 1)) ?_
    refine lv_iadd hx hb dX5_drops_64 ?_
    refine lv_toN (k := 4 + (2 * (n - 1))) (nI_add 4 (2 * (n - 1))) ?_
    refine lv_iconst (v := 1) hx hb dX5_drops_65 (by decide) ?_
    refine lv_iadd hx hb dX5_drops_66 ?_
    refine lv_toN (k := (4 + (2 * (n - 1))) + 1) (nI_add (4 + (2 * (n - 1))) 1) ?_
    refine lv_iconst (v := 0) hx hb dX5_drops_67 (by decide) ?_
    refine g_cVv (As := [.int (nI k), .int (nI ((4 + (2 * (n - 1))) + 1)), .int 0]) (rest := []) hx hb hml hown hts hK hA hG hS (k_X5_lay l D cy N L F hN mt (upd (cpN (g_drop1 ms k n) (g_drop1 ms k n) (10 + 24 * k + 4) (10 + 24 * k + 6) i) (10 + 24 * k + (4 + (2 * (n - 1)))) 0) ma mv mn mb ml mp mw mr mq mh k ((4 + (2 * (n - 1))) + 1) 0 (by omega)) (cwV 3 hts gX5_drops_X5_lay rfl rfl rfl (by decide +kernel) ⟨Nat.le_of_ble_eq_true rfl, Nat.le_of_ble_eq_true rfl⟩) i162 mW_o (ci := 5) rfl rfl rfl rfl hl.1 (Nat.le_of_ble_eq_true rfl) dX5_drops_68 ⟨Nat.zero_le _, Nat.zero_le _⟩ (fun H locs hG hS => ?_)
    refine lv_aload_n hx hb dX5_drops_71 rfl (lv_at hl 2 rfl) ?_
    refine lv_iload_n hx hb dX5_drops_72 rfl (lv_at hl 3 rfl) ?_
    refine lv_iconst (v := 1) hx hb dX5_drops_73 (by decide) ?_
    refine lv_aload_n hx hb dX5_drops_74 rfl (lv_at hl 2 rfl) ?_
    refine lv_iload_n hx hb dX5_drops_75 rfl (lv_at hl 3 rfl) ?_
    refine lv_iconst (v := 1) hx hb dX5_drops_76 (by decide) ?_
    refine g_cVi (As := [.int (nI k), .int 1]) (rest := [.int 1, .int (nI k), .ref (L 162)]) hx hb hml hown hts hK hA hG hS (k_X5_of l D cy N L F hN mt (upd (upd (cpN (g_drop1 ms k n) (g_drop1 ms k n) (10 + 24 * k + 4) (10 + 24 * k + 6) i) (10 + 24 * k + (4 + (2 * (n - 1)))) 0) (10 + 24 * k + ((4 + (2 * (n - 1))) + 1)) 0) ma mv mn mb ml mp mw mr mq mh k 1 (by omega)) (cwV 2 hts gX5_drops_X5_of rfl rfl rfl (by decide +kernel) ⟨Nat.le_of_ble_eq_true rfl, Nat.le_of_ble_eq_true rfl⟩) i162 mW_o (ci := 5) rfl rfl rfl rfl hl.1 (Nat.le_of_ble_eq_true rfl) dX5_drops_77 ⟨Nat.zero_le _, Nat.zero_le _⟩ (fun H locs hG hS => ?_)
    refine lv_iconst (v := 1) hx hb dX5_drops_80 (by decide) ?_
    refine lv_icmp_ne (tgt := 88) hx hb dX5_drops_81 (by decide) (fun c_81 => ?_) (fun c_81 => ?_)
    · skip
      refine lv_aload_n hx hb dX5_drops_88 rfl (lv_at hl 2 rfl) ?_
      refine lv_iload_n hx hb dX5_drops_89 rfl (lv_at hl 3 rfl) ?_
      refine lv_iconst (v := 1) hx hb dX5_drops_90 (by decide) ?_
      refine g_cVi (As := [.int (nI k), .int 1]) (rest := [.int 1, .int (nI k), .ref (L 162)]) hx hb hml hown hts hK hA hG hS (k_X5_of l D cy N L F hN mt (upd (upd (cpN (g_drop1 ms k n) (g_drop1 ms k n) (10 + 24 * k + 4) (10 + 24 * k + 6) i) (10 + 24 * k + (4 + (2 * (n - 1)))) 0) (10 + 24 * k + ((4 + (2 * (n - 1))) + 1)) 0) ma mv mn mb ml mp mw mr mq mh k 1 (by omega)) (cwV 2 hts gX5_drops_X5_of rfl rfl rfl (by decide +kernel) ⟨Nat.le_of_ble_eq_true rfl, Nat.le_of_ble_eq_true rfl⟩) i162 mW_o (ci := 5) rfl rfl rfl rfl hl.1 (Nat.le_of_ble_eq_true rfl) dX5_drops_91 ⟨Nat.zero_le _, Nat.zero_le _⟩ (fun H locs hG hS => ?_)
      refine g_cVv (As := [.int (nI k), .int 1, .int ((upd (upd (cpN (g_drop1 ms k n) (g_drop1 ms k n) (10 + 24 * k + 4) (10 + 24 * k + 6) i) (10 + 24 * k + (4 + (2 * (n - 1)))) 0) (10 + 24 * k + ((4 + (2 * (n - 1))) + 1)) 0) (10 + 24 * k + 1))]) (rest := []) hx hb hml hown hts hK hA hG hS (k_X5_lay l D cy N L F hN mt (upd (upd (cpN (g_drop1 ms k n) (g_drop1 ms k n) (10 + 24 * k + 4) (10 + 24 * k + 6) i) (10 + 24 * k + (4 + (2 * (n - 1)))) 0) (10 + 24 * k + ((4 + (2 * (n - 1))) + 1)) 0) ma mv mn mb ml mp mw mr mq mh k 1 ((upd (upd (cpN (g_drop1 ms k n) (g_drop1 ms k n) (10 + 24 * k + 4) (10 + 24 * k + 6) i) (10 + 24 * k + (4 + (2 * (n - 1)))) 0) (10 + 24 * k + ((4 + (2 * (n - 1))) + 1)) 0) (10 + 24 * k + 1)) (by omega)) (cwV 3 hts gX5_drops_X5_lay rfl rfl rfl (by decide +kernel) ⟨Nat.le_of_ble_eq_true rfl, Nat.le_of_ble_eq_true rfl⟩) i162 mW_o (ci := 5) rfl rfl rfl rfl hl.1 (Nat.le_of_ble_eq_true rfl) dX5_drops_94 ⟨Nat.zero_le _, Nat.zero_le _⟩ (fun H locs hG hS => ?_)
      exact g_vret hx hb hr hlocks hK hG hS dX5_drops_97 ⟨rfl, (by subst hie; simp only [g_drops, g_drop3, g_drop2, c_24, c_81, if_true, if_false])⟩
    · skip
      refine lv_iconst (v := 2) hx hb dX5_drops_84 (by decide) ?_
      refine lv_goto (tgt := 94) hx hb dX5_drops_85 (by decide) ?_
      refine g_cVv (As := [.int (nI k), .int 1, .int 2]) (rest := []) hx hb hml hown hts hK hA hG hS (k_X5_lay l D cy N L F hN mt (upd (upd (cpN (g_drop1 ms k n) (g_drop1 ms k n) (10 + 24 * k + 4) (10 + 24 * k + 6) i) (10 + 24 * k + (4 + (2 * (n - 1)))) 0) (10 + 24 * k + ((4 + (2 * (n - 1))) + 1)) 0) ma mv mn mb ml mp mw mr mq mh k 1 2 (by omega)) (cwV 3 hts gX5_drops_X5_lay rfl rfl rfl (by decide +kernel) ⟨Nat.le_of_ble_eq_true rfl, Nat.le_of_ble_eq_true rfl⟩) i162 mW_o (ci := 5) rfl rfl rfl rfl hl.1 (Nat.le_of_ble_eq_true rfl) dX5_drops_94 ⟨Nat.zero_le _, Nat.zero_le _⟩ (fun H locs hG hS => ?_)
      exact g_vret hx hb hr hlocks hK hG hS dX5_drops_97 ⟨rfl, (by subst hie; simp only [g_drops, g_drop3, g_drop2, c_24, eq_true c_81, if_true, if_false])⟩
  · skip
    have c_24 : ¬ (4 + (2 * (n - 1))) ≤ (4 + i) := fun h9 => c_24 ((nI_leI (a := 4 + (2 * (n - 1))) (b := 4 + i) (by omega) (by omega)).mpr h9)
    refine lv_aload_n hx hb dX5_drops_27 rfl (lv_at hl 2 rfl) ?_
    refine lv_iload_n hx hb dX5_drops_28 rfl (lv_at hl 3 rfl) ?_
    refine lv_iload_n hx hb dX5_drops_29 rfl (lv_at hl 0 rfl) ?_
    refine lv_aload_n hx hb dX5_drops_30 rfl (lv_at hl 2 rfl) ?_
    refine lv_iload_n hx hb dX5_drops_31 rfl (lv_at hl 3 rfl) ?_
    refine lv_iload_n hx hb dX5_drops_32 rfl (lv_at hl 0 rfl) ?_
    refine lv_iconst (v := 2) hx hb dX5_drops_33 (by decide) ?_
    refine lv_iadd hx hb dX5_drops_34 ?_
    refine lv_toN (k := (4 + i) + 2) (nI_add (4 + i) 2) ?_
    refine g_cVi (As := [.int (nI k), .int (nI ((4 + i) + 2))]) (rest := [.int (nI (4 + i)), .int (nI k), .ref (L 162)]) hx hb hml hown hts hK hA hG hS (k_X5_of l D cy N L F hN mt (cpN (g_drop1 ms k n) (g_drop1 ms k n) (10 + 24 * k + 4) (10 + 24 * k + 6) i) ma mv mn mb ml mp mw mr mq mh k ((4 + i) + 2) (by omega)) (cwV 2 hts gX5_drops_X5_of rfl rfl rfl (by decide +kernel) ⟨Nat.le_of_ble_eq_true rfl, Nat.le_of_ble_eq_true rfl⟩) i162 mW_o (ci := 5) rfl rfl rfl rfl hl.1 (Nat.le_of_ble_eq_true rfl) dX5_drops_35 ⟨Nat.zero_le _, Nat.zero_le _⟩ (fun H locs hG hS => ?_)
    refine g_cVv (As := [.int (nI k), .int (nI (4 + i)), .int ((cpN (g_drop1 ms k n) (g_drop1 ms k n) (10 + 24 * k + 4) (10 + 24 * k + 6) i) (10 + 24 * k + ((4 + i) + 2)))]) (rest := []) hx hb hml hown hts hK hA hG hS (k_X5_lay l D cy N L F hN mt (cpN (g_drop1 ms k n) (g_drop1 ms k n) (10 + 24 * k + 4) (10 + 24 * k + 6) i) ma mv mn mb ml mp mw mr mq mh k (4 + i) ((cpN (g_drop1 ms k n) (g_drop1 ms k n) (10 + 24 * k + 4) (10 + 24 * k + 6) i) (10 + 24 * k + ((4 + i) + 2))) (by omega)) (cwV 3 hts gX5_drops_X5_lay rfl rfl rfl (by decide +kernel) ⟨Nat.le_of_ble_eq_true rfl, Nat.le_of_ble_eq_true rfl⟩) i162 mW_o (ci := 5) rfl rfl rfl rfl hl.1 (Nat.le_of_ble_eq_true rfl) dX5_drops_38 ⟨Nat.zero_le _, Nat.zero_le _⟩ (fun H locs hG hS => ?_)
    refine lv_iinc (v := nI ((4 + i) + 1)) (lv' := [(3, .int (nI ((4 + i) + 1))), (2, .int (nI (n - 1))), (0, .ref (L 162)), (1, .int (nI k))]) hx hb dX5_drops_41 hl (k := 0) rfl (nI_add (4 + i) 1) (by decide) rfl (fun ls hl => ?_)
    refine lv_goto (tgt := 18) hx hb dX5_drops_44 (by decide) ?_
    have hl : lv_has ls 4 [(3, .int (nI ((4 + i) + 1))), (2, .int (nI (n - 1))), (0, .ref (L 162)), (1, .int (nI k))] := lv_sub hl [0, 1, 2, 3] rfl
    exact ih18 (i + 1) _ _ _ (by omega) ⟨by omega, hG.to (by rw [cpN_own (by omega), show 10 + 24 * k + (4 + i) = (10 + 24 * k + 4) + i by omega, show 10 + 24 * k + (4 + i + 2) = i + (10 + 24 * k + 6) by omega, cpN_s]), hS, lv_to hl (rfl)⟩
set_option maxHeartbeats 4000000 in
set_option maxRecDepth 100000 in
theorem k_X5_flowsHour (l : Launch) (D : va_G) (cy : Nat → ClassId) (N : Nat) (L : Nat → Nat) (F : Nat → va_E) (hN : 168 ≤ N) (mt : Int32) (ms ma mv : Nat → Int32) (mn : Int32) (mb : Nat → Int32) (ml mp mw : Int32) (mr : Nat → Int32) (mq : Int32) (mh : Int64) (k j n : Nat) (hk : k < 4) (hn : ms (10 + 24 * k + 3) = nI n) (hn10 : n ≤ 10) (hj : j < 6) (hz : ¬ ms 8 = 0) : GM l D cy N L yX5_flowsHour wsX5_flowsHour ({ frames := 4, cells := 0, slots := 0, locals := 89 }) [.ref (L 162), .int (nI k), .int (nI j)] (mW cy L F mt ms ma mv mn mb ml mp mw mr mq mh) (some (.int (g_hourR ms k j))) (mW cy L F mt (g_hourS ms k j n) ma mv mn mb ml mp mw mr mq mh) := by
  refine GM.ofW (cc := cX5_flowsHour) (maxL := 6) (ret := (some .int)) (by decide) rfl (Nat.le_of_ble_eq_true rfl) ?_
  intro p e s m below meth c ls hx hb hr hts hown hlocks hml hK hA hG hS hl
  have hl : lv_has ls 6 [(0, .ref (L 162)), (1, .int (nI k)), (2, .int (nI j))] := hl
  have i162 : 162 < N := by omega
  have i163 : 163 < N := by omega
  have i164 : 164 < N := by omega
  have i165 : 165 < N := by omega
  have i166 : 166 < N := by omega
  have i167 : 167 < N := by omega
  have hf7 := hts (.fieldLink RX5 7 "SiloPadsModel" "s" "[I") (by decide +kernel)
  have hinX5 : ∀ w ∈ u_ws RX5 TX5 12, w ∈ wsX5_flowsHour := by decide +kernel
  refine W.cut (pc2 := 57) (st2 := []) (P := fun H locs ls => (True) ∧ GW D N L (gA N L s.heap.size) (mW cy L F mt ms ma mv mn mb ml mp mw mr mq mh) H ∧ va_S (gA N L s.heap.size) s.heap H locs ∧ lv_has ls 6 [(4, .int (g_out ms k j)), (0, .ref (L 162)), (1, .int (nI k)), (2, .int (nI j))]) (fun hcut57 => ?_) (fun H locs ls hP9 => ?_)
  · skip
    refine lv_aload_n hx hb dX5_flowsHour_0 rfl (lv_at hl 0 rfl) ?_
    refine lv_iload_n hx hb dX5_flowsHour_1 rfl (lv_at hl 1 rfl) ?_
    refine lv_iconst (v := 3) hx hb dX5_flowsHour_2 (by decide) ?_
    refine g_cVi (As := [.int (nI k), .int 3]) (rest := []) hx hb hml hown hts hK hA hG hS (k_X5_of l D cy N L F hN mt ms ma mv mn mb ml mp mw mr mq mh k 3 (by omega)) (cwV 2 hts gX5_flowsHour_X5_of rfl rfl rfl (by decide +kernel) ⟨Nat.le_of_ble_eq_true rfl, Nat.le_of_ble_eq_true rfl⟩) i162 mW_o (ci := 5) rfl rfl rfl rfl hl.1 (Nat.le_of_ble_eq_true rfl) dX5_flowsHour_3 ⟨Nat.zero_le _, Nat.zero_le _⟩ (fun H locs hG hS => ?_)
    refine lv_if_le (tgt := 23) hx hb dX5_flowsHour_6 (by decide) (fun c_6 => ?_) (fun c_6 => ?_)
    · skip
      refine lv_iconst (v := 0) hx hb dX5_flowsHour_23 (by decide) ?_
      refine lv_istore_n (lv' := [(3, .int 0), (0, .ref (L 162)), (1, .int (nI k)), (2, .int (nI j))]) hx hb dX5_flowsHour_24 rfl hl (by decide) rfl (fun ls hl => ?_)
      refine lv_iload_n hx hb dX5_flowsHour_25 rfl (lv_at hl 0 rfl) ?_
      refine lv_if_eq (tgt := 54) hx hb dX5_flowsHour_26 (by decide) (fun c_26 => ?_) (fun c_26 => ?_)
      · skip
        refine lv_iconst (v := 0) hx hb dX5_flowsHour_54 (by decide) ?_
        refine lv_istore (lv' := [(4, .int 0), (3, .int 0), (0, .ref (L 162)), (1, .int (nI k)), (2, .int (nI j))]) hx hb dX5_flowsHour_55 hl (by decide) rfl (fun ls hl => ?_)
        have hl : lv_has ls 6 [(4, .int 0), (0, .ref (L 162)), (1, .int (nI k)), (2, .int (nI j))] := lv_sub hl [0, 2, 3, 4] rfl
        exact hcut57 _ _ _ ⟨trivial, hG.to (rfl), hS, lv_to hl (by simp only [g_out, c_6, if_true, if_false])⟩
      · skip
        exact absurd c_26 (by decide)
    · skip
      refine lv_aload_n hx hb dX5_flowsHour_9 rfl (lv_at hl 0 rfl) ?_
      refine lv_iload_n hx hb dX5_flowsHour_10 rfl (lv_at hl 1 rfl) ?_
      refine lv_iconst (v := 1) hx hb dX5_flowsHour_11 (by decide) ?_
      refine g_cVi (As := [.int (nI k), .int 1]) (rest := []) hx hb hml hown hts hK hA hG hS (k_X5_of l D cy N L F hN mt ms ma mv mn mb ml mp mw mr mq mh k 1 (by omega)) (cwV 2 hts gX5_flowsHour_X5_of rfl rfl rfl (by decide +kernel) ⟨Nat.le_of_ble_eq_true rfl, Nat.le_of_ble_eq_true rfl⟩) i162 mW_o (ci := 5) rfl rfl rfl rfl hl.1 (Nat.le_of_ble_eq_true rfl) dX5_flowsHour_12 ⟨Nat.zero_le _, Nat.zero_le _⟩ (fun H locs hG hS => ?_)
      refine lv_iconst (v := 2) hx hb dX5_flowsHour_15 (by decide) ?_
      refine lv_icmp_ge (tgt := 23) hx hb dX5_flowsHour_16 (by decide) (fun c_16 => ?_) (fun c_16 => ?_)
      · skip
        refine lv_iconst (v := 0) hx hb dX5_flowsHour_23 (by decide) ?_
        refine lv_istore_n (lv' := [(3, .int 0), (0, .ref (L 162)), (1, .int (nI k)), (2, .int (nI j))]) hx hb dX5_flowsHour_24 rfl hl (by decide) rfl (fun ls hl => ?_)
        refine lv_iload_n hx hb dX5_flowsHour_25 rfl (lv_at hl 0 rfl) ?_
        refine lv_if_eq (tgt := 54) hx hb dX5_flowsHour_26 (by decide) (fun c_26 => ?_) (fun c_26 => ?_)
        · skip
          refine lv_iconst (v := 0) hx hb dX5_flowsHour_54 (by decide) ?_
          refine lv_istore (lv' := [(4, .int 0), (3, .int 0), (0, .ref (L 162)), (1, .int (nI k)), (2, .int (nI j))]) hx hb dX5_flowsHour_55 hl (by decide) rfl (fun ls hl => ?_)
          have hl : lv_has ls 6 [(4, .int 0), (0, .ref (L 162)), (1, .int (nI k)), (2, .int (nI j))] := lv_sub hl [0, 2, 3, 4] rfl
          exact hcut57 _ _ _ ⟨trivial, hG.to (rfl), hS, lv_to hl (by simp only [g_out, c_6, c_16, if_true, if_false])⟩
        · skip
          exact absurd c_26 (by decide)
      · skip
        refine lv_iconst (v := 1) hx hb dX5_flowsHour_19 (by decide) ?_
        refine lv_goto (tgt := 24) hx hb dX5_flowsHour_20 (by decide) ?_
        refine lv_istore_n (lv' := [(3, .int 1), (0, .ref (L 162)), (1, .int (nI k)), (2, .int (nI j))]) hx hb dX5_flowsHour_24 rfl hl (by decide) rfl (fun ls hl => ?_)
        refine lv_iload_n hx hb dX5_flowsHour_25 rfl (lv_at hl 0 rfl) ?_
        refine lv_if_eq (tgt := 54) hx hb dX5_flowsHour_26 (by decide) (fun c_26 => ?_) (fun c_26 => ?_)
        · skip
          exact absurd c_26 (by decide)
        · skip
          refine lv_aload_n hx hb dX5_flowsHour_29 rfl (lv_at hl 1 rfl) ?_
          refine lv_iload_n hx hb dX5_flowsHour_30 rfl (lv_at hl 2 rfl) ?_
          refine g_cVi (As := [.int (nI k)]) (rest := []) hx hb hml hown hts hK hA hG hS (k_X5_flows l D cy N L F hN mt ms ma mv mn mb ml mp mw mr mq mh k (by omega)) (cwV 1 hts gX5_flowsHour_X5_flows rfl rfl rfl (by decide +kernel) ⟨Nat.le_of_ble_eq_true rfl, Nat.le_of_ble_eq_true rfl⟩) i162 mW_o (ci := 5) rfl rfl rfl rfl hl.1 (Nat.le_of_ble_eq_true rfl) dX5_flowsHour_31 ⟨Nat.zero_le _, Nat.zero_le _⟩ (fun H locs hG hS => ?_)
          refine lv_aload_n hx hb dX5_flowsHour_34 rfl (lv_at hl 1 rfl) ?_
          refine lv_iload_n hx hb dX5_flowsHour_35 rfl (lv_at hl 2 rfl) ?_
          refine lv_iconst (v := 0) hx hb dX5_flowsHour_36 (by decide) ?_
          refine g_cVi (As := [.int (nI k), .int 0]) (rest := [.int (g_flows ms k)]) hx hb hml hown hts hK hA hG hS (k_X5_tonnes l D cy N L F hN mt ms ma mv mn mb ml mp mw mr mq mh k 0 (by omega)) (cwV 2 hts gX5_flowsHour_X5_tonnes rfl rfl rfl (by decide +kernel) ⟨Nat.le_of_ble_eq_true rfl, Nat.le_of_ble_eq_true rfl⟩) i162 mW_o (ci := 5) rfl rfl rfl rfl hl.1 (Nat.le_of_ble_eq_true rfl) dX5_flowsHour_37 ⟨Nat.zero_le _, Nat.zero_le _⟩ (fun H locs hG hS => ?_)
          refine g_cSi (As := [.int (g_flows ms k), .int (ms (10 + 24 * k + (4 + 2 * 0)))]) (rest := []) hx hb hml hown hts hK hA hG hS (k_X5_lesser l D cy N L (mW cy L F mt ms ma mv mn mb ml mp mw mr mq mh) (g_flows ms k) (ms (10 + 24 * k + (4 + 2 * 0))) ) (g_cwS 2 hts gX5_flowsHour_X5_lesser rfl rfl rfl (by decide +kernel) ⟨Nat.le_of_ble_eq_true rfl, Nat.le_of_ble_eq_true rfl⟩) rfl rfl hl.1 (Nat.le_of_ble_eq_true rfl) dX5_flowsHour_40 ⟨Nat.zero_le _, Nat.zero_le _⟩ (fun H locs hG hS => ?_)
          refine lv_aload_n hx hb dX5_flowsHour_43 rfl (lv_at hl 1 rfl) ?_
          refine lv_iload_n hx hb dX5_flowsHour_44 rfl (lv_at hl 3 rfl) ?_
          refine g_cVi (As := [.int (nI j)]) (rest := [.int (g_min (g_flows ms k) (ms (10 + 24 * k + (4 + 2 * 0))))]) hx hb hml hown hts hK hA hG hS (k_X5_room l D cy N L F hN mt ms ma mv mn mb ml mp mw mr mq mh j (by omega)) (cwV 1 hts gX5_flowsHour_X5_room rfl rfl rfl (by decide +kernel) ⟨Nat.le_of_ble_eq_true rfl, Nat.le_of_ble_eq_true rfl⟩) i162 mW_o (ci := 5) rfl rfl rfl rfl hl.1 (Nat.le_of_ble_eq_true rfl) dX5_flowsHour_45 ⟨Nat.zero_le _, Nat.zero_le _⟩ (fun H locs hG hS => ?_)
          refine g_cSi (As := [.int (g_min (g_flows ms k) (ms (10 + 24 * k + (4 + 2 * 0)))), .int (ms (106 + 2 * j + 1) - ms (106 + 2 * j))]) (rest := []) hx hb hml hown hts hK hA hG hS (k_X5_lesser l D cy N L (mW cy L F mt ms ma mv mn mb ml mp mw mr mq mh) (g_min (g_flows ms k) (ms (10 + 24 * k + (4 + 2 * 0)))) (ms (106 + 2 * j + 1) - ms (106 + 2 * j)) ) (g_cwS 2 hts gX5_flowsHour_X5_lesser rfl rfl rfl (by decide +kernel) ⟨Nat.le_of_ble_eq_true rfl, Nat.le_of_ble_eq_true rfl⟩) rfl rfl hl.1 (Nat.le_of_ble_eq_true rfl) dX5_flowsHour_48 ⟨Nat.zero_le _, Nat.zero_le _⟩ (fun H locs hG hS => ?_)
          refine lv_goto (tgt := 55) hx hb dX5_flowsHour_51 (by decide) ?_
          refine lv_istore (lv' := [(4, .int (g_min (g_min (g_flows ms k) (ms (10 + 24 * k + (4 + 2 * 0)))) (ms (106 + 2 * j + 1) - ms (106 + 2 * j)))), (3, .int 1), (0, .ref (L 162)), (1, .int (nI k)), (2, .int (nI j))]) hx hb dX5_flowsHour_55 hl (by decide) rfl (fun ls hl => ?_)
          have hl : lv_has ls 6 [(4, .int (g_min (g_min (g_flows ms k) (ms (10 + 24 * k + (4 + 2 * 0)))) (ms (106 + 2 * j + 1) - ms (106 + 2 * j)))), (0, .ref (L 162)), (1, .int (nI k)), (2, .int (nI j))] := lv_sub hl [0, 2, 3, 4] rfl
          exact hcut57 _ _ _ ⟨trivial, hG.to (rfl), hS, lv_to hl (by simp only [g_out, c_6, c_16, if_true, if_false])⟩
  · obtain ⟨-, hG, hS, hl⟩ := hP9
    refine lv_iload hx hb dX5_flowsHour_57 (lv_at hl 0 rfl) ?_
    refine lv_aload_n hx hb dX5_flowsHour_59 rfl (lv_at hl 1 rfl) ?_
    refine g_get (ci := 5) (C := RX5) (T := TX5) (M := 12) hx hb hts hinX5 hown hK hG i162 mW_o rfl 1 (by decide) hf7 rfl rfl dX5_flowsHour_60 ?_
    refine lv_bipush (v := 8) hx hb dX5_flowsHour_63 (by decide) ?_
    refine g_iald hx hb hK hG i163 mW_a163 (k := 8) rfl (by omega) (by decide) dX5_flowsHour_65 ?_
    refine lv_idiv hx hb dX5_flowsHour_66 (hz) ?_
    refine lv_istore (lv' := [(5, .int ((g_out ms k j) / (ms 8))), (4, .int (g_out ms k j)), (0, .ref (L 162)), (1, .int (nI k)), (2, .int (nI j))]) hx hb dX5_flowsHour_67 hl (by decide) rfl (fun ls hl => ?_)
    refine lv_iload hx hb dX5_flowsHour_69 (lv_at hl 1 rfl) ?_
    refine lv_if_le (tgt := 133) hx hb dX5_flowsHour_71 (by decide) (fun c_71 => ?_) (fun c_71 => ?_)
    · skip
      refine lv_iload hx hb dX5_flowsHour_133 (lv_at hl 1 rfl) ?_
      refine lv_iload hx hb dX5_flowsHour_135 (lv_at hl 0 rfl) ?_
      refine lv_isub hx hb dX5_flowsHour_137 ?_
      exact g_iret hx hb hr hlocks hK hG hS rfl dX5_flowsHour_138 ⟨(congrArg (fun z9 => some (Value.int z9)) (rfl)), (by simp [g_hourS, g_hour1, c_71])⟩
    · skip
      have hn1 : 1 ≤ n := g_out_pos hn c_71
      refine lv_aload_n hx hb dX5_flowsHour_74 rfl (lv_at hl 2 rfl) ?_
      refine lv_iload_n hx hb dX5_flowsHour_75 rfl (lv_at hl 3 rfl) ?_
      refine lv_iconst (v := 4) hx hb dX5_flowsHour_76 (by decide) ?_
      refine lv_aload_n hx hb dX5_flowsHour_77 rfl (lv_at hl 2 rfl) ?_
      refine lv_iload_n hx hb dX5_flowsHour_78 rfl (lv_at hl 3 rfl) ?_
      refine lv_iconst (v := 0) hx hb dX5_flowsHour_79 (by decide) ?_
      refine g_cVi (As := [.int (nI k), .int 0]) (rest := [.int 4, .int (nI k), .ref (L 162)]) hx hb hml hown hts hK hA hG hS (k_X5_tonnes l D cy N L F hN mt ms ma mv mn mb ml mp mw mr mq mh k 0 (by omega)) (cwV 2 hts gX5_flowsHour_X5_tonnes rfl rfl rfl (by decide +kernel) ⟨Nat.le_of_ble_eq_true rfl, Nat.le_of_ble_eq_true rfl⟩) i162 mW_o (ci := 5) rfl rfl rfl rfl hl.1 (Nat.le_of_ble_eq_true rfl) dX5_flowsHour_80 ⟨Nat.zero_le _, Nat.zero_le _⟩ (fun H locs hG hS => ?_)
      refine lv_iload hx hb dX5_flowsHour_83 (lv_at hl 1 rfl) ?_
      refine lv_isub hx hb dX5_flowsHour_85 ?_
      refine g_cVv (As := [.int (nI k), .int 4, .int ((ms (10 + 24 * k + (4 + 2 * 0))) - (g_out ms k j))]) (rest := []) hx hb hml hown hts hK hA hG hS (k_X5_lay l D cy N L F hN mt ms ma mv mn mb ml mp mw mr mq mh k 4 ((ms (10 + 24 * k + (4 + 2 * 0))) - (g_out ms k j)) (by omega)) (cwV 3 hts gX5_flowsHour_X5_lay rfl rfl rfl (by decide +kernel) ⟨Nat.le_of_ble_eq_true rfl, Nat.le_of_ble_eq_true rfl⟩) i162 mW_o (ci := 5) rfl rfl rfl rfl hl.1 (Nat.le_of_ble_eq_true rfl) dX5_flowsHour_86 ⟨Nat.zero_le _, Nat.zero_le _⟩ (fun H locs hG hS => ?_)
      refine lv_aload_n hx hb dX5_flowsHour_89 rfl (lv_at hl 2 rfl) ?_
      refine g_get (ci := 5) (C := RX5) (T := TX5) (M := 12) hx hb hts hinX5 hown hK hG i162 mW_o rfl 1 (by decide) hf7 rfl rfl dX5_flowsHour_90 ?_
      refine lv_iconst (v := 1) hx hb dX5_flowsHour_93 (by decide) ?_
      refine lv_dup2_11 hx hb dX5_flowsHour_94 rfl rfl ?_
      refine g_iald hx hb hK hG i163 mW_a163 (k := 1) rfl (by omega) (by decide) dX5_flowsHour_95 ?_
      refine lv_iload hx hb dX5_flowsHour_96 (lv_at hl 0 rfl) ?_
      refine lv_iadd hx hb dX5_flowsHour_98 ?_
      refine g_iast hx hb hK hG hS i163 mW_a163 (k := 1) rfl (by omega) (by decide) dX5_flowsHour_99 (fun H locs hG hS => ?_)
      have hG := hG.to mW_us
      refine lv_aload_n hx hb dX5_flowsHour_100 rfl (lv_at hl 2 rfl) ?_
      refine g_get (ci := 5) (C := RX5) (T := TX5) (M := 12) hx hb hts hinX5 hown hK hG i162 mW_o rfl 1 (by decide) hf7 rfl rfl dX5_flowsHour_101 ?_
      refine lv_bipush (v := 106) hx hb dX5_flowsHour_104 (by decide) ?_
      refine lv_iconst (v := 2) hx hb dX5_flowsHour_106 (by decide) ?_
      refine lv_iload_n hx hb dX5_flowsHour_107 rfl (lv_at hl 4 rfl) ?_
      refine lv_imul hx hb dX5_flowsHour_108 ?_
      refine lv_toN (k := 2 * j) (pk_mul 2 j) ?_
      refine lv_iadd hx hb dX5_flowsHour_109 ?_
      refine lv_toN (k := 106 + (2 * j)) (nI_add 106 (2 * j)) ?_
      refine lv_dup2_11 hx hb dX5_flowsHour_110 rfl rfl ?_
      refine g_iald hx hb hK hG i163 mW_a163 (k := 106 + (2 * j)) rfl (by omega) (by decide) dX5_flowsHour_111 ?_
      refine lv_iload hx hb dX5_flowsHour_112 (lv_at hl 1 rfl) ?_
      refine lv_iload hx hb dX5_flowsHour_114 (lv_at hl 0 rfl) ?_
      refine lv_isub hx hb dX5_flowsHour_116 ?_
      refine lv_iadd hx hb dX5_flowsHour_117 ?_
      refine g_iast hx hb hK hG hS i163 mW_a163 (k := 106 + (2 * j)) rfl (by omega) (by decide) dX5_flowsHour_118 (fun H locs hG hS => ?_)
      have hG := hG.to mW_us
      refine lv_aload_n hx hb dX5_flowsHour_119 rfl (lv_at hl 2 rfl) ?_
      refine lv_iload_n hx hb dX5_flowsHour_120 rfl (lv_at hl 3 rfl) ?_
      refine lv_iconst (v := 0) hx hb dX5_flowsHour_121 (by decide) ?_
      refine g_cVi (As := [.int (nI k), .int 0]) (rest := []) hx hb hml hown hts hK hA hG hS (k_X5_tonnes l D cy N L F hN mt (upd (upd (upd ms (10 + 24 * k + 4) ((ms (10 + 24 * k + (4 + 2 * 0))) - (g_out ms k j))) 1 (((upd ms (10 + 24 * k + 4) ((ms (10 + 24 * k + (4 + 2 * 0))) - (g_out ms k j))) 1) + ((g_out ms k j) / (ms 8)))) (106 + (2 * j)) (((upd (upd ms (10 + 24 * k + 4) ((ms (10 + 24 * k + (4 + 2 * 0))) - (g_out ms k j))) 1 (((upd ms (10 + 24 * k + 4) ((ms (10 + 24 * k + (4 + 2 * 0))) - (g_out ms k j))) 1) + ((g_out ms k j) / (ms 8)))) (106 + (2 * j))) + ((g_out ms k j) - ((g_out ms k j) / (ms 8))))) ma mv mn mb ml mp mw mr mq mh k 0 (by omega)) (cwV 2 hts gX5_flowsHour_X5_tonnes rfl rfl rfl (by decide +kernel) ⟨Nat.le_of_ble_eq_true rfl, Nat.le_of_ble_eq_true rfl⟩) i162 mW_o (ci := 5) rfl rfl rfl rfl hl.1 (Nat.le_of_ble_eq_true rfl) dX5_flowsHour_122 ⟨Nat.zero_le _, Nat.zero_le _⟩ (fun H locs hG hS => ?_)
      refine lv_if_ne (tgt := 133) hx hb dX5_flowsHour_125 (by decide) (fun c_125 => ?_) (fun c_125 => ?_)
      · skip
        refine lv_iload hx hb dX5_flowsHour_133 (lv_at hl 1 rfl) ?_
        refine lv_iload hx hb dX5_flowsHour_135 (lv_at hl 0 rfl) ?_
        refine lv_isub hx hb dX5_flowsHour_137 ?_
        exact g_iret hx hb hr hlocks hK hG hS rfl dX5_flowsHour_138 ⟨(congrArg (fun z9 => some (Value.int z9)) (rfl)), (by simp [g_hourS, g_hour1, c_71, c_125])⟩
      · skip
        refine lv_aload_n hx hb dX5_flowsHour_128 rfl (lv_at hl 2 rfl) ?_
        refine lv_iload_n hx hb dX5_flowsHour_129 rfl (lv_at hl 3 rfl) ?_
        refine g_cVv (As := [.int (nI k)]) (rest := []) hx hb hml hown hts hK hA hG hS (k_X5_drops l D cy N L F hN mt (upd (upd (upd ms (10 + 24 * k + 4) ((ms (10 + 24 * k + (4 + 2 * 0))) - (g_out ms k j))) 1 (((upd ms (10 + 24 * k + 4) ((ms (10 + 24 * k + (4 + 2 * 0))) - (g_out ms k j))) 1) + ((g_out ms k j) / (ms 8)))) (106 + (2 * j)) (((upd (upd ms (10 + 24 * k + 4) ((ms (10 + 24 * k + (4 + 2 * 0))) - (g_out ms k j))) 1 (((upd ms (10 + 24 * k + 4) ((ms (10 + 24 * k + (4 + 2 * 0))) - (g_out ms k j))) 1) + ((g_out ms k j) / (ms 8)))) (106 + (2 * j))) + ((g_out ms k j) - ((g_out ms k j) / (ms 8))))) ma mv mn mb ml mp mw mr mq mh k n (by omega) (by rw [pk_un (by omega), pk_un (by omega), pk_un (by omega)]; exact hn) (by omega) (by omega)) (cwV 1 hts gX5_flowsHour_X5_drops rfl rfl rfl (by decide +kernel) ⟨Nat.le_of_ble_eq_true rfl, Nat.le_of_ble_eq_true rfl⟩) i162 mW_o (ci := 5) rfl rfl rfl rfl hl.1 (Nat.le_of_ble_eq_true rfl) dX5_flowsHour_130 ⟨Nat.zero_le _, Nat.zero_le _⟩ (fun H locs hG hS => ?_)
        refine lv_iload hx hb dX5_flowsHour_133 (lv_at hl 1 rfl) ?_
        refine lv_iload hx hb dX5_flowsHour_135 (lv_at hl 0 rfl) ?_
        refine lv_isub hx hb dX5_flowsHour_137 ?_
        exact g_iret hx hb hr hlocks hK hG hS rfl dX5_flowsHour_138 ⟨(congrArg (fun z9 => some (Value.int z9)) (rfl)), (by simp [g_hourS, g_hour1, c_71, eq_true c_125])⟩
set_option maxHeartbeats 4000000 in
set_option maxRecDepth 100000 in
theorem k_X5_flowsAll (l : Launch) (D : va_G) (cy : Nat → ClassId) (N : Nat) (L : Nat → Nat) (F : Nat → va_E) (hN : 168 ≤ N) (mt : Int32) (ms ma mv : Nat → Int32) (mn : Int32) (mb : Nat → Int32) (ml mp mw : Int32) (mr : Nat → Int32) (mq : Int32) (mh : Int64) (k j q : Nat) (hk : k < 4) (hj : j < 6) (hq : q < 100) (hw : wfM ms) : GM l D cy N L yX5_flowsAll wsX5_flowsAll ({ frames := 5, cells := 0, slots := 0, locals := 114 }) [.ref (L 162), .int (nI k), .int (nI j), .int (nI q)] (mW cy L F mt ms ma mv mn mb ml mp mw mr mq mh) (some (.int (g_hoursR ms k j q))) (mW cy L F mt (g_hoursS ms k j q) ma mv mn mb ml mp mw mr mq mh) := by
  refine GM.ofW (cc := cX5_flowsAll) (maxL := 6) (ret := (some .int)) (by decide) rfl (Nat.le_of_ble_eq_true rfl) ?_
  intro p e s m below meth c ls hx hb hr hts hown hlocks hml hK hA hG hS hl
  have hl : lv_has ls 6 [(0, .ref (L 162)), (1, .int (nI k)), (2, .int (nI j)), (3, .int (nI q))] := hl
  have i162 : 162 < N := by omega
  have i163 : 163 < N := by omega
  have i164 : 164 < N := by omega
  have i165 : 165 < N := by omega
  have i166 : 166 < N := by omega
  have i167 : 167 < N := by omega
  refine lv_iconst (v := 0) hx hb dX5_flowsAll_0 (by decide) ?_
  refine lv_istore (lv' := [(4, .int 0), (0, .ref (L 162)), (1, .int (nI k)), (2, .int (nI j)), (3, .int (nI q))]) hx hb dX5_flowsAll_1 hl (by decide) rfl (fun ls hl => ?_)
  refine lv_iconst (v := 0) hx hb dX5_flowsAll_3 (by decide) ?_
  refine lv_istore (lv' := [(5, .int 0), (4, .int 0), (0, .ref (L 162)), (1, .int (nI k)), (2, .int (nI j)), (3, .int (nI q))]) hx hb dX5_flowsAll_4 hl (by decide) rfl (fun ls hl => ?_)
  refine W.loop (σ := Nat) (fun h H locs ls => (h ≤ q) ∧ GW D N L (gA N L s.heap.size) (mW cy L F mt (g_hoursS ms k j h) ma mv mn mb ml mp mw mr mq mh) H ∧ va_S (gA N L s.heap.size) s.heap H locs ∧ lv_has ls 6 [(4, .int (g_hoursR ms k j h)), (5, .int (nI h)), (0, .ref (L 162)), (1, .int (nI k)), (2, .int (nI j)), (3, .int (nI q))]) (fun h => q - h) 0 ⟨by omega, hG.to (rfl), hS, lv_to (lv_sub hl [1, 0, 2, 3, 4, 5] rfl) (rfl)⟩ ?_
  intro h H locs ls hP9 ih6
  obtain ⟨hh9, hG, hS, hl⟩ := hP9
  have hw9 := wfM_hours hk hj hw h
  have hw8 := hw9.1 k hk
  refine lv_iload hx hb dX5_flowsAll_6 (lv_at hl 1 rfl) ?_
  refine lv_iload_n hx hb dX5_flowsAll_8 rfl (lv_at hl 5 rfl) ?_
  refine lv_icmp_ge (tgt := 29) hx hb dX5_flowsAll_9 (by decide) (fun c_9 => ?_) (fun c_9 => ?_)
  · skip
    have c_9 : q ≤ h := (nI_leI (a := q) (b := h) (by omega) (by omega)).mp c_9
    refine lv_iload hx hb dX5_flowsAll_29 (lv_at hl 0 rfl) ?_
    exact g_iret hx hb hr hlocks hK hG hS rfl dX5_flowsAll_31 ⟨(congrArg (fun z9 => some (Value.int z9)) (by rw [show h = q by omega])), (by rw [show h = q by omega])⟩
  · skip
    have c_9 : ¬ q ≤ h := fun h9 => c_9 ((nI_leI (a := q) (b := h) (by omega) (by omega)).mpr h9)
    refine lv_iload hx hb dX5_flowsAll_12 (lv_at hl 0 rfl) ?_
    refine lv_aload_n hx hb dX5_flowsAll_14 rfl (lv_at hl 2 rfl) ?_
    refine lv_iload_n hx hb dX5_flowsAll_15 rfl (lv_at hl 3 rfl) ?_
    refine lv_iload_n hx hb dX5_flowsAll_16 rfl (lv_at hl 4 rfl) ?_
    refine g_cVi (As := [.int (nI k), .int (nI j)]) (rest := [.int (g_hoursR ms k j h)]) hx hb hml hown hts hK hA hG hS (k_X5_flowsHour l D cy N L F hN mt (g_hoursS ms k j h) ma mv mn mb ml mp mw mr mq mh k j (Nn (g_hoursS ms k j h) k) (by omega) (hw8.1) (hw8.2) (by omega) (hw9.2)) (cwV 2 hts gX5_flowsAll_X5_flowsHour rfl rfl rfl (by decide +kernel) ⟨Nat.le_of_ble_eq_true rfl, Nat.le_of_ble_eq_true rfl⟩) i162 mW_o (ci := 5) rfl rfl rfl rfl hl.1 (Nat.le_of_ble_eq_true rfl) dX5_flowsAll_17 ⟨Nat.zero_le _, Nat.zero_le _⟩ (fun H locs hG hS => ?_)
    refine lv_iadd hx hb dX5_flowsAll_20 ?_
    refine lv_istore (lv' := [(4, .int ((g_hoursR ms k j h) + (g_hourR (g_hoursS ms k j h) k j))), (5, .int (nI h)), (0, .ref (L 162)), (1, .int (nI k)), (2, .int (nI j)), (3, .int (nI q))]) hx hb dX5_flowsAll_21 hl (by decide) rfl (fun ls hl => ?_)
    refine lv_iinc (v := nI (h + 1)) (lv' := [(5, .int (nI (h + 1))), (4, .int ((g_hoursR ms k j h) + (g_hourR (g_hoursS ms k j h) k j))), (0, .ref (L 162)), (1, .int (nI k)), (2, .int (nI j)), (3, .int (nI q))]) hx hb dX5_flowsAll_23 hl (k := 1) rfl (nI_add h 1) (by decide) rfl (fun ls hl => ?_)
    refine lv_goto (tgt := 6) hx hb dX5_flowsAll_26 (by decide) ?_
    have hl : lv_has ls 6 [(4, .int ((g_hoursR ms k j h) + (g_hourR (g_hoursS ms k j h) k j))), (5, .int (nI (h + 1))), (0, .ref (L 162)), (1, .int (nI k)), (2, .int (nI j)), (3, .int (nI q))] := lv_sub hl [1, 0, 2, 3, 4, 5] rfl
    exact ih6 (h + 1) _ _ _ (by omega) ⟨by omega, hG.to (rfl), hS, lv_to hl (rfl)⟩
set_option maxHeartbeats 4000000 in
set_option maxRecDepth 100000 in
theorem k_X5_comes (l : Launch) (D : va_G) (cy : Nat → ClassId) (N : Nat) (L : Nat → Nat) (F : Nat → va_E) (hN : 168 ≤ N) (mt : Int32) (ms ma mv : Nat → Int32) (mn : Int32) (mb : Nat → Int32) (ml mp mw : Int32) (mr : Nat → Int32) (mq : Int32) (mh : Int64) (k n : Nat) (t : Int32) (hk : k < 4) (hn : ms (10 + 24 * k + 3) = nI n) (hn10 : n ≤ 10) : GM l D cy N L yX5_comes wsX5_comes ({ frames := 3, cells := 0, slots := 0, locals := 68 }) [.ref (L 162), .int (nI k), .int t] (mW cy L F mt ms ma mv mn mb ml mp mw mr mq mh) (some (.int (g_comesR ms k n t))) (mW cy L F mt (g_comesS ms k n t) ma mv mn mb ml mp mw mr mq mh) := by
  refine GM.ofW (cc := cX5_comes) (maxL := 7) (ret := (some .int)) (by decide) rfl (Nat.le_of_ble_eq_true rfl) ?_
  intro p e s m below meth c ls hx hb hr hts hown hlocks hml hK hA hG hS hl
  have hl : lv_has ls 7 [(0, .ref (L 162)), (1, .int (nI k)), (2, .int t)] := hl
  have i162 : 162 < N := by omega
  have i163 : 163 < N := by omega
  have i164 : 164 < N := by omega
  have i165 : 165 < N := by omega
  have i166 : 166 < N := by omega
  have i167 : 167 < N := by omega
  refine lv_iload_n hx hb dX5_comes_0 rfl (lv_at hl 2 rfl) ?_
  refine lv_sipush (v := 1200) hx hb dX5_comes_1 (by decide) ?_
  refine lv_aload_n hx hb dX5_comes_4 rfl (lv_at hl 0 rfl) ?_
  refine lv_iload_n hx hb dX5_comes_5 rfl (lv_at hl 1 rfl) ?_
  refine lv_iconst (v := 0) hx hb dX5_comes_6 (by decide) ?_
  refine g_cVi (As := [.int (nI k), .int 0]) (rest := [.int 1200, .int t]) hx hb hml hown hts hK hA hG hS (k_X5_sumFrom l D cy N L F hN mt ms ma mv mn mb ml mp mw mr mq mh k 0 n (by omega) (by omega) (by omega) (by omega)) (cwV 2 hts gX5_comes_X5_sumFrom rfl rfl rfl (by decide +kernel) ⟨Nat.le_of_ble_eq_true rfl, Nat.le_of_ble_eq_true rfl⟩) i162 mW_o (ci := 5) rfl rfl rfl rfl hl.1 (Nat.le_of_ble_eq_true rfl) dX5_comes_7 ⟨Nat.zero_le _, Nat.zero_le _⟩ (fun H locs hG hS => ?_)
  refine lv_isub hx hb dX5_comes_10 ?_
  refine g_cSi (As := [.int t, .int (1200 - (g_sum ms k 0 (n - 0)))]) (rest := []) hx hb hml hown hts hK hA hG hS (k_X5_lesser l D cy N L (mW cy L F mt ms ma mv mn mb ml mp mw mr mq mh) t (1200 - (g_sum ms k 0 (n - 0))) ) (g_cwS 2 hts gX5_comes_X5_lesser rfl rfl rfl (by decide +kernel) ⟨Nat.le_of_ble_eq_true rfl, Nat.le_of_ble_eq_true rfl⟩) rfl rfl hl.1 (Nat.le_of_ble_eq_true rfl) dX5_comes_11 ⟨Nat.zero_le _, Nat.zero_le _⟩ (fun H locs hG hS => ?_)
  refine lv_istore_n (lv' := [(3, .int (g_min t (1200 - (g_sum ms k 0 (n - 0))))), (0, .ref (L 162)), (1, .int (nI k)), (2, .int t)]) hx hb dX5_comes_14 rfl hl (by decide) rfl (fun ls hl => ?_)
  refine lv_aload_n hx hb dX5_comes_15 rfl (lv_at hl 1 rfl) ?_
  refine lv_iload_n hx hb dX5_comes_16 rfl (lv_at hl 2 rfl) ?_
  refine lv_iconst (v := 3) hx hb dX5_comes_17 (by decide) ?_
  refine g_cVi (As := [.int (nI k), .int 3]) (rest := []) hx hb hml hown hts hK hA hG hS (k_X5_of l D cy N L F hN mt ms ma mv mn mb ml mp mw mr mq mh k 3 (by omega)) (cwV 2 hts gX5_comes_X5_of rfl rfl rfl (by decide +kernel) ⟨Nat.le_of_ble_eq_true rfl, Nat.le_of_ble_eq_true rfl⟩) i162 mW_o (ci := 5) rfl rfl rfl rfl hl.1 (Nat.le_of_ble_eq_true rfl) dX5_comes_18 ⟨Nat.zero_le _, Nat.zero_le _⟩ (fun H locs hG hS => ?_)
  refine lv_toN (k := n) (hn) ?_
  refine lv_istore (lv' := [(4, .int (nI n)), (3, .int (g_min t (1200 - (g_sum ms k 0 (n - 0))))), (0, .ref (L 162)), (1, .int (nI k)), (2, .int t)]) hx hb dX5_comes_21 hl (by decide) rfl (fun ls hl => ?_)
  refine lv_iload hx hb dX5_comes_23 (lv_at hl 0 rfl) ?_
  refine lv_if_le (tgt := 44) hx hb dX5_comes_25 (by decide) (fun c_25 => ?_) (fun c_25 => ?_)
  · skip
    have c_25 : n ≤ 0 := (nI_leI (a := n) (b := 0) (by omega) (by omega)).mp c_25
    refine lv_iconst (v := 0) hx hb dX5_comes_44 (by decide) ?_
    refine lv_istore (lv' := [(5, .int 0), (4, .int (nI n)), (3, .int (g_min t (1200 - (g_sum ms k 0 (n - 0))))), (0, .ref (L 162)), (1, .int (nI k)), (2, .int t)]) hx hb dX5_comes_45 hl (by decide) rfl (fun ls hl => ?_)
    refine lv_iload hx hb dX5_comes_47 (lv_at hl 0 rfl) ?_
    refine lv_if_eq (tgt := 72) hx hb dX5_comes_49 (by decide) (fun c_49 => ?_) (fun c_49 => ?_)
    · skip
      refine lv_iconst (v := 0) hx hb dX5_comes_72 (by decide) ?_
      refine lv_istore (lv' := [(6, .int 0), (5, .int 0), (4, .int (nI n)), (3, .int (g_min t (1200 - (g_sum ms k 0 (n - 0))))), (0, .ref (L 162)), (1, .int (nI k)), (2, .int t)]) hx hb dX5_comes_73 hl (by decide) rfl (fun ls hl => ?_)
      refine lv_iload hx hb dX5_comes_75 (lv_at hl 1 rfl) ?_
      refine lv_if_eq (tgt := 105) hx hb dX5_comes_77 (by decide) (fun c_77 => ?_) (fun c_77 => ?_)
      · skip
        refine lv_iload_n hx hb dX5_comes_105 rfl (lv_at hl 3 rfl) ?_
        refine lv_iload hx hb dX5_comes_106 (lv_at hl 0 rfl) ?_
        refine lv_isub hx hb dX5_comes_108 ?_
        refine lv_istore_n (lv' := [(3, .int ((g_min t (1200 - (g_sum ms k 0 (n - 0)))) - 0)), (6, .int 0), (5, .int 0), (4, .int (nI n)), (0, .ref (L 162)), (1, .int (nI k)), (2, .int t)]) hx hb dX5_comes_109 rfl hl (by decide) rfl (fun ls hl => ?_)
        refine lv_iload_n hx hb dX5_comes_110 rfl (lv_at hl 0 rfl) ?_
        refine lv_if_eq (tgt := 121) hx hb dX5_comes_111 (by decide) (fun c_111 => ?_) (fun c_111 => ?_)
        · skip
          refine lv_iload hx hb dX5_comes_121 (lv_at hl 1 rfl) ?_
          exact g_iret hx hb hr hlocks hK hG hS rfl dX5_comes_123 ⟨(congrArg (fun z9 => some (Value.int z9)) (by first | rfl | (simp only [g_comesR, g_comesS, g_top, g_cs1, g_cs2, g_left, c_25, eq_true c_111, if_true, if_false, not_true_eq_false, not_false_eq_true]; done) | (simp [g_comesR, g_comesS, g_top, g_cs1, g_cs2, g_left, c_25, eq_true c_111]; done))), (by first | rfl | (simp only [g_comesR, g_comesS, g_top, g_cs1, g_cs2, g_left, c_25, eq_true c_111, if_true, if_false, not_true_eq_false, not_false_eq_true]; done) | (simp [g_comesR, g_comesS, g_top, g_cs1, g_cs2, g_left, c_25, eq_true c_111]; done))⟩
        · skip
          refine lv_iload hx hb dX5_comes_114 (lv_at hl 3 rfl) ?_
          refine lv_bipush (v := 10) hx hb dX5_comes_116 (by decide) ?_
          refine lv_icmp_ne (tgt := 124) hx hb dX5_comes_118 (by decide) (fun c_118 => ?_) (fun c_118 => ?_)
          · skip
            have c_118 : ¬ n = 10 := fun h9 => c_118 ((nI_eq (a := n) (b := 10) (by omega) (by omega)).mpr h9)
            refine lv_aload_n hx hb dX5_comes_124 rfl (lv_at hl 4 rfl) ?_
            refine lv_iload_n hx hb dX5_comes_125 rfl (lv_at hl 5 rfl) ?_
            refine lv_iconst (v := 4) hx hb dX5_comes_126 (by decide) ?_
            refine lv_iconst (v := 2) hx hb dX5_comes_127 (by decide) ?_
            refine lv_iload hx hb dX5_comes_128 (lv_at hl 3 rfl) ?_
            refine lv_imul hx hb dX5_comes_130 ?_
            refine lv_toN (k := 2 * n) (pk_mul 2 n) ?_
            refine lv_iadd hx hb dX5_comes_131 ?_
            refine lv_toN (k := 4 + (2 * n)) (nI_add 4 (2 * n)) ?_
            refine lv_iload_n hx hb dX5_comes_132 rfl (lv_at hl 0 rfl) ?_
            refine g_cVv (As := [.int (nI k), .int (nI (4 + (2 * n))), .int ((g_min t (1200 - (g_sum ms k 0 (n - 0)))) - 0)]) (rest := []) hx hb hml hown hts hK hA hG hS (k_X5_lay l D cy N L F hN mt ms ma mv mn mb ml mp mw mr mq mh k (4 + (2 * n)) ((g_min t (1200 - (g_sum ms k 0 (n - 0)))) - 0) (by omega)) (cwV 3 hts gX5_comes_X5_lay rfl rfl rfl (by decide +kernel) ⟨Nat.le_of_ble_eq_true rfl, Nat.le_of_ble_eq_true rfl⟩) i162 mW_o (ci := 5) rfl rfl rfl rfl hl.1 (Nat.le_of_ble_eq_true rfl) dX5_comes_133 ⟨Nat.zero_le _, Nat.zero_le _⟩ (fun H locs hG hS => ?_)
            refine lv_aload_n hx hb dX5_comes_136 rfl (lv_at hl 4 rfl) ?_
            refine lv_iload_n hx hb dX5_comes_137 rfl (lv_at hl 5 rfl) ?_
            refine lv_iconst (v := 4) hx hb dX5_comes_138 (by decide) ?_
            refine lv_iconst (v := 2) hx hb dX5_comes_139 (by decide) ?_
            refine lv_iload hx hb dX5_comes_140 (lv_at hl 3 rfl) ?_
            refine lv_imul hx hb dX5_comes_142 ?_
            refine lv_toN (k := 2 * n) (pk_mul 2 n) ?_
            refine lv_iadd hx hb dX5_comes_143 ?_
            refine lv_toN (k := 4 + (2 * n)) (nI_add 4 (2 * n)) ?_
            refine lv_iconst (v := 1) hx hb dX5_comes_144 (by decide) ?_
            refine lv_iadd hx hb dX5_comes_145 ?_
            refine lv_toN (k := (4 + (2 * n)) + 1) (nI_add (4 + (2 * n)) 1) ?_
            refine lv_iconst (v := 0) hx hb dX5_comes_146 (by decide) ?_
            refine g_cVv (As := [.int (nI k), .int (nI ((4 + (2 * n)) + 1)), .int 0]) (rest := []) hx hb hml hown hts hK hA hG hS (k_X5_lay l D cy N L F hN mt (upd ms (10 + 24 * k + (4 + (2 * n))) ((g_min t (1200 - (g_sum ms k 0 (n - 0)))) - 0)) ma mv mn mb ml mp mw mr mq mh k ((4 + (2 * n)) + 1) 0 (by omega)) (cwV 3 hts gX5_comes_X5_lay rfl rfl rfl (by decide +kernel) ⟨Nat.le_of_ble_eq_true rfl, Nat.le_of_ble_eq_true rfl⟩) i162 mW_o (ci := 5) rfl rfl rfl rfl hl.1 (Nat.le_of_ble_eq_true rfl) dX5_comes_147 ⟨Nat.zero_le _, Nat.zero_le _⟩ (fun H locs hG hS => ?_)
            refine lv_aload_n hx hb dX5_comes_150 rfl (lv_at hl 4 rfl) ?_
            refine lv_iload_n hx hb dX5_comes_151 rfl (lv_at hl 5 rfl) ?_
            refine lv_iconst (v := 3) hx hb dX5_comes_152 (by decide) ?_
            refine lv_iload hx hb dX5_comes_153 (lv_at hl 3 rfl) ?_
            refine lv_iconst (v := 1) hx hb dX5_comes_155 (by decide) ?_
            refine lv_iadd hx hb dX5_comes_156 ?_
            refine lv_toN (k := n + 1) (nI_add n 1) ?_
            refine g_cVv (As := [.int (nI k), .int 3, .int (nI (n + 1))]) (rest := []) hx hb hml hown hts hK hA hG hS (k_X5_lay l D cy N L F hN mt (upd (upd ms (10 + 24 * k + (4 + (2 * n))) ((g_min t (1200 - (g_sum ms k 0 (n - 0)))) - 0)) (10 + 24 * k + ((4 + (2 * n)) + 1)) 0) ma mv mn mb ml mp mw mr mq mh k 3 (nI (n + 1)) (by omega)) (cwV 3 hts gX5_comes_X5_lay rfl rfl rfl (by decide +kernel) ⟨Nat.le_of_ble_eq_true rfl, Nat.le_of_ble_eq_true rfl⟩) i162 mW_o (ci := 5) rfl rfl rfl rfl hl.1 (Nat.le_of_ble_eq_true rfl) dX5_comes_157 ⟨Nat.zero_le _, Nat.zero_le _⟩ (fun H locs hG hS => ?_)
            refine lv_aload_n hx hb dX5_comes_160 rfl (lv_at hl 4 rfl) ?_
            refine lv_iload_n hx hb dX5_comes_161 rfl (lv_at hl 5 rfl) ?_
            refine lv_iconst (v := 2) hx hb dX5_comes_162 (by decide) ?_
            refine lv_iconst (v := 0) hx hb dX5_comes_163 (by decide) ?_
            refine g_cVv (As := [.int (nI k), .int 2, .int 0]) (rest := []) hx hb hml hown hts hK hA hG hS (k_X5_lay l D cy N L F hN mt (upd (upd (upd ms (10 + 24 * k + (4 + (2 * n))) ((g_min t (1200 - (g_sum ms k 0 (n - 0)))) - 0)) (10 + 24 * k + ((4 + (2 * n)) + 1)) 0) (10 + 24 * k + 3) (nI (n + 1))) ma mv mn mb ml mp mw mr mq mh k 2 0 (by omega)) (cwV 3 hts gX5_comes_X5_lay rfl rfl rfl (by decide +kernel) ⟨Nat.le_of_ble_eq_true rfl, Nat.le_of_ble_eq_true rfl⟩) i162 mW_o (ci := 5) rfl rfl rfl rfl hl.1 (Nat.le_of_ble_eq_true rfl) dX5_comes_164 ⟨Nat.zero_le _, Nat.zero_le _⟩ (fun H locs hG hS => ?_)
            refine lv_iload hx hb dX5_comes_167 (lv_at hl 1 rfl) ?_
            refine lv_iload_n hx hb dX5_comes_169 rfl (lv_at hl 0 rfl) ?_
            refine lv_iadd hx hb dX5_comes_170 ?_
            exact g_iret hx hb hr hlocks hK hG hS rfl dX5_comes_171 ⟨(congrArg (fun z9 => some (Value.int z9)) (by first | rfl | (simp only [g_comesR, g_comesS, g_top, g_cs1, g_cs2, g_left, c_25, c_111, c_118, if_true, if_false, not_true_eq_false, not_false_eq_true]; done) | (simp [g_comesR, g_comesS, g_top, g_cs1, g_cs2, g_left, c_25, c_111, c_118]; done))), (by first | rfl | (simp only [g_comesR, g_comesS, g_top, g_cs1, g_cs2, g_left, c_25, c_111, c_118, if_true, if_false, not_true_eq_false, not_false_eq_true]; done) | (simp [g_comesR, g_comesS, g_top, g_cs1, g_cs2, g_left, c_25, c_111, c_118]; done))⟩
          · skip
            have c_118 : n = 10 := (nI_eq (a := n) (b := 10) (by omega) (by omega)).mp c_118
            refine lv_iload hx hb dX5_comes_121 (lv_at hl 1 rfl) ?_
            exact g_iret hx hb hr hlocks hK hG hS rfl dX5_comes_123 ⟨(congrArg (fun z9 => some (Value.int z9)) (by first | rfl | (simp only [g_comesR, g_comesS, g_top, g_cs1, g_cs2, g_left, c_25, c_111, eq_true c_118, if_true, if_false, not_true_eq_false, not_false_eq_true]; done) | (simp [g_comesR, g_comesS, g_top, g_cs1, g_cs2, g_left, c_25, c_111, eq_true c_118]; done))), (by first | rfl | (simp only [g_comesR, g_comesS, g_top, g_cs1, g_cs2, g_left, c_25, c_111, eq_true c_118, if_true, if_false, not_true_eq_false, not_false_eq_true]; done) | (simp [g_comesR, g_comesS, g_top, g_cs1, g_cs2, g_left, c_25, c_111, eq_true c_118]; done))⟩
      · skip
        exact absurd c_77 (by decide)
    · skip
      exact absurd c_49 (by decide)
  · skip
    have c_25 : ¬ n ≤ 0 := fun h9 => c_25 ((nI_leI (a := n) (b := 0) (by omega) (by omega)).mpr h9)
    refine lv_aload_n hx hb dX5_comes_28 rfl (lv_at hl 2 rfl) ?_
    refine lv_iload_n hx hb dX5_comes_29 rfl (lv_at hl 3 rfl) ?_
    refine lv_iload hx hb dX5_comes_30 (lv_at hl 0 rfl) ?_
    refine lv_iconst (v := 1) hx hb dX5_comes_32 (by decide) ?_
    refine lv_isub hx hb dX5_comes_33 ?_
    refine lv_toN (k := n - 1) (pk_sub (a := n) (b := 1) (by omega)) ?_
    refine g_cVi (As := [.int (nI k), .int (nI (n - 1))]) (rest := []) hx hb hml hown hts hK hA hG hS (k_X5_age l D cy N L F hN mt ms ma mv mn mb ml mp mw mr mq mh k (n - 1) (by omega)) (cwV 2 hts gX5_comes_X5_age rfl rfl rfl (by decide +kernel) ⟨Nat.le_of_ble_eq_true rfl, Nat.le_of_ble_eq_true rfl⟩) i162 mW_o (ci := 5) rfl rfl rfl rfl hl.1 (Nat.le_of_ble_eq_true rfl) dX5_comes_34 ⟨Nat.zero_le _, Nat.zero_le _⟩ (fun H locs hG hS => ?_)
    refine lv_if_ne (tgt := 44) hx hb dX5_comes_37 (by decide) (fun c_37 => ?_) (fun c_37 => ?_)
    · skip
      refine lv_iconst (v := 0) hx hb dX5_comes_44 (by decide) ?_
      refine lv_istore (lv' := [(5, .int 0), (4, .int (nI n)), (3, .int (g_min t (1200 - (g_sum ms k 0 (n - 0))))), (0, .ref (L 162)), (1, .int (nI k)), (2, .int t)]) hx hb dX5_comes_45 hl (by decide) rfl (fun ls hl => ?_)
      refine lv_iload hx hb dX5_comes_47 (lv_at hl 0 rfl) ?_
      refine lv_if_eq (tgt := 72) hx hb dX5_comes_49 (by decide) (fun c_49 => ?_) (fun c_49 => ?_)
      · skip
        refine lv_iconst (v := 0) hx hb dX5_comes_72 (by decide) ?_
        refine lv_istore (lv' := [(6, .int 0), (5, .int 0), (4, .int (nI n)), (3, .int (g_min t (1200 - (g_sum ms k 0 (n - 0))))), (0, .ref (L 162)), (1, .int (nI k)), (2, .int t)]) hx hb dX5_comes_73 hl (by decide) rfl (fun ls hl => ?_)
        refine lv_iload hx hb dX5_comes_75 (lv_at hl 1 rfl) ?_
        refine lv_if_eq (tgt := 105) hx hb dX5_comes_77 (by decide) (fun c_77 => ?_) (fun c_77 => ?_)
        · skip
          refine lv_iload_n hx hb dX5_comes_105 rfl (lv_at hl 3 rfl) ?_
          refine lv_iload hx hb dX5_comes_106 (lv_at hl 0 rfl) ?_
          refine lv_isub hx hb dX5_comes_108 ?_
          refine lv_istore_n (lv' := [(3, .int ((g_min t (1200 - (g_sum ms k 0 (n - 0)))) - 0)), (6, .int 0), (5, .int 0), (4, .int (nI n)), (0, .ref (L 162)), (1, .int (nI k)), (2, .int t)]) hx hb dX5_comes_109 rfl hl (by decide) rfl (fun ls hl => ?_)
          refine lv_iload_n hx hb dX5_comes_110 rfl (lv_at hl 0 rfl) ?_
          refine lv_if_eq (tgt := 121) hx hb dX5_comes_111 (by decide) (fun c_111 => ?_) (fun c_111 => ?_)
          · skip
            refine lv_iload hx hb dX5_comes_121 (lv_at hl 1 rfl) ?_
            exact g_iret hx hb hr hlocks hK hG hS rfl dX5_comes_123 ⟨(congrArg (fun z9 => some (Value.int z9)) (by first | rfl | (simp only [g_comesR, g_comesS, g_top, g_cs1, g_cs2, g_left, c_25, c_37, eq_true c_111, if_true, if_false, not_true_eq_false, not_false_eq_true]; done) | (simp [g_comesR, g_comesS, g_top, g_cs1, g_cs2, g_left, c_25, c_37, eq_true c_111]; done))), (by first | rfl | (simp only [g_comesR, g_comesS, g_top, g_cs1, g_cs2, g_left, c_25, c_37, eq_true c_111, if_true, if_false, not_true_eq_false, not_false_eq_true]; done) | (simp [g_comesR, g_comesS, g_top, g_cs1, g_cs2, g_left, c_25, c_37, eq_true c_111]; done))⟩
          · skip
            refine lv_iload hx hb dX5_comes_114 (lv_at hl 3 rfl) ?_
            refine lv_bipush (v := 10) hx hb dX5_comes_116 (by decide) ?_
            refine lv_icmp_ne (tgt := 124) hx hb dX5_comes_118 (by decide) (fun c_118 => ?_) (fun c_118 => ?_)
            · skip
              have c_118 : ¬ n = 10 := fun h9 => c_118 ((nI_eq (a := n) (b := 10) (by omega) (by omega)).mpr h9)
              refine lv_aload_n hx hb dX5_comes_124 rfl (lv_at hl 4 rfl) ?_
              refine lv_iload_n hx hb dX5_comes_125 rfl (lv_at hl 5 rfl) ?_
              refine lv_iconst (v := 4) hx hb dX5_comes_126 (by decide) ?_
              refine lv_iconst (v := 2) hx hb dX5_comes_127 (by decide) ?_
              refine lv_iload hx hb dX5_comes_128 (lv_at hl 3 rfl) ?_
              refine lv_imul hx hb dX5_comes_130 ?_
              refine lv_toN (k := 2 * n) (pk_mul 2 n) ?_
              refine lv_iadd hx hb dX5_comes_131 ?_
              refine lv_toN (k := 4 + (2 * n)) (nI_add 4 (2 * n)) ?_
              refine lv_iload_n hx hb dX5_comes_132 rfl (lv_at hl 0 rfl) ?_
              refine g_cVv (As := [.int (nI k), .int (nI (4 + (2 * n))), .int ((g_min t (1200 - (g_sum ms k 0 (n - 0)))) - 0)]) (rest := []) hx hb hml hown hts hK hA hG hS (k_X5_lay l D cy N L F hN mt ms ma mv mn mb ml mp mw mr mq mh k (4 + (2 * n)) ((g_min t (1200 - (g_sum ms k 0 (n - 0)))) - 0) (by omega)) (cwV 3 hts gX5_comes_X5_lay rfl rfl rfl (by decide +kernel) ⟨Nat.le_of_ble_eq_true rfl, Nat.le_of_ble_eq_true rfl⟩) i162 mW_o (ci := 5) rfl rfl rfl rfl hl.1 (Nat.le_of_ble_eq_true rfl) dX5_comes_133 ⟨Nat.zero_le _, Nat.zero_le _⟩ (fun H locs hG hS => ?_)
              refine lv_aload_n hx hb dX5_comes_136 rfl (lv_at hl 4 rfl) ?_
              refine lv_iload_n hx hb dX5_comes_137 rfl (lv_at hl 5 rfl) ?_
              refine lv_iconst (v := 4) hx hb dX5_comes_138 (by decide) ?_
              refine lv_iconst (v := 2) hx hb dX5_comes_139 (by decide) ?_
              refine lv_iload hx hb dX5_comes_140 (lv_at hl 3 rfl) ?_
              refine lv_imul hx hb dX5_comes_142 ?_
              refine lv_toN (k := 2 * n) (pk_mul 2 n) ?_
              refine lv_iadd hx hb dX5_comes_143 ?_
              refine lv_toN (k := 4 + (2 * n)) (nI_add 4 (2 * n)) ?_
              refine lv_iconst (v := 1) hx hb dX5_comes_144 (by decide) ?_
              refine lv_iadd hx hb dX5_comes_145 ?_
              refine lv_toN (k := (4 + (2 * n)) + 1) (nI_add (4 + (2 * n)) 1) ?_
              refine lv_iconst (v := 0) hx hb dX5_comes_146 (by decide) ?_
              refine g_cVv (As := [.int (nI k), .int (nI ((4 + (2 * n)) + 1)), .int 0]) (rest := []) hx hb hml hown hts hK hA hG hS (k_X5_lay l D cy N L F hN mt (upd ms (10 + 24 * k + (4 + (2 * n))) ((g_min t (1200 - (g_sum ms k 0 (n - 0)))) - 0)) ma mv mn mb ml mp mw mr mq mh k ((4 + (2 * n)) + 1) 0 (by omega)) (cwV 3 hts gX5_comes_X5_lay rfl rfl rfl (by decide +kernel) ⟨Nat.le_of_ble_eq_true rfl, Nat.le_of_ble_eq_true rfl⟩) i162 mW_o (ci := 5) rfl rfl rfl rfl hl.1 (Nat.le_of_ble_eq_true rfl) dX5_comes_147 ⟨Nat.zero_le _, Nat.zero_le _⟩ (fun H locs hG hS => ?_)
              refine lv_aload_n hx hb dX5_comes_150 rfl (lv_at hl 4 rfl) ?_
              refine lv_iload_n hx hb dX5_comes_151 rfl (lv_at hl 5 rfl) ?_
              refine lv_iconst (v := 3) hx hb dX5_comes_152 (by decide) ?_
              refine lv_iload hx hb dX5_comes_153 (lv_at hl 3 rfl) ?_
              refine lv_iconst (v := 1) hx hb dX5_comes_155 (by decide) ?_
              refine lv_iadd hx hb dX5_comes_156 ?_
              refine lv_toN (k := n + 1) (nI_add n 1) ?_
              refine g_cVv (As := [.int (nI k), .int 3, .int (nI (n + 1))]) (rest := []) hx hb hml hown hts hK hA hG hS (k_X5_lay l D cy N L F hN mt (upd (upd ms (10 + 24 * k + (4 + (2 * n))) ((g_min t (1200 - (g_sum ms k 0 (n - 0)))) - 0)) (10 + 24 * k + ((4 + (2 * n)) + 1)) 0) ma mv mn mb ml mp mw mr mq mh k 3 (nI (n + 1)) (by omega)) (cwV 3 hts gX5_comes_X5_lay rfl rfl rfl (by decide +kernel) ⟨Nat.le_of_ble_eq_true rfl, Nat.le_of_ble_eq_true rfl⟩) i162 mW_o (ci := 5) rfl rfl rfl rfl hl.1 (Nat.le_of_ble_eq_true rfl) dX5_comes_157 ⟨Nat.zero_le _, Nat.zero_le _⟩ (fun H locs hG hS => ?_)
              refine lv_aload_n hx hb dX5_comes_160 rfl (lv_at hl 4 rfl) ?_
              refine lv_iload_n hx hb dX5_comes_161 rfl (lv_at hl 5 rfl) ?_
              refine lv_iconst (v := 2) hx hb dX5_comes_162 (by decide) ?_
              refine lv_iconst (v := 0) hx hb dX5_comes_163 (by decide) ?_
              refine g_cVv (As := [.int (nI k), .int 2, .int 0]) (rest := []) hx hb hml hown hts hK hA hG hS (k_X5_lay l D cy N L F hN mt (upd (upd (upd ms (10 + 24 * k + (4 + (2 * n))) ((g_min t (1200 - (g_sum ms k 0 (n - 0)))) - 0)) (10 + 24 * k + ((4 + (2 * n)) + 1)) 0) (10 + 24 * k + 3) (nI (n + 1))) ma mv mn mb ml mp mw mr mq mh k 2 0 (by omega)) (cwV 3 hts gX5_comes_X5_lay rfl rfl rfl (by decide +kernel) ⟨Nat.le_of_ble_eq_true rfl, Nat.le_of_ble_eq_true rfl⟩) i162 mW_o (ci := 5) rfl rfl rfl rfl hl.1 (Nat.le_of_ble_eq_true rfl) dX5_comes_164 ⟨Nat.zero_le _, Nat.zero_le _⟩ (fun H locs hG hS => ?_)
              refine lv_iload hx hb dX5_comes_167 (lv_at hl 1 rfl) ?_
              refine lv_iload_n hx hb dX5_comes_169 rfl (lv_at hl 0 rfl) ?_
              refine lv_iadd hx hb dX5_comes_170 ?_
              exact g_iret hx hb hr hlocks hK hG hS rfl dX5_comes_171 ⟨(congrArg (fun z9 => some (Value.int z9)) (by first | rfl | (simp only [g_comesR, g_comesS, g_top, g_cs1, g_cs2, g_left, c_25, c_37, c_111, c_118, if_true, if_false, not_true_eq_false, not_false_eq_true]; done) | (simp [g_comesR, g_comesS, g_top, g_cs1, g_cs2, g_left, c_25, c_37, c_111, c_118]; done))), (by first | rfl | (simp only [g_comesR, g_comesS, g_top, g_cs1, g_cs2, g_left, c_25, c_37, c_111, c_118, if_true, if_false, not_true_eq_false, not_false_eq_true]; done) | (simp [g_comesR, g_comesS, g_top, g_cs1, g_cs2, g_left, c_25, c_37, c_111, c_118]; done))⟩
            · skip
              have c_118 : n = 10 := (nI_eq (a := n) (b := 10) (by omega) (by omega)).mp c_118
              refine lv_iload hx hb dX5_comes_121 (lv_at hl 1 rfl) ?_
              exact g_iret hx hb hr hlocks hK hG hS rfl dX5_comes_123 ⟨(congrArg (fun z9 => some (Value.int z9)) (by first | rfl | (simp only [g_comesR, g_comesS, g_top, g_cs1, g_cs2, g_left, c_25, c_37, c_111, eq_true c_118, if_true, if_false, not_true_eq_false, not_false_eq_true]; done) | (simp [g_comesR, g_comesS, g_top, g_cs1, g_cs2, g_left, c_25, c_37, c_111, eq_true c_118]; done))), (by first | rfl | (simp only [g_comesR, g_comesS, g_top, g_cs1, g_cs2, g_left, c_25, c_37, c_111, eq_true c_118, if_true, if_false, not_true_eq_false, not_false_eq_true]; done) | (simp [g_comesR, g_comesS, g_top, g_cs1, g_cs2, g_left, c_25, c_37, c_111, eq_true c_118]; done))⟩
        · skip
          exact absurd c_77 (by decide)
      · skip
        exact absurd c_49 (by decide)
    · skip
      refine lv_iconst (v := 1) hx hb dX5_comes_40 (by decide) ?_
      refine lv_goto (tgt := 45) hx hb dX5_comes_41 (by decide) ?_
      refine lv_istore (lv' := [(5, .int 1), (4, .int (nI n)), (3, .int (g_min t (1200 - (g_sum ms k 0 (n - 0))))), (0, .ref (L 162)), (1, .int (nI k)), (2, .int t)]) hx hb dX5_comes_45 hl (by decide) rfl (fun ls hl => ?_)
      refine lv_iload hx hb dX5_comes_47 (lv_at hl 0 rfl) ?_
      refine lv_if_eq (tgt := 72) hx hb dX5_comes_49 (by decide) (fun c_49 => ?_) (fun c_49 => ?_)
      · skip
        exact absurd c_49 (by decide)
      · skip
        refine lv_iload_n hx hb dX5_comes_52 rfl (lv_at hl 2 rfl) ?_
        refine lv_sipush (v := 500) hx hb dX5_comes_53 (by decide) ?_
        refine lv_aload_n hx hb dX5_comes_56 rfl (lv_at hl 3 rfl) ?_
        refine lv_iload_n hx hb dX5_comes_57 rfl (lv_at hl 4 rfl) ?_
        refine lv_iload hx hb dX5_comes_58 (lv_at hl 1 rfl) ?_
        refine lv_iconst (v := 1) hx hb dX5_comes_60 (by decide) ?_
        refine lv_isub hx hb dX5_comes_61 ?_
        refine lv_toN (k := n - 1) (pk_sub (a := n) (b := 1) (by omega)) ?_
        refine g_cVi (As := [.int (nI k), .int (nI (n - 1))]) (rest := [.int 500, .int (g_min t (1200 - (g_sum ms k 0 (n - 0))))]) hx hb hml hown hts hK hA hG hS (k_X5_tonnes l D cy N L F hN mt ms ma mv mn mb ml mp mw mr mq mh k (n - 1) (by omega)) (cwV 2 hts gX5_comes_X5_tonnes rfl rfl rfl (by decide +kernel) ⟨Nat.le_of_ble_eq_true rfl, Nat.le_of_ble_eq_true rfl⟩) i162 mW_o (ci := 5) rfl rfl rfl rfl hl.1 (Nat.le_of_ble_eq_true rfl) dX5_comes_62 ⟨Nat.zero_le _, Nat.zero_le _⟩ (fun H locs hG hS => ?_)
        refine lv_isub hx hb dX5_comes_65 ?_
        refine g_cSi (As := [.int (g_min t (1200 - (g_sum ms k 0 (n - 0)))), .int (500 - (ms (10 + 24 * k + (4 + 2 * (n - 1)))))]) (rest := []) hx hb hml hown hts hK hA hG hS (k_X5_lesser l D cy N L (mW cy L F mt ms ma mv mn mb ml mp mw mr mq mh) (g_min t (1200 - (g_sum ms k 0 (n - 0)))) (500 - (ms (10 + 24 * k + (4 + 2 * (n - 1))))) ) (g_cwS 2 hts gX5_comes_X5_lesser rfl rfl rfl (by decide +kernel) ⟨Nat.le_of_ble_eq_true rfl, Nat.le_of_ble_eq_true rfl⟩) rfl rfl hl.1 (Nat.le_of_ble_eq_true rfl) dX5_comes_66 ⟨Nat.zero_le _, Nat.zero_le _⟩ (fun H locs hG hS => ?_)
        refine lv_goto (tgt := 73) hx hb dX5_comes_69 (by decide) ?_
        refine lv_istore (lv' := [(6, .int (g_min (g_min t (1200 - (g_sum ms k 0 (n - 0)))) (500 - (ms (10 + 24 * k + (4 + 2 * (n - 1))))))), (5, .int 1), (4, .int (nI n)), (3, .int (g_min t (1200 - (g_sum ms k 0 (n - 0))))), (0, .ref (L 162)), (1, .int (nI k)), (2, .int t)]) hx hb dX5_comes_73 hl (by decide) rfl (fun ls hl => ?_)
        refine lv_iload hx hb dX5_comes_75 (lv_at hl 1 rfl) ?_
        refine lv_if_eq (tgt := 105) hx hb dX5_comes_77 (by decide) (fun c_77 => ?_) (fun c_77 => ?_)
        · skip
          exact absurd c_77 (by decide)
        · skip
          refine lv_aload_n hx hb dX5_comes_80 rfl (lv_at hl 4 rfl) ?_
          refine lv_iload_n hx hb dX5_comes_81 rfl (lv_at hl 5 rfl) ?_
          refine lv_iconst (v := 4) hx hb dX5_comes_82 (by decide) ?_
          refine lv_iconst (v := 2) hx hb dX5_comes_83 (by decide) ?_
          refine lv_iload hx hb dX5_comes_84 (lv_at hl 2 rfl) ?_
          refine lv_iconst (v := 1) hx hb dX5_comes_86 (by decide) ?_
          refine lv_isub hx hb dX5_comes_87 ?_
          refine lv_toN (k := n - 1) (pk_sub (a := n) (b := 1) (by omega)) ?_
          refine lv_imul hx hb dX5_comes_88 ?_
          refine lv_toN (k := 2 * (n - 1)) (pk_mul 2 (n - 1)) ?_
          refine lv_iadd hx hb dX5_comes_89 ?_
          refine lv_toN (k := 4 + (2 * (n - 1))) (nI_add 4 (2 * (n - 1))) ?_
          refine lv_aload_n hx hb dX5_comes_90 rfl (lv_at hl 4 rfl) ?_
          refine lv_iload_n hx hb dX5_comes_91 rfl (lv_at hl 5 rfl) ?_
          refine lv_iload hx hb dX5_comes_92 (lv_at hl 2 rfl) ?_
          refine lv_iconst (v := 1) hx hb dX5_comes_94 (by decide) ?_
          refine lv_isub hx hb dX5_comes_95 ?_
          refine lv_toN (k := n - 1) (pk_sub (a := n) (b := 1) (by omega)) ?_
          refine g_cVi (As := [.int (nI k), .int (nI (n - 1))]) (rest := [.int (nI (4 + (2 * (n - 1)))), .int (nI k), .ref (L 162)]) hx hb hml hown hts hK hA hG hS (k_X5_tonnes l D cy N L F hN mt ms ma mv mn mb ml mp mw mr mq mh k (n - 1) (by omega)) (cwV 2 hts gX5_comes_X5_tonnes rfl rfl rfl (by decide +kernel) ⟨Nat.le_of_ble_eq_true rfl, Nat.le_of_ble_eq_true rfl⟩) i162 mW_o (ci := 5) rfl rfl rfl rfl hl.1 (Nat.le_of_ble_eq_true rfl) dX5_comes_96 ⟨Nat.zero_le _, Nat.zero_le _⟩ (fun H locs hG hS => ?_)
          refine lv_iload hx hb dX5_comes_99 (lv_at hl 0 rfl) ?_
          refine lv_iadd hx hb dX5_comes_101 ?_
          refine g_cVv (As := [.int (nI k), .int (nI (4 + (2 * (n - 1)))), .int ((ms (10 + 24 * k + (4 + 2 * (n - 1)))) + (g_min (g_min t (1200 - (g_sum ms k 0 (n - 0)))) (500 - (ms (10 + 24 * k + (4 + 2 * (n - 1)))))))]) (rest := []) hx hb hml hown hts hK hA hG hS (k_X5_lay l D cy N L F hN mt ms ma mv mn mb ml mp mw mr mq mh k (4 + (2 * (n - 1))) ((ms (10 + 24 * k + (4 + 2 * (n - 1)))) + (g_min (g_min t (1200 - (g_sum ms k 0 (n - 0)))) (500 - (ms (10 + 24 * k + (4 + 2 * (n - 1))))))) (by omega)) (cwV 3 hts gX5_comes_X5_lay rfl rfl rfl (by decide +kernel) ⟨Nat.le_of_ble_eq_true rfl, Nat.le_of_ble_eq_true rfl⟩) i162 mW_o (ci := 5) rfl rfl rfl rfl hl.1 (Nat.le_of_ble_eq_true rfl) dX5_comes_102 ⟨Nat.zero_le _, Nat.zero_le _⟩ (fun H locs hG hS => ?_)
          refine lv_iload_n hx hb dX5_comes_105 rfl (lv_at hl 3 rfl) ?_
          refine lv_iload hx hb dX5_comes_106 (lv_at hl 0 rfl) ?_
          refine lv_isub hx hb dX5_comes_108 ?_
          refine lv_istore_n (lv' := [(3, .int ((g_min t (1200 - (g_sum ms k 0 (n - 0)))) - (g_min (g_min t (1200 - (g_sum ms k 0 (n - 0)))) (500 - (ms (10 + 24 * k + (4 + 2 * (n - 1)))))))), (6, .int (g_min (g_min t (1200 - (g_sum ms k 0 (n - 0)))) (500 - (ms (10 + 24 * k + (4 + 2 * (n - 1))))))), (5, .int 1), (4, .int (nI n)), (0, .ref (L 162)), (1, .int (nI k)), (2, .int t)]) hx hb dX5_comes_109 rfl hl (by decide) rfl (fun ls hl => ?_)
          refine lv_iload_n hx hb dX5_comes_110 rfl (lv_at hl 0 rfl) ?_
          refine lv_if_eq (tgt := 121) hx hb dX5_comes_111 (by decide) (fun c_111 => ?_) (fun c_111 => ?_)
          · skip
            refine lv_iload hx hb dX5_comes_121 (lv_at hl 1 rfl) ?_
            exact g_iret hx hb hr hlocks hK hG hS rfl dX5_comes_123 ⟨(congrArg (fun z9 => some (Value.int z9)) (by first | rfl | (simp only [g_comesR, g_comesS, g_top, g_cs1, g_cs2, g_left, c_25, eq_true c_37, eq_true c_111, if_true, if_false, not_true_eq_false, not_false_eq_true]; done) | (simp [g_comesR, g_comesS, g_top, g_cs1, g_cs2, g_left, c_25, eq_true c_37, eq_true c_111]; done))), (by first | rfl | (simp only [g_comesR, g_comesS, g_top, g_cs1, g_cs2, g_left, c_25, eq_true c_37, eq_true c_111, if_true, if_false, not_true_eq_false, not_false_eq_true]; done) | (simp [g_comesR, g_comesS, g_top, g_cs1, g_cs2, g_left, c_25, eq_true c_37, eq_true c_111]; done))⟩
          · skip
            refine lv_iload hx hb dX5_comes_114 (lv_at hl 3 rfl) ?_
            refine lv_bipush (v := 10) hx hb dX5_comes_116 (by decide) ?_
            refine lv_icmp_ne (tgt := 124) hx hb dX5_comes_118 (by decide) (fun c_118 => ?_) (fun c_118 => ?_)
            · skip
              have c_118 : ¬ n = 10 := fun h9 => c_118 ((nI_eq (a := n) (b := 10) (by omega) (by omega)).mpr h9)
              refine lv_aload_n hx hb dX5_comes_124 rfl (lv_at hl 4 rfl) ?_
              refine lv_iload_n hx hb dX5_comes_125 rfl (lv_at hl 5 rfl) ?_
              refine lv_iconst (v := 4) hx hb dX5_comes_126 (by decide) ?_
              refine lv_iconst (v := 2) hx hb dX5_comes_127 (by decide) ?_
              refine lv_iload hx hb dX5_comes_128 (lv_at hl 3 rfl) ?_
              refine lv_imul hx hb dX5_comes_130 ?_
              refine lv_toN (k := 2 * n) (pk_mul 2 n) ?_
              refine lv_iadd hx hb dX5_comes_131 ?_
              refine lv_toN (k := 4 + (2 * n)) (nI_add 4 (2 * n)) ?_
              refine lv_iload_n hx hb dX5_comes_132 rfl (lv_at hl 0 rfl) ?_
              refine g_cVv (As := [.int (nI k), .int (nI (4 + (2 * n))), .int ((g_min t (1200 - (g_sum ms k 0 (n - 0)))) - (g_min (g_min t (1200 - (g_sum ms k 0 (n - 0)))) (500 - (ms (10 + 24 * k + (4 + 2 * (n - 1)))))))]) (rest := []) hx hb hml hown hts hK hA hG hS (k_X5_lay l D cy N L F hN mt (upd ms (10 + 24 * k + (4 + (2 * (n - 1)))) ((ms (10 + 24 * k + (4 + 2 * (n - 1)))) + (g_min (g_min t (1200 - (g_sum ms k 0 (n - 0)))) (500 - (ms (10 + 24 * k + (4 + 2 * (n - 1)))))))) ma mv mn mb ml mp mw mr mq mh k (4 + (2 * n)) ((g_min t (1200 - (g_sum ms k 0 (n - 0)))) - (g_min (g_min t (1200 - (g_sum ms k 0 (n - 0)))) (500 - (ms (10 + 24 * k + (4 + 2 * (n - 1))))))) (by omega)) (cwV 3 hts gX5_comes_X5_lay rfl rfl rfl (by decide +kernel) ⟨Nat.le_of_ble_eq_true rfl, Nat.le_of_ble_eq_true rfl⟩) i162 mW_o (ci := 5) rfl rfl rfl rfl hl.1 (Nat.le_of_ble_eq_true rfl) dX5_comes_133 ⟨Nat.zero_le _, Nat.zero_le _⟩ (fun H locs hG hS => ?_)
              refine lv_aload_n hx hb dX5_comes_136 rfl (lv_at hl 4 rfl) ?_
              refine lv_iload_n hx hb dX5_comes_137 rfl (lv_at hl 5 rfl) ?_
              refine lv_iconst (v := 4) hx hb dX5_comes_138 (by decide) ?_
              refine lv_iconst (v := 2) hx hb dX5_comes_139 (by decide) ?_
              refine lv_iload hx hb dX5_comes_140 (lv_at hl 3 rfl) ?_
              refine lv_imul hx hb dX5_comes_142 ?_
              refine lv_toN (k := 2 * n) (pk_mul 2 n) ?_
              refine lv_iadd hx hb dX5_comes_143 ?_
              refine lv_toN (k := 4 + (2 * n)) (nI_add 4 (2 * n)) ?_
              refine lv_iconst (v := 1) hx hb dX5_comes_144 (by decide) ?_
              refine lv_iadd hx hb dX5_comes_145 ?_
              refine lv_toN (k := (4 + (2 * n)) + 1) (nI_add (4 + (2 * n)) 1) ?_
              refine lv_iconst (v := 0) hx hb dX5_comes_146 (by decide) ?_
              refine g_cVv (As := [.int (nI k), .int (nI ((4 + (2 * n)) + 1)), .int 0]) (rest := []) hx hb hml hown hts hK hA hG hS (k_X5_lay l D cy N L F hN mt (upd (upd ms (10 + 24 * k + (4 + (2 * (n - 1)))) ((ms (10 + 24 * k + (4 + 2 * (n - 1)))) + (g_min (g_min t (1200 - (g_sum ms k 0 (n - 0)))) (500 - (ms (10 + 24 * k + (4 + 2 * (n - 1)))))))) (10 + 24 * k + (4 + (2 * n))) ((g_min t (1200 - (g_sum ms k 0 (n - 0)))) - (g_min (g_min t (1200 - (g_sum ms k 0 (n - 0)))) (500 - (ms (10 + 24 * k + (4 + 2 * (n - 1)))))))) ma mv mn mb ml mp mw mr mq mh k ((4 + (2 * n)) + 1) 0 (by omega)) (cwV 3 hts gX5_comes_X5_lay rfl rfl rfl (by decide +kernel) ⟨Nat.le_of_ble_eq_true rfl, Nat.le_of_ble_eq_true rfl⟩) i162 mW_o (ci := 5) rfl rfl rfl rfl hl.1 (Nat.le_of_ble_eq_true rfl) dX5_comes_147 ⟨Nat.zero_le _, Nat.zero_le _⟩ (fun H locs hG hS => ?_)
              refine lv_aload_n hx hb dX5_comes_150 rfl (lv_at hl 4 rfl) ?_
              refine lv_iload_n hx hb dX5_comes_151 rfl (lv_at hl 5 rfl) ?_
              refine lv_iconst (v := 3) hx hb dX5_comes_152 (by decide) ?_
              refine lv_iload hx hb dX5_comes_153 (lv_at hl 3 rfl) ?_
              refine lv_iconst (v := 1) hx hb dX5_comes_155 (by decide) ?_
              refine lv_iadd hx hb dX5_comes_156 ?_
              refine lv_toN (k := n + 1) (nI_add n 1) ?_
              refine g_cVv (As := [.int (nI k), .int 3, .int (nI (n + 1))]) (rest := []) hx hb hml hown hts hK hA hG hS (k_X5_lay l D cy N L F hN mt (upd (upd (upd ms (10 + 24 * k + (4 + (2 * (n - 1)))) ((ms (10 + 24 * k + (4 + 2 * (n - 1)))) + (g_min (g_min t (1200 - (g_sum ms k 0 (n - 0)))) (500 - (ms (10 + 24 * k + (4 + 2 * (n - 1)))))))) (10 + 24 * k + (4 + (2 * n))) ((g_min t (1200 - (g_sum ms k 0 (n - 0)))) - (g_min (g_min t (1200 - (g_sum ms k 0 (n - 0)))) (500 - (ms (10 + 24 * k + (4 + 2 * (n - 1)))))))) (10 + 24 * k + ((4 + (2 * n)) + 1)) 0) ma mv mn mb ml mp mw mr mq mh k 3 (nI (n + 1)) (by omega)) (cwV 3 hts gX5_comes_X5_lay rfl rfl rfl (by decide +kernel) ⟨Nat.le_of_ble_eq_true rfl, Nat.le_of_ble_eq_true rfl⟩) i162 mW_o (ci := 5) rfl rfl rfl rfl hl.1 (Nat.le_of_ble_eq_true rfl) dX5_comes_157 ⟨Nat.zero_le _, Nat.zero_le _⟩ (fun H locs hG hS => ?_)
              refine lv_aload_n hx hb dX5_comes_160 rfl (lv_at hl 4 rfl) ?_
              refine lv_iload_n hx hb dX5_comes_161 rfl (lv_at hl 5 rfl) ?_
              refine lv_iconst (v := 2) hx hb dX5_comes_162 (by decide) ?_
              refine lv_iconst (v := 0) hx hb dX5_comes_163 (by decide) ?_
              refine g_cVv (As := [.int (nI k), .int 2, .int 0]) (rest := []) hx hb hml hown hts hK hA hG hS (k_X5_lay l D cy N L F hN mt (upd (upd (upd (upd ms (10 + 24 * k + (4 + (2 * (n - 1)))) ((ms (10 + 24 * k + (4 + 2 * (n - 1)))) + (g_min (g_min t (1200 - (g_sum ms k 0 (n - 0)))) (500 - (ms (10 + 24 * k + (4 + 2 * (n - 1)))))))) (10 + 24 * k + (4 + (2 * n))) ((g_min t (1200 - (g_sum ms k 0 (n - 0)))) - (g_min (g_min t (1200 - (g_sum ms k 0 (n - 0)))) (500 - (ms (10 + 24 * k + (4 + 2 * (n - 1)))))))) (10 + 24 * k + ((4 + (2 * n)) + 1)) 0) (10 + 24 * k + 3) (nI (n + 1))) ma mv mn mb ml mp mw mr mq mh k 2 0 (by omega)) (cwV 3 hts gX5_comes_X5_lay rfl rfl rfl (by decide +kernel) ⟨Nat.le_of_ble_eq_true rfl, Nat.le_of_ble_eq_true rfl⟩) i162 mW_o (ci := 5) rfl rfl rfl rfl hl.1 (Nat.le_of_ble_eq_true rfl) dX5_comes_164 ⟨Nat.zero_le _, Nat.zero_le _⟩ (fun H locs hG hS => ?_)
              refine lv_iload hx hb dX5_comes_167 (lv_at hl 1 rfl) ?_
              refine lv_iload_n hx hb dX5_comes_169 rfl (lv_at hl 0 rfl) ?_
              refine lv_iadd hx hb dX5_comes_170 ?_
              exact g_iret hx hb hr hlocks hK hG hS rfl dX5_comes_171 ⟨(congrArg (fun z9 => some (Value.int z9)) (by first | rfl | (simp only [g_comesR, g_comesS, g_top, g_cs1, g_cs2, g_left, c_25, eq_true c_37, c_111, c_118, if_true, if_false, not_true_eq_false, not_false_eq_true]; done) | (simp [g_comesR, g_comesS, g_top, g_cs1, g_cs2, g_left, c_25, eq_true c_37, c_111, c_118]; done))), (by first | rfl | (simp only [g_comesR, g_comesS, g_top, g_cs1, g_cs2, g_left, c_25, eq_true c_37, c_111, c_118, if_true, if_false, not_true_eq_false, not_false_eq_true]; done) | (simp [g_comesR, g_comesS, g_top, g_cs1, g_cs2, g_left, c_25, eq_true c_37, c_111, c_118]; done))⟩
            · skip
              have c_118 : n = 10 := (nI_eq (a := n) (b := 10) (by omega) (by omega)).mp c_118
              refine lv_iload hx hb dX5_comes_121 (lv_at hl 1 rfl) ?_
              exact g_iret hx hb hr hlocks hK hG hS rfl dX5_comes_123 ⟨(congrArg (fun z9 => some (Value.int z9)) (by first | rfl | (simp only [g_comesR, g_comesS, g_top, g_cs1, g_cs2, g_left, c_25, eq_true c_37, c_111, eq_true c_118, if_true, if_false, not_true_eq_false, not_false_eq_true]; done) | (simp [g_comesR, g_comesS, g_top, g_cs1, g_cs2, g_left, c_25, eq_true c_37, c_111, eq_true c_118]; done))), (by first | rfl | (simp only [g_comesR, g_comesS, g_top, g_cs1, g_cs2, g_left, c_25, eq_true c_37, c_111, eq_true c_118, if_true, if_false, not_true_eq_false, not_false_eq_true]; done) | (simp [g_comesR, g_comesS, g_top, g_cs1, g_cs2, g_left, c_25, eq_true c_37, c_111, eq_true c_118]; done))⟩
set_option maxHeartbeats 4000000 in
set_option maxRecDepth 100000 in
theorem k_X5_unloads (l : Launch) (D : va_G) (cy : Nat → ClassId) (N : Nat) (L : Nat → Nat) (F : Nat → va_E) (hN : 168 ≤ N) (mt : Int32) (ms ma mv : Nat → Int32) (mn : Int32) (mb : Nat → Int32) (ml mp mw : Int32) (mr : Nat → Int32) (mq : Int32) (mh : Int64) (k j n : Nat) (t : Int32) (hk : k < 4) (hn : ms (10 + 24 * k + 3) = nI n) (hn10 : n ≤ 10) (hj : j < 6) : GM l D cy N L yX5_unloads wsX5_unloads ({ frames := 4, cells := 0, slots := 0, locals := 94 }) [.ref (L 162), .int (nI k), .int (nI j), .int t] (mW cy L F mt ms ma mv mn mb ml mp mw mr mq mh) (some (.int (g_unlR ms k j n t))) (mW cy L F mt (g_unlS ms k j n t) ma mv mn mb ml mp mw mr mq mh) := by
  refine GM.ofW (cc := cX5_unloads) (maxL := 5) (ret := (some .int)) (by decide) rfl (Nat.le_of_ble_eq_true rfl) ?_
  intro p e s m below meth c ls hx hb hr hts hown hlocks hml hK hA hG hS hl
  have hl : lv_has ls 5 [(0, .ref (L 162)), (1, .int (nI k)), (2, .int (nI j)), (3, .int t)] := hl
  have i162 : 162 < N := by omega
  have i163 : 163 < N := by omega
  have i164 : 164 < N := by omega
  have i165 : 165 < N := by omega
  have i166 : 166 < N := by omega
  have i167 : 167 < N := by omega
  have hf7 := hts (.fieldLink RX5 7 "SiloPadsModel" "s" "[I") (by decide +kernel)
  have hinX5 : ∀ w ∈ u_ws RX5 TX5 12, w ∈ wsX5_unloads := by decide +kernel
  refine lv_aload_n hx hb dX5_unloads_0 rfl (lv_at hl 0 rfl) ?_
  refine lv_iload_n hx hb dX5_unloads_1 rfl (lv_at hl 1 rfl) ?_
  refine lv_iload_n hx hb dX5_unloads_2 rfl (lv_at hl 3 rfl) ?_
  refine lv_aload_n hx hb dX5_unloads_3 rfl (lv_at hl 0 rfl) ?_
  refine g_get (ci := 5) (C := RX5) (T := TX5) (M := 12) hx hb hts hinX5 hown hK hG i162 mW_o rfl 1 (by decide) hf7 rfl rfl dX5_unloads_4 ?_
  refine lv_bipush (v := 106) hx hb dX5_unloads_7 (by decide) ?_
  refine lv_iconst (v := 2) hx hb dX5_unloads_9 (by decide) ?_
  refine lv_iload_n hx hb dX5_unloads_10 rfl (lv_at hl 2 rfl) ?_
  refine lv_imul hx hb dX5_unloads_11 ?_
  refine lv_toN (k := 2 * j) (pk_mul 2 j) ?_
  refine lv_iadd hx hb dX5_unloads_12 ?_
  refine lv_toN (k := 106 + (2 * j)) (nI_add 106 (2 * j)) ?_
  refine g_iald hx hb hK hG i163 mW_a163 (k := 106 + (2 * j)) rfl (by omega) (by decide) dX5_unloads_13 ?_
  refine g_cSi (As := [.int t, .int (ms (106 + (2 * j)))]) (rest := [.int (nI k), .ref (L 162)]) hx hb hml hown hts hK hA hG hS (k_X5_lesser l D cy N L (mW cy L F mt ms ma mv mn mb ml mp mw mr mq mh) t (ms (106 + (2 * j))) ) (g_cwS 2 hts gX5_unloads_X5_lesser rfl rfl rfl (by decide +kernel) ⟨Nat.le_of_ble_eq_true rfl, Nat.le_of_ble_eq_true rfl⟩) rfl rfl hl.1 (Nat.le_of_ble_eq_true rfl) dX5_unloads_14 ⟨Nat.zero_le _, Nat.zero_le _⟩ (fun H locs hG hS => ?_)
  refine g_cVi (As := [.int (nI k), .int (g_min t (ms (106 + (2 * j))))]) (rest := []) hx hb hml hown hts hK hA hG hS (k_X5_comes l D cy N L F hN mt ms ma mv mn mb ml mp mw mr mq mh k n (g_min t (ms (106 + (2 * j)))) (by omega) (hn) (by omega)) (cwV 2 hts gX5_unloads_X5_comes rfl rfl rfl (by decide +kernel) ⟨Nat.le_of_ble_eq_true rfl, Nat.le_of_ble_eq_true rfl⟩) i162 mW_o (ci := 5) rfl rfl rfl rfl hl.1 (Nat.le_of_ble_eq_true rfl) dX5_unloads_17 ⟨Nat.zero_le _, Nat.zero_le _⟩ (fun H locs hG hS => ?_)
  refine lv_istore (lv' := [(4, .int (g_comesR ms k n (g_min t (ms (106 + (2 * j)))))), (0, .ref (L 162)), (1, .int (nI k)), (2, .int (nI j)), (3, .int t)]) hx hb dX5_unloads_20 hl (by decide) rfl (fun ls hl => ?_)
  refine lv_aload_n hx hb dX5_unloads_22 rfl (lv_at hl 1 rfl) ?_
  refine g_get (ci := 5) (C := RX5) (T := TX5) (M := 12) hx hb hts hinX5 hown hK hG i162 mW_o rfl 1 (by decide) hf7 rfl rfl dX5_unloads_23 ?_
  refine lv_bipush (v := 106) hx hb dX5_unloads_26 (by decide) ?_
  refine lv_iconst (v := 2) hx hb dX5_unloads_28 (by decide) ?_
  refine lv_iload_n hx hb dX5_unloads_29 rfl (lv_at hl 3 rfl) ?_
  refine lv_imul hx hb dX5_unloads_30 ?_
  refine lv_toN (k := 2 * j) (pk_mul 2 j) ?_
  refine lv_iadd hx hb dX5_unloads_31 ?_
  refine lv_toN (k := 106 + (2 * j)) (nI_add 106 (2 * j)) ?_
  refine lv_dup2_11 hx hb dX5_unloads_32 rfl rfl ?_
  refine g_iald hx hb hK hG i163 mW_a163 (k := 106 + (2 * j)) rfl (by omega) (by decide) dX5_unloads_33 ?_
  refine lv_iload hx hb dX5_unloads_34 (lv_at hl 0 rfl) ?_
  refine lv_isub hx hb dX5_unloads_36 ?_
  refine g_iast hx hb hK hG hS i163 mW_a163 (k := 106 + (2 * j)) rfl (by omega) (by decide) dX5_unloads_37 (fun H locs hG hS => ?_)
  have hG := hG.to mW_us
  refine lv_iload hx hb dX5_unloads_38 (lv_at hl 0 rfl) ?_
  exact g_iret hx hb hr hlocks hK hG hS rfl dX5_unloads_40 ⟨(congrArg (fun z9 => some (Value.int z9)) (by first | rfl | (simp only [g_unlR, g_unlS, if_true, if_false, not_true_eq_false, not_false_eq_true]; done) | (simp [g_unlR, g_unlS]; done))), (by first | rfl | (simp only [g_unlR, g_unlS, if_true, if_false, not_true_eq_false, not_false_eq_true]; done) | (simp [g_unlR, g_unlS]; done))⟩
set_option maxHeartbeats 4000000 in
set_option maxRecDepth 100000 in
theorem k_X5_forms (l : Launch) (D : va_G) (cy : Nat → ClassId) (N : Nat) (L : Nat → Nat) (F : Nat → va_E) (hN : 168 ≤ N) (mt : Int32) (ms ma mv : Nat → Int32) (mn : Int32) (mb : Nat → Int32) (ml mp mw : Int32) (mr : Nat → Int32) (mq : Int32) (mh : Int64) (k : Nat) (hk : k < 4) : GM l D cy N L yX5_forms wsX5_forms ({ frames := 3, cells := 0, slots := 0, locals := 67 }) [.ref (L 162), .int (nI k)] (mW cy L F mt ms ma mv mn mb ml mp mw mr mq mh) (some (.int (g_forms ms k))) (mW cy L F mt ms ma mv mn mb ml mp mw mr mq mh) := by
  refine GM.ofW (cc := cX5_forms) (maxL := 2) (ret := (some .boolean)) (by decide) rfl (Nat.le_of_ble_eq_true rfl) ?_
  intro p e s m below meth c ls hx hb hr hts hown hlocks hml hK hA hG hS hl
  have hl : lv_has ls 2 [(0, .ref (L 162)), (1, .int (nI k))] := hl
  have i162 : 162 < N := by omega
  have i163 : 163 < N := by omega
  have i164 : 164 < N := by omega
  have i165 : 165 < N := by omega
  have i166 : 166 < N := by omega
  have i167 : 167 < N := by omega
  refine lv_aload_n hx hb dX5_forms_0 rfl (lv_at hl 0 rfl) ?_
  refine lv_iload_n hx hb dX5_forms_1 rfl (lv_at hl 1 rfl) ?_
  refine lv_iconst (v := 3) hx hb dX5_forms_2 (by decide) ?_
  refine g_cVi (As := [.int (nI k), .int 3]) (rest := []) hx hb hml hown hts hK hA hG hS (k_X5_of l D cy N L F hN mt ms ma mv mn mb ml mp mw mr mq mh k 3 (by omega)) (cwV 2 hts gX5_forms_X5_of rfl rfl rfl (by decide +kernel) ⟨Nat.le_of_ble_eq_true rfl, Nat.le_of_ble_eq_true rfl⟩) i162 mW_o (ci := 5) rfl rfl rfl rfl hl.1 (Nat.le_of_ble_eq_true rfl) dX5_forms_3 ⟨Nat.zero_le _, Nat.zero_le _⟩ (fun H locs hG hS => ?_)
  refine lv_iconst (v := 1) hx hb dX5_forms_6 (by decide) ?_
  refine lv_icmp_le (tgt := 32) hx hb dX5_forms_7 (by decide) (fun c_7 => ?_) (fun c_7 => ?_)
  · skip
    refine lv_iconst (v := 0) hx hb dX5_forms_32 (by decide) ?_
    exact g_iret hx hb hr hlocks hK hG hS rfl dX5_forms_33 ⟨(congrArg (fun z9 => some (Value.int z9)) (by first | rfl | (simp only [g_forms, c_7, if_true, if_false, not_true_eq_false, not_false_eq_true]; done) | (simp [g_forms, c_7]; done))), rfl⟩
  · skip
    refine lv_aload_n hx hb dX5_forms_10 rfl (lv_at hl 0 rfl) ?_
    refine lv_iload_n hx hb dX5_forms_11 rfl (lv_at hl 1 rfl) ?_
    refine lv_iconst (v := 0) hx hb dX5_forms_12 (by decide) ?_
    refine g_cVi (As := [.int (nI k), .int 0]) (rest := []) hx hb hml hown hts hK hA hG hS (k_X5_setOf l D cy N L F hN mt ms ma mv mn mb ml mp mw mr mq mh k 0 (by omega)) (cwV 2 hts gX5_forms_X5_setOf rfl rfl rfl (by decide +kernel) ⟨Nat.le_of_ble_eq_true rfl, Nat.le_of_ble_eq_true rfl⟩) i162 mW_o (ci := 5) rfl rfl rfl rfl hl.1 (Nat.le_of_ble_eq_true rfl) dX5_forms_13 ⟨Nat.zero_le _, Nat.zero_le _⟩ (fun H locs hG hS => ?_)
    refine lv_if_le (tgt := 32) hx hb dX5_forms_16 (by decide) (fun c_16 => ?_) (fun c_16 => ?_)
    · skip
      refine lv_iconst (v := 0) hx hb dX5_forms_32 (by decide) ?_
      exact g_iret hx hb hr hlocks hK hG hS rfl dX5_forms_33 ⟨(congrArg (fun z9 => some (Value.int z9)) (by first | rfl | (simp only [g_forms, c_7, c_16, if_true, if_false, not_true_eq_false, not_false_eq_true]; done) | (simp [g_forms, c_7, c_16]; done))), rfl⟩
    · skip
      refine lv_aload_n hx hb dX5_forms_19 rfl (lv_at hl 0 rfl) ?_
      refine lv_iload_n hx hb dX5_forms_20 rfl (lv_at hl 1 rfl) ?_
      refine lv_iconst (v := 1) hx hb dX5_forms_21 (by decide) ?_
      refine g_cVi (As := [.int (nI k), .int 1]) (rest := []) hx hb hml hown hts hK hA hG hS (k_X5_of l D cy N L F hN mt ms ma mv mn mb ml mp mw mr mq mh k 1 (by omega)) (cwV 2 hts gX5_forms_X5_of rfl rfl rfl (by decide +kernel) ⟨Nat.le_of_ble_eq_true rfl, Nat.le_of_ble_eq_true rfl⟩) i162 mW_o (ci := 5) rfl rfl rfl rfl hl.1 (Nat.le_of_ble_eq_true rfl) dX5_forms_22 ⟨Nat.zero_le _, Nat.zero_le _⟩ (fun H locs hG hS => ?_)
      refine lv_if_ne (tgt := 32) hx hb dX5_forms_25 (by decide) (fun c_25 => ?_) (fun c_25 => ?_)
      · skip
        refine lv_iconst (v := 0) hx hb dX5_forms_32 (by decide) ?_
        exact g_iret hx hb hr hlocks hK hG hS rfl dX5_forms_33 ⟨(congrArg (fun z9 => some (Value.int z9)) (by first | rfl | (simp only [g_forms, c_7, c_16, c_25, if_true, if_false, not_true_eq_false, not_false_eq_true]; done) | (simp [g_forms, c_7, c_16, c_25]; done))), rfl⟩
      · skip
        refine lv_iconst (v := 1) hx hb dX5_forms_28 (by decide) ?_
        refine lv_goto (tgt := 33) hx hb dX5_forms_29 (by decide) ?_
        exact g_iret hx hb hr hlocks hK hG hS rfl dX5_forms_33 ⟨(congrArg (fun z9 => some (Value.int z9)) (by first | rfl | (simp only [g_forms, c_7, c_16, eq_true c_25, if_true, if_false, not_true_eq_false, not_false_eq_true]; done) | (simp [g_forms, c_7, c_16, eq_true c_25]; done))), rfl⟩
set_option maxHeartbeats 4000000 in
set_option maxRecDepth 100000 in
theorem k_X5_isHeavy (l : Launch) (D : va_G) (cy : Nat → ClassId) (N : Nat) (L : Nat → Nat) (F : Nat → va_E) (hN : 168 ≤ N) (mt : Int32) (ms ma mv : Nat → Int32) (mn : Int32) (mb : Nat → Int32) (ml mp mw : Int32) (mr : Nat → Int32) (mq : Int32) (mh : Int64) (k n : Nat) (hk : k < 4) (hn : ms (10 + 24 * k + 3) = nI n) (hn10 : n ≤ 10) (hn1 : 1 ≤ n ∨ ms (10 + 24 * k + 1) = 2) : GM l D cy N L yX5_isHeavy wsX5_isHeavy ({ frames := 3, cells := 0, slots := 0, locals := 68 }) [.ref (L 162), .int (nI k)] (mW cy L F mt ms ma mv mn mb ml mp mw mr mq mh) (some (.int (g_heavy ms k n))) (mW cy L F mt ms ma mv mn mb ml mp mw mr mq mh) := by
  refine GM.ofW (cc := cX5_isHeavy) (maxL := 2) (ret := (some .boolean)) (by decide) rfl (Nat.le_of_ble_eq_true rfl) ?_
  intro p e s m below meth c ls hx hb hr hts hown hlocks hml hK hA hG hS hl
  have hl : lv_has ls 2 [(0, .ref (L 162)), (1, .int (nI k))] := hl
  have i162 : 162 < N := by omega
  have i163 : 163 < N := by omega
  have i164 : 164 < N := by omega
  have i165 : 165 < N := by omega
  have i166 : 166 < N := by omega
  have i167 : 167 < N := by omega
  have hf7 := hts (.fieldLink RX5 7 "SiloPadsModel" "s" "[I") (by decide +kernel)
  have hinX5 : ∀ w ∈ u_ws RX5 TX5 12, w ∈ wsX5_isHeavy := by decide +kernel
  refine lv_aload_n hx hb dX5_isHeavy_0 rfl (lv_at hl 0 rfl) ?_
  refine lv_iload_n hx hb dX5_isHeavy_1 rfl (lv_at hl 1 rfl) ?_
  refine lv_aload_n hx hb dX5_isHeavy_2 rfl (lv_at hl 0 rfl) ?_
  refine lv_iload_n hx hb dX5_isHeavy_3 rfl (lv_at hl 1 rfl) ?_
  refine lv_iconst (v := 1) hx hb dX5_isHeavy_4 (by decide) ?_
  refine g_cVi (As := [.int (nI k), .int 1]) (rest := [.int (nI k), .ref (L 162)]) hx hb hml hown hts hK hA hG hS (k_X5_of l D cy N L F hN mt ms ma mv mn mb ml mp mw mr mq mh k 1 (by omega)) (cwV 2 hts gX5_isHeavy_X5_of rfl rfl rfl (by decide +kernel) ⟨Nat.le_of_ble_eq_true rfl, Nat.le_of_ble_eq_true rfl⟩) i162 mW_o (ci := 5) rfl rfl rfl rfl hl.1 (Nat.le_of_ble_eq_true rfl) dX5_isHeavy_5 ⟨Nat.zero_le _, Nat.zero_le _⟩ (fun H locs hG hS => ?_)
  refine lv_iconst (v := 2) hx hb dX5_isHeavy_8 (by decide) ?_
  refine lv_icmp_ne (tgt := 16) hx hb dX5_isHeavy_9 (by decide) (fun c_9 => ?_) (fun c_9 => ?_)
  · skip
    refine lv_iconst (v := 1) hx hb dX5_isHeavy_16 (by decide) ?_
    refine g_cVi (As := [.int (nI k), .int 1]) (rest := []) hx hb hml hown hts hK hA hG hS (k_X5_sumFrom l D cy N L F hN mt ms ma mv mn mb ml mp mw mr mq mh k 1 n (by omega) (hn) (by omega) (by first | omega | (rcases hn1 with h9 | h9 <;> first | omega | (exact absurd h9 c_9)))) (cwV 2 hts gX5_isHeavy_X5_sumFrom rfl rfl rfl (by decide +kernel) ⟨Nat.le_of_ble_eq_true rfl, Nat.le_of_ble_eq_true rfl⟩) i162 mW_o (ci := 5) rfl rfl rfl rfl hl.1 (Nat.le_of_ble_eq_true rfl) dX5_isHeavy_17 ⟨Nat.zero_le _, Nat.zero_le _⟩ (fun H locs hG hS => ?_)
    refine lv_aload_n hx hb dX5_isHeavy_20 rfl (lv_at hl 0 rfl) ?_
    refine g_get (ci := 5) (C := RX5) (T := TX5) (M := 12) hx hb hts hinX5 hown hK hG i162 mW_o rfl 1 (by decide) hf7 rfl rfl dX5_isHeavy_21 ?_
    refine lv_bipush (v := 9) hx hb dX5_isHeavy_24 (by decide) ?_
    refine g_iald hx hb hK hG i163 mW_a163 (k := 9) rfl (by omega) (by decide) dX5_isHeavy_26 ?_
    refine lv_icmp_lt (tgt := 34) hx hb dX5_isHeavy_27 (by decide) (fun c_27 => ?_) (fun c_27 => ?_)
    · skip
      refine lv_iconst (v := 0) hx hb dX5_isHeavy_34 (by decide) ?_
      exact g_iret hx hb hr hlocks hK hG hS rfl dX5_isHeavy_35 ⟨(congrArg (fun z9 => some (Value.int z9)) (by first | rfl | (simp only [g_heavy, c_9, c_27, if_true, if_false, not_true_eq_false, not_false_eq_true]; done) | (simp [g_heavy, c_9, c_27]; done))), rfl⟩
    · skip
      refine lv_iconst (v := 1) hx hb dX5_isHeavy_30 (by decide) ?_
      refine lv_goto (tgt := 35) hx hb dX5_isHeavy_31 (by decide) ?_
      exact g_iret hx hb hr hlocks hK hG hS rfl dX5_isHeavy_35 ⟨(congrArg (fun z9 => some (Value.int z9)) (by first | rfl | (simp only [g_heavy, c_9, c_27, if_true, if_false, not_true_eq_false, not_false_eq_true]; done) | (simp [g_heavy, c_9, c_27]; done))), rfl⟩
  · skip
    refine lv_iconst (v := 0) hx hb dX5_isHeavy_12 (by decide) ?_
    refine lv_goto (tgt := 17) hx hb dX5_isHeavy_13 (by decide) ?_
    refine g_cVi (As := [.int (nI k), .int 0]) (rest := []) hx hb hml hown hts hK hA hG hS (k_X5_sumFrom l D cy N L F hN mt ms ma mv mn mb ml mp mw mr mq mh k 0 n (by omega) (hn) (by omega) (by first | omega | (rcases hn1 with h9 | h9 <;> first | omega | (exact absurd h9 c_9)))) (cwV 2 hts gX5_isHeavy_X5_sumFrom rfl rfl rfl (by decide +kernel) ⟨Nat.le_of_ble_eq_true rfl, Nat.le_of_ble_eq_true rfl⟩) i162 mW_o (ci := 5) rfl rfl rfl rfl hl.1 (Nat.le_of_ble_eq_true rfl) dX5_isHeavy_17 ⟨Nat.zero_le _, Nat.zero_le _⟩ (fun H locs hG hS => ?_)
    refine lv_aload_n hx hb dX5_isHeavy_20 rfl (lv_at hl 0 rfl) ?_
    refine g_get (ci := 5) (C := RX5) (T := TX5) (M := 12) hx hb hts hinX5 hown hK hG i162 mW_o rfl 1 (by decide) hf7 rfl rfl dX5_isHeavy_21 ?_
    refine lv_bipush (v := 9) hx hb dX5_isHeavy_24 (by decide) ?_
    refine g_iald hx hb hK hG i163 mW_a163 (k := 9) rfl (by omega) (by decide) dX5_isHeavy_26 ?_
    refine lv_icmp_lt (tgt := 34) hx hb dX5_isHeavy_27 (by decide) (fun c_27 => ?_) (fun c_27 => ?_)
    · skip
      refine lv_iconst (v := 0) hx hb dX5_isHeavy_34 (by decide) ?_
      exact g_iret hx hb hr hlocks hK hG hS rfl dX5_isHeavy_35 ⟨(congrArg (fun z9 => some (Value.int z9)) (by first | rfl | (simp only [g_heavy, eq_true c_9, c_27, if_true, if_false, not_true_eq_false, not_false_eq_true]; done) | (simp [g_heavy, eq_true c_9, c_27]; done))), rfl⟩
    · skip
      refine lv_iconst (v := 1) hx hb dX5_isHeavy_30 (by decide) ?_
      refine lv_goto (tgt := 35) hx hb dX5_isHeavy_31 (by decide) ?_
      exact g_iret hx hb hr hlocks hK hG hS rfl dX5_isHeavy_35 ⟨(congrArg (fun z9 => some (Value.int z9)) (by first | rfl | (simp only [g_heavy, eq_true c_9, c_27, if_true, if_false, not_true_eq_false, not_false_eq_true]; done) | (simp [g_heavy, eq_true c_9, c_27]; done))), rfl⟩
set_option maxHeartbeats 4000000 in
set_option maxRecDepth 100000 in
theorem k_X5_padsOn (l : Launch) (D : va_G) (cy : Nat → ClassId) (N : Nat) (L : Nat → Nat) (F : Nat → va_E) (hN : 168 ≤ N) (mt : Int32) (ms ma mv : Nat → Int32) (mn : Int32) (mb : Nat → Int32) (ml mp mw : Int32) (mr : Nat → Int32) (mq : Int32) (mh : Int64)   : GM l D cy N L yX5_padsOn wsX5_padsOn ({ frames := 1, cells := 0, slots := 0, locals := 22 }) [.ref (L 162)] (mW cy L F mt ms ma mv mn mb ml mp mw mr mq mh) (some (.int (g_padsOn ms 4))) (mW cy L F mt ms ma mv mn mb ml mp mw mr mq mh) := by
  refine GM.ofW (cc := cX5_padsOn) (maxL := 3) (ret := (some .int)) (by decide) rfl (Nat.le_of_ble_eq_true rfl) ?_
  intro p e s m below meth c ls hx hb hr hts hown hlocks hml hK hA hG hS hl
  have hl : lv_has ls 3 [(0, .ref (L 162))] := hl
  have i162 : 162 < N := by omega
  have i163 : 163 < N := by omega
  have i164 : 164 < N := by omega
  have i165 : 165 < N := by omega
  have i166 : 166 < N := by omega
  have i167 : 167 < N := by omega
  refine lv_iconst (v := 0) hx hb dX5_padsOn_0 (by decide) ?_
  refine lv_istore_n (lv' := [(1, .int 0), (0, .ref (L 162))]) hx hb dX5_padsOn_1 rfl hl (by decide) rfl (fun ls hl => ?_)
  refine lv_iconst (v := 0) hx hb dX5_padsOn_2 (by decide) ?_
  refine lv_istore_n (lv' := [(2, .int 0), (1, .int 0), (0, .ref (L 162))]) hx hb dX5_padsOn_3 rfl hl (by decide) rfl (fun ls hl => ?_)
  refine W.loop (σ := Nat) (fun k H locs ls => (k ≤ 4) ∧ GW D N L (gA N L s.heap.size) (mW cy L F mt ms ma mv mn mb ml mp mw mr mq mh) H ∧ va_S (gA N L s.heap.size) s.heap H locs ∧ lv_has ls 3 [(1, .int (g_padsOn ms k)), (2, .int (nI k)), (0, .ref (L 162))]) (fun k => 4 - k) 0 ⟨by omega, hG.to (rfl), hS, lv_to (lv_sub hl [1, 0, 2] rfl) (rfl)⟩ ?_
  intro k H locs ls hP9 ih4
  obtain ⟨hk9, hG, hS, hl⟩ := hP9
  refine lv_iload_n hx hb dX5_padsOn_4 rfl (lv_at hl 1 rfl) ?_
  refine lv_iconst (v := 4) hx hb dX5_padsOn_5 (by decide) ?_
  refine lv_icmp_ge (tgt := 24) hx hb dX5_padsOn_6 (by decide) (fun c_6 => ?_) (fun c_6 => ?_)
  · skip
    have c_6 : 4 ≤ k := (nI_leI (a := 4) (b := k) (by omega) (by omega)).mp c_6
    refine lv_iload_n hx hb dX5_padsOn_24 rfl (lv_at hl 0 rfl) ?_
    exact g_iret hx hb hr hlocks hK hG hS rfl dX5_padsOn_25 ⟨(congrArg (fun z9 => some (Value.int z9)) (by rw [show k = 4 by omega])), rfl⟩
  · skip
    have c_6 : ¬ 4 ≤ k := fun h9 => c_6 ((nI_leI (a := 4) (b := k) (by omega) (by omega)).mpr h9)
    refine lv_iload_n hx hb dX5_padsOn_9 rfl (lv_at hl 0 rfl) ?_
    refine lv_aload_n hx hb dX5_padsOn_10 rfl (lv_at hl 2 rfl) ?_
    refine lv_iload_n hx hb dX5_padsOn_11 rfl (lv_at hl 1 rfl) ?_
    refine lv_iconst (v := 0) hx hb dX5_padsOn_12 (by decide) ?_
    refine g_cVi (As := [.int (nI k), .int 0]) (rest := [.int (g_padsOn ms k)]) hx hb hml hown hts hK hA hG hS (k_X5_of l D cy N L F hN mt ms ma mv mn mb ml mp mw mr mq mh k 0 (by omega)) (cwV 2 hts gX5_padsOn_X5_of rfl rfl rfl (by decide +kernel) ⟨Nat.le_of_ble_eq_true rfl, Nat.le_of_ble_eq_true rfl⟩) i162 mW_o (ci := 5) rfl rfl rfl rfl hl.1 (Nat.le_of_ble_eq_true rfl) dX5_padsOn_13 ⟨Nat.zero_le _, Nat.zero_le _⟩ (fun H locs hG hS => ?_)
    refine lv_iadd hx hb dX5_padsOn_16 ?_
    refine lv_istore_n (lv' := [(1, .int ((g_padsOn ms k) + (ms (10 + 24 * k + 0)))), (2, .int (nI k)), (0, .ref (L 162))]) hx hb dX5_padsOn_17 rfl hl (by decide) rfl (fun ls hl => ?_)
    refine lv_iinc (v := nI (k + 1)) (lv' := [(2, .int (nI (k + 1))), (1, .int ((g_padsOn ms k) + (ms (10 + 24 * k + 0)))), (0, .ref (L 162))]) hx hb dX5_padsOn_18 hl (k := 1) rfl (nI_add k 1) (by decide) rfl (fun ls hl => ?_)
    refine lv_goto (tgt := 4) hx hb dX5_padsOn_21 (by decide) ?_
    have hl : lv_has ls 3 [(1, .int ((g_padsOn ms k) + (ms (10 + 24 * k + 0)))), (2, .int (nI (k + 1))), (0, .ref (L 162))] := lv_sub hl [1, 0, 2] rfl
    exact ih4 (k + 1) _ _ _ (by omega) ⟨by omega, hG.to (rfl), hS, lv_to hl (rfl)⟩
set_option maxHeartbeats 4000000 in
set_option maxRecDepth 100000 in
theorem k_X5_arches (l : Launch) (D : va_G) (cy : Nat → ClassId) (N : Nat) (L : Nat → Nat) (F : Nat → va_E) (hN : 168 ≤ N) (mt : Int32) (ms ma mv : Nat → Int32) (mn : Int32) (mb : Nat → Int32) (ml mp mw : Int32) (mr : Nat → Int32) (mq : Int32) (mh : Int64)   : GM l D cy N L yX5_arches wsX5_arches ({ frames := 1, cells := 0, slots := 0, locals := 22 }) [.ref (L 162)] (mW cy L F mt ms ma mv mn mb ml mp mw mr mq mh) (some (.int (g_arches ms 4))) (mW cy L F mt ms ma mv mn mb ml mp mw mr mq mh) := by
  refine GM.ofW (cc := cX5_arches) (maxL := 3) (ret := (some .int)) (by decide) rfl (Nat.le_of_ble_eq_true rfl) ?_
  intro p e s m below meth c ls hx hb hr hts hown hlocks hml hK hA hG hS hl
  have hl : lv_has ls 3 [(0, .ref (L 162))] := hl
  have i162 : 162 < N := by omega
  have i163 : 163 < N := by omega
  have i164 : 164 < N := by omega
  have i165 : 165 < N := by omega
  have i166 : 166 < N := by omega
  have i167 : 167 < N := by omega
  refine lv_iconst (v := 0) hx hb dX5_arches_0 (by decide) ?_
  refine lv_istore_n (lv' := [(1, .int 0), (0, .ref (L 162))]) hx hb dX5_arches_1 rfl hl (by decide) rfl (fun ls hl => ?_)
  refine lv_iconst (v := 0) hx hb dX5_arches_2 (by decide) ?_
  refine lv_istore_n (lv' := [(2, .int 0), (1, .int 0), (0, .ref (L 162))]) hx hb dX5_arches_3 rfl hl (by decide) rfl (fun ls hl => ?_)
  refine W.loop (σ := Nat) (fun k H locs ls => (k ≤ 4) ∧ GW D N L (gA N L s.heap.size) (mW cy L F mt ms ma mv mn mb ml mp mw mr mq mh) H ∧ va_S (gA N L s.heap.size) s.heap H locs ∧ lv_has ls 3 [(1, .int (g_arches ms k)), (2, .int (nI k)), (0, .ref (L 162))]) (fun k => 4 - k) 0 ⟨by omega, hG.to (rfl), hS, lv_to (lv_sub hl [1, 0, 2] rfl) (rfl)⟩ ?_
  intro k H locs ls hP9 ih4
  obtain ⟨hk9, hG, hS, hl⟩ := hP9
  refine lv_iload_n hx hb dX5_arches_4 rfl (lv_at hl 1 rfl) ?_
  refine lv_iconst (v := 4) hx hb dX5_arches_5 (by decide) ?_
  refine lv_icmp_ge (tgt := 32) hx hb dX5_arches_6 (by decide) (fun c_6 => ?_) (fun c_6 => ?_)
  · skip
    have c_6 : 4 ≤ k := (nI_leI (a := 4) (b := k) (by omega) (by omega)).mp c_6
    refine lv_iload_n hx hb dX5_arches_32 rfl (lv_at hl 0 rfl) ?_
    exact g_iret hx hb hr hlocks hK hG hS rfl dX5_arches_33 ⟨(congrArg (fun z9 => some (Value.int z9)) (by rw [show k = 4 by omega])), rfl⟩
  · skip
    have c_6 : ¬ 4 ≤ k := fun h9 => c_6 ((nI_leI (a := 4) (b := k) (by omega) (by omega)).mpr h9)
    refine lv_iload_n hx hb dX5_arches_9 rfl (lv_at hl 0 rfl) ?_
    refine lv_aload_n hx hb dX5_arches_10 rfl (lv_at hl 2 rfl) ?_
    refine lv_iload_n hx hb dX5_arches_11 rfl (lv_at hl 1 rfl) ?_
    refine lv_iconst (v := 1) hx hb dX5_arches_12 (by decide) ?_
    refine g_cVi (As := [.int (nI k), .int 1]) (rest := [.int (g_arches ms k)]) hx hb hml hown hts hK hA hG hS (k_X5_of l D cy N L F hN mt ms ma mv mn mb ml mp mw mr mq mh k 1 (by omega)) (cwV 2 hts gX5_arches_X5_of rfl rfl rfl (by decide +kernel) ⟨Nat.le_of_ble_eq_true rfl, Nat.le_of_ble_eq_true rfl⟩) i162 mW_o (ci := 5) rfl rfl rfl rfl hl.1 (Nat.le_of_ble_eq_true rfl) dX5_arches_13 ⟨Nat.zero_le _, Nat.zero_le _⟩ (fun H locs hG hS => ?_)
    refine lv_if_le (tgt := 23) hx hb dX5_arches_16 (by decide) (fun c_16 => ?_) (fun c_16 => ?_)
    · skip
      refine lv_iconst (v := 0) hx hb dX5_arches_23 (by decide) ?_
      refine lv_iadd hx hb dX5_arches_24 ?_
      refine lv_istore_n (lv' := [(1, .int ((g_arches ms k) + 0)), (2, .int (nI k)), (0, .ref (L 162))]) hx hb dX5_arches_25 rfl hl (by decide) rfl (fun ls hl => ?_)
      refine lv_iinc (v := nI (k + 1)) (lv' := [(2, .int (nI (k + 1))), (1, .int ((g_arches ms k) + 0)), (0, .ref (L 162))]) hx hb dX5_arches_26 hl (k := 1) rfl (nI_add k 1) (by decide) rfl (fun ls hl => ?_)
      refine lv_goto (tgt := 4) hx hb dX5_arches_29 (by decide) ?_
      have hl : lv_has ls 3 [(1, .int ((g_arches ms k) + 0)), (2, .int (nI (k + 1))), (0, .ref (L 162))] := lv_sub hl [1, 0, 2] rfl
      exact ih4 (k + 1) _ _ _ (by omega) ⟨by omega, hG.to (rfl), hS, lv_to hl (by simp [g_arches, c_6, c_16])⟩
    · skip
      refine lv_iconst (v := 1) hx hb dX5_arches_19 (by decide) ?_
      refine lv_goto (tgt := 24) hx hb dX5_arches_20 (by decide) ?_
      refine lv_iadd hx hb dX5_arches_24 ?_
      refine lv_istore_n (lv' := [(1, .int ((g_arches ms k) + 1)), (2, .int (nI k)), (0, .ref (L 162))]) hx hb dX5_arches_25 rfl hl (by decide) rfl (fun ls hl => ?_)
      refine lv_iinc (v := nI (k + 1)) (lv' := [(2, .int (nI (k + 1))), (1, .int ((g_arches ms k) + 1)), (0, .ref (L 162))]) hx hb dX5_arches_26 hl (k := 1) rfl (nI_add k 1) (by decide) rfl (fun ls hl => ?_)
      refine lv_goto (tgt := 4) hx hb dX5_arches_29 (by decide) ?_
      have hl : lv_has ls 3 [(1, .int ((g_arches ms k) + 1)), (2, .int (nI (k + 1))), (0, .ref (L 162))] := lv_sub hl [1, 0, 2] rfl
      exact ih4 (k + 1) _ _ _ (by omega) ⟨by omega, hG.to (rfl), hS, lv_to hl (by simp [g_arches, c_6, c_16])⟩
set_option maxHeartbeats 4000000 in
set_option maxRecDepth 100000 in
theorem k_X5_inSilos (l : Launch) (D : va_G) (cy : Nat → ClassId) (N : Nat) (L : Nat → Nat) (F : Nat → va_E) (hN : 168 ≤ N) (mt : Int32) (ms ma mv : Nat → Int32) (mn : Int32) (mb : Nat → Int32) (ml mp mw : Int32) (mr : Nat → Int32) (mq : Int32) (mh : Int64)  (hw : wfM ms) : GM l D cy N L yX5_inSilos wsX5_inSilos ({ frames := 3, cells := 0, slots := 0, locals := 68 }) [.ref (L 162)] (mW cy L F mt ms ma mv mn mb ml mp mw mr mq mh) (some (.int (g_inSilos ms 4))) (mW cy L F mt ms ma mv mn mb ml mp mw mr mq mh) := by
  refine GM.ofW (cc := cX5_inSilos) (maxL := 3) (ret := (some .int)) (by decide) rfl (Nat.le_of_ble_eq_true rfl) ?_
  intro p e s m below meth c ls hx hb hr hts hown hlocks hml hK hA hG hS hl
  have hl : lv_has ls 3 [(0, .ref (L 162))] := hl
  have i162 : 162 < N := by omega
  have i163 : 163 < N := by omega
  have i164 : 164 < N := by omega
  have i165 : 165 < N := by omega
  have i166 : 166 < N := by omega
  have i167 : 167 < N := by omega
  refine lv_iconst (v := 0) hx hb dX5_inSilos_0 (by decide) ?_
  refine lv_istore_n (lv' := [(1, .int 0), (0, .ref (L 162))]) hx hb dX5_inSilos_1 rfl hl (by decide) rfl (fun ls hl => ?_)
  refine lv_iconst (v := 0) hx hb dX5_inSilos_2 (by decide) ?_
  refine lv_istore_n (lv' := [(2, .int 0), (1, .int 0), (0, .ref (L 162))]) hx hb dX5_inSilos_3 rfl hl (by decide) rfl (fun ls hl => ?_)
  refine W.loop (σ := Nat) (fun k H locs ls => (k ≤ 4) ∧ GW D N L (gA N L s.heap.size) (mW cy L F mt ms ma mv mn mb ml mp mw mr mq mh) H ∧ va_S (gA N L s.heap.size) s.heap H locs ∧ lv_has ls 3 [(1, .int (g_inSilos ms k)), (2, .int (nI k)), (0, .ref (L 162))]) (fun k => 4 - k) 0 ⟨by omega, hG.to (rfl), hS, lv_to (lv_sub hl [1, 0, 2] rfl) (rfl)⟩ ?_
  intro k H locs ls hP9 ih4
  obtain ⟨hk9, hG, hS, hl⟩ := hP9
  refine lv_iload_n hx hb dX5_inSilos_4 rfl (lv_at hl 1 rfl) ?_
  refine lv_iconst (v := 4) hx hb dX5_inSilos_5 (by decide) ?_
  refine lv_icmp_ge (tgt := 24) hx hb dX5_inSilos_6 (by decide) (fun c_6 => ?_) (fun c_6 => ?_)
  · skip
    have c_6 : 4 ≤ k := (nI_leI (a := 4) (b := k) (by omega) (by omega)).mp c_6
    refine lv_iload_n hx hb dX5_inSilos_24 rfl (lv_at hl 0 rfl) ?_
    exact g_iret hx hb hr hlocks hK hG hS rfl dX5_inSilos_25 ⟨(congrArg (fun z9 => some (Value.int z9)) (by rw [show k = 4 by omega])), rfl⟩
  · skip
    have c_6 : ¬ 4 ≤ k := fun h9 => c_6 ((nI_leI (a := 4) (b := k) (by omega) (by omega)).mpr h9)
    have hw8 := hw.1 k (by omega)
    refine lv_iload_n hx hb dX5_inSilos_9 rfl (lv_at hl 0 rfl) ?_
    refine lv_aload_n hx hb dX5_inSilos_10 rfl (lv_at hl 2 rfl) ?_
    refine lv_iload_n hx hb dX5_inSilos_11 rfl (lv_at hl 1 rfl) ?_
    refine lv_iconst (v := 0) hx hb dX5_inSilos_12 (by decide) ?_
    refine g_cVi (As := [.int (nI k), .int 0]) (rest := [.int (g_inSilos ms k)]) hx hb hml hown hts hK hA hG hS (k_X5_sumFrom l D cy N L F hN mt ms ma mv mn mb ml mp mw mr mq mh k 0 (Nn ms k) (by omega) (hw8.1) (hw8.2) (by omega)) (cwV 2 hts gX5_inSilos_X5_sumFrom rfl rfl rfl (by decide +kernel) ⟨Nat.le_of_ble_eq_true rfl, Nat.le_of_ble_eq_true rfl⟩) i162 mW_o (ci := 5) rfl rfl rfl rfl hl.1 (Nat.le_of_ble_eq_true rfl) dX5_inSilos_13 ⟨Nat.zero_le _, Nat.zero_le _⟩ (fun H locs hG hS => ?_)
    refine lv_iadd hx hb dX5_inSilos_16 ?_
    refine lv_istore_n (lv' := [(1, .int ((g_inSilos ms k) + (g_sum ms k 0 ((Nn ms k) - 0)))), (2, .int (nI k)), (0, .ref (L 162))]) hx hb dX5_inSilos_17 rfl hl (by decide) rfl (fun ls hl => ?_)
    refine lv_iinc (v := nI (k + 1)) (lv' := [(2, .int (nI (k + 1))), (1, .int ((g_inSilos ms k) + (g_sum ms k 0 ((Nn ms k) - 0)))), (0, .ref (L 162))]) hx hb dX5_inSilos_18 hl (k := 1) rfl (nI_add k 1) (by decide) rfl (fun ls hl => ?_)
    refine lv_goto (tgt := 4) hx hb dX5_inSilos_21 (by decide) ?_
    have hl : lv_has ls 3 [(1, .int ((g_inSilos ms k) + (g_sum ms k 0 ((Nn ms k) - 0)))), (2, .int (nI (k + 1))), (0, .ref (L 162))] := lv_sub hl [1, 0, 2] rfl
    exact ih4 (k + 1) _ _ _ (by omega) ⟨by omega, hG.to (rfl), hS, lv_to hl (rfl)⟩
set_option maxHeartbeats 4000000 in
set_option maxRecDepth 100000 in
theorem k_X5_inShips (l : Launch) (D : va_G) (cy : Nat → ClassId) (N : Nat) (L : Nat → Nat) (F : Nat → va_E) (hN : 168 ≤ N) (mt : Int32) (ms ma mv : Nat → Int32) (mn : Int32) (mb : Nat → Int32) (ml mp mw : Int32) (mr : Nat → Int32) (mq : Int32) (mh : Int64)   : GM l D cy N L yX5_inShips wsX5_inShips ({ frames := 0, cells := 0, slots := 0, locals := 0 }) [.ref (L 162)] (mW cy L F mt ms ma mv mn mb ml mp mw mr mq mh) (some (.int (g_inShips ms 6))) (mW cy L F mt ms ma mv mn mb ml mp mw mr mq mh) := by
  refine GM.ofW (cc := cX5_inShips) (maxL := 3) (ret := (some .int)) (by decide) rfl (Nat.le_of_ble_eq_true rfl) ?_
  intro p e s m below meth c ls hx hb hr hts hown hlocks hml hK hA hG hS hl
  have hl : lv_has ls 3 [(0, .ref (L 162))] := hl
  have i162 : 162 < N := by omega
  have i163 : 163 < N := by omega
  have i164 : 164 < N := by omega
  have i165 : 165 < N := by omega
  have i166 : 166 < N := by omega
  have i167 : 167 < N := by omega
  have hf7 := hts (.fieldLink RX5 7 "SiloPadsModel" "s" "[I") (by decide +kernel)
  have hinX5 : ∀ w ∈ u_ws RX5 TX5 12, w ∈ wsX5_inShips := by decide +kernel
  refine lv_iconst (v := 0) hx hb dX5_inShips_0 (by decide) ?_
  refine lv_istore_n (lv' := [(1, .int 0), (0, .ref (L 162))]) hx hb dX5_inShips_1 rfl hl (by decide) rfl (fun ls hl => ?_)
  refine lv_iconst (v := 0) hx hb dX5_inShips_2 (by decide) ?_
  refine lv_istore_n (lv' := [(2, .int 0), (1, .int 0), (0, .ref (L 162))]) hx hb dX5_inShips_3 rfl hl (by decide) rfl (fun ls hl => ?_)
  refine W.loop (σ := Nat) (fun k H locs ls => (k ≤ 6) ∧ GW D N L (gA N L s.heap.size) (mW cy L F mt ms ma mv mn mb ml mp mw mr mq mh) H ∧ va_S (gA N L s.heap.size) s.heap H locs ∧ lv_has ls 3 [(1, .int (g_inShips ms k)), (2, .int (nI k)), (0, .ref (L 162))]) (fun k => 6 - k) 0 ⟨by omega, hG.to (rfl), hS, lv_to (lv_sub hl [1, 0, 2] rfl) (rfl)⟩ ?_
  intro k H locs ls hP9 ih4
  obtain ⟨hk9, hG, hS, hl⟩ := hP9
  refine lv_iload_n hx hb dX5_inShips_4 rfl (lv_at hl 1 rfl) ?_
  refine lv_bipush (v := 6) hx hb dX5_inShips_5 (by decide) ?_
  refine lv_icmp_ge (tgt := 30) hx hb dX5_inShips_7 (by decide) (fun c_7 => ?_) (fun c_7 => ?_)
  · skip
    have c_7 : 6 ≤ k := (nI_leI (a := 6) (b := k) (by omega) (by omega)).mp c_7
    refine lv_iload_n hx hb dX5_inShips_30 rfl (lv_at hl 0 rfl) ?_
    exact g_iret hx hb hr hlocks hK hG hS rfl dX5_inShips_31 ⟨(congrArg (fun z9 => some (Value.int z9)) (by rw [show k = 6 by omega])), rfl⟩
  · skip
    have c_7 : ¬ 6 ≤ k := fun h9 => c_7 ((nI_leI (a := 6) (b := k) (by omega) (by omega)).mpr h9)
    refine lv_iload_n hx hb dX5_inShips_10 rfl (lv_at hl 0 rfl) ?_
    refine lv_aload_n hx hb dX5_inShips_11 rfl (lv_at hl 2 rfl) ?_
    refine g_get (ci := 5) (C := RX5) (T := TX5) (M := 12) hx hb hts hinX5 hown hK hG i162 mW_o rfl 1 (by decide) hf7 rfl rfl dX5_inShips_12 ?_
    refine lv_bipush (v := 106) hx hb dX5_inShips_15 (by decide) ?_
    refine lv_iconst (v := 2) hx hb dX5_inShips_17 (by decide) ?_
    refine lv_iload_n hx hb dX5_inShips_18 rfl (lv_at hl 1 rfl) ?_
    refine lv_imul hx hb dX5_inShips_19 ?_
    refine lv_toN (k := 2 * k) (pk_mul 2 k) ?_
    refine lv_iadd hx hb dX5_inShips_20 ?_
    refine lv_toN (k := 106 + (2 * k)) (nI_add 106 (2 * k)) ?_
    refine g_iald hx hb hK hG i163 mW_a163 (k := 106 + (2 * k)) rfl (by omega) (by decide) dX5_inShips_21 ?_
    refine lv_iadd hx hb dX5_inShips_22 ?_
    refine lv_istore_n (lv' := [(1, .int ((g_inShips ms k) + (ms (106 + (2 * k))))), (2, .int (nI k)), (0, .ref (L 162))]) hx hb dX5_inShips_23 rfl hl (by decide) rfl (fun ls hl => ?_)
    refine lv_iinc (v := nI (k + 1)) (lv' := [(2, .int (nI (k + 1))), (1, .int ((g_inShips ms k) + (ms (106 + (2 * k))))), (0, .ref (L 162))]) hx hb dX5_inShips_24 hl (k := 1) rfl (nI_add k 1) (by decide) rfl (fun ls hl => ?_)
    refine lv_goto (tgt := 4) hx hb dX5_inShips_27 (by decide) ?_
    have hl : lv_has ls 3 [(1, .int ((g_inShips ms k) + (ms (106 + (2 * k))))), (2, .int (nI (k + 1))), (0, .ref (L 162))] := lv_sub hl [1, 0, 2] rfl
    exact ih4 (k + 1) _ _ _ (by omega) ⟨by omega, hG.to (rfl), hS, lv_to hl (rfl)⟩
set_option maxHeartbeats 4000000 in
set_option maxRecDepth 100000 in
theorem k_X5_reason (l : Launch) (D : va_G) (cy : Nat → ClassId) (N : Nat) (L : Nat → Nat) (F : Nat → va_E) (hN : 168 ≤ N) (mt : Int32) (ms ma mv : Nat → Int32) (mn : Int32) (mb : Nat → Int32) (ml mp mw : Int32) (mr : Nat → Int32) (mq : Int32) (mh : Int64) (k j : Nat) (hk : k < 4) (hj : j < 6) : GM l D cy N L yX5_reason wsX5_reason ({ frames := 4, cells := 0, slots := 0, locals := 89 }) [.ref (L 162), .int (nI k), .int (nI j)] (mW cy L F mt ms ma mv mn mb ml mp mw mr mq mh) (some (.int (g_reason ms k j))) (mW cy L F mt ms ma mv mn mb ml mp mw mr mq mh) := by
  refine GM.ofW (cc := cX5_reason) (maxL := 3) (ret := (some .int)) (by decide) rfl (Nat.le_of_ble_eq_true rfl) ?_
  intro p e s m below meth c ls hx hb hr hts hown hlocks hml hK hA hG hS hl
  have hl : lv_has ls 3 [(0, .ref (L 162)), (1, .int (nI k)), (2, .int (nI j))] := hl
  have i162 : 162 < N := by omega
  have i163 : 163 < N := by omega
  have i164 : 164 < N := by omega
  have i165 : 165 < N := by omega
  have i166 : 166 < N := by omega
  have i167 : 167 < N := by omega
  refine lv_aload_n hx hb dX5_reason_0 rfl (lv_at hl 0 rfl) ?_
  refine lv_iload_n hx hb dX5_reason_1 rfl (lv_at hl 1 rfl) ?_
  refine lv_iconst (v := 3) hx hb dX5_reason_2 (by decide) ?_
  refine g_cVi (As := [.int (nI k), .int 3]) (rest := []) hx hb hml hown hts hK hA hG hS (k_X5_of l D cy N L F hN mt ms ma mv mn mb ml mp mw mr mq mh k 3 (by omega)) (cwV 2 hts gX5_reason_X5_of rfl rfl rfl (by decide +kernel) ⟨Nat.le_of_ble_eq_true rfl, Nat.le_of_ble_eq_true rfl⟩) i162 mW_o (ci := 5) rfl rfl rfl rfl hl.1 (Nat.le_of_ble_eq_true rfl) dX5_reason_3 ⟨Nat.zero_le _, Nat.zero_le _⟩ (fun H locs hG hS => ?_)
  refine lv_if_ne (tgt := 11) hx hb dX5_reason_6 (by decide) (fun c_6 => ?_) (fun c_6 => ?_)
  · skip
    refine lv_aload_n hx hb dX5_reason_11 rfl (lv_at hl 0 rfl) ?_
    refine lv_iload_n hx hb dX5_reason_12 rfl (lv_at hl 1 rfl) ?_
    refine lv_iconst (v := 1) hx hb dX5_reason_13 (by decide) ?_
    refine g_cVi (As := [.int (nI k), .int 1]) (rest := []) hx hb hml hown hts hK hA hG hS (k_X5_of l D cy N L F hN mt ms ma mv mn mb ml mp mw mr mq mh k 1 (by omega)) (cwV 2 hts gX5_reason_X5_of rfl rfl rfl (by decide +kernel) ⟨Nat.le_of_ble_eq_true rfl, Nat.le_of_ble_eq_true rfl⟩) i162 mW_o (ci := 5) rfl rfl rfl rfl hl.1 (Nat.le_of_ble_eq_true rfl) dX5_reason_14 ⟨Nat.zero_le _, Nat.zero_le _⟩ (fun H locs hG hS => ?_)
    refine lv_iconst (v := 2) hx hb dX5_reason_17 (by decide) ?_
    refine lv_icmp_ne (tgt := 25) hx hb dX5_reason_18 (by decide) (fun c_18 => ?_) (fun c_18 => ?_)
    · skip
      refine lv_aload_n hx hb dX5_reason_25 rfl (lv_at hl 0 rfl) ?_
      refine lv_iload_n hx hb dX5_reason_26 rfl (lv_at hl 2 rfl) ?_
      refine g_cVi (As := [.int (nI j)]) (rest := []) hx hb hml hown hts hK hA hG hS (k_X5_room l D cy N L F hN mt ms ma mv mn mb ml mp mw mr mq mh j (by omega)) (cwV 1 hts gX5_reason_X5_room rfl rfl rfl (by decide +kernel) ⟨Nat.le_of_ble_eq_true rfl, Nat.le_of_ble_eq_true rfl⟩) i162 mW_o (ci := 5) rfl rfl rfl rfl hl.1 (Nat.le_of_ble_eq_true rfl) dX5_reason_27 ⟨Nat.zero_le _, Nat.zero_le _⟩ (fun H locs hG hS => ?_)
      refine lv_if_ne (tgt := 37) hx hb dX5_reason_30 (by decide) (fun c_30 => ?_) (fun c_30 => ?_)
      · skip
        refine lv_aload_n hx hb dX5_reason_37 rfl (lv_at hl 0 rfl) ?_
        refine lv_iload_n hx hb dX5_reason_38 rfl (lv_at hl 1 rfl) ?_
        refine g_cVi (As := [.int (nI k)]) (rest := []) hx hb hml hown hts hK hA hG hS (k_X5_flows l D cy N L F hN mt ms ma mv mn mb ml mp mw mr mq mh k (by omega)) (cwV 1 hts gX5_reason_X5_flows rfl rfl rfl (by decide +kernel) ⟨Nat.le_of_ble_eq_true rfl, Nat.le_of_ble_eq_true rfl⟩) i162 mW_o (ci := 5) rfl rfl rfl rfl hl.1 (Nat.le_of_ble_eq_true rfl) dX5_reason_39 ⟨Nat.zero_le _, Nat.zero_le _⟩ (fun H locs hG hS => ?_)
        refine lv_if_ne (tgt := 49) hx hb dX5_reason_42 (by decide) (fun c_42 => ?_) (fun c_42 => ?_)
        · skip
          refine lv_iconst (v := 0) hx hb dX5_reason_49 (by decide) ?_
          exact g_iret hx hb hr hlocks hK hG hS rfl dX5_reason_50 ⟨(congrArg (fun z9 => some (Value.int z9)) (by first | rfl | (simp only [g_reason, c_6, c_18, c_30, c_42, if_true, if_false, not_true_eq_false, not_false_eq_true]; done) | (simp [g_reason, c_6, c_18, c_30, c_42]; done))), rfl⟩
        · skip
          refine lv_iconst (v := 4) hx hb dX5_reason_45 (by decide) ?_
          refine lv_goto (tgt := 50) hx hb dX5_reason_46 (by decide) ?_
          exact g_iret hx hb hr hlocks hK hG hS rfl dX5_reason_50 ⟨(congrArg (fun z9 => some (Value.int z9)) (by first | rfl | (simp only [g_reason, c_6, c_18, c_30, eq_true c_42, if_true, if_false, not_true_eq_false, not_false_eq_true]; done) | (simp [g_reason, c_6, c_18, c_30, eq_true c_42]; done))), rfl⟩
      · skip
        refine lv_iconst (v := 3) hx hb dX5_reason_33 (by decide) ?_
        refine lv_goto (tgt := 50) hx hb dX5_reason_34 (by decide) ?_
        exact g_iret hx hb hr hlocks hK hG hS rfl dX5_reason_50 ⟨(congrArg (fun z9 => some (Value.int z9)) (by first | rfl | (simp only [g_reason, c_6, c_18, eq_true c_30, if_true, if_false, not_true_eq_false, not_false_eq_true]; done) | (simp [g_reason, c_6, c_18, eq_true c_30]; done))), rfl⟩
    · skip
      refine lv_iconst (v := 2) hx hb dX5_reason_21 (by decide) ?_
      refine lv_goto (tgt := 50) hx hb dX5_reason_22 (by decide) ?_
      exact g_iret hx hb hr hlocks hK hG hS rfl dX5_reason_50 ⟨(congrArg (fun z9 => some (Value.int z9)) (by first | rfl | (simp only [g_reason, c_6, eq_true c_18, if_true, if_false, not_true_eq_false, not_false_eq_true]; done) | (simp [g_reason, c_6, eq_true c_18]; done))), rfl⟩
  · skip
    refine lv_iconst (v := 1) hx hb dX5_reason_9 (by decide) ?_
    exact g_iret hx hb hr hlocks hK hG hS rfl dX5_reason_10 ⟨(congrArg (fun z9 => some (Value.int z9)) (by first | rfl | (simp only [g_reason, eq_true c_6, if_true, if_false, not_true_eq_false, not_false_eq_true]; done) | (simp [g_reason, eq_true c_6]; done))), rfl⟩
set_option maxHeartbeats 4000000 in
set_option maxRecDepth 100000 in
theorem k_X5_tellsLayer (l : Launch) (D : va_G) (cy : Nat → ClassId) (N : Nat) (L : Nat → Nat) (F : Nat → va_E) (hN : 168 ≤ N) (mt : Int32) (ms ma mv : Nat → Int32) (mn : Int32) (mb : Nat → Int32) (ml mp mw : Int32) (mr : Nat → Int32) (mq : Int32) (mh : Int64) (k j : Nat) (v : Int32) (hk : k < 4) (hj : j < 10) : GM l D cy N L yX5_tellsLayer wsX5_tellsLayer ({ frames := 3, cells := 0, slots := 0, locals := 67 }) [.ref (L 162), .int (nI k), .int (nI j), .int v] (mW cy L F mt ms ma mv mn mb ml mp mw mr mq mh) (some (.int (g_tellL ms k j v))) (mW cy L F mt ms ma mv mn mb ml mp mw mr mq mh) := by
  refine GM.ofW (cc := cX5_tellsLayer) (maxL := 4) (ret := (some .int)) (by decide) rfl (Nat.le_of_ble_eq_true rfl) ?_
  intro p e s m below meth c ls hx hb hr hts hown hlocks hml hK hA hG hS hl
  have hl : lv_has ls 4 [(0, .ref (L 162)), (1, .int (nI k)), (2, .int (nI j)), (3, .int v)] := hl
  have i162 : 162 < N := by omega
  have i163 : 163 < N := by omega
  have i164 : 164 < N := by omega
  have i165 : 165 < N := by omega
  have i166 : 166 < N := by omega
  have i167 : 167 < N := by omega
  refine lv_iload_n hx hb dX5_tellsLayer_0 rfl (lv_at hl 3 rfl) ?_
  refine lv_if_ne (tgt := 13) hx hb dX5_tellsLayer_1 (by decide) (fun c_1 => ?_) (fun c_1 => ?_)
  · skip
    refine lv_iload_n hx hb dX5_tellsLayer_13 rfl (lv_at hl 3 rfl) ?_
    refine lv_iconst (v := 1) hx hb dX5_tellsLayer_14 (by decide) ?_
    refine lv_icmp_ne (tgt := 27) hx hb dX5_tellsLayer_15 (by decide) (fun c_15 => ?_) (fun c_15 => ?_)
    · skip
      refine lv_aload_n hx hb dX5_tellsLayer_27 rfl (lv_at hl 0 rfl) ?_
      refine lv_iload_n hx hb dX5_tellsLayer_28 rfl (lv_at hl 1 rfl) ?_
      refine lv_iload_n hx hb dX5_tellsLayer_29 rfl (lv_at hl 2 rfl) ?_
      refine g_cVi (As := [.int (nI k), .int (nI j)]) (rest := []) hx hb hml hown hts hK hA hG hS (k_X5_setOf l D cy N L F hN mt ms ma mv mn mb ml mp mw mr mq mh k j (by omega)) (cwV 2 hts gX5_tellsLayer_X5_setOf rfl rfl rfl (by decide +kernel) ⟨Nat.le_of_ble_eq_true rfl, Nat.le_of_ble_eq_true rfl⟩) i162 mW_o (ci := 5) rfl rfl rfl rfl hl.1 (Nat.le_of_ble_eq_true rfl) dX5_tellsLayer_30 ⟨Nat.zero_le _, Nat.zero_le _⟩ (fun H locs hG hS => ?_)
      exact g_iret hx hb hr hlocks hK hG hS rfl dX5_tellsLayer_33 ⟨(congrArg (fun z9 => some (Value.int z9)) (by first | rfl | (simp only [g_tellL, c_1, c_15, if_true, if_false, not_true_eq_false, not_false_eq_true]; done) | (simp [g_tellL, c_1, c_15]; done))), rfl⟩
    · skip
      refine lv_aload_n hx hb dX5_tellsLayer_18 rfl (lv_at hl 0 rfl) ?_
      refine lv_iload_n hx hb dX5_tellsLayer_19 rfl (lv_at hl 1 rfl) ?_
      refine lv_iload_n hx hb dX5_tellsLayer_20 rfl (lv_at hl 2 rfl) ?_
      refine g_cVi (As := [.int (nI k), .int (nI j)]) (rest := []) hx hb hml hown hts hK hA hG hS (k_X5_age l D cy N L F hN mt ms ma mv mn mb ml mp mw mr mq mh k j (by omega)) (cwV 2 hts gX5_tellsLayer_X5_age rfl rfl rfl (by decide +kernel) ⟨Nat.le_of_ble_eq_true rfl, Nat.le_of_ble_eq_true rfl⟩) i162 mW_o (ci := 5) rfl rfl rfl rfl hl.1 (Nat.le_of_ble_eq_true rfl) dX5_tellsLayer_21 ⟨Nat.zero_le _, Nat.zero_le _⟩ (fun H locs hG hS => ?_)
      refine lv_goto (tgt := 33) hx hb dX5_tellsLayer_24 (by decide) ?_
      exact g_iret hx hb hr hlocks hK hG hS rfl dX5_tellsLayer_33 ⟨(congrArg (fun z9 => some (Value.int z9)) (by first | rfl | (simp only [g_tellL, c_1, eq_true c_15, if_true, if_false, not_true_eq_false, not_false_eq_true]; done) | (simp [g_tellL, c_1, eq_true c_15]; done))), rfl⟩
  · skip
    refine lv_aload_n hx hb dX5_tellsLayer_4 rfl (lv_at hl 0 rfl) ?_
    refine lv_iload_n hx hb dX5_tellsLayer_5 rfl (lv_at hl 1 rfl) ?_
    refine lv_iload_n hx hb dX5_tellsLayer_6 rfl (lv_at hl 2 rfl) ?_
    refine g_cVi (As := [.int (nI k), .int (nI j)]) (rest := []) hx hb hml hown hts hK hA hG hS (k_X5_tonnes l D cy N L F hN mt ms ma mv mn mb ml mp mw mr mq mh k j (by omega)) (cwV 2 hts gX5_tellsLayer_X5_tonnes rfl rfl rfl (by decide +kernel) ⟨Nat.le_of_ble_eq_true rfl, Nat.le_of_ble_eq_true rfl⟩) i162 mW_o (ci := 5) rfl rfl rfl rfl hl.1 (Nat.le_of_ble_eq_true rfl) dX5_tellsLayer_7 ⟨Nat.zero_le _, Nat.zero_le _⟩ (fun H locs hG hS => ?_)
    refine lv_goto (tgt := 33) hx hb dX5_tellsLayer_10 (by decide) ?_
    exact g_iret hx hb hr hlocks hK hG hS rfl dX5_tellsLayer_33 ⟨(congrArg (fun z9 => some (Value.int z9)) (by first | rfl | (simp only [g_tellL, eq_true c_1, if_true, if_false, not_true_eq_false, not_false_eq_true]; done) | (simp [g_tellL, eq_true c_1]; done))), rfl⟩
end
