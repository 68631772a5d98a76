section
-- ===== PART A: goes FIRST, ahead of the names: the tables' words, and 'selects' of the private methods out of them =====
/-- a private method of a class that the tables say can be made, by its rows of tables_1 -/
def lw_okq (q : MethodName × Nat) : Prop := (q.1.cls ≠ "java/lang/invoke/MethodHandle" ∧ q.1.cls ≠ "java/lang/invoke/VarHandle") ∧ Cond.instantiable q.1.cls q.2 ∈ tables_1 ∧ Cond.privateMethod q.1 ∈ tables_1 ∧ Cond.instanceMethod q.1 ∈ tables_1
theorem lw_p0 : lw_okq (⟨"BoiledEggs$Page", "suits", "(I)Z"⟩, 2) := ⟨⟨by decide +kernel, by decide +kernel⟩, List.mem_of_getElem? (i := 25) (by decide +kernel), List.mem_of_getElem? (i := 217) (by decide +kernel), List.mem_of_getElem? (i := 218) (by decide +kernel)⟩
theorem lw_p1 : lw_okq (⟨"BoiledEggs$Page", "isDigit", "(III)Z"⟩, 2) := ⟨⟨by decide +kernel, by decide +kernel⟩, List.mem_of_getElem? (i := 25) (by decide +kernel), List.mem_of_getElem? (i := 221) (by decide +kernel), List.mem_of_getElem? (i := 222) (by decide +kernel)⟩
theorem lw_p2 : lw_okq (⟨"BoiledEggs$Told", "keep", "(IJ)V"⟩, 8) := ⟨⟨by decide +kernel, by decide +kernel⟩, List.mem_of_getElem? (i := 73) (by decide +kernel), List.mem_of_getElem? (i := 267) (by decide +kernel), List.mem_of_getElem? (i := 268) (by decide +kernel)⟩
theorem lw_p3 : lw_okq (⟨"BoiledEggs", "isEgg", "(I)Z"⟩, 12) := ⟨⟨by decide +kernel, by decide +kernel⟩, List.mem_of_getElem? (i := 17) (by decide +kernel), List.mem_of_getElem? (i := 275) (by decide +kernel), List.mem_of_getElem? (i := 276) (by decide +kernel)⟩
theorem lw_p4 : lw_okq (⟨"BoiledEggs", "hasKitchen", "()Z"⟩, 12) := ⟨⟨by decide +kernel, by decide +kernel⟩, List.mem_of_getElem? (i := 17) (by decide +kernel), List.mem_of_getElem? (i := 359) (by decide +kernel), List.mem_of_getElem? (i := 360) (by decide +kernel)⟩
theorem lw_p5 : lw_okq (⟨"BoiledEggs", "mayBreak", "()Z"⟩, 12) := ⟨⟨by decide +kernel, by decide +kernel⟩, List.mem_of_getElem? (i := 17) (by decide +kernel), List.mem_of_getElem? (i := 379) (by decide +kernel), List.mem_of_getElem? (i := 380) (by decide +kernel)⟩
theorem lw_p6 : lw_okq (⟨"BoiledEggs$Breaking", "spread", "(LBoiledEggs$Told;I)V"⟩, 6) := ⟨⟨by decide +kernel, by decide +kernel⟩, List.mem_of_getElem? (i := 113) (by decide +kernel), List.mem_of_getElem? (i := 392) (by decide +kernel), List.mem_of_getElem? (i := 393) (by decide +kernel)⟩
theorem lw_p7 : lw_okq (⟨"BoiledEggs$Breaking", "lastState", "(LBoiledEggs$Told;I)I"⟩, 6) := ⟨⟨by decide +kernel, by decide +kernel⟩, List.mem_of_getElem? (i := 113) (by decide +kernel), List.mem_of_getElem? (i := 396) (by decide +kernel), List.mem_of_getElem? (i := 397) (by decide +kernel)⟩
theorem lw_p8 : lw_okq (⟨"BoiledEggs$Breaking", "solveState", "(I)V"⟩, 6) := ⟨⟨by decide +kernel, by decide +kernel⟩, List.mem_of_getElem? (i := 113) (by decide +kernel), List.mem_of_getElem? (i := 402) (by decide +kernel), List.mem_of_getElem? (i := 403) (by decide +kernel)⟩
theorem lw_p9 : lw_okq (⟨"BoiledEggs$Breaking", "breakNext", "(I)V"⟩, 6) := ⟨⟨by decide +kernel, by decide +kernel⟩, List.mem_of_getElem? (i := 113) (by decide +kernel), List.mem_of_getElem? (i := 406) (by decide +kernel), List.mem_of_getElem? (i := 407) (by decide +kernel)⟩
theorem lw_p10 : lw_okq (⟨"BoiledEggs", "trierOf", "(I)LBoiledEggs$Trier;"⟩, 12) := ⟨⟨by decide +kernel, by decide +kernel⟩, List.mem_of_getElem? (i := 17) (by decide +kernel), List.mem_of_getElem? (i := 491) (by decide +kernel), List.mem_of_getElem? (i := 492) (by decide +kernel)⟩
theorem lw_p11 : lw_okq (⟨"BoiledEggs", "eggsAsMeant", "(I)I"⟩, 12) := ⟨⟨by decide +kernel, by decide +kernel⟩, List.mem_of_getElem? (i := 17) (by decide +kernel), List.mem_of_getElem? (i := 596) (by decide +kernel), List.mem_of_getElem? (i := 597) (by decide +kernel)⟩
theorem lw_p12 : lw_okq (⟨"BoiledEggs", "withEgg", "(JI)J"⟩, 12) := ⟨⟨by decide +kernel, by decide +kernel⟩, List.mem_of_getElem? (i := 17) (by decide +kernel), List.mem_of_getElem? (i := 625) (by decide +kernel), List.mem_of_getElem? (i := 626) (by decide +kernel)⟩
theorem lw_p13 : lw_okq (⟨"BoiledEggsModel", "faultNow", "()I"⟩, 32) := ⟨⟨by decide +kernel, by decide +kernel⟩, List.mem_of_getElem? (i := 639) (by decide +kernel), List.mem_of_getElem? (i := 758) (by decide +kernel), List.mem_of_getElem? (i := 759) (by decide +kernel)⟩
theorem lw_p14 : lw_okq (⟨"BoiledEggsModel", "isGood", "(I)Z"⟩, 32) := ⟨⟨by decide +kernel, by decide +kernel⟩, List.mem_of_getElem? (i := 639) (by decide +kernel), List.mem_of_getElem? (i := 762) (by decide +kernel), List.mem_of_getElem? (i := 763) (by decide +kernel)⟩
theorem lw_p15 : lw_okq (⟨"BoiledEggsModel", "figure", "(I)I"⟩, 32) := ⟨⟨by decide +kernel, by decide +kernel⟩, List.mem_of_getElem? (i := 639) (by decide +kernel), List.mem_of_getElem? (i := 766) (by decide +kernel), List.mem_of_getElem? (i := 767) (by decide +kernel)⟩
def lw_privs_1 : List (MethodName × Nat) := [(⟨"BoiledEggs$Page", "suits", "(I)Z"⟩, 2), (⟨"BoiledEggs$Page", "isDigit", "(III)Z"⟩, 2), (⟨"BoiledEggs$Told", "keep", "(IJ)V"⟩, 8), (⟨"BoiledEggs", "isEgg", "(I)Z"⟩, 12), (⟨"BoiledEggs", "hasKitchen", "()Z"⟩, 12), (⟨"BoiledEggs", "mayBreak", "()Z"⟩, 12), (⟨"BoiledEggs$Breaking", "spread", "(LBoiledEggs$Told;I)V"⟩, 6), (⟨"BoiledEggs$Breaking", "lastState", "(LBoiledEggs$Told;I)I"⟩, 6), (⟨"BoiledEggs$Breaking", "solveState", "(I)V"⟩, 6), (⟨"BoiledEggs$Breaking", "breakNext", "(I)V"⟩, 6), (⟨"BoiledEggs", "trierOf", "(I)LBoiledEggs$Trier;"⟩, 12), (⟨"BoiledEggs", "eggsAsMeant", "(I)I"⟩, 12), (⟨"BoiledEggs", "withEgg", "(JI)J"⟩, 12), (⟨"BoiledEggsModel", "faultNow", "()I"⟩, 32), (⟨"BoiledEggsModel", "isGood", "(I)Z"⟩, 32), (⟨"BoiledEggsModel", "figure", "(I)I"⟩, 32)]
theorem lw_r1 : ∀ q ∈ lw_privs_1, lw_okq q := List.forall_mem_cons.mpr ⟨lw_p0, List.forall_mem_cons.mpr ⟨lw_p1, List.forall_mem_cons.mpr ⟨lw_p2, List.forall_mem_cons.mpr ⟨lw_p3, List.forall_mem_cons.mpr ⟨lw_p4, List.forall_mem_cons.mpr ⟨lw_p5, List.forall_mem_cons.mpr ⟨lw_p6, List.forall_mem_cons.mpr ⟨lw_p7, List.forall_mem_cons.mpr ⟨lw_p8, List.forall_mem_cons.mpr ⟨lw_p9, List.forall_mem_cons.mpr ⟨lw_p10, List.forall_mem_cons.mpr ⟨lw_p11, List.forall_mem_cons.mpr ⟨lw_p12, List.forall_mem_cons.mpr ⟨lw_p13, List.forall_mem_cons.mpr ⟨lw_p14, List.forall_mem_cons.mpr ⟨lw_p15, fun _ h => absurd h List.not_mem_nil⟩⟩⟩⟩⟩⟩⟩⟩⟩⟩⟩⟩⟩⟩⟩⟩
theorem lw_p16 : lw_okq (⟨"BoiledEggsModel", "isEgg", "(I)Z"⟩, 32) := ⟨⟨by decide +kernel, by decide +kernel⟩, List.mem_of_getElem? (i := 639) (by decide +kernel), List.mem_of_getElem? (i := 778) (by decide +kernel), List.mem_of_getElem? (i := 779) (by decide +kernel)⟩
theorem lw_p17 : lw_okq (⟨"BoiledEggsModel", "eggNow", "(II)I"⟩, 32) := ⟨⟨by decide +kernel, by decide +kernel⟩, List.mem_of_getElem? (i := 639) (by decide +kernel), List.mem_of_getElem? (i := 782) (by decide +kernel), List.mem_of_getElem? (i := 783) (by decide +kernel)⟩
theorem lw_p18 : lw_okq (⟨"BoiledEggsModel", "isInBox", "(I)Z"⟩, 32) := ⟨⟨by decide +kernel, by decide +kernel⟩, List.mem_of_getElem? (i := 639) (by decide +kernel), List.mem_of_getElem? (i := 790) (by decide +kernel), List.mem_of_getElem? (i := 791) (by decide +kernel)⟩
theorem lw_p19 : lw_okq (⟨"BoiledEggsModel", "total", "(II)J"⟩, 32) := ⟨⟨by decide +kernel, by decide +kernel⟩, List.mem_of_getElem? (i := 639) (by decide +kernel), List.mem_of_getElem? (i := 797) (by decide +kernel), List.mem_of_getElem? (i := 798) (by decide +kernel)⟩
theorem lw_p20 : lw_okq (⟨"BoiledEggsModel", "weight", "(III)J"⟩, 32) := ⟨⟨by decide +kernel, by decide +kernel⟩, List.mem_of_getElem? (i := 639) (by decide +kernel), List.mem_of_getElem? (i := 801) (by decide +kernel), List.mem_of_getElem? (i := 802) (by decide +kernel)⟩
theorem lw_p21 : lw_okq (⟨"BoiledEggsModel", "spun", "(II)J"⟩, 32) := ⟨⟨by decide +kernel, by decide +kernel⟩, List.mem_of_getElem? (i := 639) (by decide +kernel), List.mem_of_getElem? (i := 808) (by decide +kernel), List.mem_of_getElem? (i := 809) (by decide +kernel)⟩
theorem lw_p22 : lw_okq (⟨"BoiledEggsModel", "know", "(II)Z"⟩, 32) := ⟨⟨by decide +kernel, by decide +kernel⟩, List.mem_of_getElem? (i := 639) (by decide +kernel), List.mem_of_getElem? (i := 819) (by decide +kernel), List.mem_of_getElem? (i := 820) (by decide +kernel)⟩
theorem lw_p23 : lw_okq (⟨"BoiledEggsModel", "likelyNow", "(II)J"⟩, 32) := ⟨⟨by decide +kernel, by decide +kernel⟩, List.mem_of_getElem? (i := 639) (by decide +kernel), List.mem_of_getElem? (i := 832) (by decide +kernel), List.mem_of_getElem? (i := 833) (by decide +kernel)⟩
theorem lw_p24 : lw_okq (⟨"BoiledEggsModel", "boiledWeight", "(II)J"⟩, 32) := ⟨⟨by decide +kernel, by decide +kernel⟩, List.mem_of_getElem? (i := 639) (by decide +kernel), List.mem_of_getElem? (i := 836) (by decide +kernel), List.mem_of_getElem? (i := 837) (by decide +kernel)⟩
theorem lw_p25 : lw_okq (⟨"BoiledEggsModel", "likeliestNow", "()I"⟩, 32) := ⟨⟨by decide +kernel, by decide +kernel⟩, List.mem_of_getElem? (i := 639) (by decide +kernel), List.mem_of_getElem? (i := 848) (by decide +kernel), List.mem_of_getElem? (i := 849) (by decide +kernel)⟩
theorem lw_p26 : lw_okq (⟨"BoiledEggsModel", "turningNow", "(II)I"⟩, 32) := ⟨⟨by decide +kernel, by decide +kernel⟩, List.mem_of_getElem? (i := 639) (by decide +kernel), List.mem_of_getElem? (i := 856) (by decide +kernel), List.mem_of_getElem? (i := 857) (by decide +kernel)⟩
theorem lw_p27 : lw_okq (⟨"BoiledEggsModel", "mayAsk", "()Z"⟩, 32) := ⟨⟨by decide +kernel, by decide +kernel⟩, List.mem_of_getElem? (i := 639) (by decide +kernel), List.mem_of_getElem? (i := 865) (by decide +kernel), List.mem_of_getElem? (i := 866) (by decide +kernel)⟩
theorem lw_p28 : lw_okq (⟨"BoiledEggsModel", "layBreaking", "(I)Z"⟩, 32) := ⟨⟨by decide +kernel, by decide +kernel⟩, List.mem_of_getElem? (i := 639) (by decide +kernel), List.mem_of_getElem? (i := 869) (by decide +kernel), List.mem_of_getElem? (i := 870) (by decide +kernel)⟩
theorem lw_p29 : lw_okq (⟨"BoiledEggsModel", "layWeights", "()V"⟩, 32) := ⟨⟨by decide +kernel, by decide +kernel⟩, List.mem_of_getElem? (i := 639) (by decide +kernel), List.mem_of_getElem? (i := 873) (by decide +kernel), List.mem_of_getElem? (i := 874) (by decide +kernel)⟩
theorem lw_p30 : lw_okq (⟨"BoiledEggsModel", "eggsOf", "(II)I"⟩, 32) := ⟨⟨by decide +kernel, by decide +kernel⟩, List.mem_of_getElem? (i := 639) (by decide +kernel), List.mem_of_getElem? (i := 877) (by decide +kernel), List.mem_of_getElem? (i := 878) (by decide +kernel)⟩
theorem lw_p31 : lw_okq (⟨"BoiledEggsModel", "layState", "(II)V"⟩, 32) := ⟨⟨by decide +kernel, by decide +kernel⟩, List.mem_of_getElem? (i := 639) (by decide +kernel), List.mem_of_getElem? (i := 887) (by decide +kernel), List.mem_of_getElem? (i := 888) (by decide +kernel)⟩
def lw_privs_2 : List (MethodName × Nat) := [(⟨"BoiledEggsModel", "isEgg", "(I)Z"⟩, 32), (⟨"BoiledEggsModel", "eggNow", "(II)I"⟩, 32), (⟨"BoiledEggsModel", "isInBox", "(I)Z"⟩, 32), (⟨"BoiledEggsModel", "total", "(II)J"⟩, 32), (⟨"BoiledEggsModel", "weight", "(III)J"⟩, 32), (⟨"BoiledEggsModel", "spun", "(II)J"⟩, 32), (⟨"BoiledEggsModel", "know", "(II)Z"⟩, 32), (⟨"BoiledEggsModel", "likelyNow", "(II)J"⟩, 32), (⟨"BoiledEggsModel", "boiledWeight", "(II)J"⟩, 32), (⟨"BoiledEggsModel", "likeliestNow", "()I"⟩, 32), (⟨"BoiledEggsModel", "turningNow", "(II)I"⟩, 32), (⟨"BoiledEggsModel", "mayAsk", "()Z"⟩, 32), (⟨"BoiledEggsModel", "layBreaking", "(I)Z"⟩, 32), (⟨"BoiledEggsModel", "layWeights", "()V"⟩, 32), (⟨"BoiledEggsModel", "eggsOf", "(II)I"⟩, 32), (⟨"BoiledEggsModel", "layState", "(II)V"⟩, 32)]
theorem lw_r2 : ∀ q ∈ lw_privs_2, lw_okq q := List.forall_mem_cons.mpr ⟨lw_p16, List.forall_mem_cons.mpr ⟨lw_p17, List.forall_mem_cons.mpr ⟨lw_p18, List.forall_mem_cons.mpr ⟨lw_p19, List.forall_mem_cons.mpr ⟨lw_p20, List.forall_mem_cons.mpr ⟨lw_p21, List.forall_mem_cons.mpr ⟨lw_p22, List.forall_mem_cons.mpr ⟨lw_p23, List.forall_mem_cons.mpr ⟨lw_p24, List.forall_mem_cons.mpr ⟨lw_p25, List.forall_mem_cons.mpr ⟨lw_p26, List.forall_mem_cons.mpr ⟨lw_p27, List.forall_mem_cons.mpr ⟨lw_p28, List.forall_mem_cons.mpr ⟨lw_p29, List.forall_mem_cons.mpr ⟨lw_p30, List.forall_mem_cons.mpr ⟨lw_p31, fun _ h => absurd h List.not_mem_nil⟩⟩⟩⟩⟩⟩⟩⟩⟩⟩⟩⟩⟩⟩⟩⟩
theorem lw_p32 : lw_okq (⟨"BoiledEggsModel", "larger", "(II)I"⟩, 32) := ⟨⟨by decide +kernel, by decide +kernel⟩, List.mem_of_getElem? (i := 639) (by decide +kernel), List.mem_of_getElem? (i := 892) (by decide +kernel), List.mem_of_getElem? (i := 893) (by decide +kernel)⟩
theorem lw_p33 : lw_okq (⟨"BoiledEggsModel", "riskNow", "(II)J"⟩, 32) := ⟨⟨by decide +kernel, by decide +kernel⟩, List.mem_of_getElem? (i := 639) (by decide +kernel), List.mem_of_getElem? (i := 905) (by decide +kernel), List.mem_of_getElem? (i := 906) (by decide +kernel)⟩
theorem lw_p34 : lw_okq (⟨"BoiledEggsModel", "isTrier", "(I)Z"⟩, 32) := ⟨⟨by decide +kernel, by decide +kernel⟩, List.mem_of_getElem? (i := 639) (by decide +kernel), List.mem_of_getElem? (i := 917) (by decide +kernel), List.mem_of_getElem? (i := 918) (by decide +kernel)⟩
theorem lw_p35 : lw_okq (⟨"BoiledEggsModel", "trierNow", "(II)I"⟩, 32) := ⟨⟨by decide +kernel, by decide +kernel⟩, List.mem_of_getElem? (i := 639) (by decide +kernel), List.mem_of_getElem? (i := 921) (by decide +kernel), List.mem_of_getElem? (i := 922) (by decide +kernel)⟩
theorem lw_p36 : lw_okq (⟨"BoiledEggsModel", "nextOf", "(I)I"⟩, 32) := ⟨⟨by decide +kernel, by decide +kernel⟩, List.mem_of_getElem? (i := 639) (by decide +kernel), List.mem_of_getElem? (i := 925) (by decide +kernel), List.mem_of_getElem? (i := 926) (by decide +kernel)⟩
theorem lw_p37 : lw_okq (⟨"BoiledEggsModel", "badness", "(II)J"⟩, 32) := ⟨⟨by decide +kernel, by decide +kernel⟩, List.mem_of_getElem? (i := 639) (by decide +kernel), List.mem_of_getElem? (i := 929) (by decide +kernel), List.mem_of_getElem? (i := 930) (by decide +kernel)⟩
theorem lw_p38 : lw_okq (⟨"BoiledEggsModel", "fitsNow", "(I)I"⟩, 32) := ⟨⟨by decide +kernel, by decide +kernel⟩, List.mem_of_getElem? (i := 639) (by decide +kernel), List.mem_of_getElem? (i := 942) (by decide +kernel), List.mem_of_getElem? (i := 943) (by decide +kernel)⟩
theorem lw_p39 : lw_okq (⟨"BoiledEggsModel", "morningsNow", "(III)I"⟩, 32) := ⟨⟨by decide +kernel, by decide +kernel⟩, List.mem_of_getElem? (i := 639) (by decide +kernel), List.mem_of_getElem? (i := 950) (by decide +kernel), List.mem_of_getElem? (i := 951) (by decide +kernel)⟩
theorem lw_p40 : lw_okq (⟨"BoiledEggsModel", "draw", "(I)I"⟩, 32) := ⟨⟨by decide +kernel, by decide +kernel⟩, List.mem_of_getElem? (i := 639) (by decide +kernel), List.mem_of_getElem? (i := 954) (by decide +kernel), List.mem_of_getElem? (i := 955) (by decide +kernel)⟩
theorem lw_p41 : lw_okq (⟨"BoiledEggsModel", "boxBy", "(I)I"⟩, 32) := ⟨⟨by decide +kernel, by decide +kernel⟩, List.mem_of_getElem? (i := 639) (by decide +kernel), List.mem_of_getElem? (i := 962) (by decide +kernel), List.mem_of_getElem? (i := 963) (by decide +kernel)⟩
theorem lw_p42 : lw_okq (⟨"BoiledEggsModel", "howMany", "(I)I"⟩, 32) := ⟨⟨by decide +kernel, by decide +kernel⟩, List.mem_of_getElem? (i := 639) (by decide +kernel), List.mem_of_getElem? (i := 978) (by decide +kernel), List.mem_of_getElem? (i := 979) (by decide +kernel)⟩
theorem lw_p43 : lw_okq (⟨"BoiledEggsModel", "mix", "(J)V"⟩, 32) := ⟨⟨by decide +kernel, by decide +kernel⟩, List.mem_of_getElem? (i := 639) (by decide +kernel), List.mem_of_getElem? (i := 987) (by decide +kernel), List.mem_of_getElem? (i := 988) (by decide +kernel)⟩
def lw_privs_3 : List (MethodName × Nat) := [(⟨"BoiledEggsModel", "larger", "(II)I"⟩, 32), (⟨"BoiledEggsModel", "riskNow", "(II)J"⟩, 32), (⟨"BoiledEggsModel", "isTrier", "(I)Z"⟩, 32), (⟨"BoiledEggsModel", "trierNow", "(II)I"⟩, 32), (⟨"BoiledEggsModel", "nextOf", "(I)I"⟩, 32), (⟨"BoiledEggsModel", "badness", "(II)J"⟩, 32), (⟨"BoiledEggsModel", "fitsNow", "(I)I"⟩, 32), (⟨"BoiledEggsModel", "morningsNow", "(III)I"⟩, 32), (⟨"BoiledEggsModel", "draw", "(I)I"⟩, 32), (⟨"BoiledEggsModel", "boxBy", "(I)I"⟩, 32), (⟨"BoiledEggsModel", "howMany", "(I)I"⟩, 32), (⟨"BoiledEggsModel", "mix", "(J)V"⟩, 32)]
theorem lw_r3 : ∀ q ∈ lw_privs_3, lw_okq q := List.forall_mem_cons.mpr ⟨lw_p32, List.forall_mem_cons.mpr ⟨lw_p33, List.forall_mem_cons.mpr ⟨lw_p34, List.forall_mem_cons.mpr ⟨lw_p35, List.forall_mem_cons.mpr ⟨lw_p36, List.forall_mem_cons.mpr ⟨lw_p37, List.forall_mem_cons.mpr ⟨lw_p38, List.forall_mem_cons.mpr ⟨lw_p39, List.forall_mem_cons.mpr ⟨lw_p40, List.forall_mem_cons.mpr ⟨lw_p41, List.forall_mem_cons.mpr ⟨lw_p42, List.forall_mem_cons.mpr ⟨lw_p43, fun _ h => absurd h List.not_mem_nil⟩⟩⟩⟩⟩⟩⟩⟩⟩⟩⟩⟩
def lw_privs : List (MethodName × Nat) := lw_privs_1 ++ (lw_privs_2 ++ (lw_privs_3))
def lw_tbl : List Cond := k2_sels lw_privs ++ tables_1
theorem lw_privs_ok : ∀ q ∈ lw_privs, lw_okq q := by
  show ∀ q ∈ lw_privs_1 ++ (lw_privs_2 ++ (lw_privs_3)), lw_okq q
  exact List.forall_mem_append.mpr ⟨lw_r1, List.forall_mem_append.mpr ⟨lw_r2, lw_r3⟩⟩
end
section
/-! ===== BEGIN words of one list among another's, by their places ===== -/
theorem goodIn_r {big : List Cond} (ws : List Cond) (ps : List Nat) (hp : ws = ps.filterMap (fun i => big[i]?)) (h : ws.all goodWord = true) : GoodIn big ws := by
  intro w hw
  have h1 := List.all_eq_true.mp h w hw
  rw [hp] at hw
  obtain ⟨i, -, hi⟩ := List.mem_filterMap.mp hw
  have hm : w ∈ big := by first | exact List.mem_of_getElem? hi | exact List.getElem?_mem hi
  exact ⟨hm, good_of_word h1⟩
theorem goodIn_app {big a b : List Cond} (ha : GoodIn big a) (hb : GoodIn big b) : GoodIn big (a ++ b) := fun w h => (List.mem_append.mp h).elim (ha w) (hb w)
theorem goodIn_ca {big a b : List Cond} {c : Cond} (ha : GoodIn big (c :: a)) (hb : GoodIn big b) : GoodIn big (c :: (a ++ b)) := fun w h => (List.mem_cons.mp h).elim (fun e => ha w (List.mem_cons.mpr (Or.inl e))) (fun h => (List.mem_append.mp h).elim (fun h => ha w (List.mem_cons.mpr (Or.inr h))) (hb w))
theorem goodIn_sub {big ws : List Cond} (hm : ∀ w ∈ ws, w ∈ big) (h : ws.all goodWord = true) : GoodIn big ws := fun w hw => ⟨hm w hw, good_of_word (List.all_eq_true.mp h w hw)⟩
/-! ===== END ===== -/

/-! ===== BEGIN printed: names, fields, word lists, decode rows ===== -/
def RX0 : String := "BoiledEggs$Bold"
def TX0 : u_T := fun k => match k with
  | _ => ("", "", "", false)
def tyX0 : Nat → FieldType := fun k => match k with
  | _ => .int
abbrev wsX00 : List Cond := u_ws RX0 TX0 0
theorem nmX0 : ∀ a, a < 0 → ∀ b, b < 0 → a ≠ b → (TX0 a).2.1 ≠ (TX0 b).2.1 := by decide +kernel
theorem tyX0_ok : ∀ k, k < 0 → parseFieldDescriptor (TX0 k).2.2.1 = some (tyX0 k) := by decide +kernel
abbrev cX0_init : ByteArray := prog_2_method_1_code
def yX0_init : MethodName := ⟨RX0, "<init>", "()V"⟩
abbrev cX0_kind : ByteArray := prog_2_method_2_code
def yX0_kind : MethodName := ⟨RX0, "kind", "()I"⟩
abbrev cX0_score : ByteArray := prog_2_method_3_code
def yX0_score : MethodName := ⟨RX0, "score", "(LBoiledEggs$Told;I)J"⟩
def RX1 : String := "BoiledEggs$Breaking"
def TX1 : u_T := fun k => match k with
  | 0 => ("BoiledEggs$Breaking", "weights", "[J", true)
  | 1 => ("BoiledEggs$Breaking", "costs", "[J", true)
  | 2 => ("BoiledEggs$Breaking", "worsts", "[I", true)
  | 3 => ("BoiledEggs$Breaking", "places", "I", false)
  | 4 => ("BoiledEggs$Breaking", "needed", "I", false)
  | _ => ("BoiledEggs$Breaking", "bestPlace", "I", false)
def tyX1 : Nat → FieldType := fun k => match k with
  | 0 => .array .long
  | 1 => .array .long
  | 2 => .array .int
  | 3 => .int
  | 4 => .int
  | _ => .int
abbrev wsX10 : List Cond := u_ws RX1 TX1 6
theorem nmX1 : ∀ a, a < 6 → ∀ b, b < 6 → a ≠ b → (TX1 a).2.1 ≠ (TX1 b).2.1 := by decide +kernel
theorem tyX1_ok : ∀ k, k < 6 → parseFieldDescriptor (TX1 k).2.2.1 = some (tyX1 k) := by decide +kernel
abbrev cX1_init : ByteArray := prog_3_method_1_code
def yX1_init : MethodName := ⟨RX1, "<init>", "()V"⟩
abbrev cX1_solve : ByteArray := prog_3_method_2_code
def yX1_solve : MethodName := ⟨RX1, "solve", "(LBoiledEggs$Told;I)V"⟩
abbrev cX1_fewestAtWorst : ByteArray := prog_3_method_3_code
def yX1_fewestAtWorst : MethodName := ⟨RX1, "fewestAtWorst", "()I"⟩
abbrev cX1_fewestByWeight : ByteArray := prog_3_method_4_code
def yX1_fewestByWeight : MethodName := ⟨RX1, "fewestByWeight", "()J"⟩
abbrev cX1_firstPlace : ByteArray := prog_3_method_5_code
def yX1_firstPlace : MethodName := ⟨RX1, "firstPlace", "()I"⟩
abbrev cX1_spread : ByteArray := prog_3_method_6_code
def yX1_spread : MethodName := ⟨RX1, "spread", "(LBoiledEggs$Told;I)V"⟩
abbrev cX1_lastState : ByteArray := prog_3_method_7_code
def yX1_lastState : MethodName := ⟨RX1, "lastState", "(LBoiledEggs$Told;I)I"⟩
abbrev cX1_solveState : ByteArray := prog_3_method_8_code
def yX1_solveState : MethodName := ⟨RX1, "solveState", "(I)V"⟩
abbrev cX1_breakNext : ByteArray := prog_3_method_9_code
def yX1_breakNext : MethodName := ⟨RX1, "breakNext", "(I)V"⟩
def RX2 : String := "BoiledEggs$Doubter"
def TX2 : u_T := fun k => match k with
  | _ => ("", "", "", false)
def tyX2 : Nat → FieldType := fun k => match k with
  | _ => .int
abbrev wsX20 : List Cond := u_ws RX2 TX2 0
theorem nmX2 : ∀ a, a < 0 → ∀ b, b < 0 → a ≠ b → (TX2 a).2.1 ≠ (TX2 b).2.1 := by decide +kernel
theorem tyX2_ok : ∀ k, k < 0 → parseFieldDescriptor (TX2 k).2.2.1 = some (tyX2 k) := by decide +kernel
abbrev cX2_init : ByteArray := prog_4_method_1_code
def yX2_init : MethodName := ⟨RX2, "<init>", "()V"⟩
abbrev cX2_kind : ByteArray := prog_4_method_2_code
def yX2_kind : MethodName := ⟨RX2, "kind", "()I"⟩
abbrev cX2_score : ByteArray := prog_4_method_3_code
def yX2_score : MethodName := ⟨RX2, "score", "(LBoiledEggs$Told;I)J"⟩
def RX3 : String := "BoiledEggs$Draws"
def TX3 : u_T := fun k => match k with
  | _ => ("BoiledEggs$Draws", "seed", "J", false)
def tyX3 : Nat → FieldType := fun k => match k with
  | _ => .long
abbrev wsX30 : List Cond := u_ws RX3 TX3 1
theorem nmX3 : ∀ a, a < 1 → ∀ b, b < 1 → a ≠ b → (TX3 a).2.1 ≠ (TX3 b).2.1 := by decide +kernel
theorem tyX3_ok : ∀ k, k < 1 → parseFieldDescriptor (TX3 k).2.2.1 = some (tyX3 k) := by decide +kernel
abbrev cX3_init : ByteArray := prog_5_method_1_code
def yX3_init : MethodName := ⟨RX3, "<init>", "()V"⟩
abbrev cX3_startFrom : ByteArray := prog_5_method_2_code
def yX3_startFrom : MethodName := ⟨RX3, "startFrom", "(I)V"⟩
abbrev cX3_next : ByteArray := prog_5_method_3_code
def yX3_next : MethodName := ⟨RX3, "next", "(I)I"⟩
def RX4 : String := "BoiledEggs$Greedy"
def TX4 : u_T := fun k => match k with
  | _ => ("", "", "", false)
def tyX4 : Nat → FieldType := fun k => match k with
  | _ => .int
abbrev wsX40 : List Cond := u_ws RX4 TX4 0
theorem nmX4 : ∀ a, a < 0 → ∀ b, b < 0 → a ≠ b → (TX4 a).2.1 ≠ (TX4 b).2.1 := by decide +kernel
theorem tyX4_ok : ∀ k, k < 0 → parseFieldDescriptor (TX4 k).2.2.1 = some (tyX4 k) := by decide +kernel
abbrev cX4_init : ByteArray := prog_6_method_1_code
def yX4_init : MethodName := ⟨RX4, "<init>", "()V"⟩
abbrev cX4_kind : ByteArray := prog_6_method_2_code
def yX4_kind : MethodName := ⟨RX4, "kind", "()I"⟩
abbrev cX4_takesLast : ByteArray := prog_6_method_3_code
def yX4_takesLast : MethodName := ⟨RX4, "takesLast", "()Z"⟩
def RX5 : String := "BoiledEggs$Hungry"
def TX5 : u_T := fun k => match k with
  | _ => ("", "", "", false)
def tyX5 : Nat → FieldType := fun k => match k with
  | _ => .int
abbrev wsX50 : List Cond := u_ws RX5 TX5 0
theorem nmX5 : ∀ a, a < 0 → ∀ b, b < 0 → a ≠ b → (TX5 a).2.1 ≠ (TX5 b).2.1 := by decide +kernel
theorem tyX5_ok : ∀ k, k < 0 → parseFieldDescriptor (TX5 k).2.2.1 = some (tyX5 k) := by decide +kernel
abbrev cX5_init : ByteArray := prog_7_method_1_code
def yX5_init : MethodName := ⟨RX5, "<init>", "()V"⟩
abbrev cX5_kind : ByteArray := prog_7_method_2_code
def yX5_kind : MethodName := ⟨RX5, "kind", "()I"⟩
abbrev cX5_score : ByteArray := prog_7_method_3_code
def yX5_score : MethodName := ⟨RX5, "score", "(LBoiledEggs$Told;I)J"⟩
def RX6 : String := "BoiledEggs$Kitchen"
def TX6 : u_T := fun k => match k with
  | 0 => ("BoiledEggs$Kitchen", "habits", "[I", true)
  | 1 => ("BoiledEggs$Kitchen", "eggs", "I", false)
  | 2 => ("BoiledEggs$Kitchen", "boiled", "I", false)
  | 3 => ("BoiledEggs$Kitchen", "turnsBoiled", "I", false)
  | 4 => ("BoiledEggs$Kitchen", "turnsRaw", "I", false)
  | _ => ("BoiledEggs$Kitchen", "falls", "I", false)
def tyX6 : Nat → FieldType := fun k => match k with
  | 0 => .array .int
  | 1 => .int
  | 2 => .int
  | 3 => .int
  | 4 => .int
  | _ => .int
abbrev wsX60 : List Cond := u_ws RX6 TX6 6
theorem nmX6 : ∀ a, a < 6 → ∀ b, b < 6 → a ≠ b → (TX6 a).2.1 ≠ (TX6 b).2.1 := by decide +kernel
theorem tyX6_ok : ∀ k, k < 6 → parseFieldDescriptor (TX6 k).2.2.1 = some (tyX6 k) := by decide +kernel
abbrev cX6_init : ByteArray := prog_8_method_1_code
def yX6_init : MethodName := ⟨RX6, "<init>", "()V"⟩
abbrev cX6_readFrom : ByteArray := prog_8_method_2_code
def yX6_readFrom : MethodName := ⟨RX6, "readFrom", "(LBoiledEggs$Page;)V"⟩
abbrev cX6_allEggs : ByteArray := prog_8_method_3_code
def yX6_allEggs : MethodName := ⟨RX6, "allEggs", "()I"⟩
abbrev cX6_tenthsOf : ByteArray := prog_8_method_4_code
def yX6_tenthsOf : MethodName := ⟨RX6, "tenthsOf", "(ZZ)I"⟩
abbrev cX6_habitsOf : ByteArray := prog_8_method_5_code
def yX6_habitsOf : MethodName := ⟨RX6, "habitsOf", "(I)J"⟩
def RX7 : String := "BoiledEggs$Page"
def TX7 : u_T := fun k => match k with
  | 0 => ("BoiledEggs$Page", "codes", "[I", true)
  | _ => ("BoiledEggs$Page", "size", "I", false)
def tyX7 : Nat → FieldType := fun k => match k with
  | 0 => .array .int
  | _ => .int
abbrev wsX70 : List Cond := u_ws RX7 TX7 2
theorem nmX7 : ∀ a, a < 2 → ∀ b, b < 2 → a ≠ b → (TX7 a).2.1 ≠ (TX7 b).2.1 := by decide +kernel
theorem tyX7_ok : ∀ k, k < 2 → parseFieldDescriptor (TX7 k).2.2.1 = some (tyX7 k) := by decide +kernel
abbrev cX7_init : ByteArray := prog_9_method_1_code
def yX7_init : MethodName := ⟨RX7, "<init>", "()V"⟩
abbrev cX7_isFull : ByteArray := prog_9_method_2_code
def yX7_isFull : MethodName := ⟨RX7, "isFull", "()Z"⟩
abbrev cX7_append : ByteArray := prog_9_method_3_code
def yX7_append : MethodName := ⟨RX7, "append", "(I)I"⟩
abbrev cX7_clear : ByteArray := prog_9_method_4_code
def yX7_clear : MethodName := ⟨RX7, "clear", "()I"⟩
abbrev cX7_firstFault : ByteArray := prog_9_method_5_code
def yX7_firstFault : MethodName := ⟨RX7, "firstFault", "()I"⟩
abbrev cX7_isWholeKitchen : ByteArray := prog_9_method_6_code
def yX7_isWholeKitchen : MethodName := ⟨RX7, "isWholeKitchen", "()Z"⟩
abbrev cX7_digit : ByteArray := prog_9_method_7_code
def yX7_digit : MethodName := ⟨RX7, "digit", "(I)I"⟩
abbrev cX7_suits : ByteArray := prog_9_method_8_code
def yX7_suits : MethodName := ⟨RX7, "suits", "(I)Z"⟩
abbrev cX7_isDigit : ByteArray := prog_9_method_9_code
def yX7_isDigit : MethodName := ⟨RX7, "isDigit", "(III)Z"⟩
def RX8 : String := "BoiledEggs$Told"
def TX8 : u_T := fun k => match k with
  | 0 => ("BoiledEggs$Told", "boxes", "[I", true)
  | 1 => ("BoiledEggs$Told", "weights", "[J", true)
  | 2 => ("BoiledEggs$Told", "spins", "[I", true)
  | 3 => ("BoiledEggs$Told", "turned", "[I", true)
  | 4 => ("BoiledEggs$Told", "known", "[I", true)
  | 5 => ("BoiledEggs$Told", "fitting", "I", false)
  | 6 => ("BoiledEggs$Told", "inBox", "I", false)
  | _ => ("BoiledEggs$Told", "allSpins", "I", false)
def tyX8 : Nat → FieldType := fun k => match k with
  | 0 => .array .int
  | 1 => .array .long
  | 2 => .array .int
  | 3 => .array .int
  | 4 => .array .int
  | 5 => .int
  | 6 => .int
  | _ => .int
abbrev wsX80 : List Cond := u_ws RX8 TX8 8
theorem nmX8 : ∀ a, a < 8 → ∀ b, b < 8 → a ≠ b → (TX8 a).2.1 ≠ (TX8 b).2.1 := by decide +kernel
theorem tyX8_ok : ∀ k, k < 8 → parseFieldDescriptor (TX8 k).2.2.1 = some (tyX8 k) := by decide +kernel
abbrev cX8_init : ByteArray := prog_10_method_1_code
def yX8_init : MethodName := ⟨RX8, "<init>", "()V"⟩
abbrev cX8_begin : ByteArray := prog_10_method_2_code
def yX8_begin : MethodName := ⟨RX8, "begin", "(LBoiledEggs$Kitchen;)V"⟩
abbrev cX8_copyFrom : ByteArray := prog_10_method_3_code
def yX8_copyFrom : MethodName := ⟨RX8, "copyFrom", "(LBoiledEggs$Told;)V"⟩
abbrev cX8_keep : ByteArray := prog_10_method_4_code
def yX8_keep : MethodName := ⟨RX8, "keep", "(IJ)V"⟩
abbrev cX8_canBe : ByteArray := prog_10_method_5_code
def yX8_canBe : MethodName := ⟨RX8, "canBe", "(III)Z"⟩
abbrev cX8_canBeSure : ByteArray := prog_10_method_6_code
def yX8_canBeSure : MethodName := ⟨RX8, "canBeSure", "(IZ)Z"⟩
abbrev cX8_weigh : ByteArray := prog_10_method_7_code
def yX8_weigh : MethodName := ⟨RX8, "weigh", "(III)V"⟩
abbrev cX8_countSpin : ByteArray := prog_10_method_8_code
def yX8_countSpin : MethodName := ⟨RX8, "countSpin", "(IZ)V"⟩
abbrev cX8_makeSure : ByteArray := prog_10_method_9_code
def yX8_makeSure : MethodName := ⟨RX8, "makeSure", "(IZ)V"⟩
abbrev cX8_takeOut : ByteArray := prog_10_method_10_code
def yX8_takeOut : MethodName := ⟨RX8, "takeOut", "(I)V"⟩
abbrev cX8_isInBox : ByteArray := prog_10_method_11_code
def yX8_isInBox : MethodName := ⟨RX8, "isInBox", "(I)Z"⟩
abbrev cX8_howManyInBox : ByteArray := prog_10_method_12_code
def yX8_howManyInBox : MethodName := ⟨RX8, "howManyInBox", "()I"⟩
abbrev cX8_eggAtPlace : ByteArray := prog_10_method_13_code
def yX8_eggAtPlace : MethodName := ⟨RX8, "eggAtPlace", "(I)I"⟩
abbrev cX8_allWeight : ByteArray := prog_10_method_14_code
def yX8_allWeight : MethodName := ⟨RX8, "allWeight", "()J"⟩
abbrev cX8_boiledWeight : ByteArray := prog_10_method_15_code
def yX8_boiledWeight : MethodName := ⟨RX8, "boiledWeight", "(I)J"⟩
abbrev cX8_fittingBox : ByteArray := prog_10_method_16_code
def yX8_fittingBox : MethodName := ⟨RX8, "fittingBox", "(I)I"⟩
abbrev cX8_heaviestBox : ByteArray := prog_10_method_17_code
def yX8_heaviestBox : MethodName := ⟨RX8, "heaviestBox", "()I"⟩
abbrev cX8_surelyBoiled : ByteArray := prog_10_method_18_code
def yX8_surelyBoiled : MethodName := ⟨RX8, "surelyBoiled", "(I)I"⟩
abbrev cX8_surelyRaw : ByteArray := prog_10_method_19_code
def yX8_surelyRaw : MethodName := ⟨RX8, "surelyRaw", "(I)I"⟩
abbrev cX8_hasRawInBox : ByteArray := prog_10_method_20_code
def yX8_hasRawInBox : MethodName := ⟨RX8, "hasRawInBox", "(I)Z"⟩
def RX9 : String := "BoiledEggs$Trier"
def TX9 : u_T := fun k => match k with
  | _ => ("", "", "", false)
def tyX9 : Nat → FieldType := fun k => match k with
  | _ => .int
abbrev wsX90 : List Cond := u_ws RX9 TX9 0
theorem nmX9 : ∀ a, a < 0 → ∀ b, b < 0 → a ≠ b → (TX9 a).2.1 ≠ (TX9 b).2.1 := by decide +kernel
theorem tyX9_ok : ∀ k, k < 0 → parseFieldDescriptor (TX9 k).2.2.1 = some (tyX9 k) := by decide +kernel
abbrev cX9_init : ByteArray := prog_11_method_1_code
def yX9_init : MethodName := ⟨RX9, "<init>", "()V"⟩
abbrev cX9_kind : ByteArray := prog_11_method_2_code
def yX9_kind : MethodName := ⟨RX9, "kind", "()I"⟩
abbrev cX9_score : ByteArray := prog_11_method_3_code
def yX9_score : MethodName := ⟨RX9, "score", "(LBoiledEggs$Told;I)J"⟩
abbrev cX9_takesLast : ByteArray := prog_11_method_4_code
def yX9_takesLast : MethodName := ⟨RX9, "takesLast", "()Z"⟩
abbrev cX9_nextEgg : ByteArray := prog_11_method_5_code
def yX9_nextEgg : MethodName := ⟨RX9, "nextEgg", "(LBoiledEggs$Told;)I"⟩
def RX10 : String := "BoiledEggs"
def TX10 : u_T := fun k => match k with
  | 0 => ("BoiledEggs", "page", "LBoiledEggs$Page;", true)
  | 1 => ("BoiledEggs", "home", "LBoiledEggs$Kitchen;", true)
  | 2 => ("BoiledEggs", "told", "LBoiledEggs$Told;", true)
  | 3 => ("BoiledEggs", "kept", "LBoiledEggs$Told;", true)
  | 4 => ("BoiledEggs", "breaking", "LBoiledEggs$Breaking;", true)
  | 5 => ("BoiledEggs", "draws", "LBoiledEggs$Draws;", true)
  | 6 => ("BoiledEggs", "triers", "[LBoiledEggs$Trier;", true)
  | 7 => ("BoiledEggs", "trierCount", "I", false)
  | 8 => ("BoiledEggs", "keptTriers", "I", false)
  | 9 => ("BoiledEggs", "isKept", "Z", false)
  | 10 => ("BoiledEggs", "kitchensRead", "I", false)
  | _ => ("BoiledEggs", "breakingsDone", "I", false)
def tyX10 : Nat → FieldType := fun k => match k with
  | 0 => .object "BoiledEggs$Page"
  | 1 => .object "BoiledEggs$Kitchen"
  | 2 => .object "BoiledEggs$Told"
  | 3 => .object "BoiledEggs$Told"
  | 4 => .object "BoiledEggs$Breaking"
  | 5 => .object "BoiledEggs$Draws"
  | 6 => .array (.object "BoiledEggs$Trier")
  | 7 => .int
  | 8 => .int
  | 9 => .boolean
  | 10 => .int
  | _ => .int
abbrev wsX100 : List Cond := u_ws RX10 TX10 12
theorem nmX10 : ∀ a, a < 12 → ∀ b, b < 12 → a ≠ b → (TX10 a).2.1 ≠ (TX10 b).2.1 := by decide +kernel
theorem tyX10_ok : ∀ k, k < 12 → parseFieldDescriptor (TX10 k).2.2.1 = some (tyX10 k) := by decide +kernel
abbrev cX10_init : ByteArray := prog_1_method_1_code
def yX10_init : MethodName := ⟨RX10, "<init>", "()V"⟩
abbrev cX10_letter : ByteArray := prog_1_method_2_code
def yX10_letter : MethodName := ⟨RX10, "letter", "(I)I"⟩
abbrev cX10_blank : ByteArray := prog_1_method_3_code
def yX10_blank : MethodName := ⟨RX10, "blank", "()I"⟩
abbrev cX10_fault : ByteArray := prog_1_method_4_code
def yX10_fault : MethodName := ⟨RX10, "fault", "()I"⟩
abbrev cX10_kitchen : ByteArray := prog_1_method_5_code
def yX10_kitchen : MethodName := ⟨RX10, "kitchen", "()I"⟩
abbrev cX10_egg : ByteArray := prog_1_method_6_code
def yX10_egg : MethodName := ⟨RX10, "egg", "(II)I"⟩
abbrev cX10_spin : ByteArray := prog_1_method_7_code
def yX10_spin : MethodName := ⟨RX10, "spin", "(IZ)I"⟩
abbrev cX10_stop : ByteArray := prog_1_method_8_code
def yX10_stop : MethodName := ⟨RX10, "stop", "(II)I"⟩
abbrev cX10_crack : ByteArray := prog_1_method_9_code
def yX10_crack : MethodName := ⟨RX10, "crack", "(IZ)I"⟩
abbrev cX10_likely : ByteArray := prog_1_method_10_code
def yX10_likely : MethodName := ⟨RX10, "likely", "(II)J"⟩
abbrev cX10_likeliest : ByteArray := prog_1_method_11_code
def yX10_likeliest : MethodName := ⟨RX10, "likeliest", "()I"⟩
abbrev cX10_turning : ByteArray := prog_1_method_12_code
def yX10_turning : MethodName := ⟨RX10, "turning", "(II)I"⟩
abbrev cX10_worst : ByteArray := prog_1_method_13_code
def yX10_worst : MethodName := ⟨RX10, "worst", "(II)I"⟩
abbrev cX10_mean : ByteArray := prog_1_method_14_code
def yX10_mean : MethodName := ⟨RX10, "mean", "(II)J"⟩
abbrev cX10_risk : ByteArray := prog_1_method_15_code
def yX10_risk : MethodName := ⟨RX10, "risk", "(II)J"⟩
abbrev cX10_trier : ByteArray := prog_1_method_16_code
def yX10_trier : MethodName := ⟨RX10, "trier", "(I)I"⟩
abbrev cX10_about : ByteArray := prog_1_method_17_code
def yX10_about : MethodName := ⟨RX10, "about", "(II)I"⟩
abbrev cX10_as : ByteArray := prog_1_method_18_code
def yX10_as : MethodName := ⟨RX10, "as", "(II)I"⟩
abbrev cX10_fits : ByteArray := prog_1_method_19_code
def yX10_fits : MethodName := ⟨RX10, "fits", "(I)I"⟩
abbrev cX10_mornings : ByteArray := prog_1_method_20_code
def yX10_mornings : MethodName := ⟨RX10, "mornings", "(III)I"⟩
abbrev cX10_image : ByteArray := prog_1_method_21_code
def yX10_image : MethodName := ⟨RX10, "image", "()I"⟩
abbrev cX10_restore : ByteArray := prog_1_method_22_code
def yX10_restore : MethodName := ⟨RX10, "restore", "()I"⟩
abbrev cX10_count : ByteArray := prog_1_method_23_code
def yX10_count : MethodName := ⟨RX10, "count", "(I)I"⟩
abbrev cX10_digest : ByteArray := prog_1_method_24_code
def yX10_digest : MethodName := ⟨RX10, "digest", "()J"⟩
abbrev cX10_hasKitchen : ByteArray := prog_1_method_25_code
def yX10_hasKitchen : MethodName := ⟨RX10, "hasKitchen", "()Z"⟩
abbrev cX10_isEgg : ByteArray := prog_1_method_26_code
def yX10_isEgg : MethodName := ⟨RX10, "isEgg", "(I)Z"⟩
abbrev cX10_mayBreak : ByteArray := prog_1_method_27_code
def yX10_mayBreak : MethodName := ⟨RX10, "mayBreak", "()Z"⟩
abbrev cX10_trierOf : ByteArray := prog_1_method_28_code
def yX10_trierOf : MethodName := ⟨RX10, "trierOf", "(I)LBoiledEggs$Trier;"⟩
abbrev cX10_eggsAsMeant : ByteArray := prog_1_method_29_code
def yX10_eggsAsMeant : MethodName := ⟨RX10, "eggsAsMeant", "(I)I"⟩
abbrev cX10_withEgg : ByteArray := prog_1_method_30_code
def yX10_withEgg : MethodName := ⟨RX10, "withEgg", "(JI)J"⟩
abbrev cX10_with : ByteArray := prog_1_method_31_code
def yX10_with : MethodName := ⟨RX10, "with", "(JJ)J"⟩
abbrev cX10_isPart : ByteArray := prog_1_method_32_code
def yX10_isPart : MethodName := ⟨RX10, "isPart", "(I)Z"⟩
abbrev cX10_isRawNumber : ByteArray := prog_1_method_33_code
def yX10_isRawNumber : MethodName := ⟨RX10, "isRawNumber", "(I)Z"⟩
abbrev cX10_isKind : ByteArray := prog_1_method_34_code
def yX10_isKind : MethodName := ⟨RX10, "isKind", "(I)Z"⟩
abbrev cX10_has : ByteArray := prog_1_method_35_code
def yX10_has : MethodName := ⟨RX10, "has", "(II)Z"⟩
abbrev cX10_inLowestTerms : ByteArray := prog_1_method_36_code
def yX10_inLowestTerms : MethodName := ⟨RX10, "inLowestTerms", "(JJI)J"⟩
abbrev cX10_commonDivisor : ByteArray := prog_1_method_37_code
def yX10_commonDivisor : MethodName := ⟨RX10, "commonDivisor", "(JJ)J"⟩
abbrev cX10_newTrier : ByteArray := prog_1_method_38_code
def yX10_newTrier : MethodName := ⟨RX10, "newTrier", "(I)LBoiledEggs$Trier;"⟩
abbrev cX10_isOfKind : ByteArray := prog_1_method_39_code
def yX10_isOfKind : MethodName := ⟨RX10, "isOfKind", "(LBoiledEggs$Trier;I)Z"⟩
def RX11 : String := "BoiledEggsModel"
def TX11 : u_T := fun k => match k with
  | 0 => ("BoiledEggsModel", "eggs", "I", false)
  | 1 => ("BoiledEggsModel", "kitchens", "I", false)
  | 2 => ("BoiledEggsModel", "boiled", "I", false)
  | 3 => ("BoiledEggsModel", "turnsBoiled", "I", false)
  | 4 => ("BoiledEggsModel", "turnsRaw", "I", false)
  | 5 => ("BoiledEggsModel", "falls", "I", false)
  | 6 => ("BoiledEggsModel", "habitOf", "[I", true)
  | 7 => ("BoiledEggsModel", "inBox", "I", false)
  | 8 => ("BoiledEggsModel", "spins", "I", false)
  | 9 => ("BoiledEggsModel", "spinsOf", "[I", true)
  | 10 => ("BoiledEggsModel", "turnedOf", "[I", true)
  | 11 => ("BoiledEggsModel", "knownOf", "[I", true)
  | 12 => ("BoiledEggsModel", "triers", "I", false)
  | 13 => ("BoiledEggsModel", "kindOf", "[I", true)
  | 14 => ("BoiledEggsModel", "asks", "I", false)
  | 15 => ("BoiledEggsModel", "pageLength", "I", false)
  | 16 => ("BoiledEggsModel", "page", "[B", true)
  | 17 => ("BoiledEggsModel", "weightOf", "[J", true)
  | 18 => ("BoiledEggsModel", "worstOf", "[I", true)
  | 19 => ("BoiledEggsModel", "meanOf", "[J", true)
  | 20 => ("BoiledEggsModel", "bestFirst", "I", false)
  | 21 => ("BoiledEggsModel", "boxWeight", "[J", true)
  | 22 => ("BoiledEggsModel", "seedNow", "J", false)
  | 23 => ("BoiledEggsModel", "isKept", "Z", false)
  | 24 => ("BoiledEggsModel", "keptKitchen", "I", false)
  | 25 => ("BoiledEggsModel", "keptBox", "I", false)
  | 26 => ("BoiledEggsModel", "keptSpins", "I", false)
  | 27 => ("BoiledEggsModel", "keptTriers", "I", false)
  | 28 => ("BoiledEggsModel", "keptSpinsOf", "[I", true)
  | 29 => ("BoiledEggsModel", "keptTurned", "[I", true)
  | 30 => ("BoiledEggsModel", "keptKnown", "[I", true)
  | _ => ("BoiledEggsModel", "h", "J", false)
def tyX11 : Nat → FieldType := fun k => match k with
  | 0 => .int
  | 1 => .int
  | 2 => .int
  | 3 => .int
  | 4 => .int
  | 5 => .int
  | 6 => .array .int
  | 7 => .int
  | 8 => .int
  | 9 => .array .int
  | 10 => .array .int
  | 11 => .array .int
  | 12 => .int
  | 13 => .array .int
  | 14 => .int
  | 15 => .int
  | 16 => .array .byte
  | 17 => .array .long
  | 18 => .array .int
  | 19 => .array .long
  | 20 => .int
  | 21 => .array .long
  | 22 => .long
  | 23 => .boolean
  | 24 => .int
  | 25 => .int
  | 26 => .int
  | 27 => .int
  | 28 => .array .int
  | 29 => .array .int
  | 30 => .array .int
  | _ => .long
abbrev wsX110 : List Cond := u_ws RX11 TX11 32
theorem nmX11 : ∀ a, a < 32 → ∀ b, b < 32 → a ≠ b → (TX11 a).2.1 ≠ (TX11 b).2.1 := by decide +kernel
theorem tyX11_ok : ∀ k, k < 32 → parseFieldDescriptor (TX11 k).2.2.1 = some (tyX11 k) := by decide +kernel
abbrev cX11_init : ByteArray := prog_13_method_1_code
def yX11_init : MethodName := ⟨RX11, "<init>", "()V"⟩
abbrev cX11_within : ByteArray := prog_13_method_3_code
def yX11_within : MethodName := ⟨RX11, "within", "(III)Z"⟩
abbrev cX11_has : ByteArray := prog_13_method_4_code
def yX11_has : MethodName := ⟨RX11, "has", "(II)Z"⟩
abbrev cX11_size : ByteArray := prog_13_method_5_code
def yX11_size : MethodName := ⟨RX11, "size", "(I)I"⟩
abbrev cX11_lowest : ByteArray := prog_13_method_6_code
def yX11_lowest : MethodName := ⟨RX11, "lowest", "(JJI)J"⟩
abbrev cX11_letter : ByteArray := prog_13_method_7_code
def yX11_letter : MethodName := ⟨RX11, "letter", "(I)I"⟩
abbrev cX11_blank : ByteArray := prog_13_method_8_code
def yX11_blank : MethodName := ⟨RX11, "blank", "()I"⟩
abbrev cX11_figure : ByteArray := prog_13_method_9_code
def yX11_figure : MethodName := ⟨RX11, "figure", "(I)I"⟩
abbrev cX11_isGood : ByteArray := prog_13_method_10_code
def yX11_isGood : MethodName := ⟨RX11, "isGood", "(I)Z"⟩
abbrev cX11_faultNow : ByteArray := prog_13_method_11_code
def yX11_faultNow : MethodName := ⟨RX11, "faultNow", "()I"⟩
abbrev cX11_fault : ByteArray := prog_13_method_12_code
def yX11_fault : MethodName := ⟨RX11, "fault", "()I"⟩
abbrev cX11_kitchen : ByteArray := prog_13_method_13_code
def yX11_kitchen : MethodName := ⟨RX11, "kitchen", "()I"⟩
abbrev cX11_isEgg : ByteArray := prog_13_method_14_code
def yX11_isEgg : MethodName := ⟨RX11, "isEgg", "(I)Z"⟩
abbrev cX11_eggNow : ByteArray := prog_13_method_15_code
def yX11_eggNow : MethodName := ⟨RX11, "eggNow", "(II)I"⟩
abbrev cX11_egg : ByteArray := prog_13_method_16_code
def yX11_egg : MethodName := ⟨RX11, "egg", "(II)I"⟩
abbrev cX11_power : ByteArray := prog_13_method_17_code
def yX11_power : MethodName := ⟨RX11, "power", "(II)J"⟩
abbrev cX11_spun : ByteArray := prog_13_method_18_code
def yX11_spun : MethodName := ⟨RX11, "spun", "(II)J"⟩
abbrev cX11_weight : ByteArray := prog_13_method_19_code
def yX11_weight : MethodName := ⟨RX11, "weight", "(III)J"⟩
abbrev cX11_total : ByteArray := prog_13_method_20_code
def yX11_total : MethodName := ⟨RX11, "total", "(II)J"⟩
abbrev cX11_boiledWeight : ByteArray := prog_13_method_21_code
def yX11_boiledWeight : MethodName := ⟨RX11, "boiledWeight", "(II)J"⟩
abbrev cX11_isInBox : ByteArray := prog_13_method_22_code
def yX11_isInBox : MethodName := ⟨RX11, "isInBox", "(I)Z"⟩
abbrev cX11_spin : ByteArray := prog_13_method_23_code
def yX11_spin : MethodName := ⟨RX11, "spin", "(IZ)I"⟩
abbrev cX11_know : ByteArray := prog_13_method_24_code
def yX11_know : MethodName := ⟨RX11, "know", "(II)Z"⟩
abbrev cX11_stop : ByteArray := prog_13_method_25_code
def yX11_stop : MethodName := ⟨RX11, "stop", "(II)I"⟩
abbrev cX11_crack : ByteArray := prog_13_method_26_code
def yX11_crack : MethodName := ⟨RX11, "crack", "(IZ)I"⟩
abbrev cX11_likelyNow : ByteArray := prog_13_method_27_code
def yX11_likelyNow : MethodName := ⟨RX11, "likelyNow", "(II)J"⟩
abbrev cX11_likely : ByteArray := prog_13_method_28_code
def yX11_likely : MethodName := ⟨RX11, "likely", "(II)J"⟩
abbrev cX11_likeliestNow : ByteArray := prog_13_method_29_code
def yX11_likeliestNow : MethodName := ⟨RX11, "likeliestNow", "()I"⟩
abbrev cX11_likeliest : ByteArray := prog_13_method_30_code
def yX11_likeliest : MethodName := ⟨RX11, "likeliest", "()I"⟩
abbrev cX11_turningNow : ByteArray := prog_13_method_31_code
def yX11_turningNow : MethodName := ⟨RX11, "turningNow", "(II)I"⟩
abbrev cX11_turning : ByteArray := prog_13_method_32_code
def yX11_turning : MethodName := ⟨RX11, "turning", "(II)I"⟩
abbrev cX11_three : ByteArray := prog_13_method_33_code
def yX11_three : MethodName := ⟨RX11, "three", "(I)I"⟩
abbrev cX11_figureOf : ByteArray := prog_13_method_34_code
def yX11_figureOf : MethodName := ⟨RX11, "figureOf", "(II)I"⟩
abbrev cX11_eggsOf : ByteArray := prog_13_method_35_code
def yX11_eggsOf : MethodName := ⟨RX11, "eggsOf", "(II)I"⟩
abbrev cX11_layWeights : ByteArray := prog_13_method_36_code
def yX11_layWeights : MethodName := ⟨RX11, "layWeights", "()V"⟩
abbrev cX11_layState : ByteArray := prog_13_method_37_code
def yX11_layState : MethodName := ⟨RX11, "layState", "(II)V"⟩
abbrev cX11_larger : ByteArray := prog_13_method_38_code
def yX11_larger : MethodName := ⟨RX11, "larger", "(II)I"⟩
abbrev cX11_layBreaking : ByteArray := prog_13_method_39_code
def yX11_layBreaking : MethodName := ⟨RX11, "layBreaking", "(I)Z"⟩
abbrev cX11_mayAsk : ByteArray := prog_13_method_40_code
def yX11_mayAsk : MethodName := ⟨RX11, "mayAsk", "()Z"⟩
abbrev cX11_worst : ByteArray := prog_13_method_41_code
def yX11_worst : MethodName := ⟨RX11, "worst", "(II)I"⟩
abbrev cX11_mean : ByteArray := prog_13_method_42_code
def yX11_mean : MethodName := ⟨RX11, "mean", "(II)J"⟩
abbrev cX11_riskNow : ByteArray := prog_13_method_43_code
def yX11_riskNow : MethodName := ⟨RX11, "riskNow", "(II)J"⟩
abbrev cX11_risk : ByteArray := prog_13_method_44_code
def yX11_risk : MethodName := ⟨RX11, "risk", "(II)J"⟩
abbrev cX11_trier : ByteArray := prog_13_method_45_code
def yX11_trier : MethodName := ⟨RX11, "trier", "(I)I"⟩
abbrev cX11_isTrier : ByteArray := prog_13_method_46_code
def yX11_isTrier : MethodName := ⟨RX11, "isTrier", "(I)Z"⟩
abbrev cX11_badness : ByteArray := prog_13_method_47_code
def yX11_badness : MethodName := ⟨RX11, "badness", "(II)J"⟩
abbrev cX11_nextOf : ByteArray := prog_13_method_48_code
def yX11_nextOf : MethodName := ⟨RX11, "nextOf", "(I)I"⟩
abbrev cX11_trierNow : ByteArray := prog_13_method_49_code
def yX11_trierNow : MethodName := ⟨RX11, "trierNow", "(II)I"⟩
abbrev cX11_about : ByteArray := prog_13_method_50_code
def yX11_about : MethodName := ⟨RX11, "about", "(II)I"⟩
abbrev cX11_as : ByteArray := prog_13_method_51_code
def yX11_as : MethodName := ⟨RX11, "as", "(II)I"⟩
abbrev cX11_fitsNow : ByteArray := prog_13_method_52_code
def yX11_fitsNow : MethodName := ⟨RX11, "fitsNow", "(I)I"⟩
abbrev cX11_fits : ByteArray := prog_13_method_53_code
def yX11_fits : MethodName := ⟨RX11, "fits", "(I)I"⟩
abbrev cX11_draw : ByteArray := prog_13_method_54_code
def yX11_draw : MethodName := ⟨RX11, "draw", "(I)I"⟩
abbrev cX11_boxBy : ByteArray := prog_13_method_55_code
def yX11_boxBy : MethodName := ⟨RX11, "boxBy", "(I)I"⟩
abbrev cX11_morningsNow : ByteArray := prog_13_method_56_code
def yX11_morningsNow : MethodName := ⟨RX11, "morningsNow", "(III)I"⟩
abbrev cX11_mornings : ByteArray := prog_13_method_57_code
def yX11_mornings : MethodName := ⟨RX11, "mornings", "(III)I"⟩
abbrev cX11_image : ByteArray := prog_13_method_58_code
def yX11_image : MethodName := ⟨RX11, "image", "()I"⟩
abbrev cX11_restore : ByteArray := prog_13_method_59_code
def yX11_restore : MethodName := ⟨RX11, "restore", "()I"⟩
abbrev cX11_howMany : ByteArray := prog_13_method_60_code
def yX11_howMany : MethodName := ⟨RX11, "howMany", "(I)I"⟩
abbrev cX11_count : ByteArray := prog_13_method_61_code
def yX11_count : MethodName := ⟨RX11, "count", "(I)I"⟩
abbrev cX11_mix : ByteArray := prog_13_method_62_code
def yX11_mix : MethodName := ⟨RX11, "mix", "(J)V"⟩
abbrev cX11_digest : ByteArray := prog_13_method_63_code
def yX11_digest : MethodName := ⟨RX11, "digest", "()J"⟩
def RJ6 : String := "java/lang/Integer"
def TJ6 : u_T := fun k => match k with
  | _ => ("", "", "", false)
def tyJ6 : Nat → FieldType := fun k => match k with
  | _ => .int
abbrev wsJ60 : List Cond := u_ws RJ6 TJ6 0
theorem nmJ6 : ∀ a, a < 0 → ∀ b, b < 0 → a ≠ b → (TJ6 a).2.1 ≠ (TJ6 b).2.1 := by decide +kernel
theorem tyJ6_ok : ∀ k, k < 0 → parseFieldDescriptor (TJ6 k).2.2.1 = some (tyJ6 k) := by decide +kernel
abbrev cJ6_bitCount_0f7a4 : ByteArray := prog_14_method_49_code
def yJ6_bitCount_0f7a4 : MethodName := ⟨RJ6, "bitCount", "(I)I"⟩
def RJ9 : String := "java/lang/Math"
def TJ9 : u_T := fun k => match k with
  | _ => ("", "", "", false)
def tyJ9 : Nat → FieldType := fun k => match k with
  | _ => .int
abbrev wsJ90 : List Cond := u_ws RJ9 TJ9 0
theorem nmJ9 : ∀ a, a < 0 → ∀ b, b < 0 → a ≠ b → (TJ9 a).2.1 ≠ (TJ9 b).2.1 := by decide +kernel
theorem tyJ9_ok : ∀ k, k < 0 → parseFieldDescriptor (TJ9 k).2.2.1 = some (tyJ9 k) := by decide +kernel
abbrev cJ9_abs_067f4 : ByteArray := prog_15_method_61_code
def yJ9_abs_067f4 : MethodName := ⟨RJ9, "abs", "(J)J"⟩
abbrev cJ9_max_7cf53 : ByteArray := prog_15_method_65_code
def yJ9_max_7cf53 : MethodName := ⟨RJ9, "max", "(II)I"⟩
abbrev cJ9_min_7cf53 : ByteArray := prog_15_method_69_code
def yJ9_min_7cf53 : MethodName := ⟨RJ9, "min", "(II)I"⟩
def RJ10 : String := "java/lang/System"
def TJ10 : u_T := fun k => match k with
  | _ => ("", "", "", false)
def tyJ10 : Nat → FieldType := fun k => match k with
  | _ => .int
abbrev wsJ100 : List Cond := u_ws RJ10 TJ10 0
theorem nmJ10 : ∀ a, a < 0 → ∀ b, b < 0 → a ≠ b → (TJ10 a).2.1 ≠ (TJ10 b).2.1 := by decide +kernel
theorem tyJ10_ok : ∀ k, k < 0 → parseFieldDescriptor (TJ10 k).2.2.1 = some (tyJ10 k) := by decide +kernel
def RL : String := "BoiledEggsLaw"
abbrev cL_law : ByteArray := code
def yL_law : MethodName := ⟨RL, "law", "([I)Z"⟩
def wsX9_init : List Cond := .code yX9_init cX9_init 1 none :: ([.methodLink RX9 3 objectInit, .instanceMethod objectInit, .code objectInit ⟨#[0xb1]⟩ 1 none])
def wsX0_init : List Cond := .code yX0_init cX0_init 1 none :: ([.instanceMethod yX9_init, .initialized RX9, .code yX9_init cX9_init 1 none, .methodLink RX9 3 objectInit, .instanceMethod objectInit, .code objectInit ⟨#[0xb1]⟩ 1 none])
def wsX0_kind : List Cond := .code yX0_kind cX0_kind 1 (some .int) :: ([])
def wsX10_has : List Cond := .code yX10_has cX10_has 2 (some .boolean) :: ([])
def wsX8_boiledWeight : List Cond := .code yX8_boiledWeight cX8_boiledWeight 5 (some .long) :: ([.fieldLink RX8 28 "BoiledEggs$Told" "fitting" "I", .fieldLink RX8 9 "BoiledEggs$Told" "boxes" "[I", .fieldLink RX8 15 "BoiledEggs$Told" "weights" "[J", .static yX10_has, .initialized RX10, .code yX10_has cX10_has 2 (some .boolean)] ++ wsX80)
def wsX0_score : List Cond := .code yX0_score cX0_score 3 (some .long) :: ([.methodLink RX0 7 yX8_boiledWeight, .instanceMethod yX8_boiledWeight, .selects RX8 yX8_boiledWeight yX8_boiledWeight, .initialized RX8, .code yX8_boiledWeight cX8_boiledWeight 5 (some .long), .fieldLink RX8 28 "BoiledEggs$Told" "fitting" "I", .fieldLink RX8 9 "BoiledEggs$Told" "boxes" "[I", .fieldLink RX8 15 "BoiledEggs$Told" "weights" "[J", .static yX10_has, .initialized RX10, .code yX10_has cX10_has 2 (some .boolean)] ++ wsX80)
def wsX1_init : List Cond := .code yX1_init cX1_init 1 none :: ([.methodLink RX1 3 objectInit, .instanceMethod objectInit, .code objectInit ⟨#[0xb1]⟩ 1 none, .arrayClass .long, .fieldLink RX1 11 "BoiledEggs$Breaking" "weights" "[J", .fieldLink RX1 15 "BoiledEggs$Breaking" "costs" "[J", .arrayClass .int, .fieldLink RX1 18 "BoiledEggs$Breaking" "worsts" "[I"] ++ wsX10)
def wsJ6_bitCount_0f7a4 : List Cond := .code yJ6_bitCount_0f7a4 cJ6_bitCount_0f7a4 1 (some .int) :: ([.constant RJ6 265 (1431655765), .constant RJ6 266 (858993459), .constant RJ6 267 (252645135)])
def wsX8_howManyInBox : List Cond := .code yX8_howManyInBox cX8_howManyInBox 1 (some .int) :: ([.fieldLink RX8 55 "BoiledEggs$Told" "inBox" "I", .methodLink RX8 38 yJ6_bitCount_0f7a4, .static yJ6_bitCount_0f7a4, .initialized RJ6, .code yJ6_bitCount_0f7a4 cJ6_bitCount_0f7a4 1 (some .int), .constant RJ6 265 (1431655765), .constant RJ6 266 (858993459), .constant RJ6 267 (252645135)] ++ wsX80)
def wsX8_isInBox : List Cond := .code yX8_isInBox cX8_isInBox 2 (some .boolean) :: ([.fieldLink RX8 55 "BoiledEggs$Told" "inBox" "I", .static yX10_has, .initialized RX10, .code yX10_has cX10_has 2 (some .boolean)] ++ wsX80)
def wsX1_lastState : List Cond := .code yX1_lastState cX1_lastState 6 (some .int) :: ([.methodLink RX1 57 yX8_isInBox, .instanceMethod yX8_isInBox, .selects RX8 yX8_isInBox yX8_isInBox, .initialized RX8, .code yX8_isInBox cX8_isInBox 2 (some .boolean), .fieldLink RX8 55 "BoiledEggs$Told" "inBox" "I", .static yX10_has, .initialized RX10, .code yX10_has cX10_has 2 (some .boolean)] ++ wsX80)
def wsX1_spread : List Cond := .code yX1_spread cX1_spread 4 none :: ([.fieldLink RX1 11 "BoiledEggs$Breaking" "weights" "[J", .methodLink RX1 52 yX1_lastState, .instanceMethod yX1_lastState, .selects RX1 yX1_lastState yX1_lastState, .initialized RX1, .code yX1_lastState cX1_lastState 6 (some .int), .methodLink RX1 57 yX8_isInBox, .instanceMethod yX8_isInBox, .selects RX8 yX8_isInBox yX8_isInBox, .initialized RX8, .code yX8_isInBox cX8_isInBox 2 (some .boolean), .fieldLink RX8 55 "BoiledEggs$Told" "inBox" "I", .static yX10_has, .initialized RX10, .code yX10_has cX10_has 2 (some .boolean)] ++ wsX10 ++ wsX80)
def wsX1_breakNext : List Cond := .code yX1_breakNext cX1_breakNext 12 none :: ([.constantLong RX1 70 (9223372036854775807), .constant RX1 74 (2147483647), .fieldLink RX1 32 "BoiledEggs$Breaking" "places" "I", .fieldLink RX1 15 "BoiledEggs$Breaking" "costs" "[J", .fieldLink RX1 43 "BoiledEggs$Breaking" "bestPlace" "I", .fieldLink RX1 18 "BoiledEggs$Breaking" "worsts" "[I", .methodLink RX1 75 Lib.Math.max.name, .static Lib.Math.max.name, .initialized "java/lang/Math", .code Lib.Math.max.name Lib.Math.max.code 2 (some .int), .methodLink RX1 81 Lib.Math.min.name, .static Lib.Math.min.name, .code Lib.Math.min.name Lib.Math.min.code 2 (some .int), .fieldLink RX1 11 "BoiledEggs$Breaking" "weights" "[J"] ++ wsX10)
def wsX1_solveState : List Cond := .code yX1_solveState cX1_solveState 8 none :: ([.fieldLink RX1 32 "BoiledEggs$Breaking" "places" "I", .fieldLink RX1 15 "BoiledEggs$Breaking" "costs" "[J", .fieldLink RX1 18 "BoiledEggs$Breaking" "worsts" "[I", .fieldLink RX1 11 "BoiledEggs$Breaking" "weights" "[J", .fieldLink RX1 22 "BoiledEggs$Breaking" "needed" "I", .methodLink RX1 65 yX1_breakNext, .instanceMethod yX1_breakNext, .selects RX1 yX1_breakNext yX1_breakNext, .initialized RX1, .code yX1_breakNext cX1_breakNext 12 none, .constantLong RX1 70 (9223372036854775807), .constant RX1 74 (2147483647), .fieldLink RX1 43 "BoiledEggs$Breaking" "bestPlace" "I", .methodLink RX1 75 Lib.Math.max.name, .static Lib.Math.max.name, .initialized "java/lang/Math", .code Lib.Math.max.name Lib.Math.max.code 2 (some .int), .methodLink RX1 81 Lib.Math.min.name, .static Lib.Math.min.name, .code Lib.Math.min.name Lib.Math.min.code 2 (some .int)] ++ wsX10)
def wsX1_solve_r1 : List Cond := [Cond.fieldLink RX1 22 "BoiledEggs$Breaking" "needed" "I", Cond.fieldLink RX1 32 "BoiledEggs$Breaking" "places" "I", Cond.methodLink RX1 26 yX8_howManyInBox, Cond.instanceMethod yX8_howManyInBox, Cond.selects RX8 yX8_howManyInBox yX8_howManyInBox, Cond.initialized RX8, Cond.code yX8_howManyInBox cX8_howManyInBox 1 (some .int), Cond.fieldLink RX8 55 "BoiledEggs$Told" "inBox" "I", Cond.methodLink RX8 38 yJ6_bitCount_0f7a4, Cond.static yJ6_bitCount_0f7a4, Cond.initialized RJ6, Cond.code yJ6_bitCount_0f7a4 cJ6_bitCount_0f7a4 1 (some .int), Cond.constant RJ6 265 (1431655765), Cond.constant RJ6 266 (858993459), Cond.constant RJ6 267 (252645135), Cond.methodLink RX1 35 yX1_spread, Cond.instanceMethod yX1_spread, Cond.selects RX1 yX1_spread yX1_spread, Cond.initialized RX1, Cond.code yX1_spread cX1_spread 4 none, Cond.fieldLink RX1 11 "BoiledEggs$Breaking" "weights" "[J", Cond.methodLink RX1 52 yX1_lastState, Cond.instanceMethod yX1_lastState, Cond.selects RX1 yX1_lastState yX1_lastState]
def wsX1_solve_r2 : List Cond := [Cond.code yX1_lastState cX1_lastState 6 (some .int), Cond.methodLink RX1 57 yX8_isInBox, Cond.instanceMethod yX8_isInBox, Cond.selects RX8 yX8_isInBox yX8_isInBox, Cond.code yX8_isInBox cX8_isInBox 2 (some .boolean), Cond.static yX10_has, Cond.initialized RX10, Cond.code yX10_has cX10_has 2 (some .boolean), Cond.methodLink RX1 39 yX1_solveState, Cond.instanceMethod yX1_solveState, Cond.selects RX1 yX1_solveState yX1_solveState, Cond.code yX1_solveState cX1_solveState 8 none, Cond.fieldLink RX1 15 "BoiledEggs$Breaking" "costs" "[J", Cond.fieldLink RX1 18 "BoiledEggs$Breaking" "worsts" "[I", Cond.methodLink RX1 65 yX1_breakNext, Cond.instanceMethod yX1_breakNext, Cond.selects RX1 yX1_breakNext yX1_breakNext, Cond.code yX1_breakNext cX1_breakNext 12 none, Cond.constantLong RX1 70 (9223372036854775807), Cond.constant RX1 74 (2147483647), Cond.fieldLink RX1 43 "BoiledEggs$Breaking" "bestPlace" "I", Cond.methodLink RX1 75 Lib.Math.max.name, Cond.static Lib.Math.max.name, Cond.initialized "java/lang/Math"]
def wsX1_solve_r3 : List Cond := [Cond.code Lib.Math.max.name Lib.Math.max.code 2 (some .int), Cond.methodLink RX1 81 Lib.Math.min.name, Cond.static Lib.Math.min.name, Cond.code Lib.Math.min.name Lib.Math.min.code 2 (some .int)]
def wsX1_solve : List Cond := .code yX1_solve cX1_solve 5 none :: ((wsX1_solve_r1 ++ (wsX1_solve_r2 ++ wsX1_solve_r3)) ++ wsX10 ++ wsX80)
def wsX1_fewestAtWorst : List Cond := .code yX1_fewestAtWorst cX1_fewestAtWorst 1 (some .int) :: ([.fieldLink RX1 18 "BoiledEggs$Breaking" "worsts" "[I"] ++ wsX10)
def wsX1_fewestByWeight : List Cond := .code yX1_fewestByWeight cX1_fewestByWeight 1 (some .long) :: ([.fieldLink RX1 15 "BoiledEggs$Breaking" "costs" "[J"] ++ wsX10)
def wsX1_firstPlace : List Cond := .code yX1_firstPlace cX1_firstPlace 1 (some .int) :: ([.fieldLink RX1 43 "BoiledEggs$Breaking" "bestPlace" "I"] ++ wsX10)
def wsX2_init : List Cond := .code yX2_init cX2_init 1 none :: ([.instanceMethod yX9_init, .initialized RX9, .code yX9_init cX9_init 1 none, .methodLink RX9 3 objectInit, .instanceMethod objectInit, .code objectInit ⟨#[0xb1]⟩ 1 none])
def wsX2_kind : List Cond := .code yX2_kind cX2_kind 1 (some .int) :: ([])
def wsX8_allWeight : List Cond := .code yX8_allWeight cX8_allWeight 4 (some .long) :: ([.fieldLink RX8 28 "BoiledEggs$Told" "fitting" "I", .fieldLink RX8 15 "BoiledEggs$Told" "weights" "[J"] ++ wsX80)
def wsX2_score : List Cond := .code yX2_score cX2_score 3 (some .long) :: ([.constantLong RX2 7 (2), .methodLink RX2 19 Lib.MathLoose.abs_long.x, .static Lib.MathLoose.abs_long.x, .initialized "java/lang/Math", .code Lib.MathLoose.abs_long.x Lib.MathLoose.abs_long.code 2 (some .long), .methodLink RX2 9 yX8_boiledWeight, .instanceMethod yX8_boiledWeight, .selects RX8 yX8_boiledWeight yX8_boiledWeight, .initialized RX8, .code yX8_boiledWeight cX8_boiledWeight 5 (some .long), .fieldLink RX8 28 "BoiledEggs$Told" "fitting" "I", .fieldLink RX8 9 "BoiledEggs$Told" "boxes" "[I", .fieldLink RX8 15 "BoiledEggs$Told" "weights" "[J", .static yX10_has, .initialized RX10, .code yX10_has cX10_has 2 (some .boolean), .methodLink RX2 15 yX8_allWeight, .instanceMethod yX8_allWeight, .selects RX8 yX8_allWeight yX8_allWeight, .code yX8_allWeight cX8_allWeight 4 (some .long)] ++ wsX80)
def wsX3_init : List Cond := .code yX3_init cX3_init 1 none :: ([.methodLink RX3 1 objectInit, .instanceMethod objectInit, .code objectInit ⟨#[0xb1]⟩ 1 none])
def wsX3_startFrom : List Cond := .code yX3_startFrom cX3_startFrom 2 none :: ([.fieldLink RX3 7 "BoiledEggs$Draws" "seed" "J"] ++ wsX30)
def wsX3_next : List Cond := .code yX3_next cX3_next 2 (some .int) :: ([.constantLong RX3 13 (1103515245), .fieldLink RX3 7 "BoiledEggs$Draws" "seed" "J", .constantLong RX3 15 (12345), .constantLong RX3 17 (2147483648), .constantLong RX3 19 (65536)] ++ wsX30)
def wsX5_init : List Cond := .code yX5_init cX5_init 1 none :: ([.instanceMethod yX9_init, .initialized RX9, .code yX9_init cX9_init 1 none, .methodLink RX9 3 objectInit, .instanceMethod objectInit, .code objectInit ⟨#[0xb1]⟩ 1 none])
def wsX4_init : List Cond := .code yX4_init cX4_init 1 none :: ([.instanceMethod yX5_init, .initialized RX5, .code yX5_init cX5_init 1 none, .instanceMethod yX9_init, .initialized RX9, .code yX9_init cX9_init 1 none, .methodLink RX9 3 objectInit, .instanceMethod objectInit, .code objectInit ⟨#[0xb1]⟩ 1 none])
def wsX4_kind : List Cond := .code yX4_kind cX4_kind 1 (some .int) :: ([])
def wsX4_takesLast : List Cond := .code yX4_takesLast cX4_takesLast 1 (some .boolean) :: ([])
def wsX5_kind : List Cond := .code yX5_kind cX5_kind 1 (some .int) :: ([])
def wsX5_score : List Cond := .code yX5_score cX5_score 3 (some .long) :: ([.methodLink RX5 7 yX8_boiledWeight, .instanceMethod yX8_boiledWeight, .selects RX8 yX8_boiledWeight yX8_boiledWeight, .initialized RX8, .code yX8_boiledWeight cX8_boiledWeight 5 (some .long), .fieldLink RX8 28 "BoiledEggs$Told" "fitting" "I", .fieldLink RX8 9 "BoiledEggs$Told" "boxes" "[I", .fieldLink RX8 15 "BoiledEggs$Told" "weights" "[J", .static yX10_has, .initialized RX10, .code yX10_has cX10_has 2 (some .boolean)] ++ wsX80)
def wsX6_init : List Cond := .code yX6_init cX6_init 1 none :: ([.methodLink RX6 3 objectInit, .instanceMethod objectInit, .code objectInit ⟨#[0xb1]⟩ 1 none, .arrayClass .int, .fieldLink RX6 9 "BoiledEggs$Kitchen" "habits" "[I"] ++ wsX60)
def wsX7_digit : List Cond := .code yX7_digit cX7_digit 2 (some .int) :: ([.fieldLink RX7 15 "BoiledEggs$Page" "size" "I", .fieldLink RX7 9 "BoiledEggs$Page" "codes" "[I"] ++ wsX70)
def wsX6_readFrom : List Cond := .code yX6_readFrom cX6_readFrom 3 none :: ([.methodLink RX6 21 Lib.Math.min.name, .static Lib.Math.min.name, .initialized "java/lang/Math", .code Lib.Math.min.name Lib.Math.min.code 2 (some .int), .fieldLink RX6 27 "BoiledEggs$Kitchen" "eggs" "I", .fieldLink RX6 31 "BoiledEggs$Kitchen" "boiled" "I", .fieldLink RX6 34 "BoiledEggs$Kitchen" "turnsBoiled" "I", .fieldLink RX6 37 "BoiledEggs$Kitchen" "turnsRaw" "I", .fieldLink RX6 40 "BoiledEggs$Kitchen" "falls" "I", .fieldLink RX6 9 "BoiledEggs$Kitchen" "habits" "[I", .methodLink RX6 15 yX7_digit, .instanceMethod yX7_digit, .selects RX7 yX7_digit yX7_digit, .initialized RX7, .code yX7_digit cX7_digit 2 (some .int), .fieldLink RX7 15 "BoiledEggs$Page" "size" "I", .fieldLink RX7 9 "BoiledEggs$Page" "codes" "[I"] ++ wsX60 ++ wsX70)
def wsX6_allEggs : List Cond := .code yX6_allEggs cX6_allEggs 1 (some .int) :: ([.fieldLink RX6 27 "BoiledEggs$Kitchen" "eggs" "I"] ++ wsX60)
def wsX6_tenthsOf : List Cond := .code yX6_tenthsOf cX6_tenthsOf 4 (some .int) :: ([.fieldLink RX6 34 "BoiledEggs$Kitchen" "turnsBoiled" "I", .fieldLink RX6 37 "BoiledEggs$Kitchen" "turnsRaw" "I"] ++ wsX60)
def wsX6_habitsOf : List Cond := .code yX6_habitsOf cX6_habitsOf 5 (some .long) :: ([.fieldLink RX6 27 "BoiledEggs$Kitchen" "eggs" "I", .fieldLink RX6 9 "BoiledEggs$Kitchen" "habits" "[I", .static yX10_has, .initialized RX10, .code yX10_has cX10_has 2 (some .boolean)] ++ wsX60)
def wsX7_init : List Cond := .code yX7_init cX7_init 1 none :: ([.methodLink RX7 3 objectInit, .instanceMethod objectInit, .code objectInit ⟨#[0xb1]⟩ 1 none, .arrayClass .int, .fieldLink RX7 9 "BoiledEggs$Page" "codes" "[I"] ++ wsX70)
def wsX7_isFull : List Cond := .code yX7_isFull cX7_isFull 1 (some .boolean) :: ([.fieldLink RX7 15 "BoiledEggs$Page" "size" "I"] ++ wsX70)
def wsX7_append : List Cond := .code yX7_append cX7_append 2 (some .int) :: ([.fieldLink RX7 9 "BoiledEggs$Page" "codes" "[I", .fieldLink RX7 15 "BoiledEggs$Page" "size" "I", .methodLink RX7 19 yX7_isFull, .instanceMethod yX7_isFull, .selects RX7 yX7_isFull yX7_isFull, .initialized RX7, .code yX7_isFull cX7_isFull 1 (some .boolean)] ++ wsX70)
def wsX7_clear : List Cond := .code yX7_clear cX7_clear 2 (some .int) :: ([.fieldLink RX7 15 "BoiledEggs$Page" "size" "I"] ++ wsX70)
def wsX7_isDigit : List Cond := .code yX7_isDigit cX7_isDigit 5 (some .boolean) :: ([.methodLink RX7 27 yX7_digit, .instanceMethod yX7_digit, .selects RX7 yX7_digit yX7_digit, .initialized RX7, .code yX7_digit cX7_digit 2 (some .int), .fieldLink RX7 15 "BoiledEggs$Page" "size" "I", .fieldLink RX7 9 "BoiledEggs$Page" "codes" "[I"] ++ wsX70)
def wsX7_suits : List Cond := .code yX7_suits cX7_suits 2 (some .boolean) :: ([.fieldLink RX7 9 "BoiledEggs$Page" "codes" "[I", .methodLink RX7 35 yX7_isDigit, .instanceMethod yX7_isDigit, .selects RX7 yX7_isDigit yX7_isDigit, .initialized RX7, .code yX7_isDigit cX7_isDigit 5 (some .boolean), .methodLink RX7 27 yX7_digit, .instanceMethod yX7_digit, .selects RX7 yX7_digit yX7_digit, .code yX7_digit cX7_digit 2 (some .int), .fieldLink RX7 15 "BoiledEggs$Page" "size" "I"] ++ wsX70)
def wsX7_firstFault : List Cond := .code yX7_firstFault cX7_firstFault 2 (some .int) :: ([.fieldLink RX7 15 "BoiledEggs$Page" "size" "I", .methodLink RX7 23 yX7_suits, .instanceMethod yX7_suits, .selects RX7 yX7_suits yX7_suits, .initialized RX7, .code yX7_suits cX7_suits 2 (some .boolean), .fieldLink RX7 9 "BoiledEggs$Page" "codes" "[I", .methodLink RX7 35 yX7_isDigit, .instanceMethod yX7_isDigit, .selects RX7 yX7_isDigit yX7_isDigit, .code yX7_isDigit cX7_isDigit 5 (some .boolean), .methodLink RX7 27 yX7_digit, .instanceMethod yX7_digit, .selects RX7 yX7_digit yX7_digit, .code yX7_digit cX7_digit 2 (some .int)] ++ wsX70)
def wsX7_isWholeKitchen : List Cond := .code yX7_isWholeKitchen cX7_isWholeKitchen 1 (some .boolean) :: ([.fieldLink RX7 15 "BoiledEggs$Page" "size" "I", .methodLink RX7 27 yX7_digit, .instanceMethod yX7_digit, .selects RX7 yX7_digit yX7_digit, .initialized RX7, .code yX7_digit cX7_digit 2 (some .int), .fieldLink RX7 9 "BoiledEggs$Page" "codes" "[I", .methodLink RX7 31 yX7_firstFault, .instanceMethod yX7_firstFault, .selects RX7 yX7_firstFault yX7_firstFault, .code yX7_firstFault cX7_firstFault 2 (some .int), .methodLink RX7 23 yX7_suits, .instanceMethod yX7_suits, .selects RX7 yX7_suits yX7_suits, .code yX7_suits cX7_suits 2 (some .boolean), .methodLink RX7 35 yX7_isDigit, .instanceMethod yX7_isDigit, .selects RX7 yX7_isDigit yX7_isDigit, .code yX7_isDigit cX7_isDigit 5 (some .boolean)] ++ wsX70)
def wsX8_init : List Cond := .code yX8_init cX8_init 1 none :: ([.methodLink RX8 3 objectInit, .instanceMethod objectInit, .code objectInit ⟨#[0xb1]⟩ 1 none, .arrayClass .int, .fieldLink RX8 9 "BoiledEggs$Told" "boxes" "[I", .arrayClass .long, .fieldLink RX8 15 "BoiledEggs$Told" "weights" "[J", .fieldLink RX8 19 "BoiledEggs$Told" "spins" "[I", .fieldLink RX8 22 "BoiledEggs$Told" "turned" "[I", .fieldLink RX8 25 "BoiledEggs$Told" "known" "[I"] ++ wsX80)
def wsX8_keep : List Cond := .code yX8_keep cX8_keep 4 none :: ([.fieldLink RX8 28 "BoiledEggs$Told" "fitting" "I", .fieldLink RX8 9 "BoiledEggs$Told" "boxes" "[I", .fieldLink RX8 15 "BoiledEggs$Told" "weights" "[J"] ++ wsX80)
def wsX8_begin_r1 : List Cond := [Cond.fieldLink RX8 28 "BoiledEggs$Told" "fitting" "I", Cond.fieldLink RX8 19 "BoiledEggs$Told" "spins" "[I", Cond.fieldLink RX8 22 "BoiledEggs$Told" "turned" "[I", Cond.fieldLink RX8 25 "BoiledEggs$Told" "known" "[I", Cond.fieldLink RX8 55 "BoiledEggs$Told" "inBox" "I", Cond.fieldLink RX8 58 "BoiledEggs$Told" "allSpins" "I", Cond.methodLink RX8 32 yX6_allEggs, Cond.instanceMethod yX6_allEggs, Cond.selects RX6 yX6_allEggs yX6_allEggs, Cond.initialized RX6, Cond.code yX6_allEggs cX6_allEggs 1 (some .int), Cond.fieldLink RX6 27 "BoiledEggs$Kitchen" "eggs" "I", Cond.methodLink RX8 38 yJ6_bitCount_0f7a4, Cond.static yJ6_bitCount_0f7a4, Cond.initialized RJ6, Cond.code yJ6_bitCount_0f7a4 cJ6_bitCount_0f7a4 1 (some .int), Cond.constant RJ6 265 (1431655765), Cond.constant RJ6 266 (858993459), Cond.constant RJ6 267 (252645135), Cond.methodLink RX8 47 yX6_habitsOf, Cond.instanceMethod yX6_habitsOf, Cond.selects RX6 yX6_habitsOf yX6_habitsOf, Cond.code yX6_habitsOf cX6_habitsOf 5 (some .long), Cond.fieldLink RX6 9 "BoiledEggs$Kitchen" "habits" "[I"]
def wsX8_begin_r2 : List Cond := [Cond.static yX10_has, Cond.initialized RX10, Cond.code yX10_has cX10_has 2 (some .boolean), Cond.methodLink RX8 51 yX8_keep, Cond.instanceMethod yX8_keep, Cond.selects RX8 yX8_keep yX8_keep, Cond.initialized RX8, Cond.code yX8_keep cX8_keep 4 none, Cond.fieldLink RX8 9 "BoiledEggs$Told" "boxes" "[I", Cond.fieldLink RX8 15 "BoiledEggs$Told" "weights" "[J"]
def wsX8_begin : List Cond := .code yX8_begin cX8_begin 4 none :: ((wsX8_begin_r1 ++ wsX8_begin_r2) ++ wsX80 ++ wsX60)
def wsX8_copyFrom : List Cond := .code yX8_copyFrom cX8_copyFrom 2 none :: ([.fieldLink RX8 9 "BoiledEggs$Told" "boxes" "[I", .methodLink RX8 61 arraycopyName, .native arraycopyName, .static arraycopyName, .initialized "java/lang/System", .fieldLink RX8 15 "BoiledEggs$Told" "weights" "[J", .fieldLink RX8 19 "BoiledEggs$Told" "spins" "[I", .fieldLink RX8 22 "BoiledEggs$Told" "turned" "[I", .fieldLink RX8 25 "BoiledEggs$Told" "known" "[I", .fieldLink RX8 28 "BoiledEggs$Told" "fitting" "I", .fieldLink RX8 55 "BoiledEggs$Told" "inBox" "I", .fieldLink RX8 58 "BoiledEggs$Told" "allSpins" "I"] ++ wsX80)
def wsX8_canBe : List Cond := .code yX8_canBe cX8_canBe 6 (some .boolean) :: ([.methodLink RX8 67 yX8_boiledWeight, .instanceMethod yX8_boiledWeight, .selects RX8 yX8_boiledWeight yX8_boiledWeight, .initialized RX8, .code yX8_boiledWeight cX8_boiledWeight 5 (some .long), .fieldLink RX8 28 "BoiledEggs$Told" "fitting" "I", .fieldLink RX8 9 "BoiledEggs$Told" "boxes" "[I", .fieldLink RX8 15 "BoiledEggs$Told" "weights" "[J", .static yX10_has, .initialized RX10, .code yX10_has cX10_has 2 (some .boolean), .methodLink RX8 70 yX8_allWeight, .instanceMethod yX8_allWeight, .selects RX8 yX8_allWeight yX8_allWeight, .code yX8_allWeight cX8_allWeight 4 (some .long)] ++ wsX80)
def wsX8_canBeSure : List Cond := .code yX8_canBeSure cX8_canBeSure 3 (some .boolean) :: ([.methodLink RX8 74 yX8_canBe, .instanceMethod yX8_canBe, .selects RX8 yX8_canBe yX8_canBe, .initialized RX8, .code yX8_canBe cX8_canBe 6 (some .boolean), .methodLink RX8 67 yX8_boiledWeight, .instanceMethod yX8_boiledWeight, .selects RX8 yX8_boiledWeight yX8_boiledWeight, .code yX8_boiledWeight cX8_boiledWeight 5 (some .long), .fieldLink RX8 28 "BoiledEggs$Told" "fitting" "I", .fieldLink RX8 9 "BoiledEggs$Told" "boxes" "[I", .fieldLink RX8 15 "BoiledEggs$Told" "weights" "[J", .static yX10_has, .initialized RX10, .code yX10_has cX10_has 2 (some .boolean), .methodLink RX8 70 yX8_allWeight, .instanceMethod yX8_allWeight, .selects RX8 yX8_allWeight yX8_allWeight, .code yX8_allWeight cX8_allWeight 4 (some .long)] ++ wsX80)
def wsX8_weigh : List Cond := .code yX8_weigh cX8_weigh 6 none :: ([.fieldLink RX8 28 "BoiledEggs$Told" "fitting" "I", .fieldLink RX8 9 "BoiledEggs$Told" "boxes" "[I", .fieldLink RX8 15 "BoiledEggs$Told" "weights" "[J", .static yX10_has, .initialized RX10, .code yX10_has cX10_has 2 (some .boolean), .methodLink RX8 51 yX8_keep, .instanceMethod yX8_keep, .selects RX8 yX8_keep yX8_keep, .initialized RX8, .code yX8_keep cX8_keep 4 none] ++ wsX80)
def wsX8_countSpin : List Cond := .code yX8_countSpin cX8_countSpin 3 none :: ([.fieldLink RX8 19 "BoiledEggs$Told" "spins" "[I", .fieldLink RX8 22 "BoiledEggs$Told" "turned" "[I", .fieldLink RX8 58 "BoiledEggs$Told" "allSpins" "I"] ++ wsX80)
def wsX8_makeSure : List Cond := .code yX8_makeSure cX8_makeSure 3 none :: ([.fieldLink RX8 25 "BoiledEggs$Told" "known" "[I", .methodLink RX8 82 yX8_weigh, .instanceMethod yX8_weigh, .selects RX8 yX8_weigh yX8_weigh, .initialized RX8, .code yX8_weigh cX8_weigh 6 none, .fieldLink RX8 28 "BoiledEggs$Told" "fitting" "I", .fieldLink RX8 9 "BoiledEggs$Told" "boxes" "[I", .fieldLink RX8 15 "BoiledEggs$Told" "weights" "[J", .static yX10_has, .initialized RX10, .code yX10_has cX10_has 2 (some .boolean), .methodLink RX8 51 yX8_keep, .instanceMethod yX8_keep, .selects RX8 yX8_keep yX8_keep, .code yX8_keep cX8_keep 4 none] ++ wsX80)
def wsX8_takeOut : List Cond := .code yX8_takeOut cX8_takeOut 2 none :: ([.fieldLink RX8 55 "BoiledEggs$Told" "inBox" "I"] ++ wsX80)
def wsX8_eggAtPlace : List Cond := .code yX8_eggAtPlace cX8_eggAtPlace 4 (some .int) :: ([.methodLink RX8 86 yX8_isInBox, .instanceMethod yX8_isInBox, .selects RX8 yX8_isInBox yX8_isInBox, .initialized RX8, .code yX8_isInBox cX8_isInBox 2 (some .boolean), .fieldLink RX8 55 "BoiledEggs$Told" "inBox" "I", .static yX10_has, .initialized RX10, .code yX10_has cX10_has 2 (some .boolean)] ++ wsX80)
def wsX8_fittingBox : List Cond := .code yX8_fittingBox cX8_fittingBox 2 (some .int) :: ([.fieldLink RX8 28 "BoiledEggs$Told" "fitting" "I", .fieldLink RX8 9 "BoiledEggs$Told" "boxes" "[I"] ++ wsX80)
def wsX8_heaviestBox : List Cond := .code yX8_heaviestBox cX8_heaviestBox 3 (some .int) :: ([.fieldLink RX8 28 "BoiledEggs$Told" "fitting" "I", .fieldLink RX8 15 "BoiledEggs$Told" "weights" "[J", .fieldLink RX8 9 "BoiledEggs$Told" "boxes" "[I"] ++ wsX80)
def wsX8_surelyBoiled : List Cond := .code yX8_surelyBoiled cX8_surelyBoiled 4 (some .int) :: ([.fieldLink RX8 28 "BoiledEggs$Told" "fitting" "I", .fieldLink RX8 9 "BoiledEggs$Told" "boxes" "[I"] ++ wsX80)
def wsX8_surelyRaw : List Cond := .code yX8_surelyRaw cX8_surelyRaw 4 (some .int) :: ([.fieldLink RX8 28 "BoiledEggs$Told" "fitting" "I", .fieldLink RX8 9 "BoiledEggs$Told" "boxes" "[I"] ++ wsX80)
def wsX8_hasRawInBox : List Cond := .code yX8_hasRawInBox cX8_hasRawInBox 3 (some .boolean) :: ([.fieldLink RX8 28 "BoiledEggs$Told" "fitting" "I", .fieldLink RX8 55 "BoiledEggs$Told" "inBox" "I", .fieldLink RX8 9 "BoiledEggs$Told" "boxes" "[I", .methodLink RX8 38 yJ6_bitCount_0f7a4, .static yJ6_bitCount_0f7a4, .initialized RJ6, .code yJ6_bitCount_0f7a4 cJ6_bitCount_0f7a4 1 (some .int), .constant RJ6 265 (1431655765), .constant RJ6 266 (858993459), .constant RJ6 267 (252645135)] ++ wsX80)
def wsX9_kind : List Cond := .code yX9_kind cX9_kind 1 (some .int) :: ([])
def wsX9_score : List Cond := .code yX9_score cX9_score 3 (some .long) :: ([])
def wsX9_takesLast : List Cond := .code yX9_takesLast cX9_takesLast 1 (some .boolean) :: ([])
def wsX9_nextEgg_r1 : List Cond := [Cond.methodLink RX9 9 yX8_isInBox, Cond.instanceMethod yX8_isInBox, Cond.selects RX8 yX8_isInBox yX8_isInBox, Cond.initialized RX8, Cond.code yX8_isInBox cX8_isInBox 2 (some .boolean), Cond.fieldLink RX8 55 "BoiledEggs$Told" "inBox" "I", Cond.static yX10_has, Cond.initialized RX10, Cond.code yX10_has cX10_has 2 (some .boolean), Cond.methodLink RX9 15 ⟨"BoiledEggs$Trier", "score", "(LBoiledEggs$Told;I)J"⟩, Cond.sameMethod "BoiledEggs$Trier" "BoiledEggs$Trier" "score" "(LBoiledEggs$Told;I)J", Cond.instanceMethod ⟨"BoiledEggs$Trier", "score", "(LBoiledEggs$Told;I)J"⟩, Cond.selects RX0 ⟨"BoiledEggs$Trier", "score", "(LBoiledEggs$Told;I)J"⟩ yX0_score, Cond.instanceMethod yX0_score, Cond.initialized RX0, Cond.code yX0_score cX0_score 3 (some .long), Cond.methodLink RX0 7 yX8_boiledWeight, Cond.instanceMethod yX8_boiledWeight, Cond.selects RX8 yX8_boiledWeight yX8_boiledWeight, Cond.code yX8_boiledWeight cX8_boiledWeight 5 (some .long), Cond.fieldLink RX8 28 "BoiledEggs$Told" "fitting" "I", Cond.fieldLink RX8 9 "BoiledEggs$Told" "boxes" "[I", Cond.fieldLink RX8 15 "BoiledEggs$Told" "weights" "[J", Cond.code yX9_score cX9_score 3 (some .long)]
def wsX9_nextEgg_r2 : List Cond := [Cond.selects RX2 ⟨"BoiledEggs$Trier", "score", "(LBoiledEggs$Told;I)J"⟩ yX2_score, Cond.instanceMethod yX2_score, Cond.initialized RX2, Cond.code yX2_score cX2_score 3 (some .long), Cond.constantLong RX2 7 (2), Cond.methodLink RX2 19 Lib.MathLoose.abs_long.x, Cond.static Lib.MathLoose.abs_long.x, Cond.initialized "java/lang/Math", Cond.code Lib.MathLoose.abs_long.x Lib.MathLoose.abs_long.code 2 (some .long), Cond.methodLink RX2 9 yX8_boiledWeight, Cond.methodLink RX2 15 yX8_allWeight, Cond.instanceMethod yX8_allWeight, Cond.selects RX8 yX8_allWeight yX8_allWeight, Cond.code yX8_allWeight cX8_allWeight 4 (some .long), Cond.selects RX4 ⟨"BoiledEggs$Trier", "score", "(LBoiledEggs$Told;I)J"⟩ yX5_score, Cond.instanceMethod yX5_score, Cond.initialized RX5, Cond.code yX5_score cX5_score 3 (some .long), Cond.methodLink RX5 7 yX8_boiledWeight, Cond.selects RX5 ⟨"BoiledEggs$Trier", "score", "(LBoiledEggs$Told;I)J"⟩ yX5_score, Cond.methodLink RX9 15 yX9_score, Cond.instanceMethod yX9_score, Cond.selects RX9 yX9_score yX9_score, Cond.initialized RX9]
def wsX9_nextEgg_r3 : List Cond := [Cond.methodLink RX9 21 ⟨"BoiledEggs$Trier", "takesLast", "()Z"⟩, Cond.sameMethod "BoiledEggs$Trier" "BoiledEggs$Trier" "takesLast" "()Z", Cond.selects RX0 ⟨"BoiledEggs$Trier", "takesLast", "()Z"⟩ yX9_takesLast, Cond.instanceMethod yX9_takesLast, Cond.code yX9_takesLast cX9_takesLast 1 (some .boolean), Cond.selects RX2 ⟨"BoiledEggs$Trier", "takesLast", "()Z"⟩ yX9_takesLast, Cond.instanceMethod ⟨"BoiledEggs$Trier", "takesLast", "()Z"⟩, Cond.selects RX4 ⟨"BoiledEggs$Trier", "takesLast", "()Z"⟩ yX4_takesLast, Cond.instanceMethod yX4_takesLast, Cond.initialized RX4, Cond.code yX4_takesLast cX4_takesLast 1 (some .boolean), Cond.selects RX5 ⟨"BoiledEggs$Trier", "takesLast", "()Z"⟩ yX9_takesLast, Cond.methodLink RX9 21 yX9_takesLast, Cond.selects RX9 yX9_takesLast yX9_takesLast]
def wsX9_nextEgg : List Cond := .code yX9_nextEgg cX9_nextEgg 9 (some .int) :: ((wsX9_nextEgg_r1 ++ (wsX9_nextEgg_r2 ++ wsX9_nextEgg_r3)) ++ wsX80)
def wsX10_init_r1 : List Cond := [Cond.methodLink RX10 1 objectInit, Cond.instanceMethod objectInit, Cond.code objectInit ⟨#[0xb1]⟩ 1 none, Cond.classLink RX10 7 RX7, Cond.instantiable RX7 2, Cond.initialized RX7, Cond.fieldLink RX10 10 "BoiledEggs" "page" "LBoiledEggs$Page;", Cond.classLink RX10 16 RX6, Cond.instantiable RX6 6, Cond.initialized RX6, Cond.fieldLink RX10 19 "BoiledEggs" "home" "LBoiledEggs$Kitchen;", Cond.classLink RX10 23 RX8, Cond.instantiable RX8 8, Cond.initialized RX8, Cond.fieldLink RX10 26 "BoiledEggs" "told" "LBoiledEggs$Told;", Cond.fieldLink RX10 30 "BoiledEggs" "kept" "LBoiledEggs$Told;", Cond.classLink RX10 33 RX1, Cond.instantiable RX1 6, Cond.initialized RX1, Cond.fieldLink RX10 36 "BoiledEggs" "breaking" "LBoiledEggs$Breaking;", Cond.classLink RX10 40 RX3, Cond.instantiable RX3 1, Cond.initialized RX3, Cond.fieldLink RX10 43 "BoiledEggs" "draws" "LBoiledEggs$Draws;"]
def wsX10_init_r2 : List Cond := [Cond.classLink RX10 47 RX9, Cond.fieldLink RX10 49 "BoiledEggs" "triers" "[LBoiledEggs$Trier;", Cond.instanceMethod yX7_init, Cond.code yX7_init cX7_init 1 none, Cond.methodLink RX7 3 objectInit, Cond.arrayClass .int, Cond.fieldLink RX7 9 "BoiledEggs$Page" "codes" "[I", Cond.instanceMethod yX6_init, Cond.code yX6_init cX6_init 1 none, Cond.methodLink RX6 3 objectInit, Cond.fieldLink RX6 9 "BoiledEggs$Kitchen" "habits" "[I", Cond.instanceMethod yX8_init, Cond.code yX8_init cX8_init 1 none, Cond.methodLink RX8 3 objectInit, Cond.fieldLink RX8 9 "BoiledEggs$Told" "boxes" "[I", Cond.arrayClass .long, Cond.fieldLink RX8 15 "BoiledEggs$Told" "weights" "[J", Cond.fieldLink RX8 19 "BoiledEggs$Told" "spins" "[I", Cond.fieldLink RX8 22 "BoiledEggs$Told" "turned" "[I", Cond.fieldLink RX8 25 "BoiledEggs$Told" "known" "[I", Cond.instanceMethod yX1_init, Cond.code yX1_init cX1_init 1 none, Cond.methodLink RX1 3 objectInit, Cond.fieldLink RX1 11 "BoiledEggs$Breaking" "weights" "[J"]
def wsX10_init_r3 : List Cond := [Cond.fieldLink RX1 15 "BoiledEggs$Breaking" "costs" "[J", Cond.fieldLink RX1 18 "BoiledEggs$Breaking" "worsts" "[I", Cond.instanceMethod yX3_init, Cond.code yX3_init cX3_init 1 none, Cond.methodLink RX3 1 objectInit]
def wsX10_init : List Cond := .code yX10_init cX10_init 1 none :: ((wsX10_init_r1 ++ (wsX10_init_r2 ++ wsX10_init_r3)) ++ wsX70 ++ wsX100 ++ wsX60 ++ wsX80 ++ wsX10 ++ wsX30)
def wsX10_letter : List Cond := .code yX10_letter cX10_letter 2 (some .int) :: ([.fieldLink RX10 10 "BoiledEggs" "page" "LBoiledEggs$Page;", .methodLink RX10 53 yX7_isFull, .instanceMethod yX7_isFull, .selects RX7 yX7_isFull yX7_isFull, .initialized RX7, .code yX7_isFull cX7_isFull 1 (some .boolean), .fieldLink RX7 15 "BoiledEggs$Page" "size" "I", .methodLink RX10 57 yX7_append, .instanceMethod yX7_append, .selects RX7 yX7_append yX7_append, .code yX7_append cX7_append 2 (some .int), .fieldLink RX7 9 "BoiledEggs$Page" "codes" "[I", .methodLink RX7 19 yX7_isFull] ++ wsX100 ++ wsX70)
def wsX10_blank : List Cond := .code yX10_blank cX10_blank 1 (some .int) :: ([.fieldLink RX10 10 "BoiledEggs" "page" "LBoiledEggs$Page;", .methodLink RX10 61 yX7_clear, .instanceMethod yX7_clear, .selects RX7 yX7_clear yX7_clear, .initialized RX7, .code yX7_clear cX7_clear 2 (some .int), .fieldLink RX7 15 "BoiledEggs$Page" "size" "I"] ++ wsX100 ++ wsX70)
def wsX10_fault : List Cond := .code yX10_fault cX10_fault 1 (some .int) :: ([.fieldLink RX10 10 "BoiledEggs" "page" "LBoiledEggs$Page;", .methodLink RX10 65 yX7_firstFault, .instanceMethod yX7_firstFault, .selects RX7 yX7_firstFault yX7_firstFault, .initialized RX7, .code yX7_firstFault cX7_firstFault 2 (some .int), .fieldLink RX7 15 "BoiledEggs$Page" "size" "I", .methodLink RX7 23 yX7_suits, .instanceMethod yX7_suits, .selects RX7 yX7_suits yX7_suits, .code yX7_suits cX7_suits 2 (some .boolean), .fieldLink RX7 9 "BoiledEggs$Page" "codes" "[I", .methodLink RX7 35 yX7_isDigit, .instanceMethod yX7_isDigit, .selects RX7 yX7_isDigit yX7_isDigit, .code yX7_isDigit cX7_isDigit 5 (some .boolean), .methodLink RX7 27 yX7_digit, .instanceMethod yX7_digit, .selects RX7 yX7_digit yX7_digit, .code yX7_digit cX7_digit 2 (some .int)] ++ wsX100 ++ wsX70)
def wsX10_kitchen_r1 : List Cond := [Cond.fieldLink RX10 10 "BoiledEggs" "page" "LBoiledEggs$Page;", Cond.fieldLink RX10 19 "BoiledEggs" "home" "LBoiledEggs$Kitchen;", Cond.fieldLink RX10 26 "BoiledEggs" "told" "LBoiledEggs$Told;", Cond.fieldLink RX10 79 "BoiledEggs" "trierCount" "I", Cond.fieldLink RX10 83 "BoiledEggs" "isKept" "Z", Cond.fieldLink RX10 87 "BoiledEggs" "kitchensRead" "I", Cond.methodLink RX10 68 yX7_isWholeKitchen, Cond.instanceMethod yX7_isWholeKitchen, Cond.selects RX7 yX7_isWholeKitchen yX7_isWholeKitchen, Cond.initialized RX7, Cond.code yX7_isWholeKitchen cX7_isWholeKitchen 1 (some .boolean), Cond.fieldLink RX7 15 "BoiledEggs$Page" "size" "I", Cond.methodLink RX7 27 yX7_digit, Cond.instanceMethod yX7_digit, Cond.selects RX7 yX7_digit yX7_digit, Cond.code yX7_digit cX7_digit 2 (some .int), Cond.fieldLink RX7 9 "BoiledEggs$Page" "codes" "[I", Cond.methodLink RX7 31 yX7_firstFault, Cond.instanceMethod yX7_firstFault, Cond.selects RX7 yX7_firstFault yX7_firstFault, Cond.code yX7_firstFault cX7_firstFault 2 (some .int), Cond.methodLink RX7 23 yX7_suits, Cond.instanceMethod yX7_suits, Cond.selects RX7 yX7_suits yX7_suits]
def wsX10_kitchen_r2 : List Cond := [Cond.code yX7_suits cX7_suits 2 (some .boolean), Cond.methodLink RX7 35 yX7_isDigit, Cond.instanceMethod yX7_isDigit, Cond.selects RX7 yX7_isDigit yX7_isDigit, Cond.code yX7_isDigit cX7_isDigit 5 (some .boolean), Cond.methodLink RX10 71 yX6_readFrom, Cond.instanceMethod yX6_readFrom, Cond.selects RX6 yX6_readFrom yX6_readFrom, Cond.initialized RX6, Cond.code yX6_readFrom cX6_readFrom 3 none, Cond.methodLink RX6 21 Lib.Math.min.name, Cond.static Lib.Math.min.name, Cond.initialized "java/lang/Math", Cond.code Lib.Math.min.name Lib.Math.min.code 2 (some .int), Cond.fieldLink RX6 27 "BoiledEggs$Kitchen" "eggs" "I", Cond.fieldLink RX6 31 "BoiledEggs$Kitchen" "boiled" "I", Cond.fieldLink RX6 34 "BoiledEggs$Kitchen" "turnsBoiled" "I", Cond.fieldLink RX6 37 "BoiledEggs$Kitchen" "turnsRaw" "I", Cond.fieldLink RX6 40 "BoiledEggs$Kitchen" "falls" "I", Cond.fieldLink RX6 9 "BoiledEggs$Kitchen" "habits" "[I", Cond.methodLink RX6 15 yX7_digit, Cond.methodLink RX10 61 yX7_clear, Cond.instanceMethod yX7_clear, Cond.selects RX7 yX7_clear yX7_clear]
def wsX10_kitchen_r3 : List Cond := [Cond.code yX7_clear cX7_clear 2 (some .int), Cond.methodLink RX10 75 yX8_begin, Cond.instanceMethod yX8_begin, Cond.selects RX8 yX8_begin yX8_begin, Cond.initialized RX8, Cond.code yX8_begin cX8_begin 4 none, Cond.fieldLink RX8 28 "BoiledEggs$Told" "fitting" "I", Cond.fieldLink RX8 19 "BoiledEggs$Told" "spins" "[I", Cond.fieldLink RX8 22 "BoiledEggs$Told" "turned" "[I", Cond.fieldLink RX8 25 "BoiledEggs$Told" "known" "[I", Cond.fieldLink RX8 55 "BoiledEggs$Told" "inBox" "I", Cond.fieldLink RX8 58 "BoiledEggs$Told" "allSpins" "I", Cond.methodLink RX8 32 yX6_allEggs, Cond.instanceMethod yX6_allEggs, Cond.selects RX6 yX6_allEggs yX6_allEggs, Cond.code yX6_allEggs cX6_allEggs 1 (some .int), Cond.methodLink RX8 38 yJ6_bitCount_0f7a4, Cond.static yJ6_bitCount_0f7a4, Cond.initialized RJ6, Cond.code yJ6_bitCount_0f7a4 cJ6_bitCount_0f7a4 1 (some .int), Cond.constant RJ6 265 (1431655765), Cond.constant RJ6 266 (858993459), Cond.constant RJ6 267 (252645135), Cond.methodLink RX8 47 yX6_habitsOf]
def wsX10_kitchen_r4 : List Cond := [Cond.instanceMethod yX6_habitsOf, Cond.selects RX6 yX6_habitsOf yX6_habitsOf, Cond.code yX6_habitsOf cX6_habitsOf 5 (some .long), Cond.static yX10_has, Cond.initialized RX10, Cond.code yX10_has cX10_has 2 (some .boolean), Cond.methodLink RX8 51 yX8_keep, Cond.instanceMethod yX8_keep, Cond.selects RX8 yX8_keep yX8_keep, Cond.code yX8_keep cX8_keep 4 none, Cond.fieldLink RX8 9 "BoiledEggs$Told" "boxes" "[I", Cond.fieldLink RX8 15 "BoiledEggs$Told" "weights" "[J"]
def wsX10_kitchen : List Cond := .code yX10_kitchen cX10_kitchen 1 (some .int) :: ((wsX10_kitchen_r1 ++ (wsX10_kitchen_r2 ++ (wsX10_kitchen_r3 ++ wsX10_kitchen_r4))) ++ wsX100 ++ wsX60 ++ wsX70 ++ wsX80)
def wsX10_isEgg : List Cond := .code yX10_isEgg cX10_isEgg 2 (some .boolean) :: ([.fieldLink RX10 19 "BoiledEggs" "home" "LBoiledEggs$Kitchen;"] ++ wsX100 ++ wsX60)
def wsX10_egg : List Cond := .code yX10_egg cX10_egg 3 (some .int) :: ([.fieldLink RX10 19 "BoiledEggs" "home" "LBoiledEggs$Kitchen;", .fieldLink RX10 26 "BoiledEggs" "told" "LBoiledEggs$Told;", .methodLink RX10 93 yX10_isEgg, .instanceMethod yX10_isEgg, .selects RX10 yX10_isEgg yX10_isEgg, .initialized RX10, .code yX10_isEgg cX10_isEgg 2 (some .boolean), .methodLink RX10 101 yX8_isInBox, .instanceMethod yX8_isInBox, .selects RX8 yX8_isInBox yX8_isInBox, .initialized RX8, .code yX8_isInBox cX8_isInBox 2 (some .boolean), .fieldLink RX8 55 "BoiledEggs$Told" "inBox" "I", .static yX10_has, .code yX10_has cX10_has 2 (some .boolean)] ++ wsX100 ++ wsX60 ++ wsX80)
def wsX10_spin_r1 : List Cond := [Cond.fieldLink RX10 19 "BoiledEggs" "home" "LBoiledEggs$Kitchen;", Cond.fieldLink RX10 26 "BoiledEggs" "told" "LBoiledEggs$Told;", Cond.methodLink RX10 93 yX10_isEgg, Cond.instanceMethod yX10_isEgg, Cond.selects RX10 yX10_isEgg yX10_isEgg, Cond.initialized RX10, Cond.code yX10_isEgg cX10_isEgg 2 (some .boolean), Cond.methodLink RX10 113 yX6_tenthsOf, Cond.instanceMethod yX6_tenthsOf, Cond.selects RX6 yX6_tenthsOf yX6_tenthsOf, Cond.initialized RX6, Cond.code yX6_tenthsOf cX6_tenthsOf 4 (some .int), Cond.fieldLink RX6 34 "BoiledEggs$Kitchen" "turnsBoiled" "I", Cond.fieldLink RX6 37 "BoiledEggs$Kitchen" "turnsRaw" "I", Cond.methodLink RX10 101 yX8_isInBox, Cond.instanceMethod yX8_isInBox, Cond.selects RX8 yX8_isInBox yX8_isInBox, Cond.initialized RX8, Cond.code yX8_isInBox cX8_isInBox 2 (some .boolean), Cond.fieldLink RX8 55 "BoiledEggs$Told" "inBox" "I", Cond.static yX10_has, Cond.code yX10_has cX10_has 2 (some .boolean), Cond.methodLink RX10 117 yX8_canBe, Cond.instanceMethod yX8_canBe]
def wsX10_spin_r2 : List Cond := [Cond.selects RX8 yX8_canBe yX8_canBe, Cond.code yX8_canBe cX8_canBe 6 (some .boolean), Cond.methodLink RX8 67 yX8_boiledWeight, Cond.instanceMethod yX8_boiledWeight, Cond.selects RX8 yX8_boiledWeight yX8_boiledWeight, Cond.code yX8_boiledWeight cX8_boiledWeight 5 (some .long), Cond.fieldLink RX8 28 "BoiledEggs$Told" "fitting" "I", Cond.fieldLink RX8 9 "BoiledEggs$Told" "boxes" "[I", Cond.fieldLink RX8 15 "BoiledEggs$Told" "weights" "[J", Cond.methodLink RX8 70 yX8_allWeight, Cond.instanceMethod yX8_allWeight, Cond.selects RX8 yX8_allWeight yX8_allWeight, Cond.code yX8_allWeight cX8_allWeight 4 (some .long), Cond.methodLink RX10 124 yX8_weigh, Cond.instanceMethod yX8_weigh, Cond.selects RX8 yX8_weigh yX8_weigh, Cond.code yX8_weigh cX8_weigh 6 none, Cond.methodLink RX8 51 yX8_keep, Cond.instanceMethod yX8_keep, Cond.selects RX8 yX8_keep yX8_keep, Cond.code yX8_keep cX8_keep 4 none, Cond.methodLink RX10 128 yX8_countSpin, Cond.instanceMethod yX8_countSpin, Cond.selects RX8 yX8_countSpin yX8_countSpin]
def wsX10_spin_r3 : List Cond := [Cond.code yX8_countSpin cX8_countSpin 3 none, Cond.fieldLink RX8 19 "BoiledEggs$Told" "spins" "[I", Cond.fieldLink RX8 22 "BoiledEggs$Told" "turned" "[I", Cond.fieldLink RX8 58 "BoiledEggs$Told" "allSpins" "I"]
def wsX10_spin : List Cond := .code yX10_spin cX10_spin 5 (some .int) :: ((wsX10_spin_r1 ++ (wsX10_spin_r2 ++ wsX10_spin_r3)) ++ wsX100 ++ wsX80 ++ wsX60)
def wsX10_stop_r1 : List Cond := [Cond.fieldLink RX10 26 "BoiledEggs" "told" "LBoiledEggs$Told;", Cond.fieldLink RX10 19 "BoiledEggs" "home" "LBoiledEggs$Kitchen;", Cond.methodLink RX10 93 yX10_isEgg, Cond.instanceMethod yX10_isEgg, Cond.selects RX10 yX10_isEgg yX10_isEgg, Cond.initialized RX10, Cond.code yX10_isEgg cX10_isEgg 2 (some .boolean), Cond.methodLink RX10 101 yX8_isInBox, Cond.instanceMethod yX8_isInBox, Cond.selects RX8 yX8_isInBox yX8_isInBox, Cond.initialized RX8, Cond.code yX8_isInBox cX8_isInBox 2 (some .boolean), Cond.fieldLink RX8 55 "BoiledEggs$Told" "inBox" "I", Cond.static yX10_has, Cond.code yX10_has cX10_has 2 (some .boolean), Cond.methodLink RX10 135 yX8_takeOut, Cond.instanceMethod yX8_takeOut, Cond.selects RX8 yX8_takeOut yX8_takeOut, Cond.code yX8_takeOut cX8_takeOut 2 none, Cond.methodLink RX10 139 yX8_canBeSure, Cond.instanceMethod yX8_canBeSure, Cond.selects RX8 yX8_canBeSure yX8_canBeSure, Cond.code yX8_canBeSure cX8_canBeSure 3 (some .boolean), Cond.methodLink RX8 74 yX8_canBe]
def wsX10_stop_r2 : List Cond := [Cond.instanceMethod yX8_canBe, Cond.selects RX8 yX8_canBe yX8_canBe, Cond.code yX8_canBe cX8_canBe 6 (some .boolean), Cond.methodLink RX8 67 yX8_boiledWeight, Cond.instanceMethod yX8_boiledWeight, Cond.selects RX8 yX8_boiledWeight yX8_boiledWeight, Cond.code yX8_boiledWeight cX8_boiledWeight 5 (some .long), Cond.fieldLink RX8 28 "BoiledEggs$Told" "fitting" "I", Cond.fieldLink RX8 9 "BoiledEggs$Told" "boxes" "[I", Cond.fieldLink RX8 15 "BoiledEggs$Told" "weights" "[J", Cond.methodLink RX8 70 yX8_allWeight, Cond.instanceMethod yX8_allWeight, Cond.selects RX8 yX8_allWeight yX8_allWeight, Cond.code yX8_allWeight cX8_allWeight 4 (some .long), Cond.methodLink RX10 143 yX8_makeSure, Cond.instanceMethod yX8_makeSure, Cond.selects RX8 yX8_makeSure yX8_makeSure, Cond.code yX8_makeSure cX8_makeSure 3 none, Cond.fieldLink RX8 25 "BoiledEggs$Told" "known" "[I", Cond.methodLink RX8 82 yX8_weigh, Cond.instanceMethod yX8_weigh, Cond.selects RX8 yX8_weigh yX8_weigh, Cond.code yX8_weigh cX8_weigh 6 none, Cond.methodLink RX8 51 yX8_keep]
def wsX10_stop_r3 : List Cond := [Cond.instanceMethod yX8_keep, Cond.selects RX8 yX8_keep yX8_keep, Cond.code yX8_keep cX8_keep 4 none, Cond.methodLink RX10 146 yX8_howManyInBox, Cond.instanceMethod yX8_howManyInBox, Cond.selects RX8 yX8_howManyInBox yX8_howManyInBox, Cond.code yX8_howManyInBox cX8_howManyInBox 1 (some .int), Cond.methodLink RX8 38 yJ6_bitCount_0f7a4, Cond.static yJ6_bitCount_0f7a4, Cond.initialized RJ6, Cond.code yJ6_bitCount_0f7a4 cJ6_bitCount_0f7a4 1 (some .int), Cond.constant RJ6 265 (1431655765), Cond.constant RJ6 266 (858993459), Cond.constant RJ6 267 (252645135)]
def wsX10_stop : List Cond := .code yX10_stop cX10_stop 3 (some .int) :: ((wsX10_stop_r1 ++ (wsX10_stop_r2 ++ wsX10_stop_r3)) ++ wsX100 ++ wsX60 ++ wsX80)
def wsX10_crack_r1 : List Cond := [Cond.fieldLink RX10 26 "BoiledEggs" "told" "LBoiledEggs$Told;", Cond.methodLink RX10 93 yX10_isEgg, Cond.instanceMethod yX10_isEgg, Cond.selects RX10 yX10_isEgg yX10_isEgg, Cond.initialized RX10, Cond.code yX10_isEgg cX10_isEgg 2 (some .boolean), Cond.fieldLink RX10 19 "BoiledEggs" "home" "LBoiledEggs$Kitchen;", Cond.methodLink RX10 101 yX8_isInBox, Cond.instanceMethod yX8_isInBox, Cond.selects RX8 yX8_isInBox yX8_isInBox, Cond.initialized RX8, Cond.code yX8_isInBox cX8_isInBox 2 (some .boolean), Cond.fieldLink RX8 55 "BoiledEggs$Told" "inBox" "I", Cond.static yX10_has, Cond.code yX10_has cX10_has 2 (some .boolean), Cond.methodLink RX10 139 yX8_canBeSure, Cond.instanceMethod yX8_canBeSure, Cond.selects RX8 yX8_canBeSure yX8_canBeSure, Cond.code yX8_canBeSure cX8_canBeSure 3 (some .boolean), Cond.methodLink RX8 74 yX8_canBe, Cond.instanceMethod yX8_canBe, Cond.selects RX8 yX8_canBe yX8_canBe, Cond.code yX8_canBe cX8_canBe 6 (some .boolean), Cond.methodLink RX8 67 yX8_boiledWeight]
def wsX10_crack_r2 : List Cond := [Cond.instanceMethod yX8_boiledWeight, Cond.selects RX8 yX8_boiledWeight yX8_boiledWeight, Cond.code yX8_boiledWeight cX8_boiledWeight 5 (some .long), Cond.fieldLink RX8 28 "BoiledEggs$Told" "fitting" "I", Cond.fieldLink RX8 9 "BoiledEggs$Told" "boxes" "[I", Cond.fieldLink RX8 15 "BoiledEggs$Told" "weights" "[J", Cond.methodLink RX8 70 yX8_allWeight, Cond.instanceMethod yX8_allWeight, Cond.selects RX8 yX8_allWeight yX8_allWeight, Cond.code yX8_allWeight cX8_allWeight 4 (some .long), Cond.methodLink RX10 143 yX8_makeSure, Cond.instanceMethod yX8_makeSure, Cond.selects RX8 yX8_makeSure yX8_makeSure, Cond.code yX8_makeSure cX8_makeSure 3 none, Cond.fieldLink RX8 25 "BoiledEggs$Told" "known" "[I", Cond.methodLink RX8 82 yX8_weigh, Cond.instanceMethod yX8_weigh, Cond.selects RX8 yX8_weigh yX8_weigh, Cond.code yX8_weigh cX8_weigh 6 none, Cond.methodLink RX8 51 yX8_keep, Cond.instanceMethod yX8_keep, Cond.selects RX8 yX8_keep yX8_keep, Cond.code yX8_keep cX8_keep 4 none, Cond.methodLink RX10 135 yX8_takeOut]
def wsX10_crack_r3 : List Cond := [Cond.instanceMethod yX8_takeOut, Cond.selects RX8 yX8_takeOut yX8_takeOut, Cond.code yX8_takeOut cX8_takeOut 2 none, Cond.methodLink RX10 146 yX8_howManyInBox, Cond.instanceMethod yX8_howManyInBox, Cond.selects RX8 yX8_howManyInBox yX8_howManyInBox, Cond.code yX8_howManyInBox cX8_howManyInBox 1 (some .int), Cond.methodLink RX8 38 yJ6_bitCount_0f7a4, Cond.static yJ6_bitCount_0f7a4, Cond.initialized RJ6, Cond.code yJ6_bitCount_0f7a4 cJ6_bitCount_0f7a4 1 (some .int), Cond.constant RJ6 265 (1431655765), Cond.constant RJ6 266 (858993459), Cond.constant RJ6 267 (252645135)]
def wsX10_crack : List Cond := .code yX10_crack cX10_crack 3 (some .int) :: ((wsX10_crack_r1 ++ (wsX10_crack_r2 ++ wsX10_crack_r3)) ++ wsX100 ++ wsX60 ++ wsX80)
def wsX10_isPart : List Cond := .code yX10_isPart cX10_isPart 1 (some .boolean) :: ([])
def wsX10_commonDivisor : List Cond := .code yX10_commonDivisor cX10_commonDivisor 11 (some .long) :: ([])
def wsX10_inLowestTerms : List Cond := .code yX10_inLowestTerms cX10_inLowestTerms 9 (some .long) :: ([.methodLink RX10 315 yX10_commonDivisor, .static yX10_commonDivisor, .initialized RX10, .code yX10_commonDivisor cX10_commonDivisor 11 (some .long)])
def wsX10_likely_r1 : List Cond := [Cond.constantLong RX10 149 (-101), Cond.constantLong RX10 154 (-102), Cond.fieldLink RX10 26 "BoiledEggs" "told" "LBoiledEggs$Told;", Cond.methodLink RX10 93 yX10_isEgg, Cond.instanceMethod yX10_isEgg, Cond.selects RX10 yX10_isEgg yX10_isEgg, Cond.initialized RX10, Cond.code yX10_isEgg cX10_isEgg 2 (some .boolean), Cond.fieldLink RX10 19 "BoiledEggs" "home" "LBoiledEggs$Kitchen;", Cond.methodLink RX10 151 yX10_isPart, Cond.static yX10_isPart, Cond.code yX10_isPart cX10_isPart 1 (some .boolean), Cond.methodLink RX10 156 yX8_boiledWeight, Cond.instanceMethod yX8_boiledWeight, Cond.selects RX8 yX8_boiledWeight yX8_boiledWeight, Cond.initialized RX8, Cond.code yX8_boiledWeight cX8_boiledWeight 5 (some .long), Cond.fieldLink RX8 28 "BoiledEggs$Told" "fitting" "I", Cond.fieldLink RX8 9 "BoiledEggs$Told" "boxes" "[I", Cond.fieldLink RX8 15 "BoiledEggs$Told" "weights" "[J", Cond.static yX10_has, Cond.code yX10_has cX10_has 2 (some .boolean), Cond.methodLink RX10 160 yX8_allWeight, Cond.instanceMethod yX8_allWeight]
def wsX10_likely_r2 : List Cond := [Cond.selects RX8 yX8_allWeight yX8_allWeight, Cond.code yX8_allWeight cX8_allWeight 4 (some .long), Cond.methodLink RX10 164 yX10_inLowestTerms, Cond.static yX10_inLowestTerms, Cond.code yX10_inLowestTerms cX10_inLowestTerms 9 (some .long), Cond.methodLink RX10 315 yX10_commonDivisor, Cond.static yX10_commonDivisor, Cond.code yX10_commonDivisor cX10_commonDivisor 11 (some .long)]
def wsX10_likely : List Cond := .code yX10_likely cX10_likely 3 (some .long) :: ((wsX10_likely_r1 ++ wsX10_likely_r2) ++ wsX100 ++ wsX60 ++ wsX80)
def wsX10_hasKitchen : List Cond := .code yX10_hasKitchen cX10_hasKitchen 1 (some .boolean) :: ([.fieldLink RX10 19 "BoiledEggs" "home" "LBoiledEggs$Kitchen;"] ++ wsX100 ++ wsX60)
def wsX10_likeliest : List Cond := .code yX10_likeliest cX10_likeliest 1 (some .int) :: ([.fieldLink RX10 26 "BoiledEggs" "told" "LBoiledEggs$Told;", .methodLink RX10 168 yX10_hasKitchen, .instanceMethod yX10_hasKitchen, .selects RX10 yX10_hasKitchen yX10_hasKitchen, .initialized RX10, .code yX10_hasKitchen cX10_hasKitchen 1 (some .boolean), .fieldLink RX10 19 "BoiledEggs" "home" "LBoiledEggs$Kitchen;", .methodLink RX10 171 yX8_heaviestBox, .instanceMethod yX8_heaviestBox, .selects RX8 yX8_heaviestBox yX8_heaviestBox, .initialized RX8, .code yX8_heaviestBox cX8_heaviestBox 3 (some .int), .fieldLink RX8 28 "BoiledEggs$Told" "fitting" "I", .fieldLink RX8 15 "BoiledEggs$Told" "weights" "[J", .fieldLink RX8 9 "BoiledEggs$Told" "boxes" "[I"] ++ wsX100 ++ wsX60 ++ wsX80)
def wsX10_turning : List Cond := .code yX10_turning cX10_turning 10 (some .int) :: ([.fieldLink RX10 26 "BoiledEggs" "told" "LBoiledEggs$Told;", .constantLong RX10 174 (10), .fieldLink RX10 19 "BoiledEggs" "home" "LBoiledEggs$Kitchen;", .methodLink RX10 93 yX10_isEgg, .instanceMethod yX10_isEgg, .selects RX10 yX10_isEgg yX10_isEgg, .initialized RX10, .code yX10_isEgg cX10_isEgg 2 (some .boolean), .methodLink RX10 156 yX8_boiledWeight, .instanceMethod yX8_boiledWeight, .selects RX8 yX8_boiledWeight yX8_boiledWeight, .initialized RX8, .code yX8_boiledWeight cX8_boiledWeight 5 (some .long), .fieldLink RX8 28 "BoiledEggs$Told" "fitting" "I", .fieldLink RX8 9 "BoiledEggs$Told" "boxes" "[I", .fieldLink RX8 15 "BoiledEggs$Told" "weights" "[J", .static yX10_has, .code yX10_has cX10_has 2 (some .boolean), .methodLink RX10 160 yX8_allWeight, .instanceMethod yX8_allWeight, .selects RX8 yX8_allWeight yX8_allWeight, .code yX8_allWeight cX8_allWeight 4 (some .long)] ++ wsX100 ++ wsX60 ++ wsX80)
def wsX10_isRawNumber : List Cond := .code yX10_isRawNumber cX10_isRawNumber 1 (some .boolean) :: ([])
def wsX10_mayBreak : List Cond := .code yX10_mayBreak cX10_mayBreak 1 (some .boolean) :: ([.fieldLink RX10 188 "BoiledEggs" "breakingsDone" "I", .methodLink RX10 168 yX10_hasKitchen, .instanceMethod yX10_hasKitchen, .selects RX10 yX10_hasKitchen yX10_hasKitchen, .initialized RX10, .code yX10_hasKitchen cX10_hasKitchen 1 (some .boolean), .fieldLink RX10 19 "BoiledEggs" "home" "LBoiledEggs$Kitchen;"] ++ wsX100 ++ wsX60)
def wsX10_worst_r1 : List Cond := [Cond.fieldLink RX10 188 "BoiledEggs" "breakingsDone" "I", Cond.fieldLink RX10 26 "BoiledEggs" "told" "LBoiledEggs$Told;", Cond.fieldLink RX10 36 "BoiledEggs" "breaking" "LBoiledEggs$Breaking;", Cond.methodLink RX10 182 yX10_isRawNumber, Cond.static yX10_isRawNumber, Cond.initialized RX10, Cond.code yX10_isRawNumber cX10_isRawNumber 1 (some .boolean), Cond.methodLink RX10 185 yX10_mayBreak, Cond.instanceMethod yX10_mayBreak, Cond.selects RX10 yX10_mayBreak yX10_mayBreak, Cond.code yX10_mayBreak cX10_mayBreak 1 (some .boolean), Cond.methodLink RX10 168 yX10_hasKitchen, Cond.instanceMethod yX10_hasKitchen, Cond.selects RX10 yX10_hasKitchen yX10_hasKitchen, Cond.code yX10_hasKitchen cX10_hasKitchen 1 (some .boolean), Cond.fieldLink RX10 19 "BoiledEggs" "home" "LBoiledEggs$Kitchen;", Cond.methodLink RX10 191 yX8_hasRawInBox, Cond.instanceMethod yX8_hasRawInBox, Cond.selects RX8 yX8_hasRawInBox yX8_hasRawInBox, Cond.initialized RX8, Cond.code yX8_hasRawInBox cX8_hasRawInBox 3 (some .boolean), Cond.fieldLink RX8 28 "BoiledEggs$Told" "fitting" "I", Cond.fieldLink RX8 55 "BoiledEggs$Told" "inBox" "I", Cond.fieldLink RX8 9 "BoiledEggs$Told" "boxes" "[I"]
def wsX10_worst_r2 : List Cond := [Cond.methodLink RX8 38 yJ6_bitCount_0f7a4, Cond.static yJ6_bitCount_0f7a4, Cond.initialized RJ6, Cond.code yJ6_bitCount_0f7a4 cJ6_bitCount_0f7a4 1 (some .int), Cond.constant RJ6 265 (1431655765), Cond.constant RJ6 266 (858993459), Cond.constant RJ6 267 (252645135), Cond.methodLink RX10 194 yX1_solve, Cond.instanceMethod yX1_solve, Cond.selects RX1 yX1_solve yX1_solve, Cond.initialized RX1, Cond.code yX1_solve cX1_solve 5 none, Cond.fieldLink RX1 22 "BoiledEggs$Breaking" "needed" "I", Cond.fieldLink RX1 32 "BoiledEggs$Breaking" "places" "I", Cond.methodLink RX1 26 yX8_howManyInBox, Cond.instanceMethod yX8_howManyInBox, Cond.selects RX8 yX8_howManyInBox yX8_howManyInBox, Cond.code yX8_howManyInBox cX8_howManyInBox 1 (some .int), Cond.methodLink RX1 35 yX1_spread, Cond.instanceMethod yX1_spread, Cond.selects RX1 yX1_spread yX1_spread, Cond.code yX1_spread cX1_spread 4 none, Cond.fieldLink RX1 11 "BoiledEggs$Breaking" "weights" "[J", Cond.methodLink RX1 52 yX1_lastState]
def wsX10_worst_r3 : List Cond := [Cond.instanceMethod yX1_lastState, Cond.selects RX1 yX1_lastState yX1_lastState, Cond.code yX1_lastState cX1_lastState 6 (some .int), Cond.methodLink RX1 57 yX8_isInBox, Cond.instanceMethod yX8_isInBox, Cond.selects RX8 yX8_isInBox yX8_isInBox, Cond.code yX8_isInBox cX8_isInBox 2 (some .boolean), Cond.static yX10_has, Cond.code yX10_has cX10_has 2 (some .boolean), Cond.methodLink RX1 39 yX1_solveState, Cond.instanceMethod yX1_solveState, Cond.selects RX1 yX1_solveState yX1_solveState, Cond.code yX1_solveState cX1_solveState 8 none, Cond.fieldLink RX1 15 "BoiledEggs$Breaking" "costs" "[J", Cond.fieldLink RX1 18 "BoiledEggs$Breaking" "worsts" "[I", Cond.methodLink RX1 65 yX1_breakNext, Cond.instanceMethod yX1_breakNext, Cond.selects RX1 yX1_breakNext yX1_breakNext, Cond.code yX1_breakNext cX1_breakNext 12 none, Cond.constantLong RX1 70 (9223372036854775807), Cond.constant RX1 74 (2147483647), Cond.fieldLink RX1 43 "BoiledEggs$Breaking" "bestPlace" "I", Cond.methodLink RX1 75 Lib.Math.max.name, Cond.static Lib.Math.max.name]
def wsX10_worst_r4 : List Cond := [Cond.initialized "java/lang/Math", Cond.code Lib.Math.max.name Lib.Math.max.code 2 (some .int), Cond.methodLink RX1 81 Lib.Math.min.name, Cond.static Lib.Math.min.name, Cond.code Lib.Math.min.name Lib.Math.min.code 2 (some .int), Cond.methodLink RX10 198 yX1_fewestAtWorst, Cond.instanceMethod yX1_fewestAtWorst, Cond.selects RX1 yX1_fewestAtWorst yX1_fewestAtWorst, Cond.code yX1_fewestAtWorst cX1_fewestAtWorst 1 (some .int), Cond.methodLink RX10 201 yX1_firstPlace, Cond.instanceMethod yX1_firstPlace, Cond.selects RX1 yX1_firstPlace yX1_firstPlace, Cond.code yX1_firstPlace cX1_firstPlace 1 (some .int), Cond.methodLink RX10 204 yX8_eggAtPlace, Cond.instanceMethod yX8_eggAtPlace, Cond.selects RX8 yX8_eggAtPlace yX8_eggAtPlace, Cond.code yX8_eggAtPlace cX8_eggAtPlace 4 (some .int), Cond.methodLink RX8 86 yX8_isInBox]
def wsX10_worst : List Cond := .code yX10_worst cX10_worst 3 (some .int) :: ((wsX10_worst_r1 ++ (wsX10_worst_r2 ++ (wsX10_worst_r3 ++ wsX10_worst_r4))) ++ wsX100 ++ wsX60 ++ wsX80 ++ wsX10)
def wsX10_mean_r1 : List Cond := [Cond.constantLong RX10 154 (-102), Cond.constantLong RX10 207 (-103), Cond.fieldLink RX10 188 "BoiledEggs" "breakingsDone" "I", Cond.fieldLink RX10 26 "BoiledEggs" "told" "LBoiledEggs$Told;", Cond.constantLong RX10 209 (-1), Cond.fieldLink RX10 36 "BoiledEggs" "breaking" "LBoiledEggs$Breaking;", Cond.methodLink RX10 182 yX10_isRawNumber, Cond.static yX10_isRawNumber, Cond.initialized RX10, Cond.code yX10_isRawNumber cX10_isRawNumber 1 (some .boolean), Cond.methodLink RX10 151 yX10_isPart, Cond.static yX10_isPart, Cond.code yX10_isPart cX10_isPart 1 (some .boolean), Cond.methodLink RX10 185 yX10_mayBreak, Cond.instanceMethod yX10_mayBreak, Cond.selects RX10 yX10_mayBreak yX10_mayBreak, Cond.code yX10_mayBreak cX10_mayBreak 1 (some .boolean), Cond.methodLink RX10 168 yX10_hasKitchen, Cond.instanceMethod yX10_hasKitchen, Cond.selects RX10 yX10_hasKitchen yX10_hasKitchen, Cond.code yX10_hasKitchen cX10_hasKitchen 1 (some .boolean), Cond.fieldLink RX10 19 "BoiledEggs" "home" "LBoiledEggs$Kitchen;", Cond.methodLink RX10 191 yX8_hasRawInBox, Cond.instanceMethod yX8_hasRawInBox]
def wsX10_mean_r2 : List Cond := [Cond.selects RX8 yX8_hasRawInBox yX8_hasRawInBox, Cond.initialized RX8, Cond.code yX8_hasRawInBox cX8_hasRawInBox 3 (some .boolean), Cond.fieldLink RX8 28 "BoiledEggs$Told" "fitting" "I", Cond.fieldLink RX8 55 "BoiledEggs$Told" "inBox" "I", Cond.fieldLink RX8 9 "BoiledEggs$Told" "boxes" "[I", Cond.methodLink RX8 38 yJ6_bitCount_0f7a4, Cond.static yJ6_bitCount_0f7a4, Cond.initialized RJ6, Cond.code yJ6_bitCount_0f7a4 cJ6_bitCount_0f7a4 1 (some .int), Cond.constant RJ6 265 (1431655765), Cond.constant RJ6 266 (858993459), Cond.constant RJ6 267 (252645135), Cond.methodLink RX10 194 yX1_solve, Cond.instanceMethod yX1_solve, Cond.selects RX1 yX1_solve yX1_solve, Cond.initialized RX1, Cond.code yX1_solve cX1_solve 5 none, Cond.fieldLink RX1 22 "BoiledEggs$Breaking" "needed" "I", Cond.fieldLink RX1 32 "BoiledEggs$Breaking" "places" "I", Cond.methodLink RX1 26 yX8_howManyInBox, Cond.instanceMethod yX8_howManyInBox, Cond.selects RX8 yX8_howManyInBox yX8_howManyInBox, Cond.code yX8_howManyInBox cX8_howManyInBox 1 (some .int)]
def wsX10_mean_r3 : List Cond := [Cond.methodLink RX1 35 yX1_spread, Cond.instanceMethod yX1_spread, Cond.selects RX1 yX1_spread yX1_spread, Cond.code yX1_spread cX1_spread 4 none, Cond.fieldLink RX1 11 "BoiledEggs$Breaking" "weights" "[J", Cond.methodLink RX1 52 yX1_lastState, Cond.instanceMethod yX1_lastState, Cond.selects RX1 yX1_lastState yX1_lastState, Cond.code yX1_lastState cX1_lastState 6 (some .int), Cond.methodLink RX1 57 yX8_isInBox, Cond.instanceMethod yX8_isInBox, Cond.selects RX8 yX8_isInBox yX8_isInBox, Cond.code yX8_isInBox cX8_isInBox 2 (some .boolean), Cond.static yX10_has, Cond.code yX10_has cX10_has 2 (some .boolean), Cond.methodLink RX1 39 yX1_solveState, Cond.instanceMethod yX1_solveState, Cond.selects RX1 yX1_solveState yX1_solveState, Cond.code yX1_solveState cX1_solveState 8 none, Cond.fieldLink RX1 15 "BoiledEggs$Breaking" "costs" "[J", Cond.fieldLink RX1 18 "BoiledEggs$Breaking" "worsts" "[I", Cond.methodLink RX1 65 yX1_breakNext, Cond.instanceMethod yX1_breakNext, Cond.selects RX1 yX1_breakNext yX1_breakNext]
def wsX10_mean_r4 : List Cond := [Cond.code yX1_breakNext cX1_breakNext 12 none, Cond.constantLong RX1 70 (9223372036854775807), Cond.constant RX1 74 (2147483647), Cond.fieldLink RX1 43 "BoiledEggs$Breaking" "bestPlace" "I", Cond.methodLink RX1 75 Lib.Math.max.name, Cond.static Lib.Math.max.name, Cond.initialized "java/lang/Math", Cond.code Lib.Math.max.name Lib.Math.max.code 2 (some .int), Cond.methodLink RX1 81 Lib.Math.min.name, Cond.static Lib.Math.min.name, Cond.code Lib.Math.min.name Lib.Math.min.code 2 (some .int), Cond.methodLink RX10 211 yX1_fewestByWeight, Cond.instanceMethod yX1_fewestByWeight, Cond.selects RX1 yX1_fewestByWeight yX1_fewestByWeight, Cond.code yX1_fewestByWeight cX1_fewestByWeight 1 (some .long), Cond.methodLink RX10 160 yX8_allWeight, Cond.instanceMethod yX8_allWeight, Cond.selects RX8 yX8_allWeight yX8_allWeight, Cond.code yX8_allWeight cX8_allWeight 4 (some .long), Cond.fieldLink RX8 15 "BoiledEggs$Told" "weights" "[J", Cond.methodLink RX10 164 yX10_inLowestTerms, Cond.static yX10_inLowestTerms, Cond.code yX10_inLowestTerms cX10_inLowestTerms 9 (some .long), Cond.methodLink RX10 315 yX10_commonDivisor]
def wsX10_mean_r5 : List Cond := [Cond.static yX10_commonDivisor, Cond.code yX10_commonDivisor cX10_commonDivisor 11 (some .long)]
def wsX10_mean : List Cond := .code yX10_mean cX10_mean 3 (some .long) :: ((wsX10_mean_r1 ++ (wsX10_mean_r2 ++ (wsX10_mean_r3 ++ (wsX10_mean_r4 ++ wsX10_mean_r5)))) ++ wsX100 ++ wsX60 ++ wsX80 ++ wsX10)
def wsX10_risk_r1 : List Cond := [Cond.constantLong RX10 149 (-101), Cond.constantLong RX10 154 (-102), Cond.fieldLink RX10 26 "BoiledEggs" "told" "LBoiledEggs$Told;", Cond.constantLong RX10 207 (-103), Cond.fieldLink RX10 19 "BoiledEggs" "home" "LBoiledEggs$Kitchen;", Cond.constantLong RX10 174 (10), Cond.methodLink RX10 93 yX10_isEgg, Cond.instanceMethod yX10_isEgg, Cond.selects RX10 yX10_isEgg yX10_isEgg, Cond.initialized RX10, Cond.code yX10_isEgg cX10_isEgg 2 (some .boolean), Cond.methodLink RX10 151 yX10_isPart, Cond.static yX10_isPart, Cond.code yX10_isPart cX10_isPart 1 (some .boolean), Cond.methodLink RX10 101 yX8_isInBox, Cond.instanceMethod yX8_isInBox, Cond.selects RX8 yX8_isInBox yX8_isInBox, Cond.initialized RX8, Cond.code yX8_isInBox cX8_isInBox 2 (some .boolean), Cond.fieldLink RX8 55 "BoiledEggs$Told" "inBox" "I", Cond.static yX10_has, Cond.code yX10_has cX10_has 2 (some .boolean), Cond.methodLink RX10 160 yX8_allWeight, Cond.instanceMethod yX8_allWeight]
def wsX10_risk_r2 : List Cond := [Cond.selects RX8 yX8_allWeight yX8_allWeight, Cond.code yX8_allWeight cX8_allWeight 4 (some .long), Cond.fieldLink RX8 28 "BoiledEggs$Told" "fitting" "I", Cond.fieldLink RX8 15 "BoiledEggs$Told" "weights" "[J", Cond.methodLink RX10 156 yX8_boiledWeight, Cond.instanceMethod yX8_boiledWeight, Cond.selects RX8 yX8_boiledWeight yX8_boiledWeight, Cond.code yX8_boiledWeight cX8_boiledWeight 5 (some .long), Cond.fieldLink RX8 9 "BoiledEggs$Told" "boxes" "[I", Cond.methodLink RX10 164 yX10_inLowestTerms, Cond.static yX10_inLowestTerms, Cond.code yX10_inLowestTerms cX10_inLowestTerms 9 (some .long), Cond.methodLink RX10 315 yX10_commonDivisor, Cond.static yX10_commonDivisor, Cond.code yX10_commonDivisor cX10_commonDivisor 11 (some .long)]
def wsX10_risk : List Cond := .code yX10_risk cX10_risk 7 (some .long) :: ((wsX10_risk_r1 ++ wsX10_risk_r2) ++ wsX100 ++ wsX60 ++ wsX80)
def wsX10_isKind : List Cond := .code yX10_isKind cX10_isKind 1 (some .boolean) :: ([])
def wsX10_newTrier_r1 : List Cond := [Cond.classLink RX10 318 RX2, Cond.instantiable RX2 0, Cond.initialized RX2, Cond.classLink RX10 321 RX0, Cond.instantiable RX0 0, Cond.initialized RX0, Cond.classLink RX10 324 RX5, Cond.instantiable RX5 0, Cond.initialized RX5, Cond.classLink RX10 327 RX4, Cond.instantiable RX4 0, Cond.initialized RX4, Cond.classLink RX10 47 RX9, Cond.instantiable RX9 0, Cond.initialized RX9, Cond.instanceMethod yX2_init, Cond.code yX2_init cX2_init 1 none, Cond.instanceMethod yX9_init, Cond.code yX9_init cX9_init 1 none, Cond.methodLink RX9 3 objectInit, Cond.instanceMethod objectInit, Cond.code objectInit ⟨#[0xb1]⟩ 1 none, Cond.instanceMethod yX0_init, Cond.code yX0_init cX0_init 1 none]
def wsX10_newTrier_r2 : List Cond := [Cond.instanceMethod yX5_init, Cond.code yX5_init cX5_init 1 none, Cond.instanceMethod yX4_init, Cond.code yX4_init cX4_init 1 none]
def wsX10_newTrier : List Cond := .code yX10_newTrier cX10_newTrier 1 (some (.object "BoiledEggs$Trier")) :: ((wsX10_newTrier_r1 ++ wsX10_newTrier_r2) ++ wsX20 ++ wsX00 ++ wsX50 ++ wsX40 ++ wsX90)
def wsX10_trier_r1 : List Cond := [Cond.fieldLink RX10 79 "BoiledEggs" "trierCount" "I", Cond.fieldLink RX10 49 "BoiledEggs" "triers" "[LBoiledEggs$Trier;", Cond.methodLink RX10 214 yX10_isKind, Cond.static yX10_isKind, Cond.initialized RX10, Cond.code yX10_isKind cX10_isKind 1 (some .boolean), Cond.methodLink RX10 168 yX10_hasKitchen, Cond.instanceMethod yX10_hasKitchen, Cond.selects RX10 yX10_hasKitchen yX10_hasKitchen, Cond.code yX10_hasKitchen cX10_hasKitchen 1 (some .boolean), Cond.fieldLink RX10 19 "BoiledEggs" "home" "LBoiledEggs$Kitchen;", Cond.methodLink RX10 217 yX10_newTrier, Cond.static yX10_newTrier, Cond.code yX10_newTrier cX10_newTrier 1 (some (.object "BoiledEggs$Trier")), Cond.classLink RX10 318 RX2, Cond.instantiable RX2 0, Cond.initialized RX2, Cond.classLink RX10 321 RX0, Cond.instantiable RX0 0, Cond.initialized RX0, Cond.classLink RX10 324 RX5, Cond.instantiable RX5 0, Cond.initialized RX5, Cond.classLink RX10 327 RX4]
def wsX10_trier_r2 : List Cond := [Cond.instantiable RX4 0, Cond.initialized RX4, Cond.classLink RX10 47 RX9, Cond.instantiable RX9 0, Cond.initialized RX9, Cond.instanceMethod yX2_init, Cond.code yX2_init cX2_init 1 none, Cond.instanceMethod yX9_init, Cond.code yX9_init cX9_init 1 none, Cond.methodLink RX9 3 objectInit, Cond.instanceMethod objectInit, Cond.code objectInit ⟨#[0xb1]⟩ 1 none, Cond.instanceMethod yX0_init, Cond.code yX0_init cX0_init 1 none, Cond.instanceMethod yX5_init, Cond.code yX5_init cX5_init 1 none, Cond.instanceMethod yX4_init, Cond.code yX4_init cX4_init 1 none]
def wsX10_trier : List Cond := .code yX10_trier cX10_trier 2 (some .int) :: ((wsX10_trier_r1 ++ wsX10_trier_r2) ++ wsX100 ++ wsX60 ++ wsX20 ++ wsX00 ++ wsX50 ++ wsX40 ++ wsX90)
def wsX10_trierOf : List Cond := .code yX10_trierOf cX10_trierOf 2 (some (.object "BoiledEggs$Trier")) :: ([.fieldLink RX10 79 "BoiledEggs" "trierCount" "I", .fieldLink RX10 49 "BoiledEggs" "triers" "[LBoiledEggs$Trier;"] ++ wsX100)
def wsX10_about_r1 : List Cond := [Cond.fieldLink RX10 26 "BoiledEggs" "told" "LBoiledEggs$Told;", Cond.methodLink RX10 221 yX10_trierOf, Cond.instanceMethod yX10_trierOf, Cond.selects RX10 yX10_trierOf yX10_trierOf, Cond.initialized RX10, Cond.code yX10_trierOf cX10_trierOf 2 (some (.object "BoiledEggs$Trier")), Cond.fieldLink RX10 79 "BoiledEggs" "trierCount" "I", Cond.fieldLink RX10 49 "BoiledEggs" "triers" "[LBoiledEggs$Trier;", Cond.methodLink RX10 224 ⟨"BoiledEggs$Trier", "kind", "()I"⟩, Cond.sameMethod "BoiledEggs$Trier" "BoiledEggs$Trier" "kind" "()I", Cond.instanceMethod ⟨"BoiledEggs$Trier", "kind", "()I"⟩, Cond.selects RX0 ⟨"BoiledEggs$Trier", "kind", "()I"⟩ yX0_kind, Cond.instanceMethod yX0_kind, Cond.initialized RX0, Cond.code yX0_kind cX0_kind 1 (some .int), Cond.code yX9_kind cX9_kind 1 (some .int), Cond.selects RX2 ⟨"BoiledEggs$Trier", "kind", "()I"⟩ yX2_kind, Cond.instanceMethod yX2_kind, Cond.initialized RX2, Cond.code yX2_kind cX2_kind 1 (some .int), Cond.selects RX4 ⟨"BoiledEggs$Trier", "kind", "()I"⟩ yX4_kind, Cond.instanceMethod yX4_kind, Cond.initialized RX4, Cond.code yX4_kind cX4_kind 1 (some .int)]
def wsX10_about_r2 : List Cond := [Cond.selects RX5 ⟨"BoiledEggs$Trier", "kind", "()I"⟩ yX5_kind, Cond.instanceMethod yX5_kind, Cond.initialized RX5, Cond.code yX5_kind cX5_kind 1 (some .int), Cond.methodLink RX10 224 yX9_kind, Cond.instanceMethod yX9_kind, Cond.selects RX9 yX9_kind yX9_kind, Cond.initialized RX9, Cond.methodLink RX10 227 ⟨"BoiledEggs$Trier", "nextEgg", "(LBoiledEggs$Told;)I"⟩, Cond.sameMethod "BoiledEggs$Trier" "BoiledEggs$Trier" "nextEgg" "(LBoiledEggs$Told;)I", Cond.selects RX0 ⟨"BoiledEggs$Trier", "nextEgg", "(LBoiledEggs$Told;)I"⟩ yX9_nextEgg, Cond.instanceMethod yX9_nextEgg, Cond.code yX9_nextEgg cX9_nextEgg 9 (some .int), Cond.methodLink RX9 9 yX8_isInBox, Cond.instanceMethod yX8_isInBox, Cond.selects RX8 yX8_isInBox yX8_isInBox, Cond.initialized RX8, Cond.code yX8_isInBox cX8_isInBox 2 (some .boolean), Cond.fieldLink RX8 55 "BoiledEggs$Told" "inBox" "I", Cond.static yX10_has, Cond.code yX10_has cX10_has 2 (some .boolean), Cond.methodLink RX9 15 ⟨"BoiledEggs$Trier", "score", "(LBoiledEggs$Told;I)J"⟩, Cond.sameMethod "BoiledEggs$Trier" "BoiledEggs$Trier" "score" "(LBoiledEggs$Told;I)J", Cond.instanceMethod ⟨"BoiledEggs$Trier", "score", "(LBoiledEggs$Told;I)J"⟩]
def wsX10_about_r3 : List Cond := [Cond.selects RX0 ⟨"BoiledEggs$Trier", "score", "(LBoiledEggs$Told;I)J"⟩ yX0_score, Cond.instanceMethod yX0_score, Cond.code yX0_score cX0_score 3 (some .long), Cond.methodLink RX0 7 yX8_boiledWeight, Cond.instanceMethod yX8_boiledWeight, Cond.selects RX8 yX8_boiledWeight yX8_boiledWeight, Cond.code yX8_boiledWeight cX8_boiledWeight 5 (some .long), Cond.fieldLink RX8 28 "BoiledEggs$Told" "fitting" "I", Cond.fieldLink RX8 9 "BoiledEggs$Told" "boxes" "[I", Cond.fieldLink RX8 15 "BoiledEggs$Told" "weights" "[J", Cond.code yX9_score cX9_score 3 (some .long), Cond.selects RX2 ⟨"BoiledEggs$Trier", "score", "(LBoiledEggs$Told;I)J"⟩ yX2_score, Cond.instanceMethod yX2_score, Cond.code yX2_score cX2_score 3 (some .long), Cond.constantLong RX2 7 (2), Cond.methodLink RX2 19 Lib.MathLoose.abs_long.x, Cond.static Lib.MathLoose.abs_long.x, Cond.initialized "java/lang/Math", Cond.code Lib.MathLoose.abs_long.x Lib.MathLoose.abs_long.code 2 (some .long), Cond.methodLink RX2 9 yX8_boiledWeight, Cond.methodLink RX2 15 yX8_allWeight, Cond.instanceMethod yX8_allWeight, Cond.selects RX8 yX8_allWeight yX8_allWeight, Cond.code yX8_allWeight cX8_allWeight 4 (some .long)]
def wsX10_about_r4 : List Cond := [Cond.selects RX4 ⟨"BoiledEggs$Trier", "score", "(LBoiledEggs$Told;I)J"⟩ yX5_score, Cond.instanceMethod yX5_score, Cond.code yX5_score cX5_score 3 (some .long), Cond.methodLink RX5 7 yX8_boiledWeight, Cond.selects RX5 ⟨"BoiledEggs$Trier", "score", "(LBoiledEggs$Told;I)J"⟩ yX5_score, Cond.methodLink RX9 15 yX9_score, Cond.instanceMethod yX9_score, Cond.selects RX9 yX9_score yX9_score, Cond.methodLink RX9 21 ⟨"BoiledEggs$Trier", "takesLast", "()Z"⟩, Cond.sameMethod "BoiledEggs$Trier" "BoiledEggs$Trier" "takesLast" "()Z", Cond.selects RX0 ⟨"BoiledEggs$Trier", "takesLast", "()Z"⟩ yX9_takesLast, Cond.instanceMethod yX9_takesLast, Cond.code yX9_takesLast cX9_takesLast 1 (some .boolean), Cond.selects RX2 ⟨"BoiledEggs$Trier", "takesLast", "()Z"⟩ yX9_takesLast, Cond.instanceMethod ⟨"BoiledEggs$Trier", "takesLast", "()Z"⟩, Cond.selects RX4 ⟨"BoiledEggs$Trier", "takesLast", "()Z"⟩ yX4_takesLast, Cond.instanceMethod yX4_takesLast, Cond.code yX4_takesLast cX4_takesLast 1 (some .boolean), Cond.selects RX5 ⟨"BoiledEggs$Trier", "takesLast", "()Z"⟩ yX9_takesLast, Cond.methodLink RX9 21 yX9_takesLast, Cond.selects RX9 yX9_takesLast yX9_takesLast, Cond.selects RX2 ⟨"BoiledEggs$Trier", "nextEgg", "(LBoiledEggs$Told;)I"⟩ yX9_nextEgg, Cond.selects RX4 ⟨"BoiledEggs$Trier", "nextEgg", "(LBoiledEggs$Told;)I"⟩ yX9_nextEgg, Cond.selects RX5 ⟨"BoiledEggs$Trier", "nextEgg", "(LBoiledEggs$Told;)I"⟩ yX9_nextEgg]
def wsX10_about_r5 : List Cond := [Cond.methodLink RX10 227 yX9_nextEgg, Cond.selects RX9 yX9_nextEgg yX9_nextEgg]
def wsX10_about : List Cond := .code yX10_about cX10_about 4 (some .int) :: ((wsX10_about_r1 ++ (wsX10_about_r2 ++ (wsX10_about_r3 ++ (wsX10_about_r4 ++ wsX10_about_r5)))) ++ wsX100 ++ wsX80)
def wsX10_isOfKind : List Cond := .code yX10_isOfKind cX10_isOfKind 2 (some .boolean) :: ([.classLink RX10 318 "BoiledEggs$Doubter", .classLink RX10 321 "BoiledEggs$Bold", .classLink RX10 324 "BoiledEggs$Hungry", .classLink RX10 327 "BoiledEggs$Greedy"])
def wsX10_as : List Cond := .code yX10_as cX10_as 4 (some .int) :: ([.methodLink RX10 221 yX10_trierOf, .instanceMethod yX10_trierOf, .selects RX10 yX10_trierOf yX10_trierOf, .initialized RX10, .code yX10_trierOf cX10_trierOf 2 (some (.object "BoiledEggs$Trier")), .fieldLink RX10 79 "BoiledEggs" "trierCount" "I", .fieldLink RX10 49 "BoiledEggs" "triers" "[LBoiledEggs$Trier;", .methodLink RX10 214 yX10_isKind, .static yX10_isKind, .code yX10_isKind cX10_isKind 1 (some .boolean), .methodLink RX10 231 yX10_isOfKind, .static yX10_isOfKind, .code yX10_isOfKind cX10_isOfKind 2 (some .boolean), .classLink RX10 318 "BoiledEggs$Doubter", .classLink RX10 321 "BoiledEggs$Bold", .classLink RX10 324 "BoiledEggs$Hungry", .classLink RX10 327 "BoiledEggs$Greedy"] ++ wsX100)
def wsX10_fits : List Cond := .code yX10_fits cX10_fits 2 (some .int) :: ([.fieldLink RX10 26 "BoiledEggs" "told" "LBoiledEggs$Told;", .fieldLink RX10 19 "BoiledEggs" "home" "LBoiledEggs$Kitchen;", .methodLink RX10 168 yX10_hasKitchen, .instanceMethod yX10_hasKitchen, .selects RX10 yX10_hasKitchen yX10_hasKitchen, .initialized RX10, .code yX10_hasKitchen cX10_hasKitchen 1 (some .boolean), .methodLink RX10 238 yX6_allEggs, .instanceMethod yX6_allEggs, .selects RX6 yX6_allEggs yX6_allEggs, .initialized RX6, .code yX6_allEggs cX6_allEggs 1 (some .int), .fieldLink RX6 27 "BoiledEggs$Kitchen" "eggs" "I", .methodLink RX10 241 yX8_surelyBoiled, .instanceMethod yX8_surelyBoiled, .selects RX8 yX8_surelyBoiled yX8_surelyBoiled, .initialized RX8, .code yX8_surelyBoiled cX8_surelyBoiled 4 (some .int), .fieldLink RX8 28 "BoiledEggs$Told" "fitting" "I", .fieldLink RX8 9 "BoiledEggs$Told" "boxes" "[I", .methodLink RX10 244 yX8_surelyRaw, .instanceMethod yX8_surelyRaw, .selects RX8 yX8_surelyRaw yX8_surelyRaw, .code yX8_surelyRaw cX8_surelyRaw 4 (some .int)] ++ wsX100 ++ wsX80 ++ wsX60)
def wsX10_eggsAsMeant : List Cond := .code yX10_eggsAsMeant cX10_eggsAsMeant 6 (some .int) :: ([.fieldLink RX10 19 "BoiledEggs" "home" "LBoiledEggs$Kitchen;", .fieldLink RX10 43 "BoiledEggs" "draws" "LBoiledEggs$Draws;", .methodLink RX10 302 yX10_has, .static yX10_has, .initialized RX10, .code yX10_has cX10_has 2 (some .boolean), .methodLink RX10 250 yX3_next, .instanceMethod yX3_next, .selects RX3 yX3_next yX3_next, .initialized RX3, .code yX3_next cX3_next 2 (some .int), .constantLong RX3 13 (1103515245), .fieldLink RX3 7 "BoiledEggs$Draws" "seed" "J", .constantLong RX3 15 (12345), .constantLong RX3 17 (2147483648), .constantLong RX3 19 (65536), .methodLink RX10 113 yX6_tenthsOf, .instanceMethod yX6_tenthsOf, .selects RX6 yX6_tenthsOf yX6_tenthsOf, .initialized RX6, .code yX6_tenthsOf cX6_tenthsOf 4 (some .int), .fieldLink RX6 34 "BoiledEggs$Kitchen" "turnsBoiled" "I", .fieldLink RX6 37 "BoiledEggs$Kitchen" "turnsRaw" "I"] ++ wsX100 ++ wsX60 ++ wsX30)
def wsX10_mornings_r1 : List Cond := [Cond.fieldLink RX10 43 "BoiledEggs" "draws" "LBoiledEggs$Draws;", Cond.fieldLink RX10 26 "BoiledEggs" "told" "LBoiledEggs$Told;", Cond.methodLink RX10 168 yX10_hasKitchen, Cond.instanceMethod yX10_hasKitchen, Cond.selects RX10 yX10_hasKitchen yX10_hasKitchen, Cond.initialized RX10, Cond.code yX10_hasKitchen cX10_hasKitchen 1 (some .boolean), Cond.fieldLink RX10 19 "BoiledEggs" "home" "LBoiledEggs$Kitchen;", Cond.methodLink RX10 247 yX3_startFrom, Cond.instanceMethod yX3_startFrom, Cond.selects RX3 yX3_startFrom yX3_startFrom, Cond.initialized RX3, Cond.code yX3_startFrom cX3_startFrom 2 none, Cond.fieldLink RX3 7 "BoiledEggs$Draws" "seed" "J", Cond.methodLink RX10 250 yX3_next, Cond.instanceMethod yX3_next, Cond.selects RX3 yX3_next yX3_next, Cond.code yX3_next cX3_next 2 (some .int), Cond.constantLong RX3 13 (1103515245), Cond.constantLong RX3 15 (12345), Cond.constantLong RX3 17 (2147483648), Cond.constantLong RX3 19 (65536), Cond.methodLink RX10 253 yX8_fittingBox, Cond.instanceMethod yX8_fittingBox]
def wsX10_mornings_r2 : List Cond := [Cond.selects RX8 yX8_fittingBox yX8_fittingBox, Cond.initialized RX8, Cond.code yX8_fittingBox cX8_fittingBox 2 (some .int), Cond.fieldLink RX8 28 "BoiledEggs$Told" "fitting" "I", Cond.fieldLink RX8 9 "BoiledEggs$Told" "boxes" "[I", Cond.methodLink RX10 256 yX10_eggsAsMeant, Cond.instanceMethod yX10_eggsAsMeant, Cond.selects RX10 yX10_eggsAsMeant yX10_eggsAsMeant, Cond.code yX10_eggsAsMeant cX10_eggsAsMeant 6 (some .int), Cond.methodLink RX10 302 yX10_has, Cond.static yX10_has, Cond.code yX10_has cX10_has 2 (some .boolean), Cond.methodLink RX10 113 yX6_tenthsOf, Cond.instanceMethod yX6_tenthsOf, Cond.selects RX6 yX6_tenthsOf yX6_tenthsOf, Cond.initialized RX6, Cond.code yX6_tenthsOf cX6_tenthsOf 4 (some .int), Cond.fieldLink RX6 34 "BoiledEggs$Kitchen" "turnsBoiled" "I", Cond.fieldLink RX6 37 "BoiledEggs$Kitchen" "turnsRaw" "I"]
def wsX10_mornings : List Cond := .code yX10_mornings cX10_mornings 7 (some .int) :: ((wsX10_mornings_r1 ++ wsX10_mornings_r2) ++ wsX100 ++ wsX80 ++ wsX30 ++ wsX60)
def wsX10_image_r1 : List Cond := [Cond.fieldLink RX10 30 "BoiledEggs" "kept" "LBoiledEggs$Told;", Cond.fieldLink RX10 26 "BoiledEggs" "told" "LBoiledEggs$Told;", Cond.fieldLink RX10 79 "BoiledEggs" "trierCount" "I", Cond.fieldLink RX10 267 "BoiledEggs" "keptTriers" "I", Cond.fieldLink RX10 83 "BoiledEggs" "isKept" "Z", Cond.methodLink RX10 168 yX10_hasKitchen, Cond.instanceMethod yX10_hasKitchen, Cond.selects RX10 yX10_hasKitchen yX10_hasKitchen, Cond.initialized RX10, Cond.code yX10_hasKitchen cX10_hasKitchen 1 (some .boolean), Cond.fieldLink RX10 19 "BoiledEggs" "home" "LBoiledEggs$Kitchen;", Cond.methodLink RX10 263 yX8_copyFrom, Cond.instanceMethod yX8_copyFrom, Cond.selects RX8 yX8_copyFrom yX8_copyFrom, Cond.initialized RX8, Cond.code yX8_copyFrom cX8_copyFrom 2 none, Cond.fieldLink RX8 9 "BoiledEggs$Told" "boxes" "[I", Cond.methodLink RX8 61 arraycopyName, Cond.native arraycopyName, Cond.static arraycopyName, Cond.initialized "java/lang/System", Cond.fieldLink RX8 15 "BoiledEggs$Told" "weights" "[J", Cond.fieldLink RX8 19 "BoiledEggs$Told" "spins" "[I", Cond.fieldLink RX8 22 "BoiledEggs$Told" "turned" "[I"]
def wsX10_image_r2 : List Cond := [Cond.fieldLink RX8 25 "BoiledEggs$Told" "known" "[I", Cond.fieldLink RX8 28 "BoiledEggs$Told" "fitting" "I", Cond.fieldLink RX8 55 "BoiledEggs$Told" "inBox" "I", Cond.fieldLink RX8 58 "BoiledEggs$Told" "allSpins" "I", Cond.methodLink RX10 146 yX8_howManyInBox, Cond.instanceMethod yX8_howManyInBox, Cond.selects RX8 yX8_howManyInBox yX8_howManyInBox, Cond.code yX8_howManyInBox cX8_howManyInBox 1 (some .int), Cond.methodLink RX8 38 yJ6_bitCount_0f7a4, Cond.static yJ6_bitCount_0f7a4, Cond.initialized RJ6, Cond.code yJ6_bitCount_0f7a4 cJ6_bitCount_0f7a4 1 (some .int), Cond.constant RJ6 265 (1431655765), Cond.constant RJ6 266 (858993459), Cond.constant RJ6 267 (252645135)]
def wsX10_image : List Cond := .code yX10_image cX10_image 1 (some .int) :: ((wsX10_image_r1 ++ wsX10_image_r2) ++ wsX100 ++ wsX60 ++ wsX80)
def wsX10_restore_r1 : List Cond := [Cond.fieldLink RX10 83 "BoiledEggs" "isKept" "Z", Cond.fieldLink RX10 26 "BoiledEggs" "told" "LBoiledEggs$Told;", Cond.fieldLink RX10 30 "BoiledEggs" "kept" "LBoiledEggs$Told;", Cond.fieldLink RX10 267 "BoiledEggs" "keptTriers" "I", Cond.fieldLink RX10 79 "BoiledEggs" "trierCount" "I", Cond.methodLink RX10 263 yX8_copyFrom, Cond.instanceMethod yX8_copyFrom, Cond.selects RX8 yX8_copyFrom yX8_copyFrom, Cond.initialized RX8, Cond.code yX8_copyFrom cX8_copyFrom 2 none, Cond.fieldLink RX8 9 "BoiledEggs$Told" "boxes" "[I", Cond.methodLink RX8 61 arraycopyName, Cond.native arraycopyName, Cond.static arraycopyName, Cond.initialized "java/lang/System", Cond.fieldLink RX8 15 "BoiledEggs$Told" "weights" "[J", Cond.fieldLink RX8 19 "BoiledEggs$Told" "spins" "[I", Cond.fieldLink RX8 22 "BoiledEggs$Told" "turned" "[I", Cond.fieldLink RX8 25 "BoiledEggs$Told" "known" "[I", Cond.fieldLink RX8 28 "BoiledEggs$Told" "fitting" "I", Cond.fieldLink RX8 55 "BoiledEggs$Told" "inBox" "I", Cond.fieldLink RX8 58 "BoiledEggs$Told" "allSpins" "I", Cond.methodLink RX10 146 yX8_howManyInBox, Cond.instanceMethod yX8_howManyInBox]
def wsX10_restore_r2 : List Cond := [Cond.selects RX8 yX8_howManyInBox yX8_howManyInBox, Cond.code yX8_howManyInBox cX8_howManyInBox 1 (some .int), Cond.methodLink RX8 38 yJ6_bitCount_0f7a4, Cond.static yJ6_bitCount_0f7a4, Cond.initialized RJ6, Cond.code yJ6_bitCount_0f7a4 cJ6_bitCount_0f7a4 1 (some .int), Cond.constant RJ6 265 (1431655765), Cond.constant RJ6 266 (858993459), Cond.constant RJ6 267 (252645135)]
def wsX10_restore : List Cond := .code yX10_restore cX10_restore 1 (some .int) :: ((wsX10_restore_r1 ++ wsX10_restore_r2) ++ wsX100 ++ wsX80)
def wsX10_count : List Cond := .code yX10_count cX10_count 2 (some .int) :: ([.fieldLink RX10 19 "BoiledEggs" "home" "LBoiledEggs$Kitchen;", .fieldLink RX10 26 "BoiledEggs" "told" "LBoiledEggs$Told;", .fieldLink RX10 79 "BoiledEggs" "trierCount" "I", .fieldLink RX10 10 "BoiledEggs" "page" "LBoiledEggs$Page;", .fieldLink RX10 87 "BoiledEggs" "kitchensRead" "I", .fieldLink RX10 188 "BoiledEggs" "breakingsDone" "I", .methodLink RX10 146 yX8_howManyInBox, .instanceMethod yX8_howManyInBox, .selects RX8 yX8_howManyInBox yX8_howManyInBox, .initialized RX8, .code yX8_howManyInBox cX8_howManyInBox 1 (some .int), .fieldLink RX8 55 "BoiledEggs$Told" "inBox" "I", .methodLink RX8 38 yJ6_bitCount_0f7a4, .static yJ6_bitCount_0f7a4, .initialized RJ6, .code yJ6_bitCount_0f7a4 cJ6_bitCount_0f7a4 1 (some .int), .constant RJ6 265 (1431655765), .constant RJ6 266 (858993459), .constant RJ6 267 (252645135)] ++ wsX100 ++ wsX60 ++ wsX80 ++ wsX70)
def wsX10_with : List Cond := .code yX10_with cX10_with 4 (some .long) :: ([.constantLong RX10 313 (31)])
def wsX10_withEgg_r1 : List Cond := [Cond.methodLink RX10 306 yX10_egg, Cond.instanceMethod yX10_egg, Cond.selects RX10 yX10_egg yX10_egg, Cond.initialized RX10, Cond.code yX10_egg cX10_egg 3 (some .int), Cond.fieldLink RX10 19 "BoiledEggs" "home" "LBoiledEggs$Kitchen;", Cond.fieldLink RX10 26 "BoiledEggs" "told" "LBoiledEggs$Told;", Cond.methodLink RX10 93 yX10_isEgg, Cond.instanceMethod yX10_isEgg, Cond.selects RX10 yX10_isEgg yX10_isEgg, Cond.code yX10_isEgg cX10_isEgg 2 (some .boolean), Cond.methodLink RX10 101 yX8_isInBox, Cond.instanceMethod yX8_isInBox, Cond.selects RX8 yX8_isInBox yX8_isInBox, Cond.initialized RX8, Cond.code yX8_isInBox cX8_isInBox 2 (some .boolean), Cond.fieldLink RX8 55 "BoiledEggs$Told" "inBox" "I", Cond.static yX10_has, Cond.code yX10_has cX10_has 2 (some .boolean), Cond.methodLink RX10 286 yX10_with, Cond.static yX10_with, Cond.code yX10_with cX10_with 4 (some .long), Cond.constantLong RX10 313 (31), Cond.methodLink RX10 309 yX10_likely]
def wsX10_withEgg_r2 : List Cond := [Cond.instanceMethod yX10_likely, Cond.selects RX10 yX10_likely yX10_likely, Cond.code yX10_likely cX10_likely 3 (some .long), Cond.constantLong RX10 149 (-101), Cond.constantLong RX10 154 (-102), Cond.methodLink RX10 151 yX10_isPart, Cond.static yX10_isPart, Cond.code yX10_isPart cX10_isPart 1 (some .boolean), Cond.methodLink RX10 156 yX8_boiledWeight, Cond.instanceMethod yX8_boiledWeight, Cond.selects RX8 yX8_boiledWeight yX8_boiledWeight, Cond.code yX8_boiledWeight cX8_boiledWeight 5 (some .long), Cond.fieldLink RX8 28 "BoiledEggs$Told" "fitting" "I", Cond.fieldLink RX8 9 "BoiledEggs$Told" "boxes" "[I", Cond.fieldLink RX8 15 "BoiledEggs$Told" "weights" "[J", Cond.methodLink RX10 160 yX8_allWeight, Cond.instanceMethod yX8_allWeight, Cond.selects RX8 yX8_allWeight yX8_allWeight, Cond.code yX8_allWeight cX8_allWeight 4 (some .long), Cond.methodLink RX10 164 yX10_inLowestTerms, Cond.static yX10_inLowestTerms, Cond.code yX10_inLowestTerms cX10_inLowestTerms 9 (some .long), Cond.methodLink RX10 315 yX10_commonDivisor, Cond.static yX10_commonDivisor]
def wsX10_withEgg_r3 : List Cond := [Cond.code yX10_commonDivisor cX10_commonDivisor 11 (some .long)]
def wsX10_withEgg : List Cond := .code yX10_withEgg cX10_withEgg 7 (some .long) :: ((wsX10_withEgg_r1 ++ (wsX10_withEgg_r2 ++ wsX10_withEgg_r3)) ++ wsX100 ++ wsX60 ++ wsX80)
def wsX10_digest_r1 : List Cond := [Cond.constantLong RX10 276 (787), Cond.fieldLink RX10 19 "BoiledEggs" "home" "LBoiledEggs$Kitchen;", Cond.fieldLink RX10 79 "BoiledEggs" "trierCount" "I", Cond.fieldLink RX10 10 "BoiledEggs" "page" "LBoiledEggs$Page;", Cond.methodLink RX10 278 yX10_withEgg, Cond.instanceMethod yX10_withEgg, Cond.selects RX10 yX10_withEgg yX10_withEgg, Cond.initialized RX10, Cond.code yX10_withEgg cX10_withEgg 7 (some .long), Cond.methodLink RX10 306 yX10_egg, Cond.instanceMethod yX10_egg, Cond.selects RX10 yX10_egg yX10_egg, Cond.code yX10_egg cX10_egg 3 (some .int), Cond.fieldLink RX10 26 "BoiledEggs" "told" "LBoiledEggs$Told;", Cond.methodLink RX10 93 yX10_isEgg, Cond.instanceMethod yX10_isEgg, Cond.selects RX10 yX10_isEgg yX10_isEgg, Cond.code yX10_isEgg cX10_isEgg 2 (some .boolean), Cond.methodLink RX10 101 yX8_isInBox, Cond.instanceMethod yX8_isInBox, Cond.selects RX8 yX8_isInBox yX8_isInBox, Cond.initialized RX8, Cond.code yX8_isInBox cX8_isInBox 2 (some .boolean), Cond.fieldLink RX8 55 "BoiledEggs$Told" "inBox" "I"]
def wsX10_digest_r2 : List Cond := [Cond.static yX10_has, Cond.code yX10_has cX10_has 2 (some .boolean), Cond.methodLink RX10 286 yX10_with, Cond.static yX10_with, Cond.code yX10_with cX10_with 4 (some .long), Cond.constantLong RX10 313 (31), Cond.methodLink RX10 309 yX10_likely, Cond.instanceMethod yX10_likely, Cond.selects RX10 yX10_likely yX10_likely, Cond.code yX10_likely cX10_likely 3 (some .long), Cond.constantLong RX10 149 (-101), Cond.constantLong RX10 154 (-102), Cond.methodLink RX10 151 yX10_isPart, Cond.static yX10_isPart, Cond.code yX10_isPart cX10_isPart 1 (some .boolean), Cond.methodLink RX10 156 yX8_boiledWeight, Cond.instanceMethod yX8_boiledWeight, Cond.selects RX8 yX8_boiledWeight yX8_boiledWeight, Cond.code yX8_boiledWeight cX8_boiledWeight 5 (some .long), Cond.fieldLink RX8 28 "BoiledEggs$Told" "fitting" "I", Cond.fieldLink RX8 9 "BoiledEggs$Told" "boxes" "[I", Cond.fieldLink RX8 15 "BoiledEggs$Told" "weights" "[J", Cond.methodLink RX10 160 yX8_allWeight, Cond.instanceMethod yX8_allWeight]
def wsX10_digest_r3 : List Cond := [Cond.selects RX8 yX8_allWeight yX8_allWeight, Cond.code yX8_allWeight cX8_allWeight 4 (some .long), Cond.methodLink RX10 164 yX10_inLowestTerms, Cond.static yX10_inLowestTerms, Cond.code yX10_inLowestTerms cX10_inLowestTerms 9 (some .long), Cond.methodLink RX10 315 yX10_commonDivisor, Cond.static yX10_commonDivisor, Cond.code yX10_commonDivisor cX10_commonDivisor 11 (some .long), Cond.methodLink RX10 282 yX10_about, Cond.instanceMethod yX10_about, Cond.selects RX10 yX10_about yX10_about, Cond.code yX10_about cX10_about 4 (some .int), Cond.methodLink RX10 221 yX10_trierOf, Cond.instanceMethod yX10_trierOf, Cond.selects RX10 yX10_trierOf yX10_trierOf, Cond.code yX10_trierOf cX10_trierOf 2 (some (.object "BoiledEggs$Trier")), Cond.fieldLink RX10 49 "BoiledEggs" "triers" "[LBoiledEggs$Trier;", Cond.methodLink RX10 224 ⟨"BoiledEggs$Trier", "kind", "()I"⟩, Cond.sameMethod "BoiledEggs$Trier" "BoiledEggs$Trier" "kind" "()I", Cond.instanceMethod ⟨"BoiledEggs$Trier", "kind", "()I"⟩, Cond.selects RX0 ⟨"BoiledEggs$Trier", "kind", "()I"⟩ yX0_kind, Cond.instanceMethod yX0_kind, Cond.initialized RX0, Cond.code yX0_kind cX0_kind 1 (some .int)]
def wsX10_digest_r4 : List Cond := [Cond.code yX9_kind cX9_kind 1 (some .int), Cond.selects RX2 ⟨"BoiledEggs$Trier", "kind", "()I"⟩ yX2_kind, Cond.instanceMethod yX2_kind, Cond.initialized RX2, Cond.code yX2_kind cX2_kind 1 (some .int), Cond.selects RX4 ⟨"BoiledEggs$Trier", "kind", "()I"⟩ yX4_kind, Cond.instanceMethod yX4_kind, Cond.initialized RX4, Cond.code yX4_kind cX4_kind 1 (some .int), Cond.selects RX5 ⟨"BoiledEggs$Trier", "kind", "()I"⟩ yX5_kind, Cond.instanceMethod yX5_kind, Cond.initialized RX5, Cond.code yX5_kind cX5_kind 1 (some .int), Cond.methodLink RX10 224 yX9_kind, Cond.instanceMethod yX9_kind, Cond.selects RX9 yX9_kind yX9_kind, Cond.initialized RX9, Cond.methodLink RX10 227 ⟨"BoiledEggs$Trier", "nextEgg", "(LBoiledEggs$Told;)I"⟩, Cond.sameMethod "BoiledEggs$Trier" "BoiledEggs$Trier" "nextEgg" "(LBoiledEggs$Told;)I", Cond.selects RX0 ⟨"BoiledEggs$Trier", "nextEgg", "(LBoiledEggs$Told;)I"⟩ yX9_nextEgg, Cond.instanceMethod yX9_nextEgg, Cond.code yX9_nextEgg cX9_nextEgg 9 (some .int), Cond.methodLink RX9 9 yX8_isInBox, Cond.methodLink RX9 15 ⟨"BoiledEggs$Trier", "score", "(LBoiledEggs$Told;I)J"⟩]
def wsX10_digest_r5 : List Cond := [Cond.sameMethod "BoiledEggs$Trier" "BoiledEggs$Trier" "score" "(LBoiledEggs$Told;I)J", Cond.instanceMethod ⟨"BoiledEggs$Trier", "score", "(LBoiledEggs$Told;I)J"⟩, Cond.selects RX0 ⟨"BoiledEggs$Trier", "score", "(LBoiledEggs$Told;I)J"⟩ yX0_score, Cond.instanceMethod yX0_score, Cond.code yX0_score cX0_score 3 (some .long), Cond.methodLink RX0 7 yX8_boiledWeight, Cond.code yX9_score cX9_score 3 (some .long), Cond.selects RX2 ⟨"BoiledEggs$Trier", "score", "(LBoiledEggs$Told;I)J"⟩ yX2_score, Cond.instanceMethod yX2_score, Cond.code yX2_score cX2_score 3 (some .long), Cond.constantLong RX2 7 (2), Cond.methodLink RX2 19 Lib.MathLoose.abs_long.x, Cond.static Lib.MathLoose.abs_long.x, Cond.initialized "java/lang/Math", Cond.code Lib.MathLoose.abs_long.x Lib.MathLoose.abs_long.code 2 (some .long), Cond.methodLink RX2 9 yX8_boiledWeight, Cond.methodLink RX2 15 yX8_allWeight, Cond.selects RX4 ⟨"BoiledEggs$Trier", "score", "(LBoiledEggs$Told;I)J"⟩ yX5_score, Cond.instanceMethod yX5_score, Cond.code yX5_score cX5_score 3 (some .long), Cond.methodLink RX5 7 yX8_boiledWeight, Cond.selects RX5 ⟨"BoiledEggs$Trier", "score", "(LBoiledEggs$Told;I)J"⟩ yX5_score, Cond.methodLink RX9 15 yX9_score, Cond.instanceMethod yX9_score]
def wsX10_digest_r6 : List Cond := [Cond.selects RX9 yX9_score yX9_score, Cond.methodLink RX9 21 ⟨"BoiledEggs$Trier", "takesLast", "()Z"⟩, Cond.sameMethod "BoiledEggs$Trier" "BoiledEggs$Trier" "takesLast" "()Z", Cond.selects RX0 ⟨"BoiledEggs$Trier", "takesLast", "()Z"⟩ yX9_takesLast, Cond.instanceMethod yX9_takesLast, Cond.code yX9_takesLast cX9_takesLast 1 (some .boolean), Cond.selects RX2 ⟨"BoiledEggs$Trier", "takesLast", "()Z"⟩ yX9_takesLast, Cond.instanceMethod ⟨"BoiledEggs$Trier", "takesLast", "()Z"⟩, Cond.selects RX4 ⟨"BoiledEggs$Trier", "takesLast", "()Z"⟩ yX4_takesLast, Cond.instanceMethod yX4_takesLast, Cond.code yX4_takesLast cX4_takesLast 1 (some .boolean), Cond.selects RX5 ⟨"BoiledEggs$Trier", "takesLast", "()Z"⟩ yX9_takesLast, Cond.methodLink RX9 21 yX9_takesLast, Cond.selects RX9 yX9_takesLast yX9_takesLast, Cond.selects RX2 ⟨"BoiledEggs$Trier", "nextEgg", "(LBoiledEggs$Told;)I"⟩ yX9_nextEgg, Cond.selects RX4 ⟨"BoiledEggs$Trier", "nextEgg", "(LBoiledEggs$Told;)I"⟩ yX9_nextEgg, Cond.selects RX5 ⟨"BoiledEggs$Trier", "nextEgg", "(LBoiledEggs$Told;)I"⟩ yX9_nextEgg, Cond.methodLink RX10 227 yX9_nextEgg, Cond.selects RX9 yX9_nextEgg yX9_nextEgg, Cond.methodLink RX10 168 yX10_hasKitchen, Cond.instanceMethod yX10_hasKitchen, Cond.selects RX10 yX10_hasKitchen yX10_hasKitchen, Cond.code yX10_hasKitchen cX10_hasKitchen 1 (some .boolean), Cond.methodLink RX10 290 yX10_likeliest]
def wsX10_digest_r7 : List Cond := [Cond.instanceMethod yX10_likeliest, Cond.selects RX10 yX10_likeliest yX10_likeliest, Cond.code yX10_likeliest cX10_likeliest 1 (some .int), Cond.methodLink RX10 171 yX8_heaviestBox, Cond.instanceMethod yX8_heaviestBox, Cond.selects RX8 yX8_heaviestBox yX8_heaviestBox, Cond.code yX8_heaviestBox cX8_heaviestBox 3 (some .int), Cond.methodLink RX10 293 yX10_fits, Cond.instanceMethod yX10_fits, Cond.selects RX10 yX10_fits yX10_fits, Cond.code yX10_fits cX10_fits 2 (some .int), Cond.methodLink RX10 238 yX6_allEggs, Cond.instanceMethod yX6_allEggs, Cond.selects RX6 yX6_allEggs yX6_allEggs, Cond.initialized RX6, Cond.code yX6_allEggs cX6_allEggs 1 (some .int), Cond.fieldLink RX6 27 "BoiledEggs$Kitchen" "eggs" "I", Cond.methodLink RX10 241 yX8_surelyBoiled, Cond.instanceMethod yX8_surelyBoiled, Cond.selects RX8 yX8_surelyBoiled yX8_surelyBoiled, Cond.code yX8_surelyBoiled cX8_surelyBoiled 4 (some .int), Cond.methodLink RX10 244 yX8_surelyRaw, Cond.instanceMethod yX8_surelyRaw, Cond.selects RX8 yX8_surelyRaw yX8_surelyRaw]
def wsX10_digest_r8 : List Cond := [Cond.code yX8_surelyRaw cX8_surelyRaw 4 (some .int), Cond.methodLink RX10 299 yX10_count, Cond.instanceMethod yX10_count, Cond.selects RX10 yX10_count yX10_count, Cond.code yX10_count cX10_count 2 (some .int), Cond.fieldLink RX10 87 "BoiledEggs" "kitchensRead" "I", Cond.fieldLink RX10 188 "BoiledEggs" "breakingsDone" "I", Cond.methodLink RX10 146 yX8_howManyInBox, Cond.instanceMethod yX8_howManyInBox, Cond.selects RX8 yX8_howManyInBox yX8_howManyInBox, Cond.code yX8_howManyInBox cX8_howManyInBox 1 (some .int), Cond.methodLink RX8 38 yJ6_bitCount_0f7a4, Cond.static yJ6_bitCount_0f7a4, Cond.initialized RJ6, Cond.code yJ6_bitCount_0f7a4 cJ6_bitCount_0f7a4 1 (some .int), Cond.constant RJ6 265 (1431655765), Cond.constant RJ6 266 (858993459), Cond.constant RJ6 267 (252645135)]
def wsX10_digest : List Cond := .code yX10_digest cX10_digest 5 (some .long) :: ((wsX10_digest_r1 ++ (wsX10_digest_r2 ++ (wsX10_digest_r3 ++ (wsX10_digest_r4 ++ (wsX10_digest_r5 ++ (wsX10_digest_r6 ++ (wsX10_digest_r7 ++ wsX10_digest_r8))))))) ++ wsX100 ++ wsX60 ++ wsX70 ++ wsX80)
def wsX11_init : List Cond := .code yX11_init cX11_init 1 none :: ([.methodLink RX11 1 objectInit, .instanceMethod objectInit, .code objectInit ⟨#[0xb1]⟩ 1 none, .arrayClass .int, .fieldLink RX11 7 "BoiledEggsModel" "habitOf" "[I", .fieldLink RX11 13 "BoiledEggsModel" "spinsOf" "[I", .fieldLink RX11 16 "BoiledEggsModel" "turnedOf" "[I", .fieldLink RX11 19 "BoiledEggsModel" "knownOf" "[I", .fieldLink RX11 22 "BoiledEggsModel" "kindOf" "[I", .arrayClass .byte, .fieldLink RX11 25 "BoiledEggsModel" "page" "[B", .arrayClass .long, .fieldLink RX11 29 "BoiledEggsModel" "weightOf" "[J", .fieldLink RX11 33 "BoiledEggsModel" "worstOf" "[I", .fieldLink RX11 36 "BoiledEggsModel" "meanOf" "[J", .fieldLink RX11 39 "BoiledEggsModel" "boxWeight" "[J", .fieldLink RX11 42 "BoiledEggsModel" "keptSpinsOf" "[I", .fieldLink RX11 45 "BoiledEggsModel" "keptTurned" "[I", .fieldLink RX11 48 "BoiledEggsModel" "keptKnown" "[I"] ++ wsX110)
def wsX11_within : List Cond := .code yX11_within cX11_within 3 (some .boolean) :: ([])
def wsX11_has : List Cond := .code yX11_has cX11_has 2 (some .boolean) :: ([])
def wsX11_size : List Cond := .code yX11_size cX11_size 3 (some .int) :: ([])
def wsX11_lowest : List Cond := .code yX11_lowest cX11_lowest 11 (some .long) :: ([])
def wsX11_letter : List Cond := .code yX11_letter cX11_letter 2 (some .int) :: ([.fieldLink RX11 55 "BoiledEggsModel" "pageLength" "I", .fieldLink RX11 25 "BoiledEggsModel" "page" "[B", .methodLink RX11 51 yX11_within, .static yX11_within, .initialized RX11, .code yX11_within cX11_within 3 (some .boolean)] ++ wsX110)
def wsX11_blank : List Cond := .code yX11_blank cX11_blank 2 (some .int) :: ([.fieldLink RX11 55 "BoiledEggsModel" "pageLength" "I"] ++ wsX110)
def wsX11_figure : List Cond := .code yX11_figure cX11_figure 2 (some .int) :: ([.fieldLink RX11 25 "BoiledEggsModel" "page" "[B"] ++ wsX110)
def wsX11_isGood : List Cond := .code yX11_isGood cX11_isGood 2 (some .boolean) :: ([.fieldLink RX11 25 "BoiledEggsModel" "page" "[B", .methodLink RX11 59 yX11_figure, .instanceMethod yX11_figure, .selects RX11 yX11_figure yX11_figure, .initialized RX11, .code yX11_figure cX11_figure 2 (some .int), .methodLink RX11 51 yX11_within, .static yX11_within, .code yX11_within cX11_within 3 (some .boolean)] ++ wsX110)
def wsX11_faultNow : List Cond := .code yX11_faultNow cX11_faultNow 2 (some .int) :: ([.fieldLink RX11 55 "BoiledEggsModel" "pageLength" "I", .methodLink RX11 63 yX11_isGood, .instanceMethod yX11_isGood, .selects RX11 yX11_isGood yX11_isGood, .initialized RX11, .code yX11_isGood cX11_isGood 2 (some .boolean), .fieldLink RX11 25 "BoiledEggsModel" "page" "[B", .methodLink RX11 59 yX11_figure, .instanceMethod yX11_figure, .selects RX11 yX11_figure yX11_figure, .code yX11_figure cX11_figure 2 (some .int), .methodLink RX11 51 yX11_within, .static yX11_within, .code yX11_within cX11_within 3 (some .boolean)] ++ wsX110)
def wsX11_fault : List Cond := .code yX11_fault cX11_fault 1 (some .int) :: ([.methodLink RX11 67 yX11_faultNow, .instanceMethod yX11_faultNow, .selects RX11 yX11_faultNow yX11_faultNow, .initialized RX11, .code yX11_faultNow cX11_faultNow 2 (some .int), .fieldLink RX11 55 "BoiledEggsModel" "pageLength" "I", .methodLink RX11 63 yX11_isGood, .instanceMethod yX11_isGood, .selects RX11 yX11_isGood yX11_isGood, .code yX11_isGood cX11_isGood 2 (some .boolean), .fieldLink RX11 25 "BoiledEggsModel" "page" "[B", .methodLink RX11 59 yX11_figure, .instanceMethod yX11_figure, .selects RX11 yX11_figure yX11_figure, .code yX11_figure cX11_figure 2 (some .int), .methodLink RX11 51 yX11_within, .static yX11_within, .code yX11_within cX11_within 3 (some .boolean)] ++ wsX110)
def wsX11_kitchen_r1 : List Cond := [Cond.fieldLink RX11 55 "BoiledEggsModel" "pageLength" "I", Cond.fieldLink RX11 71 "BoiledEggsModel" "eggs" "I", Cond.fieldLink RX11 74 "BoiledEggsModel" "boiled" "I", Cond.fieldLink RX11 77 "BoiledEggsModel" "turnsBoiled" "I", Cond.fieldLink RX11 80 "BoiledEggsModel" "turnsRaw" "I", Cond.fieldLink RX11 83 "BoiledEggsModel" "falls" "I", Cond.fieldLink RX11 7 "BoiledEggsModel" "habitOf" "[I", Cond.fieldLink RX11 13 "BoiledEggsModel" "spinsOf" "[I", Cond.fieldLink RX11 16 "BoiledEggsModel" "turnedOf" "[I", Cond.fieldLink RX11 19 "BoiledEggsModel" "knownOf" "[I", Cond.fieldLink RX11 86 "BoiledEggsModel" "inBox" "I", Cond.fieldLink RX11 89 "BoiledEggsModel" "spins" "I", Cond.fieldLink RX11 92 "BoiledEggsModel" "triers" "I", Cond.fieldLink RX11 95 "BoiledEggsModel" "kitchens" "I", Cond.methodLink RX11 67 yX11_faultNow, Cond.instanceMethod yX11_faultNow, Cond.selects RX11 yX11_faultNow yX11_faultNow, Cond.initialized RX11, Cond.code yX11_faultNow cX11_faultNow 2 (some .int), Cond.methodLink RX11 63 yX11_isGood, Cond.instanceMethod yX11_isGood, Cond.selects RX11 yX11_isGood yX11_isGood, Cond.code yX11_isGood cX11_isGood 2 (some .boolean), Cond.fieldLink RX11 25 "BoiledEggsModel" "page" "[B"]
def wsX11_kitchen_r2 : List Cond := [Cond.methodLink RX11 59 yX11_figure, Cond.instanceMethod yX11_figure, Cond.selects RX11 yX11_figure yX11_figure, Cond.code yX11_figure cX11_figure 2 (some .int), Cond.methodLink RX11 51 yX11_within, Cond.static yX11_within, Cond.code yX11_within cX11_within 3 (some .boolean)]
def wsX11_kitchen : List Cond := .code yX11_kitchen cX11_kitchen 2 (some .int) :: ((wsX11_kitchen_r1 ++ wsX11_kitchen_r2) ++ wsX110)
def wsX11_isEgg : List Cond := .code yX11_isEgg cX11_isEgg 2 (some .boolean) :: ([.fieldLink RX11 71 "BoiledEggsModel" "eggs" "I", .methodLink RX11 51 yX11_within, .static yX11_within, .initialized RX11, .code yX11_within cX11_within 3 (some .boolean)] ++ wsX110)
def wsX11_eggNow : List Cond := .code yX11_eggNow cX11_eggNow 3 (some .int) :: ([.fieldLink RX11 7 "BoiledEggsModel" "habitOf" "[I", .fieldLink RX11 86 "BoiledEggsModel" "inBox" "I", .fieldLink RX11 13 "BoiledEggsModel" "spinsOf" "[I", .fieldLink RX11 16 "BoiledEggsModel" "turnedOf" "[I", .fieldLink RX11 19 "BoiledEggsModel" "knownOf" "[I"] ++ wsX110)
def wsX11_egg : List Cond := .code yX11_egg cX11_egg 3 (some .int) :: ([.methodLink RX11 98 yX11_isEgg, .instanceMethod yX11_isEgg, .selects RX11 yX11_isEgg yX11_isEgg, .initialized RX11, .code yX11_isEgg cX11_isEgg 2 (some .boolean), .fieldLink RX11 71 "BoiledEggsModel" "eggs" "I", .methodLink RX11 51 yX11_within, .static yX11_within, .code yX11_within cX11_within 3 (some .boolean), .methodLink RX11 101 yX11_eggNow, .instanceMethod yX11_eggNow, .selects RX11 yX11_eggNow yX11_eggNow, .code yX11_eggNow cX11_eggNow 3 (some .int), .fieldLink RX11 7 "BoiledEggsModel" "habitOf" "[I", .fieldLink RX11 86 "BoiledEggsModel" "inBox" "I", .fieldLink RX11 13 "BoiledEggsModel" "spinsOf" "[I", .fieldLink RX11 16 "BoiledEggsModel" "turnedOf" "[I", .fieldLink RX11 19 "BoiledEggsModel" "knownOf" "[I"] ++ wsX110)
def wsX11_power : List Cond := .code yX11_power cX11_power 5 (some .long) :: ([])
def wsX11_spun : List Cond := .code yX11_spun cX11_spun 3 (some .long) :: ([.fieldLink RX11 16 "BoiledEggsModel" "turnedOf" "[I", .fieldLink RX11 13 "BoiledEggsModel" "spinsOf" "[I", .methodLink RX11 105 yX11_power, .static yX11_power, .initialized RX11, .code yX11_power cX11_power 5 (some .long)] ++ wsX110)
def wsX11_weight : List Cond := .code yX11_weight cX11_weight 10 (some .long) :: ([.fieldLink RX11 74 "BoiledEggsModel" "boiled" "I", .fieldLink RX11 71 "BoiledEggsModel" "eggs" "I", .fieldLink RX11 19 "BoiledEggsModel" "knownOf" "[I", .fieldLink RX11 77 "BoiledEggsModel" "turnsBoiled" "I", .fieldLink RX11 80 "BoiledEggsModel" "turnsRaw" "I", .fieldLink RX11 7 "BoiledEggsModel" "habitOf" "[I", .methodLink RX11 109 yX11_size, .static yX11_size, .initialized RX11, .code yX11_size cX11_size 3 (some .int), .methodLink RX11 112 yX11_has, .static yX11_has, .code yX11_has cX11_has 2 (some .boolean), .methodLink RX11 116 yX11_spun, .instanceMethod yX11_spun, .selects RX11 yX11_spun yX11_spun, .code yX11_spun cX11_spun 3 (some .long), .fieldLink RX11 16 "BoiledEggsModel" "turnedOf" "[I", .fieldLink RX11 13 "BoiledEggsModel" "spinsOf" "[I", .methodLink RX11 105 yX11_power, .static yX11_power, .code yX11_power cX11_power 5 (some .long)] ++ wsX110)
def wsX11_total_r1 : List Cond := [Cond.fieldLink RX11 71 "BoiledEggsModel" "eggs" "I", Cond.methodLink RX11 119 yX11_weight, Cond.instanceMethod yX11_weight, Cond.selects RX11 yX11_weight yX11_weight, Cond.initialized RX11, Cond.code yX11_weight cX11_weight 10 (some .long), Cond.fieldLink RX11 74 "BoiledEggsModel" "boiled" "I", Cond.fieldLink RX11 19 "BoiledEggsModel" "knownOf" "[I", Cond.fieldLink RX11 77 "BoiledEggsModel" "turnsBoiled" "I", Cond.fieldLink RX11 80 "BoiledEggsModel" "turnsRaw" "I", Cond.fieldLink RX11 7 "BoiledEggsModel" "habitOf" "[I", Cond.methodLink RX11 109 yX11_size, Cond.static yX11_size, Cond.code yX11_size cX11_size 3 (some .int), Cond.methodLink RX11 112 yX11_has, Cond.static yX11_has, Cond.code yX11_has cX11_has 2 (some .boolean), Cond.methodLink RX11 116 yX11_spun, Cond.instanceMethod yX11_spun, Cond.selects RX11 yX11_spun yX11_spun, Cond.code yX11_spun cX11_spun 3 (some .long), Cond.fieldLink RX11 16 "BoiledEggsModel" "turnedOf" "[I", Cond.fieldLink RX11 13 "BoiledEggsModel" "spinsOf" "[I", Cond.methodLink RX11 105 yX11_power]
def wsX11_total_r2 : List Cond := [Cond.static yX11_power, Cond.code yX11_power cX11_power 5 (some .long)]
def wsX11_total : List Cond := .code yX11_total cX11_total 6 (some .long) :: ((wsX11_total_r1 ++ wsX11_total_r2) ++ wsX110)
def wsX11_boiledWeight_r1 : List Cond := [Cond.fieldLink RX11 71 "BoiledEggsModel" "eggs" "I", Cond.methodLink RX11 112 yX11_has, Cond.static yX11_has, Cond.initialized RX11, Cond.code yX11_has cX11_has 2 (some .boolean), Cond.methodLink RX11 119 yX11_weight, Cond.instanceMethod yX11_weight, Cond.selects RX11 yX11_weight yX11_weight, Cond.code yX11_weight cX11_weight 10 (some .long), Cond.fieldLink RX11 74 "BoiledEggsModel" "boiled" "I", Cond.fieldLink RX11 19 "BoiledEggsModel" "knownOf" "[I", Cond.fieldLink RX11 77 "BoiledEggsModel" "turnsBoiled" "I", Cond.fieldLink RX11 80 "BoiledEggsModel" "turnsRaw" "I", Cond.fieldLink RX11 7 "BoiledEggsModel" "habitOf" "[I", Cond.methodLink RX11 109 yX11_size, Cond.static yX11_size, Cond.code yX11_size cX11_size 3 (some .int), Cond.methodLink RX11 116 yX11_spun, Cond.instanceMethod yX11_spun, Cond.selects RX11 yX11_spun yX11_spun, Cond.code yX11_spun cX11_spun 3 (some .long), Cond.fieldLink RX11 16 "BoiledEggsModel" "turnedOf" "[I", Cond.fieldLink RX11 13 "BoiledEggsModel" "spinsOf" "[I", Cond.methodLink RX11 105 yX11_power]
def wsX11_boiledWeight_r2 : List Cond := [Cond.static yX11_power, Cond.code yX11_power cX11_power 5 (some .long)]
def wsX11_boiledWeight : List Cond := .code yX11_boiledWeight cX11_boiledWeight 6 (some .long) :: ((wsX11_boiledWeight_r1 ++ wsX11_boiledWeight_r2) ++ wsX110)
def wsX11_isInBox : List Cond := .code yX11_isInBox cX11_isInBox 2 (some .boolean) :: ([.fieldLink RX11 86 "BoiledEggsModel" "inBox" "I", .methodLink RX11 112 yX11_has, .static yX11_has, .initialized RX11, .code yX11_has cX11_has 2 (some .boolean)] ++ wsX110)
def wsX11_spin_r1 : List Cond := [Cond.fieldLink RX11 13 "BoiledEggsModel" "spinsOf" "[I", Cond.fieldLink RX11 16 "BoiledEggsModel" "turnedOf" "[I", Cond.fieldLink RX11 89 "BoiledEggsModel" "spins" "I", Cond.methodLink RX11 98 yX11_isEgg, Cond.instanceMethod yX11_isEgg, Cond.selects RX11 yX11_isEgg yX11_isEgg, Cond.initialized RX11, Cond.code yX11_isEgg cX11_isEgg 2 (some .boolean), Cond.fieldLink RX11 71 "BoiledEggsModel" "eggs" "I", Cond.methodLink RX11 51 yX11_within, Cond.static yX11_within, Cond.code yX11_within cX11_within 3 (some .boolean), Cond.methodLink RX11 123 yX11_isInBox, Cond.instanceMethod yX11_isInBox, Cond.selects RX11 yX11_isInBox yX11_isInBox, Cond.code yX11_isInBox cX11_isInBox 2 (some .boolean), Cond.fieldLink RX11 86 "BoiledEggsModel" "inBox" "I", Cond.methodLink RX11 112 yX11_has, Cond.static yX11_has, Cond.code yX11_has cX11_has 2 (some .boolean), Cond.methodLink RX11 126 yX11_total, Cond.instanceMethod yX11_total, Cond.selects RX11 yX11_total yX11_total, Cond.code yX11_total cX11_total 6 (some .long)]
def wsX11_spin_r2 : List Cond := [Cond.methodLink RX11 119 yX11_weight, Cond.instanceMethod yX11_weight, Cond.selects RX11 yX11_weight yX11_weight, Cond.code yX11_weight cX11_weight 10 (some .long), Cond.fieldLink RX11 74 "BoiledEggsModel" "boiled" "I", Cond.fieldLink RX11 19 "BoiledEggsModel" "knownOf" "[I", Cond.fieldLink RX11 77 "BoiledEggsModel" "turnsBoiled" "I", Cond.fieldLink RX11 80 "BoiledEggsModel" "turnsRaw" "I", Cond.fieldLink RX11 7 "BoiledEggsModel" "habitOf" "[I", Cond.methodLink RX11 109 yX11_size, Cond.static yX11_size, Cond.code yX11_size cX11_size 3 (some .int), Cond.methodLink RX11 116 yX11_spun, Cond.instanceMethod yX11_spun, Cond.selects RX11 yX11_spun yX11_spun, Cond.code yX11_spun cX11_spun 3 (some .long), Cond.methodLink RX11 105 yX11_power, Cond.static yX11_power, Cond.code yX11_power cX11_power 5 (some .long)]
def wsX11_spin : List Cond := .code yX11_spin cX11_spin 4 (some .int) :: ((wsX11_spin_r1 ++ wsX11_spin_r2) ++ wsX110)
def wsX11_know_r1 : List Cond := [Cond.fieldLink RX11 19 "BoiledEggsModel" "knownOf" "[I", Cond.methodLink RX11 126 yX11_total, Cond.instanceMethod yX11_total, Cond.selects RX11 yX11_total yX11_total, Cond.initialized RX11, Cond.code yX11_total cX11_total 6 (some .long), Cond.fieldLink RX11 71 "BoiledEggsModel" "eggs" "I", Cond.methodLink RX11 119 yX11_weight, Cond.instanceMethod yX11_weight, Cond.selects RX11 yX11_weight yX11_weight, Cond.code yX11_weight cX11_weight 10 (some .long), Cond.fieldLink RX11 74 "BoiledEggsModel" "boiled" "I", Cond.fieldLink RX11 77 "BoiledEggsModel" "turnsBoiled" "I", Cond.fieldLink RX11 80 "BoiledEggsModel" "turnsRaw" "I", Cond.fieldLink RX11 7 "BoiledEggsModel" "habitOf" "[I", Cond.methodLink RX11 109 yX11_size, Cond.static yX11_size, Cond.code yX11_size cX11_size 3 (some .int), Cond.methodLink RX11 112 yX11_has, Cond.static yX11_has, Cond.code yX11_has cX11_has 2 (some .boolean), Cond.methodLink RX11 116 yX11_spun, Cond.instanceMethod yX11_spun, Cond.selects RX11 yX11_spun yX11_spun]
def wsX11_know_r2 : List Cond := [Cond.code yX11_spun cX11_spun 3 (some .long), Cond.fieldLink RX11 16 "BoiledEggsModel" "turnedOf" "[I", Cond.fieldLink RX11 13 "BoiledEggsModel" "spinsOf" "[I", Cond.methodLink RX11 105 yX11_power, Cond.static yX11_power, Cond.code yX11_power cX11_power 5 (some .long)]
def wsX11_know : List Cond := .code yX11_know cX11_know 5 (some .boolean) :: ((wsX11_know_r1 ++ wsX11_know_r2) ++ wsX110)
def wsX11_stop_r1 : List Cond := [Cond.fieldLink RX11 83 "BoiledEggsModel" "falls" "I", Cond.fieldLink RX11 86 "BoiledEggsModel" "inBox" "I", Cond.methodLink RX11 98 yX11_isEgg, Cond.instanceMethod yX11_isEgg, Cond.selects RX11 yX11_isEgg yX11_isEgg, Cond.initialized RX11, Cond.code yX11_isEgg cX11_isEgg 2 (some .boolean), Cond.fieldLink RX11 71 "BoiledEggsModel" "eggs" "I", Cond.methodLink RX11 51 yX11_within, Cond.static yX11_within, Cond.code yX11_within cX11_within 3 (some .boolean), Cond.methodLink RX11 123 yX11_isInBox, Cond.instanceMethod yX11_isInBox, Cond.selects RX11 yX11_isInBox yX11_isInBox, Cond.code yX11_isInBox cX11_isInBox 2 (some .boolean), Cond.methodLink RX11 112 yX11_has, Cond.static yX11_has, Cond.code yX11_has cX11_has 2 (some .boolean), Cond.methodLink RX11 129 yX11_know, Cond.instanceMethod yX11_know, Cond.selects RX11 yX11_know yX11_know, Cond.code yX11_know cX11_know 5 (some .boolean), Cond.fieldLink RX11 19 "BoiledEggsModel" "knownOf" "[I", Cond.methodLink RX11 126 yX11_total]
def wsX11_stop_r2 : List Cond := [Cond.instanceMethod yX11_total, Cond.selects RX11 yX11_total yX11_total, Cond.code yX11_total cX11_total 6 (some .long), Cond.methodLink RX11 119 yX11_weight, Cond.instanceMethod yX11_weight, Cond.selects RX11 yX11_weight yX11_weight, Cond.code yX11_weight cX11_weight 10 (some .long), Cond.fieldLink RX11 74 "BoiledEggsModel" "boiled" "I", Cond.fieldLink RX11 77 "BoiledEggsModel" "turnsBoiled" "I", Cond.fieldLink RX11 80 "BoiledEggsModel" "turnsRaw" "I", Cond.fieldLink RX11 7 "BoiledEggsModel" "habitOf" "[I", Cond.methodLink RX11 109 yX11_size, Cond.static yX11_size, Cond.code yX11_size cX11_size 3 (some .int), Cond.methodLink RX11 116 yX11_spun, Cond.instanceMethod yX11_spun, Cond.selects RX11 yX11_spun yX11_spun, Cond.code yX11_spun cX11_spun 3 (some .long), Cond.fieldLink RX11 16 "BoiledEggsModel" "turnedOf" "[I", Cond.fieldLink RX11 13 "BoiledEggsModel" "spinsOf" "[I", Cond.methodLink RX11 105 yX11_power, Cond.static yX11_power, Cond.code yX11_power cX11_power 5 (some .long)]
def wsX11_stop : List Cond := .code yX11_stop cX11_stop 3 (some .int) :: ((wsX11_stop_r1 ++ wsX11_stop_r2) ++ wsX110)
def wsX11_crack_r1 : List Cond := [Cond.fieldLink RX11 86 "BoiledEggsModel" "inBox" "I", Cond.methodLink RX11 98 yX11_isEgg, Cond.instanceMethod yX11_isEgg, Cond.selects RX11 yX11_isEgg yX11_isEgg, Cond.initialized RX11, Cond.code yX11_isEgg cX11_isEgg 2 (some .boolean), Cond.fieldLink RX11 71 "BoiledEggsModel" "eggs" "I", Cond.methodLink RX11 51 yX11_within, Cond.static yX11_within, Cond.code yX11_within cX11_within 3 (some .boolean), Cond.methodLink RX11 123 yX11_isInBox, Cond.instanceMethod yX11_isInBox, Cond.selects RX11 yX11_isInBox yX11_isInBox, Cond.code yX11_isInBox cX11_isInBox 2 (some .boolean), Cond.methodLink RX11 112 yX11_has, Cond.static yX11_has, Cond.code yX11_has cX11_has 2 (some .boolean), Cond.methodLink RX11 129 yX11_know, Cond.instanceMethod yX11_know, Cond.selects RX11 yX11_know yX11_know, Cond.code yX11_know cX11_know 5 (some .boolean), Cond.fieldLink RX11 19 "BoiledEggsModel" "knownOf" "[I", Cond.methodLink RX11 126 yX11_total, Cond.instanceMethod yX11_total]
def wsX11_crack_r2 : List Cond := [Cond.selects RX11 yX11_total yX11_total, Cond.code yX11_total cX11_total 6 (some .long), Cond.methodLink RX11 119 yX11_weight, Cond.instanceMethod yX11_weight, Cond.selects RX11 yX11_weight yX11_weight, Cond.code yX11_weight cX11_weight 10 (some .long), Cond.fieldLink RX11 74 "BoiledEggsModel" "boiled" "I", Cond.fieldLink RX11 77 "BoiledEggsModel" "turnsBoiled" "I", Cond.fieldLink RX11 80 "BoiledEggsModel" "turnsRaw" "I", Cond.fieldLink RX11 7 "BoiledEggsModel" "habitOf" "[I", Cond.methodLink RX11 109 yX11_size, Cond.static yX11_size, Cond.code yX11_size cX11_size 3 (some .int), Cond.methodLink RX11 116 yX11_spun, Cond.instanceMethod yX11_spun, Cond.selects RX11 yX11_spun yX11_spun, Cond.code yX11_spun cX11_spun 3 (some .long), Cond.fieldLink RX11 16 "BoiledEggsModel" "turnedOf" "[I", Cond.fieldLink RX11 13 "BoiledEggsModel" "spinsOf" "[I", Cond.methodLink RX11 105 yX11_power, Cond.static yX11_power, Cond.code yX11_power cX11_power 5 (some .long)]
def wsX11_crack : List Cond := .code yX11_crack cX11_crack 3 (some .int) :: ((wsX11_crack_r1 ++ wsX11_crack_r2) ++ wsX110)
def wsX11_likelyNow_r1 : List Cond := [Cond.methodLink RX11 132 yX11_boiledWeight, Cond.instanceMethod yX11_boiledWeight, Cond.selects RX11 yX11_boiledWeight yX11_boiledWeight, Cond.initialized RX11, Cond.code yX11_boiledWeight cX11_boiledWeight 6 (some .long), Cond.fieldLink RX11 71 "BoiledEggsModel" "eggs" "I", Cond.methodLink RX11 112 yX11_has, Cond.static yX11_has, Cond.code yX11_has cX11_has 2 (some .boolean), Cond.methodLink RX11 119 yX11_weight, Cond.instanceMethod yX11_weight, Cond.selects RX11 yX11_weight yX11_weight, Cond.code yX11_weight cX11_weight 10 (some .long), Cond.fieldLink RX11 74 "BoiledEggsModel" "boiled" "I", Cond.fieldLink RX11 19 "BoiledEggsModel" "knownOf" "[I", Cond.fieldLink RX11 77 "BoiledEggsModel" "turnsBoiled" "I", Cond.fieldLink RX11 80 "BoiledEggsModel" "turnsRaw" "I", Cond.fieldLink RX11 7 "BoiledEggsModel" "habitOf" "[I", Cond.methodLink RX11 109 yX11_size, Cond.static yX11_size, Cond.code yX11_size cX11_size 3 (some .int), Cond.methodLink RX11 116 yX11_spun, Cond.instanceMethod yX11_spun, Cond.selects RX11 yX11_spun yX11_spun]
def wsX11_likelyNow_r2 : List Cond := [Cond.code yX11_spun cX11_spun 3 (some .long), Cond.fieldLink RX11 16 "BoiledEggsModel" "turnedOf" "[I", Cond.fieldLink RX11 13 "BoiledEggsModel" "spinsOf" "[I", Cond.methodLink RX11 105 yX11_power, Cond.static yX11_power, Cond.code yX11_power cX11_power 5 (some .long), Cond.methodLink RX11 126 yX11_total, Cond.instanceMethod yX11_total, Cond.selects RX11 yX11_total yX11_total, Cond.code yX11_total cX11_total 6 (some .long), Cond.methodLink RX11 135 yX11_lowest, Cond.static yX11_lowest, Cond.code yX11_lowest cX11_lowest 11 (some .long)]
def wsX11_likelyNow : List Cond := .code yX11_likelyNow cX11_likelyNow 3 (some .long) :: ((wsX11_likelyNow_r1 ++ wsX11_likelyNow_r2) ++ wsX110)
def wsX11_likely_r1 : List Cond := [Cond.constantLong RX11 139 (-101), Cond.constantLong RX11 144 (-102), Cond.methodLink RX11 98 yX11_isEgg, Cond.instanceMethod yX11_isEgg, Cond.selects RX11 yX11_isEgg yX11_isEgg, Cond.initialized RX11, Cond.code yX11_isEgg cX11_isEgg 2 (some .boolean), Cond.fieldLink RX11 71 "BoiledEggsModel" "eggs" "I", Cond.methodLink RX11 51 yX11_within, Cond.static yX11_within, Cond.code yX11_within cX11_within 3 (some .boolean), Cond.methodLink RX11 141 yX11_likelyNow, Cond.instanceMethod yX11_likelyNow, Cond.selects RX11 yX11_likelyNow yX11_likelyNow, Cond.code yX11_likelyNow cX11_likelyNow 3 (some .long), Cond.methodLink RX11 132 yX11_boiledWeight, Cond.instanceMethod yX11_boiledWeight, Cond.selects RX11 yX11_boiledWeight yX11_boiledWeight, Cond.code yX11_boiledWeight cX11_boiledWeight 6 (some .long), Cond.methodLink RX11 112 yX11_has, Cond.static yX11_has, Cond.code yX11_has cX11_has 2 (some .boolean), Cond.methodLink RX11 119 yX11_weight, Cond.instanceMethod yX11_weight]
def wsX11_likely_r2 : List Cond := [Cond.selects RX11 yX11_weight yX11_weight, Cond.code yX11_weight cX11_weight 10 (some .long), Cond.fieldLink RX11 74 "BoiledEggsModel" "boiled" "I", Cond.fieldLink RX11 19 "BoiledEggsModel" "knownOf" "[I", Cond.fieldLink RX11 77 "BoiledEggsModel" "turnsBoiled" "I", Cond.fieldLink RX11 80 "BoiledEggsModel" "turnsRaw" "I", Cond.fieldLink RX11 7 "BoiledEggsModel" "habitOf" "[I", Cond.methodLink RX11 109 yX11_size, Cond.static yX11_size, Cond.code yX11_size cX11_size 3 (some .int), Cond.methodLink RX11 116 yX11_spun, Cond.instanceMethod yX11_spun, Cond.selects RX11 yX11_spun yX11_spun, Cond.code yX11_spun cX11_spun 3 (some .long), Cond.fieldLink RX11 16 "BoiledEggsModel" "turnedOf" "[I", Cond.fieldLink RX11 13 "BoiledEggsModel" "spinsOf" "[I", Cond.methodLink RX11 105 yX11_power, Cond.static yX11_power, Cond.code yX11_power cX11_power 5 (some .long), Cond.methodLink RX11 126 yX11_total, Cond.instanceMethod yX11_total, Cond.selects RX11 yX11_total yX11_total, Cond.code yX11_total cX11_total 6 (some .long), Cond.methodLink RX11 135 yX11_lowest]
def wsX11_likely_r3 : List Cond := [Cond.static yX11_lowest, Cond.code yX11_lowest cX11_lowest 11 (some .long)]
def wsX11_likely : List Cond := .code yX11_likely cX11_likely 3 (some .long) :: ((wsX11_likely_r1 ++ (wsX11_likely_r2 ++ wsX11_likely_r3)) ++ wsX110)
def wsX11_likeliestNow_r1 : List Cond := [Cond.fieldLink RX11 71 "BoiledEggsModel" "eggs" "I", Cond.methodLink RX11 119 yX11_weight, Cond.instanceMethod yX11_weight, Cond.selects RX11 yX11_weight yX11_weight, Cond.initialized RX11, Cond.code yX11_weight cX11_weight 10 (some .long), Cond.fieldLink RX11 74 "BoiledEggsModel" "boiled" "I", Cond.fieldLink RX11 19 "BoiledEggsModel" "knownOf" "[I", Cond.fieldLink RX11 77 "BoiledEggsModel" "turnsBoiled" "I", Cond.fieldLink RX11 80 "BoiledEggsModel" "turnsRaw" "I", Cond.fieldLink RX11 7 "BoiledEggsModel" "habitOf" "[I", Cond.methodLink RX11 109 yX11_size, Cond.static yX11_size, Cond.code yX11_size cX11_size 3 (some .int), Cond.methodLink RX11 112 yX11_has, Cond.static yX11_has, Cond.code yX11_has cX11_has 2 (some .boolean), Cond.methodLink RX11 116 yX11_spun, Cond.instanceMethod yX11_spun, Cond.selects RX11 yX11_spun yX11_spun, Cond.code yX11_spun cX11_spun 3 (some .long), Cond.fieldLink RX11 16 "BoiledEggsModel" "turnedOf" "[I", Cond.fieldLink RX11 13 "BoiledEggsModel" "spinsOf" "[I", Cond.methodLink RX11 105 yX11_power]
def wsX11_likeliestNow_r2 : List Cond := [Cond.static yX11_power, Cond.code yX11_power cX11_power 5 (some .long)]
def wsX11_likeliestNow : List Cond := .code yX11_likeliestNow cX11_likeliestNow 7 (some .int) :: ((wsX11_likeliestNow_r1 ++ wsX11_likeliestNow_r2) ++ wsX110)
def wsX11_likeliest_r1 : List Cond := [Cond.fieldLink RX11 71 "BoiledEggsModel" "eggs" "I", Cond.methodLink RX11 146 yX11_likeliestNow, Cond.instanceMethod yX11_likeliestNow, Cond.selects RX11 yX11_likeliestNow yX11_likeliestNow, Cond.initialized RX11, Cond.code yX11_likeliestNow cX11_likeliestNow 7 (some .int), Cond.methodLink RX11 119 yX11_weight, Cond.instanceMethod yX11_weight, Cond.selects RX11 yX11_weight yX11_weight, Cond.code yX11_weight cX11_weight 10 (some .long), Cond.fieldLink RX11 74 "BoiledEggsModel" "boiled" "I", Cond.fieldLink RX11 19 "BoiledEggsModel" "knownOf" "[I", Cond.fieldLink RX11 77 "BoiledEggsModel" "turnsBoiled" "I", Cond.fieldLink RX11 80 "BoiledEggsModel" "turnsRaw" "I", Cond.fieldLink RX11 7 "BoiledEggsModel" "habitOf" "[I", Cond.methodLink RX11 109 yX11_size, Cond.static yX11_size, Cond.code yX11_size cX11_size 3 (some .int), Cond.methodLink RX11 112 yX11_has, Cond.static yX11_has, Cond.code yX11_has cX11_has 2 (some .boolean), Cond.methodLink RX11 116 yX11_spun, Cond.instanceMethod yX11_spun, Cond.selects RX11 yX11_spun yX11_spun]
def wsX11_likeliest_r2 : List Cond := [Cond.code yX11_spun cX11_spun 3 (some .long), Cond.fieldLink RX11 16 "BoiledEggsModel" "turnedOf" "[I", Cond.fieldLink RX11 13 "BoiledEggsModel" "spinsOf" "[I", Cond.methodLink RX11 105 yX11_power, Cond.static yX11_power, Cond.code yX11_power cX11_power 5 (some .long)]
def wsX11_likeliest : List Cond := .code yX11_likeliest cX11_likeliest 1 (some .int) :: ((wsX11_likeliest_r1 ++ wsX11_likeliest_r2) ++ wsX110)
def wsX11_turningNow_r1 : List Cond := [Cond.constantLong RX11 149 (10), Cond.methodLink RX11 126 yX11_total, Cond.instanceMethod yX11_total, Cond.selects RX11 yX11_total yX11_total, Cond.initialized RX11, Cond.code yX11_total cX11_total 6 (some .long), Cond.fieldLink RX11 71 "BoiledEggsModel" "eggs" "I", Cond.methodLink RX11 119 yX11_weight, Cond.instanceMethod yX11_weight, Cond.selects RX11 yX11_weight yX11_weight, Cond.code yX11_weight cX11_weight 10 (some .long), Cond.fieldLink RX11 74 "BoiledEggsModel" "boiled" "I", Cond.fieldLink RX11 19 "BoiledEggsModel" "knownOf" "[I", Cond.fieldLink RX11 77 "BoiledEggsModel" "turnsBoiled" "I", Cond.fieldLink RX11 80 "BoiledEggsModel" "turnsRaw" "I", Cond.fieldLink RX11 7 "BoiledEggsModel" "habitOf" "[I", Cond.methodLink RX11 109 yX11_size, Cond.static yX11_size, Cond.code yX11_size cX11_size 3 (some .int), Cond.methodLink RX11 112 yX11_has, Cond.static yX11_has, Cond.code yX11_has cX11_has 2 (some .boolean), Cond.methodLink RX11 116 yX11_spun, Cond.instanceMethod yX11_spun]
def wsX11_turningNow_r2 : List Cond := [Cond.selects RX11 yX11_spun yX11_spun, Cond.code yX11_spun cX11_spun 3 (some .long), Cond.fieldLink RX11 16 "BoiledEggsModel" "turnedOf" "[I", Cond.fieldLink RX11 13 "BoiledEggsModel" "spinsOf" "[I", Cond.methodLink RX11 105 yX11_power, Cond.static yX11_power, Cond.code yX11_power cX11_power 5 (some .long), Cond.methodLink RX11 132 yX11_boiledWeight, Cond.instanceMethod yX11_boiledWeight, Cond.selects RX11 yX11_boiledWeight yX11_boiledWeight, Cond.code yX11_boiledWeight cX11_boiledWeight 6 (some .long)]
def wsX11_turningNow : List Cond := .code yX11_turningNow cX11_turningNow 6 (some .int) :: ((wsX11_turningNow_r1 ++ wsX11_turningNow_r2) ++ wsX110)
def wsX11_turning_r1 : List Cond := [Cond.methodLink RX11 98 yX11_isEgg, Cond.instanceMethod yX11_isEgg, Cond.selects RX11 yX11_isEgg yX11_isEgg, Cond.initialized RX11, Cond.code yX11_isEgg cX11_isEgg 2 (some .boolean), Cond.fieldLink RX11 71 "BoiledEggsModel" "eggs" "I", Cond.methodLink RX11 51 yX11_within, Cond.static yX11_within, Cond.code yX11_within cX11_within 3 (some .boolean), Cond.methodLink RX11 151 yX11_turningNow, Cond.instanceMethod yX11_turningNow, Cond.selects RX11 yX11_turningNow yX11_turningNow, Cond.code yX11_turningNow cX11_turningNow 6 (some .int), Cond.constantLong RX11 149 (10), Cond.methodLink RX11 126 yX11_total, Cond.instanceMethod yX11_total, Cond.selects RX11 yX11_total yX11_total, Cond.code yX11_total cX11_total 6 (some .long), Cond.methodLink RX11 119 yX11_weight, Cond.instanceMethod yX11_weight, Cond.selects RX11 yX11_weight yX11_weight, Cond.code yX11_weight cX11_weight 10 (some .long), Cond.fieldLink RX11 74 "BoiledEggsModel" "boiled" "I", Cond.fieldLink RX11 19 "BoiledEggsModel" "knownOf" "[I"]
def wsX11_turning_r2 : List Cond := [Cond.fieldLink RX11 77 "BoiledEggsModel" "turnsBoiled" "I", Cond.fieldLink RX11 80 "BoiledEggsModel" "turnsRaw" "I", Cond.fieldLink RX11 7 "BoiledEggsModel" "habitOf" "[I", Cond.methodLink RX11 109 yX11_size, Cond.static yX11_size, Cond.code yX11_size cX11_size 3 (some .int), Cond.methodLink RX11 112 yX11_has, Cond.static yX11_has, Cond.code yX11_has cX11_has 2 (some .boolean), Cond.methodLink RX11 116 yX11_spun, Cond.instanceMethod yX11_spun, Cond.selects RX11 yX11_spun yX11_spun, Cond.code yX11_spun cX11_spun 3 (some .long), Cond.fieldLink RX11 16 "BoiledEggsModel" "turnedOf" "[I", Cond.fieldLink RX11 13 "BoiledEggsModel" "spinsOf" "[I", Cond.methodLink RX11 105 yX11_power, Cond.static yX11_power, Cond.code yX11_power cX11_power 5 (some .long), Cond.methodLink RX11 132 yX11_boiledWeight, Cond.instanceMethod yX11_boiledWeight, Cond.selects RX11 yX11_boiledWeight yX11_boiledWeight, Cond.code yX11_boiledWeight cX11_boiledWeight 6 (some .long)]
def wsX11_turning : List Cond := .code yX11_turning cX11_turning 3 (some .int) :: ((wsX11_turning_r1 ++ wsX11_turning_r2) ++ wsX110)
def wsX11_three : List Cond := .code yX11_three cX11_three 3 (some .int) :: ([])
def wsX11_figureOf : List Cond := .code yX11_figureOf cX11_figureOf 2 (some .int) :: ([.methodLink RX11 154 yX11_three, .static yX11_three, .initialized RX11, .code yX11_three cX11_three 3 (some .int)])
def wsX11_eggsOf : List Cond := .code yX11_eggsOf cX11_eggsOf 6 (some .int) :: ([.methodLink RX11 157 yX11_figureOf, .static yX11_figureOf, .initialized RX11, .code yX11_figureOf cX11_figureOf 2 (some .int), .methodLink RX11 154 yX11_three, .static yX11_three, .code yX11_three cX11_three 3 (some .int)])
def wsX11_layWeights : List Cond := .code yX11_layWeights cX11_layWeights 7 none :: ([.fieldLink RX11 71 "BoiledEggsModel" "eggs" "I", .fieldLink RX11 86 "BoiledEggsModel" "inBox" "I", .fieldLink RX11 39 "BoiledEggsModel" "boxWeight" "[J", .fieldLink RX11 29 "BoiledEggsModel" "weightOf" "[J", .methodLink RX11 160 yX11_eggsOf, .instanceMethod yX11_eggsOf, .selects RX11 yX11_eggsOf yX11_eggsOf, .initialized RX11, .code yX11_eggsOf cX11_eggsOf 6 (some .int), .methodLink RX11 157 yX11_figureOf, .static yX11_figureOf, .code yX11_figureOf cX11_figureOf 2 (some .int), .methodLink RX11 154 yX11_three, .static yX11_three, .code yX11_three cX11_three 3 (some .int)] ++ wsX110)
def wsX11_larger : List Cond := .code yX11_larger cX11_larger 5 (some .int) :: ([.fieldLink RX11 29 "BoiledEggsModel" "weightOf" "[J", .fieldLink RX11 33 "BoiledEggsModel" "worstOf" "[I"] ++ wsX110)
def wsX11_layState_r1 : List Cond := [Cond.fieldLink RX11 33 "BoiledEggsModel" "worstOf" "[I", Cond.fieldLink RX11 36 "BoiledEggsModel" "meanOf" "[J", Cond.fieldLink RX11 163 "BoiledEggsModel" "bestFirst" "I", Cond.fieldLink RX11 29 "BoiledEggsModel" "weightOf" "[J", Cond.constantLong RX11 166 (-1), Cond.fieldLink RX11 71 "BoiledEggsModel" "eggs" "I", Cond.methodLink RX11 160 yX11_eggsOf, Cond.instanceMethod yX11_eggsOf, Cond.selects RX11 yX11_eggsOf yX11_eggsOf, Cond.initialized RX11, Cond.code yX11_eggsOf cX11_eggsOf 6 (some .int), Cond.methodLink RX11 157 yX11_figureOf, Cond.static yX11_figureOf, Cond.code yX11_figureOf cX11_figureOf 2 (some .int), Cond.methodLink RX11 154 yX11_three, Cond.static yX11_three, Cond.code yX11_three cX11_three 3 (some .int), Cond.methodLink RX11 109 yX11_size, Cond.static yX11_size, Cond.code yX11_size cX11_size 3 (some .int), Cond.methodLink RX11 123 yX11_isInBox, Cond.instanceMethod yX11_isInBox, Cond.selects RX11 yX11_isInBox yX11_isInBox, Cond.code yX11_isInBox cX11_isInBox 2 (some .boolean)]
def wsX11_layState_r2 : List Cond := [Cond.fieldLink RX11 86 "BoiledEggsModel" "inBox" "I", Cond.methodLink RX11 112 yX11_has, Cond.static yX11_has, Cond.code yX11_has cX11_has 2 (some .boolean), Cond.methodLink RX11 168 yX11_larger, Cond.instanceMethod yX11_larger, Cond.selects RX11 yX11_larger yX11_larger, Cond.code yX11_larger cX11_larger 5 (some .int)]
def wsX11_layState : List Cond := .code yX11_layState cX11_layState 12 none :: ((wsX11_layState_r1 ++ wsX11_layState_r2) ++ wsX110)
def wsX11_layBreaking_r1 : List Cond := [Cond.fieldLink RX11 39 "BoiledEggsModel" "boxWeight" "[J", Cond.fieldLink RX11 71 "BoiledEggsModel" "eggs" "I", Cond.fieldLink RX11 86 "BoiledEggsModel" "inBox" "I", Cond.methodLink RX11 119 yX11_weight, Cond.instanceMethod yX11_weight, Cond.selects RX11 yX11_weight yX11_weight, Cond.initialized RX11, Cond.code yX11_weight cX11_weight 10 (some .long), Cond.fieldLink RX11 74 "BoiledEggsModel" "boiled" "I", Cond.fieldLink RX11 19 "BoiledEggsModel" "knownOf" "[I", Cond.fieldLink RX11 77 "BoiledEggsModel" "turnsBoiled" "I", Cond.fieldLink RX11 80 "BoiledEggsModel" "turnsRaw" "I", Cond.fieldLink RX11 7 "BoiledEggsModel" "habitOf" "[I", Cond.methodLink RX11 109 yX11_size, Cond.static yX11_size, Cond.code yX11_size cX11_size 3 (some .int), Cond.methodLink RX11 112 yX11_has, Cond.static yX11_has, Cond.code yX11_has cX11_has 2 (some .boolean), Cond.methodLink RX11 116 yX11_spun, Cond.instanceMethod yX11_spun, Cond.selects RX11 yX11_spun yX11_spun, Cond.code yX11_spun cX11_spun 3 (some .long), Cond.fieldLink RX11 16 "BoiledEggsModel" "turnedOf" "[I"]
def wsX11_layBreaking_r2 : List Cond := [Cond.fieldLink RX11 13 "BoiledEggsModel" "spinsOf" "[I", Cond.methodLink RX11 105 yX11_power, Cond.static yX11_power, Cond.code yX11_power cX11_power 5 (some .long), Cond.methodLink RX11 171 yX11_layWeights, Cond.instanceMethod yX11_layWeights, Cond.selects RX11 yX11_layWeights yX11_layWeights, Cond.code yX11_layWeights cX11_layWeights 7 none, Cond.fieldLink RX11 29 "BoiledEggsModel" "weightOf" "[J", Cond.methodLink RX11 160 yX11_eggsOf, Cond.instanceMethod yX11_eggsOf, Cond.selects RX11 yX11_eggsOf yX11_eggsOf, Cond.code yX11_eggsOf cX11_eggsOf 6 (some .int), Cond.methodLink RX11 157 yX11_figureOf, Cond.static yX11_figureOf, Cond.code yX11_figureOf cX11_figureOf 2 (some .int), Cond.methodLink RX11 154 yX11_three, Cond.static yX11_three, Cond.code yX11_three cX11_three 3 (some .int), Cond.methodLink RX11 174 yX11_layState, Cond.instanceMethod yX11_layState, Cond.selects RX11 yX11_layState yX11_layState, Cond.code yX11_layState cX11_layState 12 none, Cond.fieldLink RX11 33 "BoiledEggsModel" "worstOf" "[I"]
def wsX11_layBreaking_r3 : List Cond := [Cond.fieldLink RX11 36 "BoiledEggsModel" "meanOf" "[J", Cond.fieldLink RX11 163 "BoiledEggsModel" "bestFirst" "I", Cond.constantLong RX11 166 (-1), Cond.methodLink RX11 123 yX11_isInBox, Cond.instanceMethod yX11_isInBox, Cond.selects RX11 yX11_isInBox yX11_isInBox, Cond.code yX11_isInBox cX11_isInBox 2 (some .boolean), Cond.methodLink RX11 168 yX11_larger, Cond.instanceMethod yX11_larger, Cond.selects RX11 yX11_larger yX11_larger, Cond.code yX11_larger cX11_larger 5 (some .int)]
def wsX11_layBreaking : List Cond := .code yX11_layBreaking cX11_layBreaking 4 (some .boolean) :: ((wsX11_layBreaking_r1 ++ (wsX11_layBreaking_r2 ++ wsX11_layBreaking_r3)) ++ wsX110)
def wsX11_mayAsk : List Cond := .code yX11_mayAsk cX11_mayAsk 1 (some .boolean) :: ([.fieldLink RX11 71 "BoiledEggsModel" "eggs" "I", .fieldLink RX11 178 "BoiledEggsModel" "asks" "I"] ++ wsX110)
def wsX11_worst_r1 : List Cond := [Cond.fieldLink RX11 178 "BoiledEggsModel" "asks" "I", Cond.fieldLink RX11 33 "BoiledEggsModel" "worstOf" "[I", Cond.fieldLink RX11 163 "BoiledEggsModel" "bestFirst" "I", Cond.methodLink RX11 51 yX11_within, Cond.static yX11_within, Cond.initialized RX11, Cond.code yX11_within cX11_within 3 (some .boolean), Cond.methodLink RX11 181 yX11_mayAsk, Cond.instanceMethod yX11_mayAsk, Cond.selects RX11 yX11_mayAsk yX11_mayAsk, Cond.code yX11_mayAsk cX11_mayAsk 1 (some .boolean), Cond.fieldLink RX11 71 "BoiledEggsModel" "eggs" "I", Cond.methodLink RX11 185 yX11_layBreaking, Cond.instanceMethod yX11_layBreaking, Cond.selects RX11 yX11_layBreaking yX11_layBreaking, Cond.code yX11_layBreaking cX11_layBreaking 4 (some .boolean), Cond.fieldLink RX11 39 "BoiledEggsModel" "boxWeight" "[J", Cond.fieldLink RX11 86 "BoiledEggsModel" "inBox" "I", Cond.methodLink RX11 119 yX11_weight, Cond.instanceMethod yX11_weight, Cond.selects RX11 yX11_weight yX11_weight, Cond.code yX11_weight cX11_weight 10 (some .long), Cond.fieldLink RX11 74 "BoiledEggsModel" "boiled" "I", Cond.fieldLink RX11 19 "BoiledEggsModel" "knownOf" "[I"]
def wsX11_worst_r2 : List Cond := [Cond.fieldLink RX11 77 "BoiledEggsModel" "turnsBoiled" "I", Cond.fieldLink RX11 80 "BoiledEggsModel" "turnsRaw" "I", Cond.fieldLink RX11 7 "BoiledEggsModel" "habitOf" "[I", Cond.methodLink RX11 109 yX11_size, Cond.static yX11_size, Cond.code yX11_size cX11_size 3 (some .int), Cond.methodLink RX11 112 yX11_has, Cond.static yX11_has, Cond.code yX11_has cX11_has 2 (some .boolean), Cond.methodLink RX11 116 yX11_spun, Cond.instanceMethod yX11_spun, Cond.selects RX11 yX11_spun yX11_spun, Cond.code yX11_spun cX11_spun 3 (some .long), Cond.fieldLink RX11 16 "BoiledEggsModel" "turnedOf" "[I", Cond.fieldLink RX11 13 "BoiledEggsModel" "spinsOf" "[I", Cond.methodLink RX11 105 yX11_power, Cond.static yX11_power, Cond.code yX11_power cX11_power 5 (some .long), Cond.methodLink RX11 171 yX11_layWeights, Cond.instanceMethod yX11_layWeights, Cond.selects RX11 yX11_layWeights yX11_layWeights, Cond.code yX11_layWeights cX11_layWeights 7 none, Cond.fieldLink RX11 29 "BoiledEggsModel" "weightOf" "[J", Cond.methodLink RX11 160 yX11_eggsOf]
def wsX11_worst_r3 : List Cond := [Cond.instanceMethod yX11_eggsOf, Cond.selects RX11 yX11_eggsOf yX11_eggsOf, Cond.code yX11_eggsOf cX11_eggsOf 6 (some .int), Cond.methodLink RX11 157 yX11_figureOf, Cond.static yX11_figureOf, Cond.code yX11_figureOf cX11_figureOf 2 (some .int), Cond.methodLink RX11 154 yX11_three, Cond.static yX11_three, Cond.code yX11_three cX11_three 3 (some .int), Cond.methodLink RX11 174 yX11_layState, Cond.instanceMethod yX11_layState, Cond.selects RX11 yX11_layState yX11_layState, Cond.code yX11_layState cX11_layState 12 none, Cond.fieldLink RX11 36 "BoiledEggsModel" "meanOf" "[J", Cond.constantLong RX11 166 (-1), Cond.methodLink RX11 123 yX11_isInBox, Cond.instanceMethod yX11_isInBox, Cond.selects RX11 yX11_isInBox yX11_isInBox, Cond.code yX11_isInBox cX11_isInBox 2 (some .boolean), Cond.methodLink RX11 168 yX11_larger, Cond.instanceMethod yX11_larger, Cond.selects RX11 yX11_larger yX11_larger, Cond.code yX11_larger cX11_larger 5 (some .int)]
def wsX11_worst : List Cond := .code yX11_worst cX11_worst 3 (some .int) :: ((wsX11_worst_r1 ++ (wsX11_worst_r2 ++ wsX11_worst_r3)) ++ wsX110)
def wsX11_mean_r1 : List Cond := [Cond.constantLong RX11 144 (-102), Cond.constantLong RX11 188 (-103), Cond.fieldLink RX11 178 "BoiledEggsModel" "asks" "I", Cond.fieldLink RX11 36 "BoiledEggsModel" "meanOf" "[J", Cond.fieldLink RX11 29 "BoiledEggsModel" "weightOf" "[J", Cond.constantLong RX11 166 (-1), Cond.methodLink RX11 51 yX11_within, Cond.static yX11_within, Cond.initialized RX11, Cond.code yX11_within cX11_within 3 (some .boolean), Cond.methodLink RX11 181 yX11_mayAsk, Cond.instanceMethod yX11_mayAsk, Cond.selects RX11 yX11_mayAsk yX11_mayAsk, Cond.code yX11_mayAsk cX11_mayAsk 1 (some .boolean), Cond.fieldLink RX11 71 "BoiledEggsModel" "eggs" "I", Cond.methodLink RX11 185 yX11_layBreaking, Cond.instanceMethod yX11_layBreaking, Cond.selects RX11 yX11_layBreaking yX11_layBreaking, Cond.code yX11_layBreaking cX11_layBreaking 4 (some .boolean), Cond.fieldLink RX11 39 "BoiledEggsModel" "boxWeight" "[J", Cond.fieldLink RX11 86 "BoiledEggsModel" "inBox" "I", Cond.methodLink RX11 119 yX11_weight, Cond.instanceMethod yX11_weight, Cond.selects RX11 yX11_weight yX11_weight]
def wsX11_mean_r2 : List Cond := [Cond.code yX11_weight cX11_weight 10 (some .long), Cond.fieldLink RX11 74 "BoiledEggsModel" "boiled" "I", Cond.fieldLink RX11 19 "BoiledEggsModel" "knownOf" "[I", Cond.fieldLink RX11 77 "BoiledEggsModel" "turnsBoiled" "I", Cond.fieldLink RX11 80 "BoiledEggsModel" "turnsRaw" "I", Cond.fieldLink RX11 7 "BoiledEggsModel" "habitOf" "[I", Cond.methodLink RX11 109 yX11_size, Cond.static yX11_size, Cond.code yX11_size cX11_size 3 (some .int), Cond.methodLink RX11 112 yX11_has, Cond.static yX11_has, Cond.code yX11_has cX11_has 2 (some .boolean), Cond.methodLink RX11 116 yX11_spun, Cond.instanceMethod yX11_spun, Cond.selects RX11 yX11_spun yX11_spun, Cond.code yX11_spun cX11_spun 3 (some .long), Cond.fieldLink RX11 16 "BoiledEggsModel" "turnedOf" "[I", Cond.fieldLink RX11 13 "BoiledEggsModel" "spinsOf" "[I", Cond.methodLink RX11 105 yX11_power, Cond.static yX11_power, Cond.code yX11_power cX11_power 5 (some .long), Cond.methodLink RX11 171 yX11_layWeights, Cond.instanceMethod yX11_layWeights, Cond.selects RX11 yX11_layWeights yX11_layWeights]
def wsX11_mean_r3 : List Cond := [Cond.code yX11_layWeights cX11_layWeights 7 none, Cond.methodLink RX11 160 yX11_eggsOf, Cond.instanceMethod yX11_eggsOf, Cond.selects RX11 yX11_eggsOf yX11_eggsOf, Cond.code yX11_eggsOf cX11_eggsOf 6 (some .int), Cond.methodLink RX11 157 yX11_figureOf, Cond.static yX11_figureOf, Cond.code yX11_figureOf cX11_figureOf 2 (some .int), Cond.methodLink RX11 154 yX11_three, Cond.static yX11_three, Cond.code yX11_three cX11_three 3 (some .int), Cond.methodLink RX11 174 yX11_layState, Cond.instanceMethod yX11_layState, Cond.selects RX11 yX11_layState yX11_layState, Cond.code yX11_layState cX11_layState 12 none, Cond.fieldLink RX11 33 "BoiledEggsModel" "worstOf" "[I", Cond.fieldLink RX11 163 "BoiledEggsModel" "bestFirst" "I", Cond.methodLink RX11 123 yX11_isInBox, Cond.instanceMethod yX11_isInBox, Cond.selects RX11 yX11_isInBox yX11_isInBox, Cond.code yX11_isInBox cX11_isInBox 2 (some .boolean), Cond.methodLink RX11 168 yX11_larger, Cond.instanceMethod yX11_larger, Cond.selects RX11 yX11_larger yX11_larger]
def wsX11_mean_r4 : List Cond := [Cond.code yX11_larger cX11_larger 5 (some .int), Cond.methodLink RX11 135 yX11_lowest, Cond.static yX11_lowest, Cond.code yX11_lowest cX11_lowest 11 (some .long)]
def wsX11_mean : List Cond := .code yX11_mean cX11_mean 3 (some .long) :: ((wsX11_mean_r1 ++ (wsX11_mean_r2 ++ (wsX11_mean_r3 ++ wsX11_mean_r4))) ++ wsX110)
def wsX11_riskNow_r1 : List Cond := [Cond.fieldLink RX11 83 "BoiledEggsModel" "falls" "I", Cond.constantLong RX11 149 (10), Cond.methodLink RX11 126 yX11_total, Cond.instanceMethod yX11_total, Cond.selects RX11 yX11_total yX11_total, Cond.initialized RX11, Cond.code yX11_total cX11_total 6 (some .long), Cond.fieldLink RX11 71 "BoiledEggsModel" "eggs" "I", Cond.methodLink RX11 119 yX11_weight, Cond.instanceMethod yX11_weight, Cond.selects RX11 yX11_weight yX11_weight, Cond.code yX11_weight cX11_weight 10 (some .long), Cond.fieldLink RX11 74 "BoiledEggsModel" "boiled" "I", Cond.fieldLink RX11 19 "BoiledEggsModel" "knownOf" "[I", Cond.fieldLink RX11 77 "BoiledEggsModel" "turnsBoiled" "I", Cond.fieldLink RX11 80 "BoiledEggsModel" "turnsRaw" "I", Cond.fieldLink RX11 7 "BoiledEggsModel" "habitOf" "[I", Cond.methodLink RX11 109 yX11_size, Cond.static yX11_size, Cond.code yX11_size cX11_size 3 (some .int), Cond.methodLink RX11 112 yX11_has, Cond.static yX11_has, Cond.code yX11_has cX11_has 2 (some .boolean), Cond.methodLink RX11 116 yX11_spun]
def wsX11_riskNow_r2 : List Cond := [Cond.instanceMethod yX11_spun, Cond.selects RX11 yX11_spun yX11_spun, Cond.code yX11_spun cX11_spun 3 (some .long), Cond.fieldLink RX11 16 "BoiledEggsModel" "turnedOf" "[I", Cond.fieldLink RX11 13 "BoiledEggsModel" "spinsOf" "[I", Cond.methodLink RX11 105 yX11_power, Cond.static yX11_power, Cond.code yX11_power cX11_power 5 (some .long), Cond.methodLink RX11 132 yX11_boiledWeight, Cond.instanceMethod yX11_boiledWeight, Cond.selects RX11 yX11_boiledWeight yX11_boiledWeight, Cond.code yX11_boiledWeight cX11_boiledWeight 6 (some .long), Cond.methodLink RX11 135 yX11_lowest, Cond.static yX11_lowest, Cond.code yX11_lowest cX11_lowest 11 (some .long)]
def wsX11_riskNow : List Cond := .code yX11_riskNow cX11_riskNow 5 (some .long) :: ((wsX11_riskNow_r1 ++ wsX11_riskNow_r2) ++ wsX110)
def wsX11_risk_r1 : List Cond := [Cond.constantLong RX11 139 (-101), Cond.constantLong RX11 144 (-102), Cond.constantLong RX11 188 (-103), Cond.methodLink RX11 98 yX11_isEgg, Cond.instanceMethod yX11_isEgg, Cond.selects RX11 yX11_isEgg yX11_isEgg, Cond.initialized RX11, Cond.code yX11_isEgg cX11_isEgg 2 (some .boolean), Cond.fieldLink RX11 71 "BoiledEggsModel" "eggs" "I", Cond.methodLink RX11 51 yX11_within, Cond.static yX11_within, Cond.code yX11_within cX11_within 3 (some .boolean), Cond.methodLink RX11 123 yX11_isInBox, Cond.instanceMethod yX11_isInBox, Cond.selects RX11 yX11_isInBox yX11_isInBox, Cond.code yX11_isInBox cX11_isInBox 2 (some .boolean), Cond.fieldLink RX11 86 "BoiledEggsModel" "inBox" "I", Cond.methodLink RX11 112 yX11_has, Cond.static yX11_has, Cond.code yX11_has cX11_has 2 (some .boolean), Cond.methodLink RX11 190 yX11_riskNow, Cond.instanceMethod yX11_riskNow, Cond.selects RX11 yX11_riskNow yX11_riskNow, Cond.code yX11_riskNow cX11_riskNow 5 (some .long)]
def wsX11_risk_r2 : List Cond := [Cond.fieldLink RX11 83 "BoiledEggsModel" "falls" "I", Cond.constantLong RX11 149 (10), Cond.methodLink RX11 126 yX11_total, Cond.instanceMethod yX11_total, Cond.selects RX11 yX11_total yX11_total, Cond.code yX11_total cX11_total 6 (some .long), Cond.methodLink RX11 119 yX11_weight, Cond.instanceMethod yX11_weight, Cond.selects RX11 yX11_weight yX11_weight, Cond.code yX11_weight cX11_weight 10 (some .long), Cond.fieldLink RX11 74 "BoiledEggsModel" "boiled" "I", Cond.fieldLink RX11 19 "BoiledEggsModel" "knownOf" "[I", Cond.fieldLink RX11 77 "BoiledEggsModel" "turnsBoiled" "I", Cond.fieldLink RX11 80 "BoiledEggsModel" "turnsRaw" "I", Cond.fieldLink RX11 7 "BoiledEggsModel" "habitOf" "[I", Cond.methodLink RX11 109 yX11_size, Cond.static yX11_size, Cond.code yX11_size cX11_size 3 (some .int), Cond.methodLink RX11 116 yX11_spun, Cond.instanceMethod yX11_spun, Cond.selects RX11 yX11_spun yX11_spun, Cond.code yX11_spun cX11_spun 3 (some .long), Cond.fieldLink RX11 16 "BoiledEggsModel" "turnedOf" "[I", Cond.fieldLink RX11 13 "BoiledEggsModel" "spinsOf" "[I"]
def wsX11_risk_r3 : List Cond := [Cond.methodLink RX11 105 yX11_power, Cond.static yX11_power, Cond.code yX11_power cX11_power 5 (some .long), Cond.methodLink RX11 132 yX11_boiledWeight, Cond.instanceMethod yX11_boiledWeight, Cond.selects RX11 yX11_boiledWeight yX11_boiledWeight, Cond.code yX11_boiledWeight cX11_boiledWeight 6 (some .long), Cond.methodLink RX11 135 yX11_lowest, Cond.static yX11_lowest, Cond.code yX11_lowest cX11_lowest 11 (some .long)]
def wsX11_risk : List Cond := .code yX11_risk cX11_risk 3 (some .long) :: ((wsX11_risk_r1 ++ (wsX11_risk_r2 ++ wsX11_risk_r3)) ++ wsX110)
def wsX11_trier : List Cond := .code yX11_trier cX11_trier 2 (some .int) :: ([.fieldLink RX11 71 "BoiledEggsModel" "eggs" "I", .fieldLink RX11 92 "BoiledEggsModel" "triers" "I", .fieldLink RX11 22 "BoiledEggsModel" "kindOf" "[I", .methodLink RX11 51 yX11_within, .static yX11_within, .initialized RX11, .code yX11_within cX11_within 3 (some .boolean)] ++ wsX110)
def wsX11_isTrier : List Cond := .code yX11_isTrier cX11_isTrier 2 (some .boolean) :: ([.fieldLink RX11 92 "BoiledEggsModel" "triers" "I", .methodLink RX11 51 yX11_within, .static yX11_within, .initialized RX11, .code yX11_within cX11_within 3 (some .boolean)] ++ wsX110)
def wsX11_badness_r1 : List Cond := [Cond.constantLong RX11 193 (2), Cond.methodLink RX11 126 yX11_total, Cond.instanceMethod yX11_total, Cond.selects RX11 yX11_total yX11_total, Cond.initialized RX11, Cond.code yX11_total cX11_total 6 (some .long), Cond.fieldLink RX11 71 "BoiledEggsModel" "eggs" "I", Cond.methodLink RX11 119 yX11_weight, Cond.instanceMethod yX11_weight, Cond.selects RX11 yX11_weight yX11_weight, Cond.code yX11_weight cX11_weight 10 (some .long), Cond.fieldLink RX11 74 "BoiledEggsModel" "boiled" "I", Cond.fieldLink RX11 19 "BoiledEggsModel" "knownOf" "[I", Cond.fieldLink RX11 77 "BoiledEggsModel" "turnsBoiled" "I", Cond.fieldLink RX11 80 "BoiledEggsModel" "turnsRaw" "I", Cond.fieldLink RX11 7 "BoiledEggsModel" "habitOf" "[I", Cond.methodLink RX11 109 yX11_size, Cond.static yX11_size, Cond.code yX11_size cX11_size 3 (some .int), Cond.methodLink RX11 112 yX11_has, Cond.static yX11_has, Cond.code yX11_has cX11_has 2 (some .boolean), Cond.methodLink RX11 116 yX11_spun, Cond.instanceMethod yX11_spun]
def wsX11_badness_r2 : List Cond := [Cond.selects RX11 yX11_spun yX11_spun, Cond.code yX11_spun cX11_spun 3 (some .long), Cond.fieldLink RX11 16 "BoiledEggsModel" "turnedOf" "[I", Cond.fieldLink RX11 13 "BoiledEggsModel" "spinsOf" "[I", Cond.methodLink RX11 105 yX11_power, Cond.static yX11_power, Cond.code yX11_power cX11_power 5 (some .long), Cond.methodLink RX11 132 yX11_boiledWeight, Cond.instanceMethod yX11_boiledWeight, Cond.selects RX11 yX11_boiledWeight yX11_boiledWeight, Cond.code yX11_boiledWeight cX11_boiledWeight 6 (some .long)]
def wsX11_badness : List Cond := .code yX11_badness cX11_badness 9 (some .long) :: ((wsX11_badness_r1 ++ wsX11_badness_r2) ++ wsX110)
def wsX11_nextOf_r1 : List Cond := [Cond.fieldLink RX11 71 "BoiledEggsModel" "eggs" "I", Cond.methodLink RX11 123 yX11_isInBox, Cond.instanceMethod yX11_isInBox, Cond.selects RX11 yX11_isInBox yX11_isInBox, Cond.initialized RX11, Cond.code yX11_isInBox cX11_isInBox 2 (some .boolean), Cond.fieldLink RX11 86 "BoiledEggsModel" "inBox" "I", Cond.methodLink RX11 112 yX11_has, Cond.static yX11_has, Cond.code yX11_has cX11_has 2 (some .boolean), Cond.methodLink RX11 195 yX11_badness, Cond.instanceMethod yX11_badness, Cond.selects RX11 yX11_badness yX11_badness, Cond.code yX11_badness cX11_badness 9 (some .long), Cond.constantLong RX11 193 (2), Cond.methodLink RX11 126 yX11_total, Cond.instanceMethod yX11_total, Cond.selects RX11 yX11_total yX11_total, Cond.code yX11_total cX11_total 6 (some .long), Cond.methodLink RX11 119 yX11_weight, Cond.instanceMethod yX11_weight, Cond.selects RX11 yX11_weight yX11_weight, Cond.code yX11_weight cX11_weight 10 (some .long), Cond.fieldLink RX11 74 "BoiledEggsModel" "boiled" "I"]
def wsX11_nextOf_r2 : List Cond := [Cond.fieldLink RX11 19 "BoiledEggsModel" "knownOf" "[I", Cond.fieldLink RX11 77 "BoiledEggsModel" "turnsBoiled" "I", Cond.fieldLink RX11 80 "BoiledEggsModel" "turnsRaw" "I", Cond.fieldLink RX11 7 "BoiledEggsModel" "habitOf" "[I", Cond.methodLink RX11 109 yX11_size, Cond.static yX11_size, Cond.code yX11_size cX11_size 3 (some .int), Cond.methodLink RX11 116 yX11_spun, Cond.instanceMethod yX11_spun, Cond.selects RX11 yX11_spun yX11_spun, Cond.code yX11_spun cX11_spun 3 (some .long), Cond.fieldLink RX11 16 "BoiledEggsModel" "turnedOf" "[I", Cond.fieldLink RX11 13 "BoiledEggsModel" "spinsOf" "[I", Cond.methodLink RX11 105 yX11_power, Cond.static yX11_power, Cond.code yX11_power cX11_power 5 (some .long), Cond.methodLink RX11 132 yX11_boiledWeight, Cond.instanceMethod yX11_boiledWeight, Cond.selects RX11 yX11_boiledWeight yX11_boiledWeight, Cond.code yX11_boiledWeight cX11_boiledWeight 6 (some .long)]
def wsX11_nextOf : List Cond := .code yX11_nextOf cX11_nextOf 8 (some .int) :: ((wsX11_nextOf_r1 ++ wsX11_nextOf_r2) ++ wsX110)
def wsX11_trierNow_r1 : List Cond := [Cond.fieldLink RX11 22 "BoiledEggsModel" "kindOf" "[I", Cond.methodLink RX11 198 yX11_nextOf, Cond.instanceMethod yX11_nextOf, Cond.selects RX11 yX11_nextOf yX11_nextOf, Cond.initialized RX11, Cond.code yX11_nextOf cX11_nextOf 8 (some .int), Cond.fieldLink RX11 71 "BoiledEggsModel" "eggs" "I", Cond.methodLink RX11 123 yX11_isInBox, Cond.instanceMethod yX11_isInBox, Cond.selects RX11 yX11_isInBox yX11_isInBox, Cond.code yX11_isInBox cX11_isInBox 2 (some .boolean), Cond.fieldLink RX11 86 "BoiledEggsModel" "inBox" "I", Cond.methodLink RX11 112 yX11_has, Cond.static yX11_has, Cond.code yX11_has cX11_has 2 (some .boolean), Cond.methodLink RX11 195 yX11_badness, Cond.instanceMethod yX11_badness, Cond.selects RX11 yX11_badness yX11_badness, Cond.code yX11_badness cX11_badness 9 (some .long), Cond.constantLong RX11 193 (2), Cond.methodLink RX11 126 yX11_total, Cond.instanceMethod yX11_total, Cond.selects RX11 yX11_total yX11_total, Cond.code yX11_total cX11_total 6 (some .long)]
def wsX11_trierNow_r2 : List Cond := [Cond.methodLink RX11 119 yX11_weight, Cond.instanceMethod yX11_weight, Cond.selects RX11 yX11_weight yX11_weight, Cond.code yX11_weight cX11_weight 10 (some .long), Cond.fieldLink RX11 74 "BoiledEggsModel" "boiled" "I", Cond.fieldLink RX11 19 "BoiledEggsModel" "knownOf" "[I", Cond.fieldLink RX11 77 "BoiledEggsModel" "turnsBoiled" "I", Cond.fieldLink RX11 80 "BoiledEggsModel" "turnsRaw" "I", Cond.fieldLink RX11 7 "BoiledEggsModel" "habitOf" "[I", Cond.methodLink RX11 109 yX11_size, Cond.static yX11_size, Cond.code yX11_size cX11_size 3 (some .int), Cond.methodLink RX11 116 yX11_spun, Cond.instanceMethod yX11_spun, Cond.selects RX11 yX11_spun yX11_spun, Cond.code yX11_spun cX11_spun 3 (some .long), Cond.fieldLink RX11 16 "BoiledEggsModel" "turnedOf" "[I", Cond.fieldLink RX11 13 "BoiledEggsModel" "spinsOf" "[I", Cond.methodLink RX11 105 yX11_power, Cond.static yX11_power, Cond.code yX11_power cX11_power 5 (some .long), Cond.methodLink RX11 132 yX11_boiledWeight, Cond.instanceMethod yX11_boiledWeight, Cond.selects RX11 yX11_boiledWeight yX11_boiledWeight]
def wsX11_trierNow_r3 : List Cond := [Cond.code yX11_boiledWeight cX11_boiledWeight 6 (some .long)]
def wsX11_trierNow : List Cond := .code yX11_trierNow cX11_trierNow 3 (some .int) :: ((wsX11_trierNow_r1 ++ (wsX11_trierNow_r2 ++ wsX11_trierNow_r3)) ++ wsX110)
def wsX11_about_r1 : List Cond := [Cond.methodLink RX11 201 yX11_isTrier, Cond.instanceMethod yX11_isTrier, Cond.selects RX11 yX11_isTrier yX11_isTrier, Cond.initialized RX11, Cond.code yX11_isTrier cX11_isTrier 2 (some .boolean), Cond.fieldLink RX11 92 "BoiledEggsModel" "triers" "I", Cond.methodLink RX11 51 yX11_within, Cond.static yX11_within, Cond.code yX11_within cX11_within 3 (some .boolean), Cond.methodLink RX11 204 yX11_trierNow, Cond.instanceMethod yX11_trierNow, Cond.selects RX11 yX11_trierNow yX11_trierNow, Cond.code yX11_trierNow cX11_trierNow 3 (some .int), Cond.fieldLink RX11 22 "BoiledEggsModel" "kindOf" "[I", Cond.methodLink RX11 198 yX11_nextOf, Cond.instanceMethod yX11_nextOf, Cond.selects RX11 yX11_nextOf yX11_nextOf, Cond.code yX11_nextOf cX11_nextOf 8 (some .int), Cond.fieldLink RX11 71 "BoiledEggsModel" "eggs" "I", Cond.methodLink RX11 123 yX11_isInBox, Cond.instanceMethod yX11_isInBox, Cond.selects RX11 yX11_isInBox yX11_isInBox, Cond.code yX11_isInBox cX11_isInBox 2 (some .boolean), Cond.fieldLink RX11 86 "BoiledEggsModel" "inBox" "I"]
def wsX11_about_r2 : List Cond := [Cond.methodLink RX11 112 yX11_has, Cond.static yX11_has, Cond.code yX11_has cX11_has 2 (some .boolean), Cond.methodLink RX11 195 yX11_badness, Cond.instanceMethod yX11_badness, Cond.selects RX11 yX11_badness yX11_badness, Cond.code yX11_badness cX11_badness 9 (some .long), Cond.constantLong RX11 193 (2), Cond.methodLink RX11 126 yX11_total, Cond.instanceMethod yX11_total, Cond.selects RX11 yX11_total yX11_total, Cond.code yX11_total cX11_total 6 (some .long), Cond.methodLink RX11 119 yX11_weight, Cond.instanceMethod yX11_weight, Cond.selects RX11 yX11_weight yX11_weight, Cond.code yX11_weight cX11_weight 10 (some .long), Cond.fieldLink RX11 74 "BoiledEggsModel" "boiled" "I", Cond.fieldLink RX11 19 "BoiledEggsModel" "knownOf" "[I", Cond.fieldLink RX11 77 "BoiledEggsModel" "turnsBoiled" "I", Cond.fieldLink RX11 80 "BoiledEggsModel" "turnsRaw" "I", Cond.fieldLink RX11 7 "BoiledEggsModel" "habitOf" "[I", Cond.methodLink RX11 109 yX11_size, Cond.static yX11_size, Cond.code yX11_size cX11_size 3 (some .int)]
def wsX11_about_r3 : List Cond := [Cond.methodLink RX11 116 yX11_spun, Cond.instanceMethod yX11_spun, Cond.selects RX11 yX11_spun yX11_spun, Cond.code yX11_spun cX11_spun 3 (some .long), Cond.fieldLink RX11 16 "BoiledEggsModel" "turnedOf" "[I", Cond.fieldLink RX11 13 "BoiledEggsModel" "spinsOf" "[I", Cond.methodLink RX11 105 yX11_power, Cond.static yX11_power, Cond.code yX11_power cX11_power 5 (some .long), Cond.methodLink RX11 132 yX11_boiledWeight, Cond.instanceMethod yX11_boiledWeight, Cond.selects RX11 yX11_boiledWeight yX11_boiledWeight, Cond.code yX11_boiledWeight cX11_boiledWeight 6 (some .long)]
def wsX11_about : List Cond := .code yX11_about cX11_about 3 (some .int) :: ((wsX11_about_r1 ++ (wsX11_about_r2 ++ wsX11_about_r3)) ++ wsX110)
def wsX11_as : List Cond := .code yX11_as cX11_as 4 (some .int) :: ([.fieldLink RX11 22 "BoiledEggsModel" "kindOf" "[I", .methodLink RX11 201 yX11_isTrier, .instanceMethod yX11_isTrier, .selects RX11 yX11_isTrier yX11_isTrier, .initialized RX11, .code yX11_isTrier cX11_isTrier 2 (some .boolean), .fieldLink RX11 92 "BoiledEggsModel" "triers" "I", .methodLink RX11 51 yX11_within, .static yX11_within, .code yX11_within cX11_within 3 (some .boolean)] ++ wsX110)
def wsX11_fitsNow_r1 : List Cond := [Cond.fieldLink RX11 71 "BoiledEggsModel" "eggs" "I", Cond.methodLink RX11 119 yX11_weight, Cond.instanceMethod yX11_weight, Cond.selects RX11 yX11_weight yX11_weight, Cond.initialized RX11, Cond.code yX11_weight cX11_weight 10 (some .long), Cond.fieldLink RX11 74 "BoiledEggsModel" "boiled" "I", Cond.fieldLink RX11 19 "BoiledEggsModel" "knownOf" "[I", Cond.fieldLink RX11 77 "BoiledEggsModel" "turnsBoiled" "I", Cond.fieldLink RX11 80 "BoiledEggsModel" "turnsRaw" "I", Cond.fieldLink RX11 7 "BoiledEggsModel" "habitOf" "[I", Cond.methodLink RX11 109 yX11_size, Cond.static yX11_size, Cond.code yX11_size cX11_size 3 (some .int), Cond.methodLink RX11 112 yX11_has, Cond.static yX11_has, Cond.code yX11_has cX11_has 2 (some .boolean), Cond.methodLink RX11 116 yX11_spun, Cond.instanceMethod yX11_spun, Cond.selects RX11 yX11_spun yX11_spun, Cond.code yX11_spun cX11_spun 3 (some .long), Cond.fieldLink RX11 16 "BoiledEggsModel" "turnedOf" "[I", Cond.fieldLink RX11 13 "BoiledEggsModel" "spinsOf" "[I", Cond.methodLink RX11 105 yX11_power]
def wsX11_fitsNow_r2 : List Cond := [Cond.static yX11_power, Cond.code yX11_power cX11_power 5 (some .long)]
def wsX11_fitsNow : List Cond := .code yX11_fitsNow cX11_fitsNow 6 (some .int) :: ((wsX11_fitsNow_r1 ++ wsX11_fitsNow_r2) ++ wsX110)
def wsX11_fits_r1 : List Cond := [Cond.fieldLink RX11 71 "BoiledEggsModel" "eggs" "I", Cond.methodLink RX11 51 yX11_within, Cond.static yX11_within, Cond.initialized RX11, Cond.code yX11_within cX11_within 3 (some .boolean), Cond.methodLink RX11 207 yX11_fitsNow, Cond.instanceMethod yX11_fitsNow, Cond.selects RX11 yX11_fitsNow yX11_fitsNow, Cond.code yX11_fitsNow cX11_fitsNow 6 (some .int), Cond.methodLink RX11 119 yX11_weight, Cond.instanceMethod yX11_weight, Cond.selects RX11 yX11_weight yX11_weight, Cond.code yX11_weight cX11_weight 10 (some .long), Cond.fieldLink RX11 74 "BoiledEggsModel" "boiled" "I", Cond.fieldLink RX11 19 "BoiledEggsModel" "knownOf" "[I", Cond.fieldLink RX11 77 "BoiledEggsModel" "turnsBoiled" "I", Cond.fieldLink RX11 80 "BoiledEggsModel" "turnsRaw" "I", Cond.fieldLink RX11 7 "BoiledEggsModel" "habitOf" "[I", Cond.methodLink RX11 109 yX11_size, Cond.static yX11_size, Cond.code yX11_size cX11_size 3 (some .int), Cond.methodLink RX11 112 yX11_has, Cond.static yX11_has, Cond.code yX11_has cX11_has 2 (some .boolean)]
def wsX11_fits_r2 : List Cond := [Cond.methodLink RX11 116 yX11_spun, Cond.instanceMethod yX11_spun, Cond.selects RX11 yX11_spun yX11_spun, Cond.code yX11_spun cX11_spun 3 (some .long), Cond.fieldLink RX11 16 "BoiledEggsModel" "turnedOf" "[I", Cond.fieldLink RX11 13 "BoiledEggsModel" "spinsOf" "[I", Cond.methodLink RX11 105 yX11_power, Cond.static yX11_power, Cond.code yX11_power cX11_power 5 (some .long)]
def wsX11_fits : List Cond := .code yX11_fits cX11_fits 2 (some .int) :: ((wsX11_fits_r1 ++ wsX11_fits_r2) ++ wsX110)
def wsX11_draw : List Cond := .code yX11_draw cX11_draw 2 (some .int) :: ([.constantLong RX11 210 (1103515245), .fieldLink RX11 212 "BoiledEggsModel" "seedNow" "J", .constantLong RX11 216 (12345), .constantLong RX11 218 (2147483647), .constantLong RX11 220 (65536)] ++ wsX110)
def wsX11_boxBy_r1 : List Cond := [Cond.fieldLink RX11 71 "BoiledEggsModel" "eggs" "I", Cond.methodLink RX11 119 yX11_weight, Cond.instanceMethod yX11_weight, Cond.selects RX11 yX11_weight yX11_weight, Cond.initialized RX11, Cond.code yX11_weight cX11_weight 10 (some .long), Cond.fieldLink RX11 74 "BoiledEggsModel" "boiled" "I", Cond.fieldLink RX11 19 "BoiledEggsModel" "knownOf" "[I", Cond.fieldLink RX11 77 "BoiledEggsModel" "turnsBoiled" "I", Cond.fieldLink RX11 80 "BoiledEggsModel" "turnsRaw" "I", Cond.fieldLink RX11 7 "BoiledEggsModel" "habitOf" "[I", Cond.methodLink RX11 109 yX11_size, Cond.static yX11_size, Cond.code yX11_size cX11_size 3 (some .int), Cond.methodLink RX11 112 yX11_has, Cond.static yX11_has, Cond.code yX11_has cX11_has 2 (some .boolean), Cond.methodLink RX11 116 yX11_spun, Cond.instanceMethod yX11_spun, Cond.selects RX11 yX11_spun yX11_spun, Cond.code yX11_spun cX11_spun 3 (some .long), Cond.fieldLink RX11 16 "BoiledEggsModel" "turnedOf" "[I", Cond.fieldLink RX11 13 "BoiledEggsModel" "spinsOf" "[I", Cond.methodLink RX11 105 yX11_power]
def wsX11_boxBy_r2 : List Cond := [Cond.static yX11_power, Cond.code yX11_power cX11_power 5 (some .long)]
def wsX11_boxBy : List Cond := .code yX11_boxBy cX11_boxBy 4 (some .int) :: ((wsX11_boxBy_r1 ++ wsX11_boxBy_r2) ++ wsX110)
def wsX11_morningsNow_r1 : List Cond := [Cond.fieldLink RX11 212 "BoiledEggsModel" "seedNow" "J", Cond.fieldLink RX11 71 "BoiledEggsModel" "eggs" "I", Cond.fieldLink RX11 77 "BoiledEggsModel" "turnsBoiled" "I", Cond.fieldLink RX11 80 "BoiledEggsModel" "turnsRaw" "I", Cond.methodLink RX11 207 yX11_fitsNow, Cond.instanceMethod yX11_fitsNow, Cond.selects RX11 yX11_fitsNow yX11_fitsNow, Cond.initialized RX11, Cond.code yX11_fitsNow cX11_fitsNow 6 (some .int), Cond.methodLink RX11 119 yX11_weight, Cond.instanceMethod yX11_weight, Cond.selects RX11 yX11_weight yX11_weight, Cond.code yX11_weight cX11_weight 10 (some .long), Cond.fieldLink RX11 74 "BoiledEggsModel" "boiled" "I", Cond.fieldLink RX11 19 "BoiledEggsModel" "knownOf" "[I", Cond.fieldLink RX11 7 "BoiledEggsModel" "habitOf" "[I", Cond.methodLink RX11 109 yX11_size, Cond.static yX11_size, Cond.code yX11_size cX11_size 3 (some .int), Cond.methodLink RX11 112 yX11_has, Cond.static yX11_has, Cond.code yX11_has cX11_has 2 (some .boolean), Cond.methodLink RX11 116 yX11_spun, Cond.instanceMethod yX11_spun]
def wsX11_morningsNow_r2 : List Cond := [Cond.selects RX11 yX11_spun yX11_spun, Cond.code yX11_spun cX11_spun 3 (some .long), Cond.fieldLink RX11 16 "BoiledEggsModel" "turnedOf" "[I", Cond.fieldLink RX11 13 "BoiledEggsModel" "spinsOf" "[I", Cond.methodLink RX11 105 yX11_power, Cond.static yX11_power, Cond.code yX11_power cX11_power 5 (some .long), Cond.methodLink RX11 222 yX11_draw, Cond.instanceMethod yX11_draw, Cond.selects RX11 yX11_draw yX11_draw, Cond.code yX11_draw cX11_draw 2 (some .int), Cond.constantLong RX11 210 (1103515245), Cond.constantLong RX11 216 (12345), Cond.constantLong RX11 218 (2147483647), Cond.constantLong RX11 220 (65536), Cond.methodLink RX11 225 yX11_boxBy, Cond.instanceMethod yX11_boxBy, Cond.selects RX11 yX11_boxBy yX11_boxBy, Cond.code yX11_boxBy cX11_boxBy 4 (some .int)]
def wsX11_morningsNow : List Cond := .code yX11_morningsNow cX11_morningsNow 11 (some .int) :: ((wsX11_morningsNow_r1 ++ wsX11_morningsNow_r2) ++ wsX110)
def wsX11_mornings_r1 : List Cond := [Cond.fieldLink RX11 71 "BoiledEggsModel" "eggs" "I", Cond.methodLink RX11 51 yX11_within, Cond.static yX11_within, Cond.initialized RX11, Cond.code yX11_within cX11_within 3 (some .boolean), Cond.methodLink RX11 228 yX11_morningsNow, Cond.instanceMethod yX11_morningsNow, Cond.selects RX11 yX11_morningsNow yX11_morningsNow, Cond.code yX11_morningsNow cX11_morningsNow 11 (some .int), Cond.fieldLink RX11 212 "BoiledEggsModel" "seedNow" "J", Cond.fieldLink RX11 77 "BoiledEggsModel" "turnsBoiled" "I", Cond.fieldLink RX11 80 "BoiledEggsModel" "turnsRaw" "I", Cond.methodLink RX11 207 yX11_fitsNow, Cond.instanceMethod yX11_fitsNow, Cond.selects RX11 yX11_fitsNow yX11_fitsNow, Cond.code yX11_fitsNow cX11_fitsNow 6 (some .int), Cond.methodLink RX11 119 yX11_weight, Cond.instanceMethod yX11_weight, Cond.selects RX11 yX11_weight yX11_weight, Cond.code yX11_weight cX11_weight 10 (some .long), Cond.fieldLink RX11 74 "BoiledEggsModel" "boiled" "I", Cond.fieldLink RX11 19 "BoiledEggsModel" "knownOf" "[I", Cond.fieldLink RX11 7 "BoiledEggsModel" "habitOf" "[I", Cond.methodLink RX11 109 yX11_size]
def wsX11_mornings_r2 : List Cond := [Cond.static yX11_size, Cond.code yX11_size cX11_size 3 (some .int), Cond.methodLink RX11 112 yX11_has, Cond.static yX11_has, Cond.code yX11_has cX11_has 2 (some .boolean), Cond.methodLink RX11 116 yX11_spun, Cond.instanceMethod yX11_spun, Cond.selects RX11 yX11_spun yX11_spun, Cond.code yX11_spun cX11_spun 3 (some .long), Cond.fieldLink RX11 16 "BoiledEggsModel" "turnedOf" "[I", Cond.fieldLink RX11 13 "BoiledEggsModel" "spinsOf" "[I", Cond.methodLink RX11 105 yX11_power, Cond.static yX11_power, Cond.code yX11_power cX11_power 5 (some .long), Cond.methodLink RX11 222 yX11_draw, Cond.instanceMethod yX11_draw, Cond.selects RX11 yX11_draw yX11_draw, Cond.code yX11_draw cX11_draw 2 (some .int), Cond.constantLong RX11 210 (1103515245), Cond.constantLong RX11 216 (12345), Cond.constantLong RX11 218 (2147483647), Cond.constantLong RX11 220 (65536), Cond.methodLink RX11 225 yX11_boxBy, Cond.instanceMethod yX11_boxBy]
def wsX11_mornings_r3 : List Cond := [Cond.selects RX11 yX11_boxBy yX11_boxBy, Cond.code yX11_boxBy cX11_boxBy 4 (some .int)]
def wsX11_mornings : List Cond := .code yX11_mornings cX11_mornings 4 (some .int) :: ((wsX11_mornings_r1 ++ (wsX11_mornings_r2 ++ wsX11_mornings_r3)) ++ wsX110)
def wsX11_image : List Cond := .code yX11_image cX11_image 2 (some .int) :: ([.fieldLink RX11 71 "BoiledEggsModel" "eggs" "I", .fieldLink RX11 232 "BoiledEggsModel" "isKept" "Z", .fieldLink RX11 95 "BoiledEggsModel" "kitchens" "I", .fieldLink RX11 236 "BoiledEggsModel" "keptKitchen" "I", .fieldLink RX11 86 "BoiledEggsModel" "inBox" "I", .fieldLink RX11 239 "BoiledEggsModel" "keptBox" "I", .fieldLink RX11 89 "BoiledEggsModel" "spins" "I", .fieldLink RX11 242 "BoiledEggsModel" "keptSpins" "I", .fieldLink RX11 92 "BoiledEggsModel" "triers" "I", .fieldLink RX11 245 "BoiledEggsModel" "keptTriers" "I", .fieldLink RX11 42 "BoiledEggsModel" "keptSpinsOf" "[I", .fieldLink RX11 13 "BoiledEggsModel" "spinsOf" "[I", .fieldLink RX11 45 "BoiledEggsModel" "keptTurned" "[I", .fieldLink RX11 16 "BoiledEggsModel" "turnedOf" "[I", .fieldLink RX11 48 "BoiledEggsModel" "keptKnown" "[I", .fieldLink RX11 19 "BoiledEggsModel" "knownOf" "[I", .methodLink RX11 109 yX11_size, .static yX11_size, .initialized RX11, .code yX11_size cX11_size 3 (some .int)] ++ wsX110)
def wsX11_restore : List Cond := .code yX11_restore cX11_restore 2 (some .int) :: ([.fieldLink RX11 232 "BoiledEggsModel" "isKept" "Z", .fieldLink RX11 236 "BoiledEggsModel" "keptKitchen" "I", .fieldLink RX11 95 "BoiledEggsModel" "kitchens" "I", .fieldLink RX11 239 "BoiledEggsModel" "keptBox" "I", .fieldLink RX11 86 "BoiledEggsModel" "inBox" "I", .fieldLink RX11 242 "BoiledEggsModel" "keptSpins" "I", .fieldLink RX11 89 "BoiledEggsModel" "spins" "I", .fieldLink RX11 245 "BoiledEggsModel" "keptTriers" "I", .fieldLink RX11 92 "BoiledEggsModel" "triers" "I", .fieldLink RX11 13 "BoiledEggsModel" "spinsOf" "[I", .fieldLink RX11 42 "BoiledEggsModel" "keptSpinsOf" "[I", .fieldLink RX11 16 "BoiledEggsModel" "turnedOf" "[I", .fieldLink RX11 45 "BoiledEggsModel" "keptTurned" "[I", .fieldLink RX11 19 "BoiledEggsModel" "knownOf" "[I", .fieldLink RX11 48 "BoiledEggsModel" "keptKnown" "[I", .methodLink RX11 109 yX11_size, .static yX11_size, .initialized RX11, .code yX11_size cX11_size 3 (some .int)] ++ wsX110)
def wsX11_howMany : List Cond := .code yX11_howMany cX11_howMany 2 (some .int) :: ([.fieldLink RX11 71 "BoiledEggsModel" "eggs" "I", .fieldLink RX11 74 "BoiledEggsModel" "boiled" "I", .fieldLink RX11 77 "BoiledEggsModel" "turnsBoiled" "I", .fieldLink RX11 80 "BoiledEggsModel" "turnsRaw" "I", .fieldLink RX11 83 "BoiledEggsModel" "falls" "I", .fieldLink RX11 86 "BoiledEggsModel" "inBox" "I", .fieldLink RX11 89 "BoiledEggsModel" "spins" "I", .fieldLink RX11 92 "BoiledEggsModel" "triers" "I", .fieldLink RX11 55 "BoiledEggsModel" "pageLength" "I", .fieldLink RX11 95 "BoiledEggsModel" "kitchens" "I", .fieldLink RX11 178 "BoiledEggsModel" "asks" "I", .methodLink RX11 109 yX11_size, .static yX11_size, .initialized RX11, .code yX11_size cX11_size 3 (some .int)] ++ wsX110)
def wsX11_count : List Cond := .code yX11_count cX11_count 2 (some .int) :: ([.methodLink RX11 248 yX11_howMany, .instanceMethod yX11_howMany, .selects RX11 yX11_howMany yX11_howMany, .initialized RX11, .code yX11_howMany cX11_howMany 2 (some .int), .fieldLink RX11 71 "BoiledEggsModel" "eggs" "I", .fieldLink RX11 74 "BoiledEggsModel" "boiled" "I", .fieldLink RX11 77 "BoiledEggsModel" "turnsBoiled" "I", .fieldLink RX11 80 "BoiledEggsModel" "turnsRaw" "I", .fieldLink RX11 83 "BoiledEggsModel" "falls" "I", .fieldLink RX11 86 "BoiledEggsModel" "inBox" "I", .fieldLink RX11 89 "BoiledEggsModel" "spins" "I", .fieldLink RX11 92 "BoiledEggsModel" "triers" "I", .fieldLink RX11 55 "BoiledEggsModel" "pageLength" "I", .fieldLink RX11 95 "BoiledEggsModel" "kitchens" "I", .fieldLink RX11 178 "BoiledEggsModel" "asks" "I", .methodLink RX11 109 yX11_size, .static yX11_size, .code yX11_size cX11_size 3 (some .int)] ++ wsX110)
def wsX11_mix : List Cond := .code yX11_mix cX11_mix 3 none :: ([.constantLong RX11 251 (31), .fieldLink RX11 253 "BoiledEggsModel" "h" "J"] ++ wsX110)
def wsX11_digest_r1 : List Cond := [Cond.constantLong RX11 256 (787), Cond.fieldLink RX11 253 "BoiledEggsModel" "h" "J", Cond.fieldLink RX11 71 "BoiledEggsModel" "eggs" "I", Cond.fieldLink RX11 92 "BoiledEggsModel" "triers" "I", Cond.fieldLink RX11 55 "BoiledEggsModel" "pageLength" "I", Cond.fieldLink RX11 25 "BoiledEggsModel" "page" "[B", Cond.methodLink RX11 101 yX11_eggNow, Cond.instanceMethod yX11_eggNow, Cond.selects RX11 yX11_eggNow yX11_eggNow, Cond.initialized RX11, Cond.code yX11_eggNow cX11_eggNow 3 (some .int), Cond.fieldLink RX11 7 "BoiledEggsModel" "habitOf" "[I", Cond.fieldLink RX11 86 "BoiledEggsModel" "inBox" "I", Cond.fieldLink RX11 13 "BoiledEggsModel" "spinsOf" "[I", Cond.fieldLink RX11 16 "BoiledEggsModel" "turnedOf" "[I", Cond.fieldLink RX11 19 "BoiledEggsModel" "knownOf" "[I", Cond.methodLink RX11 258 yX11_mix, Cond.instanceMethod yX11_mix, Cond.selects RX11 yX11_mix yX11_mix, Cond.code yX11_mix cX11_mix 3 none, Cond.constantLong RX11 251 (31), Cond.methodLink RX11 141 yX11_likelyNow, Cond.instanceMethod yX11_likelyNow, Cond.selects RX11 yX11_likelyNow yX11_likelyNow]
def wsX11_digest_r2 : List Cond := [Cond.code yX11_likelyNow cX11_likelyNow 3 (some .long), Cond.methodLink RX11 132 yX11_boiledWeight, Cond.instanceMethod yX11_boiledWeight, Cond.selects RX11 yX11_boiledWeight yX11_boiledWeight, Cond.code yX11_boiledWeight cX11_boiledWeight 6 (some .long), Cond.methodLink RX11 112 yX11_has, Cond.static yX11_has, Cond.code yX11_has cX11_has 2 (some .boolean), Cond.methodLink RX11 119 yX11_weight, Cond.instanceMethod yX11_weight, Cond.selects RX11 yX11_weight yX11_weight, Cond.code yX11_weight cX11_weight 10 (some .long), Cond.fieldLink RX11 74 "BoiledEggsModel" "boiled" "I", Cond.fieldLink RX11 77 "BoiledEggsModel" "turnsBoiled" "I", Cond.fieldLink RX11 80 "BoiledEggsModel" "turnsRaw" "I", Cond.methodLink RX11 109 yX11_size, Cond.static yX11_size, Cond.code yX11_size cX11_size 3 (some .int), Cond.methodLink RX11 116 yX11_spun, Cond.instanceMethod yX11_spun, Cond.selects RX11 yX11_spun yX11_spun, Cond.code yX11_spun cX11_spun 3 (some .long), Cond.methodLink RX11 105 yX11_power, Cond.static yX11_power]
def wsX11_digest_r3 : List Cond := [Cond.code yX11_power cX11_power 5 (some .long), Cond.methodLink RX11 126 yX11_total, Cond.instanceMethod yX11_total, Cond.selects RX11 yX11_total yX11_total, Cond.code yX11_total cX11_total 6 (some .long), Cond.methodLink RX11 135 yX11_lowest, Cond.static yX11_lowest, Cond.code yX11_lowest cX11_lowest 11 (some .long), Cond.methodLink RX11 204 yX11_trierNow, Cond.instanceMethod yX11_trierNow, Cond.selects RX11 yX11_trierNow yX11_trierNow, Cond.code yX11_trierNow cX11_trierNow 3 (some .int), Cond.fieldLink RX11 22 "BoiledEggsModel" "kindOf" "[I", Cond.methodLink RX11 198 yX11_nextOf, Cond.instanceMethod yX11_nextOf, Cond.selects RX11 yX11_nextOf yX11_nextOf, Cond.code yX11_nextOf cX11_nextOf 8 (some .int), Cond.methodLink RX11 123 yX11_isInBox, Cond.instanceMethod yX11_isInBox, Cond.selects RX11 yX11_isInBox yX11_isInBox, Cond.code yX11_isInBox cX11_isInBox 2 (some .boolean), Cond.methodLink RX11 195 yX11_badness, Cond.instanceMethod yX11_badness, Cond.selects RX11 yX11_badness yX11_badness]
def wsX11_digest_r4 : List Cond := [Cond.code yX11_badness cX11_badness 9 (some .long), Cond.constantLong RX11 193 (2), Cond.methodLink RX11 146 yX11_likeliestNow, Cond.instanceMethod yX11_likeliestNow, Cond.selects RX11 yX11_likeliestNow yX11_likeliestNow, Cond.code yX11_likeliestNow cX11_likeliestNow 7 (some .int), Cond.methodLink RX11 207 yX11_fitsNow, Cond.instanceMethod yX11_fitsNow, Cond.selects RX11 yX11_fitsNow yX11_fitsNow, Cond.code yX11_fitsNow cX11_fitsNow 6 (some .int), Cond.methodLink RX11 248 yX11_howMany, Cond.instanceMethod yX11_howMany, Cond.selects RX11 yX11_howMany yX11_howMany, Cond.code yX11_howMany cX11_howMany 2 (some .int), Cond.fieldLink RX11 83 "BoiledEggsModel" "falls" "I", Cond.fieldLink RX11 89 "BoiledEggsModel" "spins" "I", Cond.fieldLink RX11 95 "BoiledEggsModel" "kitchens" "I", Cond.fieldLink RX11 178 "BoiledEggsModel" "asks" "I"]
def wsX11_digest : List Cond := .code yX11_digest cX11_digest 3 (some .long) :: ((wsX11_digest_r1 ++ (wsX11_digest_r2 ++ (wsX11_digest_r3 ++ wsX11_digest_r4))) ++ wsX110)
def wsJ9_abs_067f4 : List Cond := .code yJ9_abs_067f4 cJ9_abs_067f4 2 (some .long) :: ([])
def wsJ9_max_7cf53 : List Cond := .code yJ9_max_7cf53 cJ9_max_7cf53 2 (some .int) :: ([])
def wsJ9_min_7cf53 : List Cond := .code yJ9_min_7cf53 cJ9_min_7cf53 2 (some .int) :: ([])
def wsL_law_r1 : List Cond := [Cond.classLink RL 7 RX10, Cond.instantiable RX10 12, Cond.initialized RX10, Cond.classLink RL 10 RX11, Cond.instantiable RX11 32, Cond.initialized RX11, Cond.methodLink RL 9 yX10_init, Cond.instanceMethod yX10_init, Cond.code yX10_init cX10_init 1 none, Cond.methodLink RX10 1 objectInit, Cond.instanceMethod objectInit, Cond.code objectInit ⟨#[0xb1]⟩ 1 none, Cond.classLink RX10 7 RX7, Cond.instantiable RX7 2, Cond.initialized RX7, Cond.fieldLink RX10 10 "BoiledEggs" "page" "LBoiledEggs$Page;", Cond.classLink RX10 16 RX6, Cond.instantiable RX6 6, Cond.initialized RX6, Cond.fieldLink RX10 19 "BoiledEggs" "home" "LBoiledEggs$Kitchen;", Cond.classLink RX10 23 RX8, Cond.instantiable RX8 8, Cond.initialized RX8, Cond.fieldLink RX10 26 "BoiledEggs" "told" "LBoiledEggs$Told;"]
def wsL_law_r2 : List Cond := [Cond.fieldLink RX10 30 "BoiledEggs" "kept" "LBoiledEggs$Told;", Cond.classLink RX10 33 RX1, Cond.instantiable RX1 6, Cond.initialized RX1, Cond.fieldLink RX10 36 "BoiledEggs" "breaking" "LBoiledEggs$Breaking;", Cond.classLink RX10 40 RX3, Cond.instantiable RX3 1, Cond.initialized RX3, Cond.fieldLink RX10 43 "BoiledEggs" "draws" "LBoiledEggs$Draws;", Cond.classLink RX10 47 RX9, Cond.fieldLink RX10 49 "BoiledEggs" "triers" "[LBoiledEggs$Trier;", Cond.instanceMethod yX7_init, Cond.code yX7_init cX7_init 1 none, Cond.methodLink RX7 3 objectInit, Cond.arrayClass .int, Cond.fieldLink RX7 9 "BoiledEggs$Page" "codes" "[I", Cond.instanceMethod yX6_init, Cond.code yX6_init cX6_init 1 none, Cond.methodLink RX6 3 objectInit, Cond.fieldLink RX6 9 "BoiledEggs$Kitchen" "habits" "[I", Cond.instanceMethod yX8_init, Cond.code yX8_init cX8_init 1 none, Cond.methodLink RX8 3 objectInit, Cond.fieldLink RX8 9 "BoiledEggs$Told" "boxes" "[I"]
def wsL_law_r3 : List Cond := [Cond.arrayClass .long, Cond.fieldLink RX8 15 "BoiledEggs$Told" "weights" "[J", Cond.fieldLink RX8 19 "BoiledEggs$Told" "spins" "[I", Cond.fieldLink RX8 22 "BoiledEggs$Told" "turned" "[I", Cond.fieldLink RX8 25 "BoiledEggs$Told" "known" "[I", Cond.instanceMethod yX1_init, Cond.code yX1_init cX1_init 1 none, Cond.methodLink RX1 3 objectInit, Cond.fieldLink RX1 11 "BoiledEggs$Breaking" "weights" "[J", Cond.fieldLink RX1 15 "BoiledEggs$Breaking" "costs" "[J", Cond.fieldLink RX1 18 "BoiledEggs$Breaking" "worsts" "[I", Cond.instanceMethod yX3_init, Cond.code yX3_init cX3_init 1 none, Cond.methodLink RX3 1 objectInit, Cond.methodLink RL 12 yX11_init, Cond.instanceMethod yX11_init, Cond.code yX11_init cX11_init 1 none, Cond.methodLink RX11 1 objectInit, Cond.fieldLink RX11 7 "BoiledEggsModel" "habitOf" "[I", Cond.fieldLink RX11 13 "BoiledEggsModel" "spinsOf" "[I", Cond.fieldLink RX11 16 "BoiledEggsModel" "turnedOf" "[I", Cond.fieldLink RX11 19 "BoiledEggsModel" "knownOf" "[I", Cond.fieldLink RX11 22 "BoiledEggsModel" "kindOf" "[I", Cond.arrayClass .byte]
def wsL_law_r4 : List Cond := [Cond.fieldLink RX11 25 "BoiledEggsModel" "page" "[B", Cond.fieldLink RX11 29 "BoiledEggsModel" "weightOf" "[J", Cond.fieldLink RX11 33 "BoiledEggsModel" "worstOf" "[I", Cond.fieldLink RX11 36 "BoiledEggsModel" "meanOf" "[J", Cond.fieldLink RX11 39 "BoiledEggsModel" "boxWeight" "[J", Cond.fieldLink RX11 42 "BoiledEggsModel" "keptSpinsOf" "[I", Cond.fieldLink RX11 45 "BoiledEggsModel" "keptTurned" "[I", Cond.fieldLink RX11 48 "BoiledEggsModel" "keptKnown" "[I", Cond.methodLink RL 13 yX10_letter, Cond.instanceMethod yX10_letter, Cond.selects RX10 yX10_letter yX10_letter, Cond.code yX10_letter cX10_letter 2 (some .int), Cond.methodLink RX10 53 yX7_isFull, Cond.instanceMethod yX7_isFull, Cond.selects RX7 yX7_isFull yX7_isFull, Cond.code yX7_isFull cX7_isFull 1 (some .boolean), Cond.fieldLink RX7 15 "BoiledEggs$Page" "size" "I", Cond.methodLink RX10 57 yX7_append, Cond.instanceMethod yX7_append, Cond.selects RX7 yX7_append yX7_append, Cond.code yX7_append cX7_append 2 (some .int), Cond.methodLink RX7 19 yX7_isFull, Cond.methodLink RL 17 yX11_letter, Cond.instanceMethod yX11_letter]
def wsL_law_r5 : List Cond := [Cond.selects RX11 yX11_letter yX11_letter, Cond.code yX11_letter cX11_letter 2 (some .int), Cond.fieldLink RX11 55 "BoiledEggsModel" "pageLength" "I", Cond.methodLink RX11 51 yX11_within, Cond.static yX11_within, Cond.code yX11_within cX11_within 3 (some .boolean), Cond.methodLink RL 18 yX10_blank, Cond.instanceMethod yX10_blank, Cond.selects RX10 yX10_blank yX10_blank, Cond.code yX10_blank cX10_blank 1 (some .int), Cond.methodLink RX10 61 yX7_clear, Cond.instanceMethod yX7_clear, Cond.selects RX7 yX7_clear yX7_clear, Cond.code yX7_clear cX7_clear 2 (some .int), Cond.methodLink RL 22 yX11_blank, Cond.instanceMethod yX11_blank, Cond.selects RX11 yX11_blank yX11_blank, Cond.code yX11_blank cX11_blank 2 (some .int), Cond.methodLink RL 23 yX10_fault, Cond.instanceMethod yX10_fault, Cond.selects RX10 yX10_fault yX10_fault, Cond.code yX10_fault cX10_fault 1 (some .int), Cond.methodLink RX10 65 yX7_firstFault, Cond.instanceMethod yX7_firstFault]
def wsL_law_r6 : List Cond := [Cond.selects RX7 yX7_firstFault yX7_firstFault, Cond.code yX7_firstFault cX7_firstFault 2 (some .int), Cond.methodLink RX7 23 yX7_suits, Cond.instanceMethod yX7_suits, Cond.selects RX7 yX7_suits yX7_suits, Cond.code yX7_suits cX7_suits 2 (some .boolean), Cond.methodLink RX7 35 yX7_isDigit, Cond.instanceMethod yX7_isDigit, Cond.selects RX7 yX7_isDigit yX7_isDigit, Cond.code yX7_isDigit cX7_isDigit 5 (some .boolean), Cond.methodLink RX7 27 yX7_digit, Cond.instanceMethod yX7_digit, Cond.selects RX7 yX7_digit yX7_digit, Cond.code yX7_digit cX7_digit 2 (some .int), Cond.methodLink RL 26 yX11_fault, Cond.instanceMethod yX11_fault, Cond.selects RX11 yX11_fault yX11_fault, Cond.code yX11_fault cX11_fault 1 (some .int), Cond.methodLink RX11 67 yX11_faultNow, Cond.instanceMethod yX11_faultNow, Cond.selects RX11 yX11_faultNow yX11_faultNow, Cond.code yX11_faultNow cX11_faultNow 2 (some .int), Cond.methodLink RX11 63 yX11_isGood, Cond.instanceMethod yX11_isGood]
def wsL_law_r7 : List Cond := [Cond.selects RX11 yX11_isGood yX11_isGood, Cond.code yX11_isGood cX11_isGood 2 (some .boolean), Cond.methodLink RX11 59 yX11_figure, Cond.instanceMethod yX11_figure, Cond.selects RX11 yX11_figure yX11_figure, Cond.code yX11_figure cX11_figure 2 (some .int), Cond.methodLink RL 27 yX10_kitchen, Cond.instanceMethod yX10_kitchen, Cond.selects RX10 yX10_kitchen yX10_kitchen, Cond.code yX10_kitchen cX10_kitchen 1 (some .int), Cond.fieldLink RX10 79 "BoiledEggs" "trierCount" "I", Cond.fieldLink RX10 83 "BoiledEggs" "isKept" "Z", Cond.fieldLink RX10 87 "BoiledEggs" "kitchensRead" "I", Cond.methodLink RX10 68 yX7_isWholeKitchen, Cond.instanceMethod yX7_isWholeKitchen, Cond.selects RX7 yX7_isWholeKitchen yX7_isWholeKitchen, Cond.code yX7_isWholeKitchen cX7_isWholeKitchen 1 (some .boolean), Cond.methodLink RX7 31 yX7_firstFault, Cond.methodLink RX10 71 yX6_readFrom, Cond.instanceMethod yX6_readFrom, Cond.selects RX6 yX6_readFrom yX6_readFrom, Cond.code yX6_readFrom cX6_readFrom 3 none, Cond.methodLink RX6 21 Lib.Math.min.name, Cond.static Lib.Math.min.name]
def wsL_law_r8 : List Cond := [Cond.initialized "java/lang/Math", Cond.code Lib.Math.min.name Lib.Math.min.code 2 (some .int), Cond.fieldLink RX6 27 "BoiledEggs$Kitchen" "eggs" "I", Cond.fieldLink RX6 31 "BoiledEggs$Kitchen" "boiled" "I", Cond.fieldLink RX6 34 "BoiledEggs$Kitchen" "turnsBoiled" "I", Cond.fieldLink RX6 37 "BoiledEggs$Kitchen" "turnsRaw" "I", Cond.fieldLink RX6 40 "BoiledEggs$Kitchen" "falls" "I", Cond.methodLink RX6 15 yX7_digit, Cond.methodLink RX10 75 yX8_begin, Cond.instanceMethod yX8_begin, Cond.selects RX8 yX8_begin yX8_begin, Cond.code yX8_begin cX8_begin 4 none, Cond.fieldLink RX8 28 "BoiledEggs$Told" "fitting" "I", Cond.fieldLink RX8 55 "BoiledEggs$Told" "inBox" "I", Cond.fieldLink RX8 58 "BoiledEggs$Told" "allSpins" "I", Cond.methodLink RX8 32 yX6_allEggs, Cond.instanceMethod yX6_allEggs, Cond.selects RX6 yX6_allEggs yX6_allEggs, Cond.code yX6_allEggs cX6_allEggs 1 (some .int), Cond.methodLink RX8 38 yJ6_bitCount_0f7a4, Cond.static yJ6_bitCount_0f7a4, Cond.initialized RJ6, Cond.code yJ6_bitCount_0f7a4 cJ6_bitCount_0f7a4 1 (some .int), Cond.constant RJ6 265 (1431655765)]
def wsL_law_r9 : List Cond := [Cond.constant RJ6 266 (858993459), Cond.constant RJ6 267 (252645135), Cond.methodLink RX8 47 yX6_habitsOf, Cond.instanceMethod yX6_habitsOf, Cond.selects RX6 yX6_habitsOf yX6_habitsOf, Cond.code yX6_habitsOf cX6_habitsOf 5 (some .long), Cond.static yX10_has, Cond.code yX10_has cX10_has 2 (some .boolean), Cond.methodLink RX8 51 yX8_keep, Cond.instanceMethod yX8_keep, Cond.selects RX8 yX8_keep yX8_keep, Cond.code yX8_keep cX8_keep 4 none, Cond.methodLink RL 30 yX11_kitchen, Cond.instanceMethod yX11_kitchen, Cond.selects RX11 yX11_kitchen yX11_kitchen, Cond.code yX11_kitchen cX11_kitchen 2 (some .int), Cond.fieldLink RX11 71 "BoiledEggsModel" "eggs" "I", Cond.fieldLink RX11 74 "BoiledEggsModel" "boiled" "I", Cond.fieldLink RX11 77 "BoiledEggsModel" "turnsBoiled" "I", Cond.fieldLink RX11 80 "BoiledEggsModel" "turnsRaw" "I", Cond.fieldLink RX11 83 "BoiledEggsModel" "falls" "I", Cond.fieldLink RX11 86 "BoiledEggsModel" "inBox" "I", Cond.fieldLink RX11 89 "BoiledEggsModel" "spins" "I", Cond.fieldLink RX11 92 "BoiledEggsModel" "triers" "I"]
def wsL_law_r10 : List Cond := [Cond.fieldLink RX11 95 "BoiledEggsModel" "kitchens" "I", Cond.methodLink RL 31 yX10_egg, Cond.instanceMethod yX10_egg, Cond.selects RX10 yX10_egg yX10_egg, Cond.code yX10_egg cX10_egg 3 (some .int), Cond.methodLink RX10 93 yX10_isEgg, Cond.instanceMethod yX10_isEgg, Cond.selects RX10 yX10_isEgg yX10_isEgg, Cond.code yX10_isEgg cX10_isEgg 2 (some .boolean), Cond.methodLink RX10 101 yX8_isInBox, Cond.instanceMethod yX8_isInBox, Cond.selects RX8 yX8_isInBox yX8_isInBox, Cond.code yX8_isInBox cX8_isInBox 2 (some .boolean), Cond.methodLink RL 35 yX11_egg, Cond.instanceMethod yX11_egg, Cond.selects RX11 yX11_egg yX11_egg, Cond.code yX11_egg cX11_egg 3 (some .int), Cond.methodLink RX11 98 yX11_isEgg, Cond.instanceMethod yX11_isEgg, Cond.selects RX11 yX11_isEgg yX11_isEgg, Cond.code yX11_isEgg cX11_isEgg 2 (some .boolean), Cond.methodLink RX11 101 yX11_eggNow, Cond.instanceMethod yX11_eggNow, Cond.selects RX11 yX11_eggNow yX11_eggNow]
def wsL_law_r11 : List Cond := [Cond.code yX11_eggNow cX11_eggNow 3 (some .int), Cond.methodLink RL 36 yX10_spin, Cond.instanceMethod yX10_spin, Cond.selects RX10 yX10_spin yX10_spin, Cond.code yX10_spin cX10_spin 5 (some .int), Cond.methodLink RX10 113 yX6_tenthsOf, Cond.instanceMethod yX6_tenthsOf, Cond.selects RX6 yX6_tenthsOf yX6_tenthsOf, Cond.code yX6_tenthsOf cX6_tenthsOf 4 (some .int), Cond.methodLink RX10 117 yX8_canBe, Cond.instanceMethod yX8_canBe, Cond.selects RX8 yX8_canBe yX8_canBe, Cond.code yX8_canBe cX8_canBe 6 (some .boolean), Cond.methodLink RX8 67 yX8_boiledWeight, Cond.instanceMethod yX8_boiledWeight, Cond.selects RX8 yX8_boiledWeight yX8_boiledWeight, Cond.code yX8_boiledWeight cX8_boiledWeight 5 (some .long), Cond.methodLink RX8 70 yX8_allWeight, Cond.instanceMethod yX8_allWeight, Cond.selects RX8 yX8_allWeight yX8_allWeight, Cond.code yX8_allWeight cX8_allWeight 4 (some .long), Cond.methodLink RX10 124 yX8_weigh, Cond.instanceMethod yX8_weigh, Cond.selects RX8 yX8_weigh yX8_weigh]
def wsL_law_r12 : List Cond := [Cond.code yX8_weigh cX8_weigh 6 none, Cond.methodLink RX10 128 yX8_countSpin, Cond.instanceMethod yX8_countSpin, Cond.selects RX8 yX8_countSpin yX8_countSpin, Cond.code yX8_countSpin cX8_countSpin 3 none, Cond.methodLink RL 40 yX11_spin, Cond.instanceMethod yX11_spin, Cond.selects RX11 yX11_spin yX11_spin, Cond.code yX11_spin cX11_spin 4 (some .int), Cond.methodLink RX11 123 yX11_isInBox, Cond.instanceMethod yX11_isInBox, Cond.selects RX11 yX11_isInBox yX11_isInBox, Cond.code yX11_isInBox cX11_isInBox 2 (some .boolean), Cond.methodLink RX11 112 yX11_has, Cond.static yX11_has, Cond.code yX11_has cX11_has 2 (some .boolean), Cond.methodLink RX11 126 yX11_total, Cond.instanceMethod yX11_total, Cond.selects RX11 yX11_total yX11_total, Cond.code yX11_total cX11_total 6 (some .long), Cond.methodLink RX11 119 yX11_weight, Cond.instanceMethod yX11_weight, Cond.selects RX11 yX11_weight yX11_weight, Cond.code yX11_weight cX11_weight 10 (some .long)]
def wsL_law_r13 : List Cond := [Cond.methodLink RX11 109 yX11_size, Cond.static yX11_size, Cond.code yX11_size cX11_size 3 (some .int), Cond.methodLink RX11 116 yX11_spun, Cond.instanceMethod yX11_spun, Cond.selects RX11 yX11_spun yX11_spun, Cond.code yX11_spun cX11_spun 3 (some .long), Cond.methodLink RX11 105 yX11_power, Cond.static yX11_power, Cond.code yX11_power cX11_power 5 (some .long), Cond.methodLink RL 41 yX10_stop, Cond.instanceMethod yX10_stop, Cond.selects RX10 yX10_stop yX10_stop, Cond.code yX10_stop cX10_stop 3 (some .int), Cond.methodLink RX10 135 yX8_takeOut, Cond.instanceMethod yX8_takeOut, Cond.selects RX8 yX8_takeOut yX8_takeOut, Cond.code yX8_takeOut cX8_takeOut 2 none, Cond.methodLink RX10 139 yX8_canBeSure, Cond.instanceMethod yX8_canBeSure, Cond.selects RX8 yX8_canBeSure yX8_canBeSure, Cond.code yX8_canBeSure cX8_canBeSure 3 (some .boolean), Cond.methodLink RX8 74 yX8_canBe, Cond.methodLink RX10 143 yX8_makeSure]
def wsL_law_r14 : List Cond := [Cond.instanceMethod yX8_makeSure, Cond.selects RX8 yX8_makeSure yX8_makeSure, Cond.code yX8_makeSure cX8_makeSure 3 none, Cond.methodLink RX8 82 yX8_weigh, Cond.methodLink RX10 146 yX8_howManyInBox, Cond.instanceMethod yX8_howManyInBox, Cond.selects RX8 yX8_howManyInBox yX8_howManyInBox, Cond.code yX8_howManyInBox cX8_howManyInBox 1 (some .int), Cond.methodLink RL 44 yX11_stop, Cond.instanceMethod yX11_stop, Cond.selects RX11 yX11_stop yX11_stop, Cond.code yX11_stop cX11_stop 3 (some .int), Cond.methodLink RX11 129 yX11_know, Cond.instanceMethod yX11_know, Cond.selects RX11 yX11_know yX11_know, Cond.code yX11_know cX11_know 5 (some .boolean), Cond.methodLink RL 45 yX10_crack, Cond.instanceMethod yX10_crack, Cond.selects RX10 yX10_crack yX10_crack, Cond.code yX10_crack cX10_crack 3 (some .int), Cond.methodLink RL 48 yX11_crack, Cond.instanceMethod yX11_crack, Cond.selects RX11 yX11_crack yX11_crack, Cond.code yX11_crack cX11_crack 3 (some .int)]
def wsL_law_r15 : List Cond := [Cond.methodLink RL 49 yX10_likely, Cond.instanceMethod yX10_likely, Cond.selects RX10 yX10_likely yX10_likely, Cond.code yX10_likely cX10_likely 3 (some .long), Cond.constantLong RX10 149 (-101), Cond.constantLong RX10 154 (-102), Cond.methodLink RX10 151 yX10_isPart, Cond.static yX10_isPart, Cond.code yX10_isPart cX10_isPart 1 (some .boolean), Cond.methodLink RX10 156 yX8_boiledWeight, Cond.methodLink RX10 160 yX8_allWeight, Cond.methodLink RX10 164 yX10_inLowestTerms, Cond.static yX10_inLowestTerms, Cond.code yX10_inLowestTerms cX10_inLowestTerms 9 (some .long), Cond.methodLink RX10 315 yX10_commonDivisor, Cond.static yX10_commonDivisor, Cond.code yX10_commonDivisor cX10_commonDivisor 11 (some .long), Cond.methodLink RL 53 yX11_likely, Cond.instanceMethod yX11_likely, Cond.selects RX11 yX11_likely yX11_likely, Cond.code yX11_likely cX11_likely 3 (some .long), Cond.constantLong RX11 139 (-101), Cond.constantLong RX11 144 (-102), Cond.methodLink RX11 141 yX11_likelyNow]
def wsL_law_r16 : List Cond := [Cond.instanceMethod yX11_likelyNow, Cond.selects RX11 yX11_likelyNow yX11_likelyNow, Cond.code yX11_likelyNow cX11_likelyNow 3 (some .long), Cond.methodLink RX11 132 yX11_boiledWeight, Cond.instanceMethod yX11_boiledWeight, Cond.selects RX11 yX11_boiledWeight yX11_boiledWeight, Cond.code yX11_boiledWeight cX11_boiledWeight 6 (some .long), Cond.methodLink RX11 135 yX11_lowest, Cond.static yX11_lowest, Cond.code yX11_lowest cX11_lowest 11 (some .long), Cond.methodLink RL 54 yX10_likeliest, Cond.instanceMethod yX10_likeliest, Cond.selects RX10 yX10_likeliest yX10_likeliest, Cond.code yX10_likeliest cX10_likeliest 1 (some .int), Cond.methodLink RX10 168 yX10_hasKitchen, Cond.instanceMethod yX10_hasKitchen, Cond.selects RX10 yX10_hasKitchen yX10_hasKitchen, Cond.code yX10_hasKitchen cX10_hasKitchen 1 (some .boolean), Cond.methodLink RX10 171 yX8_heaviestBox, Cond.instanceMethod yX8_heaviestBox, Cond.selects RX8 yX8_heaviestBox yX8_heaviestBox, Cond.code yX8_heaviestBox cX8_heaviestBox 3 (some .int), Cond.methodLink RL 57 yX11_likeliest, Cond.instanceMethod yX11_likeliest]
def wsL_law_r17 : List Cond := [Cond.selects RX11 yX11_likeliest yX11_likeliest, Cond.code yX11_likeliest cX11_likeliest 1 (some .int), Cond.methodLink RX11 146 yX11_likeliestNow, Cond.instanceMethod yX11_likeliestNow, Cond.selects RX11 yX11_likeliestNow yX11_likeliestNow, Cond.code yX11_likeliestNow cX11_likeliestNow 7 (some .int), Cond.methodLink RL 58 yX10_turning, Cond.instanceMethod yX10_turning, Cond.selects RX10 yX10_turning yX10_turning, Cond.code yX10_turning cX10_turning 10 (some .int), Cond.constantLong RX10 174 (10), Cond.methodLink RL 61 yX11_turning, Cond.instanceMethod yX11_turning, Cond.selects RX11 yX11_turning yX11_turning, Cond.code yX11_turning cX11_turning 3 (some .int), Cond.methodLink RX11 151 yX11_turningNow, Cond.instanceMethod yX11_turningNow, Cond.selects RX11 yX11_turningNow yX11_turningNow, Cond.code yX11_turningNow cX11_turningNow 6 (some .int), Cond.constantLong RX11 149 (10), Cond.methodLink RL 62 yX10_worst, Cond.instanceMethod yX10_worst, Cond.selects RX10 yX10_worst yX10_worst, Cond.code yX10_worst cX10_worst 3 (some .int)]
def wsL_law_r18 : List Cond := [Cond.fieldLink RX10 188 "BoiledEggs" "breakingsDone" "I", Cond.methodLink RX10 182 yX10_isRawNumber, Cond.static yX10_isRawNumber, Cond.code yX10_isRawNumber cX10_isRawNumber 1 (some .boolean), Cond.methodLink RX10 185 yX10_mayBreak, Cond.instanceMethod yX10_mayBreak, Cond.selects RX10 yX10_mayBreak yX10_mayBreak, Cond.code yX10_mayBreak cX10_mayBreak 1 (some .boolean), Cond.methodLink RX10 191 yX8_hasRawInBox, Cond.instanceMethod yX8_hasRawInBox, Cond.selects RX8 yX8_hasRawInBox yX8_hasRawInBox, Cond.code yX8_hasRawInBox cX8_hasRawInBox 3 (some .boolean), Cond.methodLink RX10 194 yX1_solve, Cond.instanceMethod yX1_solve, Cond.selects RX1 yX1_solve yX1_solve, Cond.code yX1_solve cX1_solve 5 none, Cond.fieldLink RX1 22 "BoiledEggs$Breaking" "needed" "I", Cond.fieldLink RX1 32 "BoiledEggs$Breaking" "places" "I", Cond.methodLink RX1 26 yX8_howManyInBox, Cond.methodLink RX1 35 yX1_spread, Cond.instanceMethod yX1_spread, Cond.selects RX1 yX1_spread yX1_spread, Cond.code yX1_spread cX1_spread 4 none, Cond.methodLink RX1 52 yX1_lastState]
def wsL_law_r19 : List Cond := [Cond.instanceMethod yX1_lastState, Cond.selects RX1 yX1_lastState yX1_lastState, Cond.code yX1_lastState cX1_lastState 6 (some .int), Cond.methodLink RX1 57 yX8_isInBox, Cond.methodLink RX1 39 yX1_solveState, Cond.instanceMethod yX1_solveState, Cond.selects RX1 yX1_solveState yX1_solveState, Cond.code yX1_solveState cX1_solveState 8 none, Cond.methodLink RX1 65 yX1_breakNext, Cond.instanceMethod yX1_breakNext, Cond.selects RX1 yX1_breakNext yX1_breakNext, Cond.code yX1_breakNext cX1_breakNext 12 none, Cond.constantLong RX1 70 (9223372036854775807), Cond.constant RX1 74 (2147483647), Cond.fieldLink RX1 43 "BoiledEggs$Breaking" "bestPlace" "I", Cond.methodLink RX1 75 Lib.Math.max.name, Cond.static Lib.Math.max.name, Cond.code Lib.Math.max.name Lib.Math.max.code 2 (some .int), Cond.methodLink RX1 81 Lib.Math.min.name, Cond.methodLink RX10 198 yX1_fewestAtWorst, Cond.instanceMethod yX1_fewestAtWorst, Cond.selects RX1 yX1_fewestAtWorst yX1_fewestAtWorst, Cond.code yX1_fewestAtWorst cX1_fewestAtWorst 1 (some .int), Cond.methodLink RX10 201 yX1_firstPlace]
def wsL_law_r20 : List Cond := [Cond.instanceMethod yX1_firstPlace, Cond.selects RX1 yX1_firstPlace yX1_firstPlace, Cond.code yX1_firstPlace cX1_firstPlace 1 (some .int), Cond.methodLink RX10 204 yX8_eggAtPlace, Cond.instanceMethod yX8_eggAtPlace, Cond.selects RX8 yX8_eggAtPlace yX8_eggAtPlace, Cond.code yX8_eggAtPlace cX8_eggAtPlace 4 (some .int), Cond.methodLink RX8 86 yX8_isInBox, Cond.methodLink RL 65 yX11_worst, Cond.instanceMethod yX11_worst, Cond.selects RX11 yX11_worst yX11_worst, Cond.code yX11_worst cX11_worst 3 (some .int), Cond.fieldLink RX11 178 "BoiledEggsModel" "asks" "I", Cond.fieldLink RX11 163 "BoiledEggsModel" "bestFirst" "I", Cond.methodLink RX11 181 yX11_mayAsk, Cond.instanceMethod yX11_mayAsk, Cond.selects RX11 yX11_mayAsk yX11_mayAsk, Cond.code yX11_mayAsk cX11_mayAsk 1 (some .boolean), Cond.methodLink RX11 185 yX11_layBreaking, Cond.instanceMethod yX11_layBreaking, Cond.selects RX11 yX11_layBreaking yX11_layBreaking, Cond.code yX11_layBreaking cX11_layBreaking 4 (some .boolean), Cond.methodLink RX11 171 yX11_layWeights, Cond.instanceMethod yX11_layWeights]
def wsL_law_r21 : List Cond := [Cond.selects RX11 yX11_layWeights yX11_layWeights, Cond.code yX11_layWeights cX11_layWeights 7 none, Cond.methodLink RX11 160 yX11_eggsOf, Cond.instanceMethod yX11_eggsOf, Cond.selects RX11 yX11_eggsOf yX11_eggsOf, Cond.code yX11_eggsOf cX11_eggsOf 6 (some .int), Cond.methodLink RX11 157 yX11_figureOf, Cond.static yX11_figureOf, Cond.code yX11_figureOf cX11_figureOf 2 (some .int), Cond.methodLink RX11 154 yX11_three, Cond.static yX11_three, Cond.code yX11_three cX11_three 3 (some .int), Cond.methodLink RX11 174 yX11_layState, Cond.instanceMethod yX11_layState, Cond.selects RX11 yX11_layState yX11_layState, Cond.code yX11_layState cX11_layState 12 none, Cond.constantLong RX11 166 (-1), Cond.methodLink RX11 168 yX11_larger, Cond.instanceMethod yX11_larger, Cond.selects RX11 yX11_larger yX11_larger, Cond.code yX11_larger cX11_larger 5 (some .int), Cond.methodLink RL 66 yX10_mean, Cond.instanceMethod yX10_mean, Cond.selects RX10 yX10_mean yX10_mean]
def wsL_law_r22 : List Cond := [Cond.code yX10_mean cX10_mean 3 (some .long), Cond.constantLong RX10 207 (-103), Cond.constantLong RX10 209 (-1), Cond.methodLink RX10 211 yX1_fewestByWeight, Cond.instanceMethod yX1_fewestByWeight, Cond.selects RX1 yX1_fewestByWeight yX1_fewestByWeight, Cond.code yX1_fewestByWeight cX1_fewestByWeight 1 (some .long), Cond.methodLink RL 69 yX11_mean, Cond.instanceMethod yX11_mean, Cond.selects RX11 yX11_mean yX11_mean, Cond.code yX11_mean cX11_mean 3 (some .long), Cond.constantLong RX11 188 (-103), Cond.methodLink RL 70 yX10_risk, Cond.instanceMethod yX10_risk, Cond.selects RX10 yX10_risk yX10_risk, Cond.code yX10_risk cX10_risk 7 (some .long), Cond.methodLink RL 73 yX11_risk, Cond.instanceMethod yX11_risk, Cond.selects RX11 yX11_risk yX11_risk, Cond.code yX11_risk cX11_risk 3 (some .long), Cond.methodLink RX11 190 yX11_riskNow, Cond.instanceMethod yX11_riskNow, Cond.selects RX11 yX11_riskNow yX11_riskNow, Cond.code yX11_riskNow cX11_riskNow 5 (some .long)]
def wsL_law_r23 : List Cond := [Cond.methodLink RL 74 yX10_trier, Cond.instanceMethod yX10_trier, Cond.selects RX10 yX10_trier yX10_trier, Cond.code yX10_trier cX10_trier 2 (some .int), Cond.methodLink RX10 214 yX10_isKind, Cond.static yX10_isKind, Cond.code yX10_isKind cX10_isKind 1 (some .boolean), Cond.methodLink RX10 217 yX10_newTrier, Cond.static yX10_newTrier, Cond.code yX10_newTrier cX10_newTrier 1 (some (.object "BoiledEggs$Trier")), Cond.classLink RX10 318 RX2, Cond.instantiable RX2 0, Cond.initialized RX2, Cond.classLink RX10 321 RX0, Cond.instantiable RX0 0, Cond.initialized RX0, Cond.classLink RX10 324 RX5, Cond.instantiable RX5 0, Cond.initialized RX5, Cond.classLink RX10 327 RX4, Cond.instantiable RX4 0, Cond.initialized RX4, Cond.instantiable RX9 0, Cond.initialized RX9]
def wsL_law_r24 : List Cond := [Cond.instanceMethod yX2_init, Cond.code yX2_init cX2_init 1 none, Cond.instanceMethod yX9_init, Cond.code yX9_init cX9_init 1 none, Cond.methodLink RX9 3 objectInit, Cond.instanceMethod yX0_init, Cond.code yX0_init cX0_init 1 none, Cond.instanceMethod yX5_init, Cond.code yX5_init cX5_init 1 none, Cond.instanceMethod yX4_init, Cond.code yX4_init cX4_init 1 none, Cond.methodLink RL 77 yX11_trier, Cond.instanceMethod yX11_trier, Cond.selects RX11 yX11_trier yX11_trier, Cond.code yX11_trier cX11_trier 2 (some .int), Cond.methodLink RL 78 yX10_about, Cond.instanceMethod yX10_about, Cond.selects RX10 yX10_about yX10_about, Cond.code yX10_about cX10_about 4 (some .int), Cond.methodLink RX10 221 yX10_trierOf, Cond.instanceMethod yX10_trierOf, Cond.selects RX10 yX10_trierOf yX10_trierOf, Cond.code yX10_trierOf cX10_trierOf 2 (some (.object "BoiledEggs$Trier")), Cond.methodLink RX10 224 ⟨"BoiledEggs$Trier", "kind", "()I"⟩]
def wsL_law_r25 : List Cond := [Cond.sameMethod "BoiledEggs$Trier" "BoiledEggs$Trier" "kind" "()I", Cond.instanceMethod ⟨"BoiledEggs$Trier", "kind", "()I"⟩, Cond.selects RX0 ⟨"BoiledEggs$Trier", "kind", "()I"⟩ yX0_kind, Cond.instanceMethod yX0_kind, Cond.code yX0_kind cX0_kind 1 (some .int), Cond.code yX9_kind cX9_kind 1 (some .int), Cond.selects RX2 ⟨"BoiledEggs$Trier", "kind", "()I"⟩ yX2_kind, Cond.instanceMethod yX2_kind, Cond.code yX2_kind cX2_kind 1 (some .int), Cond.selects RX4 ⟨"BoiledEggs$Trier", "kind", "()I"⟩ yX4_kind, Cond.instanceMethod yX4_kind, Cond.code yX4_kind cX4_kind 1 (some .int), Cond.selects RX5 ⟨"BoiledEggs$Trier", "kind", "()I"⟩ yX5_kind, Cond.instanceMethod yX5_kind, Cond.code yX5_kind cX5_kind 1 (some .int), Cond.methodLink RX10 224 yX9_kind, Cond.instanceMethod yX9_kind, Cond.selects RX9 yX9_kind yX9_kind, Cond.methodLink RX10 227 ⟨"BoiledEggs$Trier", "nextEgg", "(LBoiledEggs$Told;)I"⟩, Cond.sameMethod "BoiledEggs$Trier" "BoiledEggs$Trier" "nextEgg" "(LBoiledEggs$Told;)I", Cond.selects RX0 ⟨"BoiledEggs$Trier", "nextEgg", "(LBoiledEggs$Told;)I"⟩ yX9_nextEgg, Cond.instanceMethod yX9_nextEgg, Cond.code yX9_nextEgg cX9_nextEgg 9 (some .int), Cond.methodLink RX9 9 yX8_isInBox]
def wsL_law_r26 : List Cond := [Cond.methodLink RX9 15 ⟨"BoiledEggs$Trier", "score", "(LBoiledEggs$Told;I)J"⟩, Cond.sameMethod "BoiledEggs$Trier" "BoiledEggs$Trier" "score" "(LBoiledEggs$Told;I)J", Cond.instanceMethod ⟨"BoiledEggs$Trier", "score", "(LBoiledEggs$Told;I)J"⟩, Cond.selects RX0 ⟨"BoiledEggs$Trier", "score", "(LBoiledEggs$Told;I)J"⟩ yX0_score, Cond.instanceMethod yX0_score, Cond.code yX0_score cX0_score 3 (some .long), Cond.methodLink RX0 7 yX8_boiledWeight, Cond.code yX9_score cX9_score 3 (some .long), Cond.selects RX2 ⟨"BoiledEggs$Trier", "score", "(LBoiledEggs$Told;I)J"⟩ yX2_score, Cond.instanceMethod yX2_score, Cond.code yX2_score cX2_score 3 (some .long), Cond.constantLong RX2 7 (2), Cond.methodLink RX2 19 Lib.MathLoose.abs_long.x, Cond.static Lib.MathLoose.abs_long.x, Cond.code Lib.MathLoose.abs_long.x Lib.MathLoose.abs_long.code 2 (some .long), Cond.methodLink RX2 9 yX8_boiledWeight, Cond.methodLink RX2 15 yX8_allWeight, Cond.selects RX4 ⟨"BoiledEggs$Trier", "score", "(LBoiledEggs$Told;I)J"⟩ yX5_score, Cond.instanceMethod yX5_score, Cond.code yX5_score cX5_score 3 (some .long), Cond.methodLink RX5 7 yX8_boiledWeight, Cond.selects RX5 ⟨"BoiledEggs$Trier", "score", "(LBoiledEggs$Told;I)J"⟩ yX5_score, Cond.methodLink RX9 15 yX9_score, Cond.instanceMethod yX9_score]
def wsL_law_r27 : List Cond := [Cond.selects RX9 yX9_score yX9_score, Cond.methodLink RX9 21 ⟨"BoiledEggs$Trier", "takesLast", "()Z"⟩, Cond.sameMethod "BoiledEggs$Trier" "BoiledEggs$Trier" "takesLast" "()Z", Cond.selects RX0 ⟨"BoiledEggs$Trier", "takesLast", "()Z"⟩ yX9_takesLast, Cond.instanceMethod yX9_takesLast, Cond.code yX9_takesLast cX9_takesLast 1 (some .boolean), Cond.selects RX2 ⟨"BoiledEggs$Trier", "takesLast", "()Z"⟩ yX9_takesLast, Cond.instanceMethod ⟨"BoiledEggs$Trier", "takesLast", "()Z"⟩, Cond.selects RX4 ⟨"BoiledEggs$Trier", "takesLast", "()Z"⟩ yX4_takesLast, Cond.instanceMethod yX4_takesLast, Cond.code yX4_takesLast cX4_takesLast 1 (some .boolean), Cond.selects RX5 ⟨"BoiledEggs$Trier", "takesLast", "()Z"⟩ yX9_takesLast, Cond.methodLink RX9 21 yX9_takesLast, Cond.selects RX9 yX9_takesLast yX9_takesLast, Cond.selects RX2 ⟨"BoiledEggs$Trier", "nextEgg", "(LBoiledEggs$Told;)I"⟩ yX9_nextEgg, Cond.selects RX4 ⟨"BoiledEggs$Trier", "nextEgg", "(LBoiledEggs$Told;)I"⟩ yX9_nextEgg, Cond.selects RX5 ⟨"BoiledEggs$Trier", "nextEgg", "(LBoiledEggs$Told;)I"⟩ yX9_nextEgg, Cond.methodLink RX10 227 yX9_nextEgg, Cond.selects RX9 yX9_nextEgg yX9_nextEgg, Cond.methodLink RL 81 yX11_about, Cond.instanceMethod yX11_about, Cond.selects RX11 yX11_about yX11_about, Cond.code yX11_about cX11_about 3 (some .int), Cond.methodLink RX11 201 yX11_isTrier]
def wsL_law_r28 : List Cond := [Cond.instanceMethod yX11_isTrier, Cond.selects RX11 yX11_isTrier yX11_isTrier, Cond.code yX11_isTrier cX11_isTrier 2 (some .boolean), Cond.methodLink RX11 204 yX11_trierNow, Cond.instanceMethod yX11_trierNow, Cond.selects RX11 yX11_trierNow yX11_trierNow, Cond.code yX11_trierNow cX11_trierNow 3 (some .int), Cond.methodLink RX11 198 yX11_nextOf, Cond.instanceMethod yX11_nextOf, Cond.selects RX11 yX11_nextOf yX11_nextOf, Cond.code yX11_nextOf cX11_nextOf 8 (some .int), Cond.methodLink RX11 195 yX11_badness, Cond.instanceMethod yX11_badness, Cond.selects RX11 yX11_badness yX11_badness, Cond.code yX11_badness cX11_badness 9 (some .long), Cond.constantLong RX11 193 (2), Cond.methodLink RL 82 yX10_as, Cond.instanceMethod yX10_as, Cond.selects RX10 yX10_as yX10_as, Cond.code yX10_as cX10_as 4 (some .int), Cond.methodLink RX10 231 yX10_isOfKind, Cond.static yX10_isOfKind, Cond.code yX10_isOfKind cX10_isOfKind 2 (some .boolean), Cond.classLink RX10 318 "BoiledEggs$Doubter"]
def wsL_law_r29 : List Cond := [Cond.classLink RX10 321 "BoiledEggs$Bold", Cond.classLink RX10 324 "BoiledEggs$Hungry", Cond.classLink RX10 327 "BoiledEggs$Greedy", Cond.methodLink RL 85 yX11_as, Cond.instanceMethod yX11_as, Cond.selects RX11 yX11_as yX11_as, Cond.code yX11_as cX11_as 4 (some .int), Cond.methodLink RL 86 yX10_fits, Cond.instanceMethod yX10_fits, Cond.selects RX10 yX10_fits yX10_fits, Cond.code yX10_fits cX10_fits 2 (some .int), Cond.methodLink RX10 238 yX6_allEggs, Cond.methodLink RX10 241 yX8_surelyBoiled, Cond.instanceMethod yX8_surelyBoiled, Cond.selects RX8 yX8_surelyBoiled yX8_surelyBoiled, Cond.code yX8_surelyBoiled cX8_surelyBoiled 4 (some .int), Cond.methodLink RX10 244 yX8_surelyRaw, Cond.instanceMethod yX8_surelyRaw, Cond.selects RX8 yX8_surelyRaw yX8_surelyRaw, Cond.code yX8_surelyRaw cX8_surelyRaw 4 (some .int), Cond.methodLink RL 89 yX11_fits, Cond.instanceMethod yX11_fits, Cond.selects RX11 yX11_fits yX11_fits, Cond.code yX11_fits cX11_fits 2 (some .int)]
def wsL_law_r30 : List Cond := [Cond.methodLink RX11 207 yX11_fitsNow, Cond.instanceMethod yX11_fitsNow, Cond.selects RX11 yX11_fitsNow yX11_fitsNow, Cond.code yX11_fitsNow cX11_fitsNow 6 (some .int), Cond.methodLink RL 90 yX10_mornings, Cond.instanceMethod yX10_mornings, Cond.selects RX10 yX10_mornings yX10_mornings, Cond.code yX10_mornings cX10_mornings 7 (some .int), Cond.methodLink RX10 247 yX3_startFrom, Cond.instanceMethod yX3_startFrom, Cond.selects RX3 yX3_startFrom yX3_startFrom, Cond.code yX3_startFrom cX3_startFrom 2 none, Cond.fieldLink RX3 7 "BoiledEggs$Draws" "seed" "J", Cond.methodLink RX10 250 yX3_next, Cond.instanceMethod yX3_next, Cond.selects RX3 yX3_next yX3_next, Cond.code yX3_next cX3_next 2 (some .int), Cond.constantLong RX3 13 (1103515245), Cond.constantLong RX3 15 (12345), Cond.constantLong RX3 17 (2147483648), Cond.constantLong RX3 19 (65536), Cond.methodLink RX10 253 yX8_fittingBox, Cond.instanceMethod yX8_fittingBox, Cond.selects RX8 yX8_fittingBox yX8_fittingBox]
def wsL_law_r31 : List Cond := [Cond.code yX8_fittingBox cX8_fittingBox 2 (some .int), Cond.methodLink RX10 256 yX10_eggsAsMeant, Cond.instanceMethod yX10_eggsAsMeant, Cond.selects RX10 yX10_eggsAsMeant yX10_eggsAsMeant, Cond.code yX10_eggsAsMeant cX10_eggsAsMeant 6 (some .int), Cond.methodLink RX10 302 yX10_has, Cond.methodLink RL 94 yX11_mornings, Cond.instanceMethod yX11_mornings, Cond.selects RX11 yX11_mornings yX11_mornings, Cond.code yX11_mornings cX11_mornings 4 (some .int), Cond.methodLink RX11 228 yX11_morningsNow, Cond.instanceMethod yX11_morningsNow, Cond.selects RX11 yX11_morningsNow yX11_morningsNow, Cond.code yX11_morningsNow cX11_morningsNow 11 (some .int), Cond.fieldLink RX11 212 "BoiledEggsModel" "seedNow" "J", Cond.methodLink RX11 222 yX11_draw, Cond.instanceMethod yX11_draw, Cond.selects RX11 yX11_draw yX11_draw, Cond.code yX11_draw cX11_draw 2 (some .int), Cond.constantLong RX11 210 (1103515245), Cond.constantLong RX11 216 (12345), Cond.constantLong RX11 218 (2147483647), Cond.constantLong RX11 220 (65536), Cond.methodLink RX11 225 yX11_boxBy]
def wsL_law_r32 : List Cond := [Cond.instanceMethod yX11_boxBy, Cond.selects RX11 yX11_boxBy yX11_boxBy, Cond.code yX11_boxBy cX11_boxBy 4 (some .int), Cond.methodLink RL 95 yX10_image, Cond.instanceMethod yX10_image, Cond.selects RX10 yX10_image yX10_image, Cond.code yX10_image cX10_image 1 (some .int), Cond.fieldLink RX10 267 "BoiledEggs" "keptTriers" "I", Cond.methodLink RX10 263 yX8_copyFrom, Cond.instanceMethod yX8_copyFrom, Cond.selects RX8 yX8_copyFrom yX8_copyFrom, Cond.code yX8_copyFrom cX8_copyFrom 2 none, Cond.methodLink RX8 61 arraycopyName, Cond.native arraycopyName, Cond.static arraycopyName, Cond.initialized "java/lang/System", Cond.methodLink RL 98 yX11_image, Cond.instanceMethod yX11_image, Cond.selects RX11 yX11_image yX11_image, Cond.code yX11_image cX11_image 2 (some .int), Cond.fieldLink RX11 232 "BoiledEggsModel" "isKept" "Z", Cond.fieldLink RX11 236 "BoiledEggsModel" "keptKitchen" "I", Cond.fieldLink RX11 239 "BoiledEggsModel" "keptBox" "I", Cond.fieldLink RX11 242 "BoiledEggsModel" "keptSpins" "I"]
def wsL_law_r33 : List Cond := [Cond.fieldLink RX11 245 "BoiledEggsModel" "keptTriers" "I", Cond.methodLink RL 99 yX10_restore, Cond.instanceMethod yX10_restore, Cond.selects RX10 yX10_restore yX10_restore, Cond.code yX10_restore cX10_restore 1 (some .int), Cond.methodLink RL 102 yX11_restore, Cond.instanceMethod yX11_restore, Cond.selects RX11 yX11_restore yX11_restore, Cond.code yX11_restore cX11_restore 2 (some .int), Cond.methodLink RL 103 yX10_count, Cond.instanceMethod yX10_count, Cond.selects RX10 yX10_count yX10_count, Cond.code yX10_count cX10_count 2 (some .int), Cond.methodLink RL 106 yX11_count, Cond.instanceMethod yX11_count, Cond.selects RX11 yX11_count yX11_count, Cond.code yX11_count cX11_count 2 (some .int), Cond.methodLink RX11 248 yX11_howMany, Cond.instanceMethod yX11_howMany, Cond.selects RX11 yX11_howMany yX11_howMany, Cond.code yX11_howMany cX11_howMany 2 (some .int), Cond.methodLink RL 107 yX10_digest, Cond.instanceMethod yX10_digest, Cond.selects RX10 yX10_digest yX10_digest]
def wsL_law_r34 : List Cond := [Cond.code yX10_digest cX10_digest 5 (some .long), Cond.constantLong RX10 276 (787), Cond.methodLink RX10 278 yX10_withEgg, Cond.instanceMethod yX10_withEgg, Cond.selects RX10 yX10_withEgg yX10_withEgg, Cond.code yX10_withEgg cX10_withEgg 7 (some .long), Cond.methodLink RX10 306 yX10_egg, Cond.methodLink RX10 286 yX10_with, Cond.static yX10_with, Cond.code yX10_with cX10_with 4 (some .long), Cond.constantLong RX10 313 (31), Cond.methodLink RX10 309 yX10_likely, Cond.methodLink RX10 282 yX10_about, Cond.methodLink RX10 290 yX10_likeliest, Cond.methodLink RX10 293 yX10_fits, Cond.methodLink RX10 299 yX10_count, Cond.methodLink RL 111 yX11_digest, Cond.instanceMethod yX11_digest, Cond.selects RX11 yX11_digest yX11_digest, Cond.code yX11_digest cX11_digest 3 (some .long), Cond.constantLong RX11 256 (787), Cond.fieldLink RX11 253 "BoiledEggsModel" "h" "J", Cond.methodLink RX11 258 yX11_mix, Cond.instanceMethod yX11_mix]
def wsL_law_r35 : List Cond := [Cond.selects RX11 yX11_mix yX11_mix, Cond.code yX11_mix cX11_mix 3 none, Cond.constantLong RX11 251 (31)]
def wsL_law : List Cond := (wsL_law_r1 ++ (wsL_law_r2 ++ (wsL_law_r3 ++ (wsL_law_r4 ++ (wsL_law_r5 ++ (wsL_law_r6 ++ (wsL_law_r7 ++ (wsL_law_r8 ++ (wsL_law_r9 ++ (wsL_law_r10 ++ (wsL_law_r11 ++ (wsL_law_r12 ++ (wsL_law_r13 ++ (wsL_law_r14 ++ (wsL_law_r15 ++ (wsL_law_r16 ++ (wsL_law_r17 ++ (wsL_law_r18 ++ (wsL_law_r19 ++ (wsL_law_r20 ++ (wsL_law_r21 ++ (wsL_law_r22 ++ (wsL_law_r23 ++ (wsL_law_r24 ++ (wsL_law_r25 ++ (wsL_law_r26 ++ (wsL_law_r27 ++ (wsL_law_r28 ++ (wsL_law_r29 ++ (wsL_law_r30 ++ (wsL_law_r31 ++ (wsL_law_r32 ++ (wsL_law_r33 ++ (wsL_law_r34 ++ wsL_law_r35)))))))))))))))))))))))))))))))))) ++ wsX100 ++ wsX110 ++ wsX70 ++ wsX60 ++ wsX80 ++ wsX10 ++ wsX30 ++ wsX20 ++ wsX00 ++ wsX50 ++ wsX40 ++ wsX90 ++ ([] : List Cond)
abbrev vwCl : List vw_C := [(RX0, TX0, 0), (RX1, TX1, 6), (RX2, TX2, 0), (RX3, TX3, 1), (RX4, TX4, 0), (RX5, TX5, 0), (RX6, TX6, 6), (RX7, TX7, 2), (RX8, TX8, 8), (RX9, TX9, 0), (RX10, TX10, 12), (RX11, TX11, 32)]
end
section
set_option maxRecDepth 20000 in
theorem ggX0_init_X9_init : GoodIn wsX0_init wsX9_init := goodIn_r _ [3, 4, 5, 6] (by decide +kernel) (by decide +kernel)
set_option maxRecDepth 20000 in
theorem gX0_init_X9_init_n1 : GoodIn wsX0_init (wsX9_init) := ggX0_init_X9_init
theorem dX0_init_0 : decode cX0_init 0 = .ok (.aload_n 0, 1) := by decide +kernel
theorem dX0_init_1 : decode cX0_init 1 = .ok (.invokespecial 1, 3) := by decide +kernel
theorem dX0_init_4 : decode cX0_init 4 = .ok (.return_, 1) := by decide +kernel
theorem dX0_kind_0 : decode cX0_kind 0 = .ok (.iconst 2, 1) := by decide +kernel
theorem dX0_kind_1 : decode cX0_kind 1 = .ok (.ireturn, 1) := by decide +kernel
set_option maxRecDepth 20000 in
theorem ggX0_score_X8_boiledWeight : GoodIn wsX0_score wsX8_boiledWeight := goodIn_r _ [5, 6, 7, 8, 9, 10, 11, 12, 13, 14, 15, 16, 17, 18, 19] (by decide +kernel) (by decide +kernel)
set_option maxRecDepth 20000 in
theorem gX0_score_X8_boiledWeight : GoodIn wsX0_score (wsV RX0 7 RX8 yX8_boiledWeight wsX8_boiledWeight) := goodIn_app (goodIn_of _ (by decide +kernel)) ggX0_score_X8_boiledWeight
theorem dX0_score_0 : decode cX0_score 0 = .ok (.aload_n 1, 1) := by decide +kernel
theorem dX0_score_1 : decode cX0_score 1 = .ok (.iload_n 2, 1) := by decide +kernel
theorem dX0_score_2 : decode cX0_score 2 = .ok (.invokevirtual 7, 3) := by decide +kernel
theorem dX0_score_5 : decode cX0_score 5 = .ok (.lreturn, 1) := by decide +kernel
theorem dX1_init_0 : decode cX1_init 0 = .ok (.aload_n 0, 1) := by decide +kernel
theorem dX1_init_1 : decode cX1_init 1 = .ok (.invokespecial 3, 3) := by decide +kernel
theorem dX1_init_4 : decode cX1_init 4 = .ok (.aload_n 0, 1) := by decide +kernel
theorem dX1_init_5 : decode cX1_init 5 = .ok (.sipush 729, 3) := by decide +kernel
theorem dX1_init_8 : decode cX1_init 8 = .ok (.newarray .long, 2) := by decide +kernel
theorem dX1_init_10 : decode cX1_init 10 = .ok (.putfield 11, 3) := by decide +kernel
theorem dX1_init_13 : decode cX1_init 13 = .ok (.aload_n 0, 1) := by decide +kernel
theorem dX1_init_14 : decode cX1_init 14 = .ok (.sipush 729, 3) := by decide +kernel
theorem dX1_init_17 : decode cX1_init 17 = .ok (.newarray .long, 2) := by decide +kernel
theorem dX1_init_19 : decode cX1_init 19 = .ok (.putfield 15, 3) := by decide +kernel
theorem dX1_init_22 : decode cX1_init 22 = .ok (.aload_n 0, 1) := by decide +kernel
theorem dX1_init_23 : decode cX1_init 23 = .ok (.sipush 729, 3) := by decide +kernel
theorem dX1_init_26 : decode cX1_init 26 = .ok (.newarray .int, 2) := by decide +kernel
theorem dX1_init_28 : decode cX1_init 28 = .ok (.putfield 18, 3) := by decide +kernel
theorem dX1_init_31 : decode cX1_init 31 = .ok (.return_, 1) := by decide +kernel
set_option maxRecDepth 20000 in
theorem ggX1_solve_X8_howManyInBox : GoodIn wsX1_solve wsX8_howManyInBox := goodIn_r _ [7, 8, 9, 10, 11, 12, 13, 14, 15, 59, 60, 61, 62, 63, 64, 65, 66] (by decide +kernel) (by decide +kernel)
set_option maxRecDepth 20000 in
theorem gX1_solve_X8_howManyInBox : GoodIn wsX1_solve (wsV RX1 26 RX8 yX8_howManyInBox wsX8_howManyInBox) := goodIn_app (goodIn_of _ (by decide +kernel)) ggX1_solve_X8_howManyInBox
set_option maxRecDepth 20000 in
theorem ggX1_solve_X1_spread : GoodIn wsX1_solve wsX1_spread := goodIn_r _ [20, 21, 22, 23, 24, 19, 25, 26, 27, 28, 6, 29, 8, 30, 31, 32, 53, 54, 55, 56, 57, 58, 59, 60, 61, 62, 63, 64, 65, 66] (by decide +kernel) (by decide +kernel)
set_option maxRecDepth 20000 in
theorem gX1_solve_X1_spread : GoodIn wsX1_solve (wsV RX1 35 RX1 yX1_spread wsX1_spread) := goodIn_app (goodIn_of _ (by decide +kernel)) ggX1_solve_X1_spread
set_option maxRecDepth 20000 in
theorem ggX1_solve_X1_solveState : GoodIn wsX1_solve wsX1_solveState := goodIn_r _ [36, 2, 37, 38, 21, 1, 39, 40, 41, 19, 42, 43, 44, 45, 46, 47, 48, 49, 50, 51, 52, 53, 54, 55, 56, 57, 58] (by decide +kernel) (by decide +kernel)
set_option maxRecDepth 20000 in
theorem gX1_solve_X1_solveState : GoodIn wsX1_solve (wsV RX1 39 RX1 yX1_solveState wsX1_solveState) := goodIn_app (goodIn_of _ (by decide +kernel)) ggX1_solve_X1_solveState
theorem dX1_solve_0 : decode cX1_solve 0 = .ok (.aload_n 0, 1) := by decide +kernel
theorem dX1_solve_1 : decode cX1_solve 1 = .ok (.iload_n 2, 1) := by decide +kernel
theorem dX1_solve_2 : decode cX1_solve 2 = .ok (.putfield 22, 3) := by decide +kernel
theorem dX1_solve_5 : decode cX1_solve 5 = .ok (.aload_n 0, 1) := by decide +kernel
theorem dX1_solve_6 : decode cX1_solve 6 = .ok (.aload_n 1, 1) := by decide +kernel
theorem dX1_solve_7 : decode cX1_solve 7 = .ok (.invokevirtual 26, 3) := by decide +kernel
theorem dX1_solve_10 : decode cX1_solve 10 = .ok (.putfield 32, 3) := by decide +kernel
theorem dX1_solve_13 : decode cX1_solve 13 = .ok (.iconst 1, 1) := by decide +kernel
theorem dX1_solve_14 : decode cX1_solve 14 = .ok (.istore_n 3, 1) := by decide +kernel
theorem dX1_solve_15 : decode cX1_solve 15 = .ok (.iconst 0, 1) := by decide +kernel
theorem dX1_solve_16 : decode cX1_solve 16 = .ok (.istore 4, 2) := by decide +kernel
theorem dX1_solve_18 : decode cX1_solve 18 = .ok (.iload 4, 2) := by decide +kernel
theorem dX1_solve_20 : decode cX1_solve 20 = .ok (.aload_n 0, 1) := by decide +kernel
theorem dX1_solve_21 : decode cX1_solve 21 = .ok (.getfield 32, 3) := by decide +kernel
theorem dX1_solve_24 : decode cX1_solve 24 = .ok (.if_icmp .ge 13, 3) := by decide +kernel
theorem dX1_solve_27 : decode cX1_solve 27 = .ok (.iload_n 3, 1) := by decide +kernel
theorem dX1_solve_28 : decode cX1_solve 28 = .ok (.iconst 3, 1) := by decide +kernel
theorem dX1_solve_29 : decode cX1_solve 29 = .ok (.imul, 1) := by decide +kernel
theorem dX1_solve_30 : decode cX1_solve 30 = .ok (.istore_n 3, 1) := by decide +kernel
theorem dX1_solve_31 : decode cX1_solve 31 = .ok (.iinc 4 1, 3) := by decide +kernel
theorem dX1_solve_34 : decode cX1_solve 34 = .ok (.goto (-16), 3) := by decide +kernel
theorem dX1_solve_37 : decode cX1_solve 37 = .ok (.aload_n 0, 1) := by decide +kernel
theorem dX1_solve_38 : decode cX1_solve 38 = .ok (.aload_n 1, 1) := by decide +kernel
theorem dX1_solve_39 : decode cX1_solve 39 = .ok (.iload_n 3, 1) := by decide +kernel
theorem dX1_solve_40 : decode cX1_solve 40 = .ok (.invokevirtual 35, 3) := by decide +kernel
theorem dX1_solve_43 : decode cX1_solve 43 = .ok (.iload_n 3, 1) := by decide +kernel
theorem dX1_solve_44 : decode cX1_solve 44 = .ok (.iconst 1, 1) := by decide +kernel
theorem dX1_solve_45 : decode cX1_solve 45 = .ok (.isub, 1) := by decide +kernel
theorem dX1_solve_46 : decode cX1_solve 46 = .ok (.istore 4, 2) := by decide +kernel
theorem dX1_solve_48 : decode cX1_solve 48 = .ok (.iload 4, 2) := by decide +kernel
theorem dX1_solve_50 : decode cX1_solve 50 = .ok (.ifCond .lt 15, 3) := by decide +kernel
theorem dX1_solve_53 : decode cX1_solve 53 = .ok (.aload_n 0, 1) := by decide +kernel
theorem dX1_solve_54 : decode cX1_solve 54 = .ok (.iload 4, 2) := by decide +kernel
theorem dX1_solve_56 : decode cX1_solve 56 = .ok (.invokevirtual 39, 3) := by decide +kernel
theorem dX1_solve_59 : decode cX1_solve 59 = .ok (.iinc 4 (-1), 3) := by decide +kernel
theorem dX1_solve_62 : decode cX1_solve 62 = .ok (.goto (-14), 3) := by decide +kernel
theorem dX1_solve_65 : decode cX1_solve 65 = .ok (.return_, 1) := by decide +kernel
theorem dX1_fewestAtWorst_0 : decode cX1_fewestAtWorst 0 = .ok (.aload_n 0, 1) := by decide +kernel
theorem dX1_fewestAtWorst_1 : decode cX1_fewestAtWorst 1 = .ok (.getfield 18, 3) := by decide +kernel
theorem dX1_fewestAtWorst_4 : decode cX1_fewestAtWorst 4 = .ok (.iconst 0, 1) := by decide +kernel
theorem dX1_fewestAtWorst_5 : decode cX1_fewestAtWorst 5 = .ok (.iaload, 1) := by decide +kernel
theorem dX1_fewestAtWorst_6 : decode cX1_fewestAtWorst 6 = .ok (.ireturn, 1) := by decide +kernel
theorem dX1_fewestByWeight_0 : decode cX1_fewestByWeight 0 = .ok (.aload_n 0, 1) := by decide +kernel
theorem dX1_fewestByWeight_1 : decode cX1_fewestByWeight 1 = .ok (.getfield 15, 3) := by decide +kernel
theorem dX1_fewestByWeight_4 : decode cX1_fewestByWeight 4 = .ok (.iconst 0, 1) := by decide +kernel
theorem dX1_fewestByWeight_5 : decode cX1_fewestByWeight 5 = .ok (.laload, 1) := by decide +kernel
theorem dX1_fewestByWeight_6 : decode cX1_fewestByWeight 6 = .ok (.lreturn, 1) := by decide +kernel
theorem dX1_firstPlace_0 : decode cX1_firstPlace 0 = .ok (.aload_n 0, 1) := by decide +kernel
theorem dX1_firstPlace_1 : decode cX1_firstPlace 1 = .ok (.getfield 43, 3) := by decide +kernel
theorem dX1_firstPlace_4 : decode cX1_firstPlace 4 = .ok (.ireturn, 1) := by decide +kernel
set_option maxRecDepth 20000 in
theorem ggX1_spread_X1_lastState : GoodIn wsX1_spread wsX1_lastState := goodIn_r _ [6, 7, 8, 9, 10, 11, 12, 13, 14, 15, 22, 23, 24, 25, 26, 27, 28, 29] (by decide +kernel) (by decide +kernel)
set_option maxRecDepth 20000 in
theorem gX1_spread_X1_lastState : GoodIn wsX1_spread (wsV RX1 52 RX1 yX1_lastState wsX1_lastState) := goodIn_app (goodIn_of _ (by decide +kernel)) ggX1_spread_X1_lastState
theorem dX1_spread_0 : decode cX1_spread 0 = .ok (.iconst 0, 1) := by decide +kernel
theorem dX1_spread_1 : decode cX1_spread 1 = .ok (.istore_n 3, 1) := by decide +kernel
theorem dX1_spread_2 : decode cX1_spread 2 = .ok (.iload_n 3, 1) := by decide +kernel
theorem dX1_spread_3 : decode cX1_spread 3 = .ok (.iload_n 2, 1) := by decide +kernel
theorem dX1_spread_4 : decode cX1_spread 4 = .ok (.if_icmp .ge 16, 3) := by decide +kernel
theorem dX1_spread_7 : decode cX1_spread 7 = .ok (.aload_n 0, 1) := by decide +kernel
theorem dX1_spread_8 : decode cX1_spread 8 = .ok (.getfield 11, 3) := by decide +kernel
theorem dX1_spread_11 : decode cX1_spread 11 = .ok (.iload_n 3, 1) := by decide +kernel
theorem dX1_spread_12 : decode cX1_spread 12 = .ok (.lconst 0, 1) := by decide +kernel
theorem dX1_spread_13 : decode cX1_spread 13 = .ok (.lastore, 1) := by decide +kernel
theorem dX1_spread_14 : decode cX1_spread 14 = .ok (.iinc 3 1, 3) := by decide +kernel
theorem dX1_spread_17 : decode cX1_spread 17 = .ok (.goto (-15), 3) := by decide +kernel
theorem dX1_spread_20 : decode cX1_spread 20 = .ok (.iconst 0, 1) := by decide +kernel
theorem dX1_spread_21 : decode cX1_spread 21 = .ok (.istore_n 3, 1) := by decide +kernel
theorem dX1_spread_22 : decode cX1_spread 22 = .ok (.iload_n 3, 1) := by decide +kernel
theorem dX1_spread_23 : decode cX1_spread 23 = .ok (.aload_n 1, 1) := by decide +kernel
theorem dX1_spread_24 : decode cX1_spread 24 = .ok (.getfield 46, 3) := by decide +kernel
theorem dX1_spread_27 : decode cX1_spread 27 = .ok (.if_icmp .ge 34, 3) := by decide +kernel
theorem dX1_spread_30 : decode cX1_spread 30 = .ok (.aload_n 0, 1) := by decide +kernel
theorem dX1_spread_31 : decode cX1_spread 31 = .ok (.getfield 11, 3) := by decide +kernel
theorem dX1_spread_34 : decode cX1_spread 34 = .ok (.aload_n 0, 1) := by decide +kernel
theorem dX1_spread_35 : decode cX1_spread 35 = .ok (.aload_n 1, 1) := by decide +kernel
theorem dX1_spread_36 : decode cX1_spread 36 = .ok (.aload_n 1, 1) := by decide +kernel
theorem dX1_spread_37 : decode cX1_spread 37 = .ok (.getfield 49, 3) := by decide +kernel
theorem dX1_spread_40 : decode cX1_spread 40 = .ok (.iload_n 3, 1) := by decide +kernel
theorem dX1_spread_41 : decode cX1_spread 41 = .ok (.iaload, 1) := by decide +kernel
theorem dX1_spread_42 : decode cX1_spread 42 = .ok (.invokevirtual 52, 3) := by decide +kernel
theorem dX1_spread_45 : decode cX1_spread 45 = .ok (.dup2, 1) := by decide +kernel
theorem dX1_spread_46 : decode cX1_spread 46 = .ok (.laload, 1) := by decide +kernel
theorem dX1_spread_47 : decode cX1_spread 47 = .ok (.aload_n 1, 1) := by decide +kernel
theorem dX1_spread_48 : decode cX1_spread 48 = .ok (.getfield 56, 3) := by decide +kernel
theorem dX1_spread_51 : decode cX1_spread 51 = .ok (.iload_n 3, 1) := by decide +kernel
theorem dX1_spread_52 : decode cX1_spread 52 = .ok (.laload, 1) := by decide +kernel
theorem dX1_spread_53 : decode cX1_spread 53 = .ok (.ladd, 1) := by decide +kernel
theorem dX1_spread_54 : decode cX1_spread 54 = .ok (.lastore, 1) := by decide +kernel
theorem dX1_spread_55 : decode cX1_spread 55 = .ok (.iinc 3 1, 3) := by decide +kernel
theorem dX1_spread_58 : decode cX1_spread 58 = .ok (.goto (-36), 3) := by decide +kernel
theorem dX1_spread_61 : decode cX1_spread 61 = .ok (.return_, 1) := by decide +kernel
set_option maxRecDepth 20000 in
theorem ggX1_lastState_X8_isInBox : GoodIn wsX1_lastState wsX8_isInBox := goodIn_r _ [5, 6, 7, 8, 9, 10, 11, 12, 13, 14, 15, 16, 17] (by decide +kernel) (by decide +kernel)
set_option maxRecDepth 20000 in
theorem gX1_lastState_X8_isInBox : GoodIn wsX1_lastState (wsV RX1 57 RX8 yX8_isInBox wsX8_isInBox) := goodIn_app (goodIn_of _ (by decide +kernel)) ggX1_lastState_X8_isInBox
set_option maxRecDepth 20000 in
theorem ggX1_lastState_X10_has : GoodIn wsX1_lastState wsX10_has := goodIn_r _ [9] (by decide +kernel) (by decide +kernel)
set_option maxRecDepth 20000 in
theorem gX1_lastState_X10_has_n61 : GoodIn wsX1_lastState (wsX10_has) := ggX1_lastState_X10_has
theorem dX1_lastState_0 : decode cX1_lastState 0 = .ok (.iconst 0, 1) := by decide +kernel
theorem dX1_lastState_1 : decode cX1_lastState 1 = .ok (.istore_n 3, 1) := by decide +kernel
theorem dX1_lastState_2 : decode cX1_lastState 2 = .ok (.iconst 1, 1) := by decide +kernel
theorem dX1_lastState_3 : decode cX1_lastState 3 = .ok (.istore 4, 2) := by decide +kernel
theorem dX1_lastState_5 : decode cX1_lastState 5 = .ok (.iconst 0, 1) := by decide +kernel
theorem dX1_lastState_6 : decode cX1_lastState 6 = .ok (.istore 5, 2) := by decide +kernel
theorem dX1_lastState_8 : decode cX1_lastState 8 = .ok (.iload 5, 2) := by decide +kernel
theorem dX1_lastState_10 : decode cX1_lastState 10 = .ok (.bipush 6, 2) := by decide +kernel
theorem dX1_lastState_12 : decode cX1_lastState 12 = .ok (.if_icmp .ge 44, 3) := by decide +kernel
theorem dX1_lastState_15 : decode cX1_lastState 15 = .ok (.aload_n 1, 1) := by decide +kernel
theorem dX1_lastState_16 : decode cX1_lastState 16 = .ok (.iload 5, 2) := by decide +kernel
theorem dX1_lastState_18 : decode cX1_lastState 18 = .ok (.invokevirtual 57, 3) := by decide +kernel
theorem dX1_lastState_21 : decode cX1_lastState 21 = .ok (.ifCond .eq 29, 3) := by decide +kernel
theorem dX1_lastState_24 : decode cX1_lastState 24 = .ok (.iload_n 3, 1) := by decide +kernel
theorem dX1_lastState_25 : decode cX1_lastState 25 = .ok (.iload 4, 2) := by decide +kernel
theorem dX1_lastState_27 : decode cX1_lastState 27 = .ok (.iload_n 2, 1) := by decide +kernel
theorem dX1_lastState_28 : decode cX1_lastState 28 = .ok (.iload 5, 2) := by decide +kernel
theorem dX1_lastState_30 : decode cX1_lastState 30 = .ok (.invokestatic 61, 3) := by decide +kernel
theorem dX1_lastState_33 : decode cX1_lastState 33 = .ok (.ifCond .eq 7, 3) := by decide +kernel
theorem dX1_lastState_36 : decode cX1_lastState 36 = .ok (.iconst 2, 1) := by decide +kernel
theorem dX1_lastState_37 : decode cX1_lastState 37 = .ok (.goto 4, 3) := by decide +kernel
theorem dX1_lastState_40 : decode cX1_lastState 40 = .ok (.iconst 1, 1) := by decide +kernel
theorem dX1_lastState_41 : decode cX1_lastState 41 = .ok (.imul, 1) := by decide +kernel
theorem dX1_lastState_42 : decode cX1_lastState 42 = .ok (.iadd, 1) := by decide +kernel
theorem dX1_lastState_43 : decode cX1_lastState 43 = .ok (.istore_n 3, 1) := by decide +kernel
theorem dX1_lastState_44 : decode cX1_lastState 44 = .ok (.iload 4, 2) := by decide +kernel
theorem dX1_lastState_46 : decode cX1_lastState 46 = .ok (.iconst 3, 1) := by decide +kernel
theorem dX1_lastState_47 : decode cX1_lastState 47 = .ok (.imul, 1) := by decide +kernel
theorem dX1_lastState_48 : decode cX1_lastState 48 = .ok (.istore 4, 2) := by decide +kernel
theorem dX1_lastState_50 : decode cX1_lastState 50 = .ok (.iinc 5 1, 3) := by decide +kernel
theorem dX1_lastState_53 : decode cX1_lastState 53 = .ok (.goto (-45), 3) := by decide +kernel
theorem dX1_lastState_56 : decode cX1_lastState 56 = .ok (.iload_n 3, 1) := by decide +kernel
theorem dX1_lastState_57 : decode cX1_lastState 57 = .ok (.ireturn, 1) := by decide +kernel
set_option maxRecDepth 20000 in
theorem ggX1_solveState_X1_breakNext : GoodIn wsX1_solveState wsX1_breakNext := goodIn_r _ [10, 11, 12, 1, 2, 13, 3, 14, 15, 16, 17, 18, 19, 20, 4, 21, 22, 23, 24, 25, 26] (by decide +kernel) (by decide +kernel)
set_option maxRecDepth 20000 in
theorem gX1_solveState_X1_breakNext : GoodIn wsX1_solveState (wsV RX1 65 RX1 yX1_breakNext wsX1_breakNext) := goodIn_app (goodIn_of _ (by decide +kernel)) ggX1_solveState_X1_breakNext
theorem dX1_solveState_0 : decode cX1_solveState 0 = .ok (.iconst 0, 1) := by decide +kernel
theorem dX1_solveState_1 : decode cX1_solveState 1 = .ok (.istore_n 2, 1) := by decide +kernel
theorem dX1_solveState_2 : decode cX1_solveState 2 = .ok (.iconst 0, 1) := by decide +kernel
theorem dX1_solveState_3 : decode cX1_solveState 3 = .ok (.istore_n 3, 1) := by decide +kernel
theorem dX1_solveState_4 : decode cX1_solveState 4 = .ok (.iconst 1, 1) := by decide +kernel
theorem dX1_solveState_5 : decode cX1_solveState 5 = .ok (.istore 4, 2) := by decide +kernel
theorem dX1_solveState_7 : decode cX1_solveState 7 = .ok (.iload_n 1, 1) := by decide +kernel
theorem dX1_solveState_8 : decode cX1_solveState 8 = .ok (.istore 5, 2) := by decide +kernel
theorem dX1_solveState_10 : decode cX1_solveState 10 = .ok (.iconst 0, 1) := by decide +kernel
theorem dX1_solveState_11 : decode cX1_solveState 11 = .ok (.istore 6, 2) := by decide +kernel
theorem dX1_solveState_13 : decode cX1_solveState 13 = .ok (.iload 6, 2) := by decide +kernel
theorem dX1_solveState_15 : decode cX1_solveState 15 = .ok (.aload_n 0, 1) := by decide +kernel
theorem dX1_solveState_16 : decode cX1_solveState 16 = .ok (.getfield 32, 3) := by decide +kernel
theorem dX1_solveState_19 : decode cX1_solveState 19 = .ok (.if_icmp .ge 44, 3) := by decide +kernel
theorem dX1_solveState_22 : decode cX1_solveState 22 = .ok (.iload 5, 2) := by decide +kernel
theorem dX1_solveState_24 : decode cX1_solveState 24 = .ok (.iconst 3, 1) := by decide +kernel
theorem dX1_solveState_25 : decode cX1_solveState 25 = .ok (.irem, 1) := by decide +kernel
theorem dX1_solveState_26 : decode cX1_solveState 26 = .ok (.istore 7, 2) := by decide +kernel
theorem dX1_solveState_28 : decode cX1_solveState 28 = .ok (.iload 7, 2) := by decide +kernel
theorem dX1_solveState_30 : decode cX1_solveState 30 = .ok (.iconst 1, 1) := by decide +kernel
theorem dX1_solveState_31 : decode cX1_solveState 31 = .ok (.if_icmp .ne 6, 3) := by decide +kernel
theorem dX1_solveState_34 : decode cX1_solveState 34 = .ok (.iinc 2 1, 3) := by decide +kernel
theorem dX1_solveState_37 : decode cX1_solveState 37 = .ok (.iload 7, 2) := by decide +kernel
theorem dX1_solveState_39 : decode cX1_solveState 39 = .ok (.ifCond .ne 6, 3) := by decide +kernel
theorem dX1_solveState_42 : decode cX1_solveState 42 = .ok (.iload 4, 2) := by decide +kernel
theorem dX1_solveState_44 : decode cX1_solveState 44 = .ok (.istore_n 3, 1) := by decide +kernel
theorem dX1_solveState_45 : decode cX1_solveState 45 = .ok (.iload 5, 2) := by decide +kernel
theorem dX1_solveState_47 : decode cX1_solveState 47 = .ok (.iconst 3, 1) := by decide +kernel
theorem dX1_solveState_48 : decode cX1_solveState 48 = .ok (.idiv, 1) := by decide +kernel
theorem dX1_solveState_49 : decode cX1_solveState 49 = .ok (.istore 5, 2) := by decide +kernel
theorem dX1_solveState_51 : decode cX1_solveState 51 = .ok (.iload 4, 2) := by decide +kernel
theorem dX1_solveState_53 : decode cX1_solveState 53 = .ok (.iconst 3, 1) := by decide +kernel
theorem dX1_solveState_54 : decode cX1_solveState 54 = .ok (.imul, 1) := by decide +kernel
theorem dX1_solveState_55 : decode cX1_solveState 55 = .ok (.istore 4, 2) := by decide +kernel
theorem dX1_solveState_57 : decode cX1_solveState 57 = .ok (.iinc 6 1, 3) := by decide +kernel
theorem dX1_solveState_60 : decode cX1_solveState 60 = .ok (.goto (-47), 3) := by decide +kernel
theorem dX1_solveState_63 : decode cX1_solveState 63 = .ok (.aload_n 0, 1) := by decide +kernel
theorem dX1_solveState_64 : decode cX1_solveState 64 = .ok (.getfield 15, 3) := by decide +kernel
theorem dX1_solveState_67 : decode cX1_solveState 67 = .ok (.iload_n 1, 1) := by decide +kernel
theorem dX1_solveState_68 : decode cX1_solveState 68 = .ok (.lconst 0, 1) := by decide +kernel
theorem dX1_solveState_69 : decode cX1_solveState 69 = .ok (.lastore, 1) := by decide +kernel
theorem dX1_solveState_70 : decode cX1_solveState 70 = .ok (.aload_n 0, 1) := by decide +kernel
theorem dX1_solveState_71 : decode cX1_solveState 71 = .ok (.getfield 18, 3) := by decide +kernel
theorem dX1_solveState_74 : decode cX1_solveState 74 = .ok (.iload_n 1, 1) := by decide +kernel
theorem dX1_solveState_75 : decode cX1_solveState 75 = .ok (.iconst 0, 1) := by decide +kernel
theorem dX1_solveState_76 : decode cX1_solveState 76 = .ok (.iastore, 1) := by decide +kernel
theorem dX1_solveState_77 : decode cX1_solveState 77 = .ok (.iload_n 3, 1) := by decide +kernel
theorem dX1_solveState_78 : decode cX1_solveState 78 = .ok (.ifCond .ne 4, 3) := by decide +kernel
theorem dX1_solveState_81 : decode cX1_solveState 81 = .ok (.return_, 1) := by decide +kernel
theorem dX1_solveState_82 : decode cX1_solveState 82 = .ok (.aload_n 0, 1) := by decide +kernel
theorem dX1_solveState_83 : decode cX1_solveState 83 = .ok (.getfield 11, 3) := by decide +kernel
theorem dX1_solveState_86 : decode cX1_solveState 86 = .ok (.iload_n 1, 1) := by decide +kernel
theorem dX1_solveState_87 : decode cX1_solveState 87 = .ok (.aload_n 0, 1) := by decide +kernel
theorem dX1_solveState_88 : decode cX1_solveState 88 = .ok (.getfield 11, 3) := by decide +kernel
theorem dX1_solveState_91 : decode cX1_solveState 91 = .ok (.iload_n 1, 1) := by decide +kernel
theorem dX1_solveState_92 : decode cX1_solveState 92 = .ok (.iconst 1, 1) := by decide +kernel
theorem dX1_solveState_93 : decode cX1_solveState 93 = .ok (.iload_n 3, 1) := by decide +kernel
theorem dX1_solveState_94 : decode cX1_solveState 94 = .ok (.imul, 1) := by decide +kernel
theorem dX1_solveState_95 : decode cX1_solveState 95 = .ok (.iadd, 1) := by decide +kernel
theorem dX1_solveState_96 : decode cX1_solveState 96 = .ok (.laload, 1) := by decide +kernel
theorem dX1_solveState_97 : decode cX1_solveState 97 = .ok (.aload_n 0, 1) := by decide +kernel
theorem dX1_solveState_98 : decode cX1_solveState 98 = .ok (.getfield 11, 3) := by decide +kernel
theorem dX1_solveState_101 : decode cX1_solveState 101 = .ok (.iload_n 1, 1) := by decide +kernel
theorem dX1_solveState_102 : decode cX1_solveState 102 = .ok (.iconst 2, 1) := by decide +kernel
theorem dX1_solveState_103 : decode cX1_solveState 103 = .ok (.iload_n 3, 1) := by decide +kernel
theorem dX1_solveState_104 : decode cX1_solveState 104 = .ok (.imul, 1) := by decide +kernel
theorem dX1_solveState_105 : decode cX1_solveState 105 = .ok (.iadd, 1) := by decide +kernel
theorem dX1_solveState_106 : decode cX1_solveState 106 = .ok (.laload, 1) := by decide +kernel
theorem dX1_solveState_107 : decode cX1_solveState 107 = .ok (.ladd, 1) := by decide +kernel
theorem dX1_solveState_108 : decode cX1_solveState 108 = .ok (.lastore, 1) := by decide +kernel
theorem dX1_solveState_109 : decode cX1_solveState 109 = .ok (.aload_n 0, 1) := by decide +kernel
theorem dX1_solveState_110 : decode cX1_solveState 110 = .ok (.getfield 11, 3) := by decide +kernel
theorem dX1_solveState_113 : decode cX1_solveState 113 = .ok (.iload_n 1, 1) := by decide +kernel
theorem dX1_solveState_114 : decode cX1_solveState 114 = .ok (.laload, 1) := by decide +kernel
theorem dX1_solveState_115 : decode cX1_solveState 115 = .ok (.lconst 0, 1) := by decide +kernel
theorem dX1_solveState_116 : decode cX1_solveState 116 = .ok (.lcmp, 1) := by decide +kernel
theorem dX1_solveState_117 : decode cX1_solveState 117 = .ok (.ifCond .le 16, 3) := by decide +kernel
theorem dX1_solveState_120 : decode cX1_solveState 120 = .ok (.iload_n 2, 1) := by decide +kernel
theorem dX1_solveState_121 : decode cX1_solveState 121 = .ok (.aload_n 0, 1) := by decide +kernel
theorem dX1_solveState_122 : decode cX1_solveState 122 = .ok (.getfield 22, 3) := by decide +kernel
theorem dX1_solveState_125 : decode cX1_solveState 125 = .ok (.if_icmp .ge 8, 3) := by decide +kernel
theorem dX1_solveState_128 : decode cX1_solveState 128 = .ok (.aload_n 0, 1) := by decide +kernel
theorem dX1_solveState_129 : decode cX1_solveState 129 = .ok (.iload_n 1, 1) := by decide +kernel
theorem dX1_solveState_130 : decode cX1_solveState 130 = .ok (.invokevirtual 65, 3) := by decide +kernel
theorem dX1_solveState_133 : decode cX1_solveState 133 = .ok (.return_, 1) := by decide +kernel
theorem dX1_breakNext_0 : decode cX1_breakNext 0 = .ok (.ldc2_w 70, 3) := by decide +kernel
theorem dX1_breakNext_3 : decode cX1_breakNext 3 = .ok (.lstore_n 2, 1) := by decide +kernel
theorem dX1_breakNext_4 : decode cX1_breakNext 4 = .ok (.ldc 74, 2) := by decide +kernel
theorem dX1_breakNext_6 : decode cX1_breakNext 6 = .ok (.istore 4, 2) := by decide +kernel
theorem dX1_breakNext_8 : decode cX1_breakNext 8 = .ok (.iconst 1, 1) := by decide +kernel
theorem dX1_breakNext_9 : decode cX1_breakNext 9 = .ok (.istore 5, 2) := by decide +kernel
theorem dX1_breakNext_11 : decode cX1_breakNext 11 = .ok (.iload_n 1, 1) := by decide +kernel
theorem dX1_breakNext_12 : decode cX1_breakNext 12 = .ok (.istore 6, 2) := by decide +kernel
theorem dX1_breakNext_14 : decode cX1_breakNext 14 = .ok (.iconst 0, 1) := by decide +kernel
theorem dX1_breakNext_15 : decode cX1_breakNext 15 = .ok (.istore 7, 2) := by decide +kernel
theorem dX1_breakNext_17 : decode cX1_breakNext 17 = .ok (.iload 7, 2) := by decide +kernel
theorem dX1_breakNext_19 : decode cX1_breakNext 19 = .ok (.aload_n 0, 1) := by decide +kernel
theorem dX1_breakNext_20 : decode cX1_breakNext 20 = .ok (.getfield 32, 3) := by decide +kernel
theorem dX1_breakNext_23 : decode cX1_breakNext 23 = .ok (.if_icmp .ge 101, 3) := by decide +kernel
theorem dX1_breakNext_26 : decode cX1_breakNext 26 = .ok (.iload 6, 2) := by decide +kernel
theorem dX1_breakNext_28 : decode cX1_breakNext 28 = .ok (.iconst 3, 1) := by decide +kernel
theorem dX1_breakNext_29 : decode cX1_breakNext 29 = .ok (.irem, 1) := by decide +kernel
theorem dX1_breakNext_30 : decode cX1_breakNext 30 = .ok (.ifCond .ne 76, 3) := by decide +kernel
theorem dX1_breakNext_33 : decode cX1_breakNext 33 = .ok (.iload_n 1, 1) := by decide +kernel
theorem dX1_breakNext_34 : decode cX1_breakNext 34 = .ok (.iconst 1, 1) := by decide +kernel
theorem dX1_breakNext_35 : decode cX1_breakNext 35 = .ok (.iload 5, 2) := by decide +kernel
theorem dX1_breakNext_37 : decode cX1_breakNext 37 = .ok (.imul, 1) := by decide +kernel
theorem dX1_breakNext_38 : decode cX1_breakNext 38 = .ok (.iadd, 1) := by decide +kernel
theorem dX1_breakNext_39 : decode cX1_breakNext 39 = .ok (.istore 8, 2) := by decide +kernel
theorem dX1_breakNext_41 : decode cX1_breakNext 41 = .ok (.iload_n 1, 1) := by decide +kernel
theorem dX1_breakNext_42 : decode cX1_breakNext 42 = .ok (.iconst 2, 1) := by decide +kernel
theorem dX1_breakNext_43 : decode cX1_breakNext 43 = .ok (.iload 5, 2) := by decide +kernel
theorem dX1_breakNext_45 : decode cX1_breakNext 45 = .ok (.imul, 1) := by decide +kernel
theorem dX1_breakNext_46 : decode cX1_breakNext 46 = .ok (.iadd, 1) := by decide +kernel
theorem dX1_breakNext_47 : decode cX1_breakNext 47 = .ok (.istore 9, 2) := by decide +kernel
theorem dX1_breakNext_49 : decode cX1_breakNext 49 = .ok (.aload_n 0, 1) := by decide +kernel
theorem dX1_breakNext_50 : decode cX1_breakNext 50 = .ok (.getfield 15, 3) := by decide +kernel
theorem dX1_breakNext_53 : decode cX1_breakNext 53 = .ok (.iload 8, 2) := by decide +kernel
theorem dX1_breakNext_55 : decode cX1_breakNext 55 = .ok (.laload, 1) := by decide +kernel
theorem dX1_breakNext_56 : decode cX1_breakNext 56 = .ok (.aload_n 0, 1) := by decide +kernel
theorem dX1_breakNext_57 : decode cX1_breakNext 57 = .ok (.getfield 15, 3) := by decide +kernel
theorem dX1_breakNext_60 : decode cX1_breakNext 60 = .ok (.iload 9, 2) := by decide +kernel
theorem dX1_breakNext_62 : decode cX1_breakNext 62 = .ok (.laload, 1) := by decide +kernel
theorem dX1_breakNext_63 : decode cX1_breakNext 63 = .ok (.ladd, 1) := by decide +kernel
theorem dX1_breakNext_64 : decode cX1_breakNext 64 = .ok (.lstore 10, 2) := by decide +kernel
theorem dX1_breakNext_66 : decode cX1_breakNext 66 = .ok (.lload 10, 2) := by decide +kernel
theorem dX1_breakNext_68 : decode cX1_breakNext 68 = .ok (.lload_n 2, 1) := by decide +kernel
theorem dX1_breakNext_69 : decode cX1_breakNext 69 = .ok (.lcmp, 1) := by decide +kernel
theorem dX1_breakNext_70 : decode cX1_breakNext 70 = .ok (.ifCond .ge 12, 3) := by decide +kernel
theorem dX1_breakNext_73 : decode cX1_breakNext 73 = .ok (.lload 10, 2) := by decide +kernel
theorem dX1_breakNext_75 : decode cX1_breakNext 75 = .ok (.lstore_n 2, 1) := by decide +kernel
theorem dX1_breakNext_76 : decode cX1_breakNext 76 = .ok (.aload_n 0, 1) := by decide +kernel
theorem dX1_breakNext_77 : decode cX1_breakNext 77 = .ok (.iload 7, 2) := by decide +kernel
theorem dX1_breakNext_79 : decode cX1_breakNext 79 = .ok (.putfield 43, 3) := by decide +kernel
theorem dX1_breakNext_82 : decode cX1_breakNext 82 = .ok (.iload 4, 2) := by decide +kernel
theorem dX1_breakNext_84 : decode cX1_breakNext 84 = .ok (.aload_n 0, 1) := by decide +kernel
theorem dX1_breakNext_85 : decode cX1_breakNext 85 = .ok (.getfield 18, 3) := by decide +kernel
theorem dX1_breakNext_88 : decode cX1_breakNext 88 = .ok (.iload 8, 2) := by decide +kernel
theorem dX1_breakNext_90 : decode cX1_breakNext 90 = .ok (.iaload, 1) := by decide +kernel
theorem dX1_breakNext_91 : decode cX1_breakNext 91 = .ok (.aload_n 0, 1) := by decide +kernel
theorem dX1_breakNext_92 : decode cX1_breakNext 92 = .ok (.getfield 18, 3) := by decide +kernel
theorem dX1_breakNext_95 : decode cX1_breakNext 95 = .ok (.iload 9, 2) := by decide +kernel
theorem dX1_breakNext_97 : decode cX1_breakNext 97 = .ok (.iaload, 1) := by decide +kernel
theorem dX1_breakNext_98 : decode cX1_breakNext 98 = .ok (.invokestatic 75, 3) := by decide +kernel
theorem dX1_breakNext_101 : decode cX1_breakNext 101 = .ok (.invokestatic 81, 3) := by decide +kernel
theorem dX1_breakNext_104 : decode cX1_breakNext 104 = .ok (.istore 4, 2) := by decide +kernel
theorem dX1_breakNext_106 : decode cX1_breakNext 106 = .ok (.iload 6, 2) := by decide +kernel
theorem dX1_breakNext_108 : decode cX1_breakNext 108 = .ok (.iconst 3, 1) := by decide +kernel
theorem dX1_breakNext_109 : decode cX1_breakNext 109 = .ok (.idiv, 1) := by decide +kernel
theorem dX1_breakNext_110 : decode cX1_breakNext 110 = .ok (.istore 6, 2) := by decide +kernel
theorem dX1_breakNext_112 : decode cX1_breakNext 112 = .ok (.iload 5, 2) := by decide +kernel
theorem dX1_breakNext_114 : decode cX1_breakNext 114 = .ok (.iconst 3, 1) := by decide +kernel
theorem dX1_breakNext_115 : decode cX1_breakNext 115 = .ok (.imul, 1) := by decide +kernel
theorem dX1_breakNext_116 : decode cX1_breakNext 116 = .ok (.istore 5, 2) := by decide +kernel
theorem dX1_breakNext_118 : decode cX1_breakNext 118 = .ok (.iinc 7 1, 3) := by decide +kernel
theorem dX1_breakNext_121 : decode cX1_breakNext 121 = .ok (.goto (-104), 3) := by decide +kernel
theorem dX1_breakNext_124 : decode cX1_breakNext 124 = .ok (.aload_n 0, 1) := by decide +kernel
theorem dX1_breakNext_125 : decode cX1_breakNext 125 = .ok (.getfield 15, 3) := by decide +kernel
theorem dX1_breakNext_128 : decode cX1_breakNext 128 = .ok (.iload_n 1, 1) := by decide +kernel
theorem dX1_breakNext_129 : decode cX1_breakNext 129 = .ok (.aload_n 0, 1) := by decide +kernel
theorem dX1_breakNext_130 : decode cX1_breakNext 130 = .ok (.getfield 11, 3) := by decide +kernel
theorem dX1_breakNext_133 : decode cX1_breakNext 133 = .ok (.iload_n 1, 1) := by decide +kernel
theorem dX1_breakNext_134 : decode cX1_breakNext 134 = .ok (.laload, 1) := by decide +kernel
theorem dX1_breakNext_135 : decode cX1_breakNext 135 = .ok (.lload_n 2, 1) := by decide +kernel
theorem dX1_breakNext_136 : decode cX1_breakNext 136 = .ok (.ladd, 1) := by decide +kernel
theorem dX1_breakNext_137 : decode cX1_breakNext 137 = .ok (.lastore, 1) := by decide +kernel
theorem dX1_breakNext_138 : decode cX1_breakNext 138 = .ok (.aload_n 0, 1) := by decide +kernel
theorem dX1_breakNext_139 : decode cX1_breakNext 139 = .ok (.getfield 18, 3) := by decide +kernel
theorem dX1_breakNext_142 : decode cX1_breakNext 142 = .ok (.iload_n 1, 1) := by decide +kernel
theorem dX1_breakNext_143 : decode cX1_breakNext 143 = .ok (.iconst 1, 1) := by decide +kernel
theorem dX1_breakNext_144 : decode cX1_breakNext 144 = .ok (.iload 4, 2) := by decide +kernel
theorem dX1_breakNext_146 : decode cX1_breakNext 146 = .ok (.iadd, 1) := by decide +kernel
theorem dX1_breakNext_147 : decode cX1_breakNext 147 = .ok (.iastore, 1) := by decide +kernel
theorem dX1_breakNext_148 : decode cX1_breakNext 148 = .ok (.return_, 1) := by decide +kernel
set_option maxRecDepth 20000 in
theorem ggX2_init_X9_init : GoodIn wsX2_init wsX9_init := goodIn_r _ [3, 4, 5, 6] (by decide +kernel) (by decide +kernel)
set_option maxRecDepth 20000 in
theorem gX2_init_X9_init_n1 : GoodIn wsX2_init (wsX9_init) := ggX2_init_X9_init
theorem dX2_init_0 : decode cX2_init 0 = .ok (.aload_n 0, 1) := by decide +kernel
theorem dX2_init_1 : decode cX2_init 1 = .ok (.invokespecial 1, 3) := by decide +kernel
theorem dX2_init_4 : decode cX2_init 4 = .ok (.return_, 1) := by decide +kernel
theorem dX2_kind_0 : decode cX2_kind 0 = .ok (.iconst 1, 1) := by decide +kernel
theorem dX2_kind_1 : decode cX2_kind 1 = .ok (.ireturn, 1) := by decide +kernel
set_option maxRecDepth 20000 in
theorem ggX2_score_X8_boiledWeight : GoodIn wsX2_score wsX8_boiledWeight := goodIn_r _ [10, 11, 12, 13, 14, 15, 16, 21, 22, 23, 24, 25, 26, 27, 28] (by decide +kernel) (by decide +kernel)
set_option maxRecDepth 20000 in
theorem gX2_score_X8_boiledWeight : GoodIn wsX2_score (wsV RX2 9 RX8 yX8_boiledWeight wsX8_boiledWeight) := goodIn_app (goodIn_of _ (by decide +kernel)) ggX2_score_X8_boiledWeight
set_option maxRecDepth 20000 in
theorem ggX2_score_X8_allWeight : GoodIn wsX2_score wsX8_allWeight := goodIn_r _ [20, 11, 13, 21, 22, 23, 24, 25, 26, 27, 28] (by decide +kernel) (by decide +kernel)
set_option maxRecDepth 20000 in
theorem gX2_score_X8_allWeight : GoodIn wsX2_score (wsV RX2 15 RX8 yX8_allWeight wsX8_allWeight) := goodIn_app (goodIn_of _ (by decide +kernel)) ggX2_score_X8_allWeight
theorem dX2_score_0 : decode cX2_score 0 = .ok (.ldc2_w 7, 3) := by decide +kernel
theorem dX2_score_3 : decode cX2_score 3 = .ok (.aload_n 1, 1) := by decide +kernel
theorem dX2_score_4 : decode cX2_score 4 = .ok (.iload_n 2, 1) := by decide +kernel
theorem dX2_score_5 : decode cX2_score 5 = .ok (.invokevirtual 9, 3) := by decide +kernel
theorem dX2_score_8 : decode cX2_score 8 = .ok (.lmul, 1) := by decide +kernel
theorem dX2_score_9 : decode cX2_score 9 = .ok (.aload_n 1, 1) := by decide +kernel
theorem dX2_score_10 : decode cX2_score 10 = .ok (.invokevirtual 15, 3) := by decide +kernel
theorem dX2_score_13 : decode cX2_score 13 = .ok (.lsub, 1) := by decide +kernel
theorem dX2_score_14 : decode cX2_score 14 = .ok (.invokestatic 19, 3) := by decide +kernel
theorem dX2_score_17 : decode cX2_score 17 = .ok (.lreturn, 1) := by decide +kernel
theorem dX3_init_0 : decode cX3_init 0 = .ok (.aload_n 0, 1) := by decide +kernel
theorem dX3_init_1 : decode cX3_init 1 = .ok (.invokespecial 1, 3) := by decide +kernel
theorem dX3_init_4 : decode cX3_init 4 = .ok (.return_, 1) := by decide +kernel
theorem dX3_startFrom_0 : decode cX3_startFrom 0 = .ok (.aload_n 0, 1) := by decide +kernel
theorem dX3_startFrom_1 : decode cX3_startFrom 1 = .ok (.iload_n 1, 1) := by decide +kernel
theorem dX3_startFrom_2 : decode cX3_startFrom 2 = .ok (.i2l, 1) := by decide +kernel
theorem dX3_startFrom_3 : decode cX3_startFrom 3 = .ok (.putfield 7, 3) := by decide +kernel
theorem dX3_startFrom_6 : decode cX3_startFrom 6 = .ok (.return_, 1) := by decide +kernel
theorem dX3_next_0 : decode cX3_next 0 = .ok (.aload_n 0, 1) := by decide +kernel
theorem dX3_next_1 : decode cX3_next 1 = .ok (.ldc2_w 13, 3) := by decide +kernel
theorem dX3_next_4 : decode cX3_next 4 = .ok (.aload_n 0, 1) := by decide +kernel
theorem dX3_next_5 : decode cX3_next 5 = .ok (.getfield 7, 3) := by decide +kernel
theorem dX3_next_8 : decode cX3_next 8 = .ok (.lmul, 1) := by decide +kernel
theorem dX3_next_9 : decode cX3_next 9 = .ok (.ldc2_w 15, 3) := by decide +kernel
theorem dX3_next_12 : decode cX3_next 12 = .ok (.ladd, 1) := by decide +kernel
theorem dX3_next_13 : decode cX3_next 13 = .ok (.ldc2_w 17, 3) := by decide +kernel
theorem dX3_next_16 : decode cX3_next 16 = .ok (.lrem, 1) := by decide +kernel
theorem dX3_next_17 : decode cX3_next 17 = .ok (.putfield 7, 3) := by decide +kernel
theorem dX3_next_20 : decode cX3_next 20 = .ok (.iload_n 1, 1) := by decide +kernel
theorem dX3_next_21 : decode cX3_next 21 = .ok (.ifCond .le 18, 3) := by decide +kernel
theorem dX3_next_24 : decode cX3_next 24 = .ok (.aload_n 0, 1) := by decide +kernel
theorem dX3_next_25 : decode cX3_next 25 = .ok (.getfield 7, 3) := by decide +kernel
theorem dX3_next_28 : decode cX3_next 28 = .ok (.ldc2_w 19, 3) := by decide +kernel
theorem dX3_next_31 : decode cX3_next 31 = .ok (.ldiv, 1) := by decide +kernel
theorem dX3_next_32 : decode cX3_next 32 = .ok (.iload_n 1, 1) := by decide +kernel
theorem dX3_next_33 : decode cX3_next 33 = .ok (.i2l, 1) := by decide +kernel
theorem dX3_next_34 : decode cX3_next 34 = .ok (.lrem, 1) := by decide +kernel
theorem dX3_next_35 : decode cX3_next 35 = .ok (.l2i, 1) := by decide +kernel
theorem dX3_next_36 : decode cX3_next 36 = .ok (.goto 4, 3) := by decide +kernel
theorem dX3_next_39 : decode cX3_next 39 = .ok (.iconst 0, 1) := by decide +kernel
theorem dX3_next_40 : decode cX3_next 40 = .ok (.ireturn, 1) := by decide +kernel
set_option maxRecDepth 20000 in
theorem ggX4_init_X5_init : GoodIn wsX4_init wsX5_init := goodIn_r _ [3, 4, 5, 6, 7, 8, 9] (by decide +kernel) (by decide +kernel)
set_option maxRecDepth 20000 in
theorem gX4_init_X5_init_n1 : GoodIn wsX4_init (wsX5_init) := ggX4_init_X5_init
theorem dX4_init_0 : decode cX4_init 0 = .ok (.aload_n 0, 1) := by decide +kernel
theorem dX4_init_1 : decode cX4_init 1 = .ok (.invokespecial 1, 3) := by decide +kernel
theorem dX4_init_4 : decode cX4_init 4 = .ok (.return_, 1) := by decide +kernel
theorem dX4_kind_0 : decode cX4_kind 0 = .ok (.iconst 4, 1) := by decide +kernel
theorem dX4_kind_1 : decode cX4_kind 1 = .ok (.ireturn, 1) := by decide +kernel
theorem dX4_takesLast_0 : decode cX4_takesLast 0 = .ok (.iconst 1, 1) := by decide +kernel
theorem dX4_takesLast_1 : decode cX4_takesLast 1 = .ok (.ireturn, 1) := by decide +kernel
set_option maxRecDepth 20000 in
theorem ggX5_init_X9_init : GoodIn wsX5_init wsX9_init := goodIn_r _ [3, 4, 5, 6] (by decide +kernel) (by decide +kernel)
set_option maxRecDepth 20000 in
theorem gX5_init_X9_init_n1 : GoodIn wsX5_init (wsX9_init) := ggX5_init_X9_init
theorem dX5_init_0 : decode cX5_init 0 = .ok (.aload_n 0, 1) := by decide +kernel
theorem dX5_init_1 : decode cX5_init 1 = .ok (.invokespecial 1, 3) := by decide +kernel
theorem dX5_init_4 : decode cX5_init 4 = .ok (.return_, 1) := by decide +kernel
theorem dX5_kind_0 : decode cX5_kind 0 = .ok (.iconst 3, 1) := by decide +kernel
theorem dX5_kind_1 : decode cX5_kind 1 = .ok (.ireturn, 1) := by decide +kernel
set_option maxRecDepth 20000 in
theorem ggX5_score_X8_boiledWeight : GoodIn wsX5_score wsX8_boiledWeight := goodIn_r _ [5, 6, 7, 8, 9, 10, 11, 12, 13, 14, 15, 16, 17, 18, 19] (by decide +kernel) (by decide +kernel)
set_option maxRecDepth 20000 in
theorem gX5_score_X8_boiledWeight : GoodIn wsX5_score (wsV RX5 7 RX8 yX8_boiledWeight wsX8_boiledWeight) := goodIn_app (goodIn_of _ (by decide +kernel)) ggX5_score_X8_boiledWeight
theorem dX5_score_0 : decode cX5_score 0 = .ok (.aload_n 1, 1) := by decide +kernel
theorem dX5_score_1 : decode cX5_score 1 = .ok (.iload_n 2, 1) := by decide +kernel
theorem dX5_score_2 : decode cX5_score 2 = .ok (.invokevirtual 7, 3) := by decide +kernel
theorem dX5_score_5 : decode cX5_score 5 = .ok (.lneg, 1) := by decide +kernel
theorem dX5_score_6 : decode cX5_score 6 = .ok (.lreturn, 1) := by decide +kernel
theorem dX6_init_0 : decode cX6_init 0 = .ok (.aload_n 0, 1) := by decide +kernel
theorem dX6_init_1 : decode cX6_init 1 = .ok (.invokespecial 3, 3) := by decide +kernel
theorem dX6_init_4 : decode cX6_init 4 = .ok (.aload_n 0, 1) := by decide +kernel
theorem dX6_init_5 : decode cX6_init 5 = .ok (.bipush 6, 2) := by decide +kernel
theorem dX6_init_7 : decode cX6_init 7 = .ok (.newarray .int, 2) := by decide +kernel
theorem dX6_init_9 : decode cX6_init 9 = .ok (.putfield 9, 3) := by decide +kernel
theorem dX6_init_12 : decode cX6_init 12 = .ok (.return_, 1) := by decide +kernel
set_option maxRecDepth 20000 in
theorem ggX6_readFrom_X7_digit : GoodIn wsX6_readFrom wsX7_digit := goodIn_r _ [15, 16, 17, 24, 25] (by decide +kernel) (by decide +kernel)
set_option maxRecDepth 20000 in
theorem gX6_readFrom_X7_digit : GoodIn wsX6_readFrom (wsV RX6 15 RX7 yX7_digit wsX7_digit) := goodIn_app (goodIn_of _ (by decide +kernel)) ggX6_readFrom_X7_digit
theorem dX6_readFrom_0 : decode cX6_readFrom 0 = .ok (.aload_n 0, 1) := by decide +kernel
theorem dX6_readFrom_1 : decode cX6_readFrom 1 = .ok (.aload_n 1, 1) := by decide +kernel
theorem dX6_readFrom_2 : decode cX6_readFrom 2 = .ok (.iconst 0, 1) := by decide +kernel
theorem dX6_readFrom_3 : decode cX6_readFrom 3 = .ok (.invokevirtual 15, 3) := by decide +kernel
theorem dX6_readFrom_6 : decode cX6_readFrom 6 = .ok (.bipush 6, 2) := by decide +kernel
theorem dX6_readFrom_8 : decode cX6_readFrom 8 = .ok (.invokestatic 21, 3) := by decide +kernel
theorem dX6_readFrom_11 : decode cX6_readFrom 11 = .ok (.putfield 27, 3) := by decide +kernel
theorem dX6_readFrom_14 : decode cX6_readFrom 14 = .ok (.aload_n 0, 1) := by decide +kernel
theorem dX6_readFrom_15 : decode cX6_readFrom 15 = .ok (.aload_n 1, 1) := by decide +kernel
theorem dX6_readFrom_16 : decode cX6_readFrom 16 = .ok (.iconst 1, 1) := by decide +kernel
theorem dX6_readFrom_17 : decode cX6_readFrom 17 = .ok (.invokevirtual 15, 3) := by decide +kernel
theorem dX6_readFrom_20 : decode cX6_readFrom 20 = .ok (.putfield 31, 3) := by decide +kernel
theorem dX6_readFrom_23 : decode cX6_readFrom 23 = .ok (.aload_n 0, 1) := by decide +kernel
theorem dX6_readFrom_24 : decode cX6_readFrom 24 = .ok (.aload_n 1, 1) := by decide +kernel
theorem dX6_readFrom_25 : decode cX6_readFrom 25 = .ok (.iconst 3, 1) := by decide +kernel
theorem dX6_readFrom_26 : decode cX6_readFrom 26 = .ok (.invokevirtual 15, 3) := by decide +kernel
theorem dX6_readFrom_29 : decode cX6_readFrom 29 = .ok (.putfield 34, 3) := by decide +kernel
theorem dX6_readFrom_32 : decode cX6_readFrom 32 = .ok (.aload_n 0, 1) := by decide +kernel
theorem dX6_readFrom_33 : decode cX6_readFrom 33 = .ok (.aload_n 1, 1) := by decide +kernel
theorem dX6_readFrom_34 : decode cX6_readFrom 34 = .ok (.iconst 4, 1) := by decide +kernel
theorem dX6_readFrom_35 : decode cX6_readFrom 35 = .ok (.invokevirtual 15, 3) := by decide +kernel
theorem dX6_readFrom_38 : decode cX6_readFrom 38 = .ok (.putfield 37, 3) := by decide +kernel
theorem dX6_readFrom_41 : decode cX6_readFrom 41 = .ok (.aload_n 0, 1) := by decide +kernel
theorem dX6_readFrom_42 : decode cX6_readFrom 42 = .ok (.aload_n 1, 1) := by decide +kernel
theorem dX6_readFrom_43 : decode cX6_readFrom 43 = .ok (.iconst 5, 1) := by decide +kernel
theorem dX6_readFrom_44 : decode cX6_readFrom 44 = .ok (.invokevirtual 15, 3) := by decide +kernel
theorem dX6_readFrom_47 : decode cX6_readFrom 47 = .ok (.putfield 40, 3) := by decide +kernel
theorem dX6_readFrom_50 : decode cX6_readFrom 50 = .ok (.iconst 0, 1) := by decide +kernel
theorem dX6_readFrom_51 : decode cX6_readFrom 51 = .ok (.istore_n 2, 1) := by decide +kernel
theorem dX6_readFrom_52 : decode cX6_readFrom 52 = .ok (.iload_n 2, 1) := by decide +kernel
theorem dX6_readFrom_53 : decode cX6_readFrom 53 = .ok (.aload_n 0, 1) := by decide +kernel
theorem dX6_readFrom_54 : decode cX6_readFrom 54 = .ok (.getfield 27, 3) := by decide +kernel
theorem dX6_readFrom_57 : decode cX6_readFrom 57 = .ok (.if_icmp .ge 23, 3) := by decide +kernel
theorem dX6_readFrom_60 : decode cX6_readFrom 60 = .ok (.aload_n 0, 1) := by decide +kernel
theorem dX6_readFrom_61 : decode cX6_readFrom 61 = .ok (.getfield 9, 3) := by decide +kernel
theorem dX6_readFrom_64 : decode cX6_readFrom 64 = .ok (.iload_n 2, 1) := by decide +kernel
theorem dX6_readFrom_65 : decode cX6_readFrom 65 = .ok (.aload_n 1, 1) := by decide +kernel
theorem dX6_readFrom_66 : decode cX6_readFrom 66 = .ok (.bipush 7, 2) := by decide +kernel
theorem dX6_readFrom_68 : decode cX6_readFrom 68 = .ok (.iload_n 2, 1) := by decide +kernel
theorem dX6_readFrom_69 : decode cX6_readFrom 69 = .ok (.iadd, 1) := by decide +kernel
theorem dX6_readFrom_70 : decode cX6_readFrom 70 = .ok (.invokevirtual 15, 3) := by decide +kernel
theorem dX6_readFrom_73 : decode cX6_readFrom 73 = .ok (.iastore, 1) := by decide +kernel
theorem dX6_readFrom_74 : decode cX6_readFrom 74 = .ok (.iinc 2 1, 3) := by decide +kernel
theorem dX6_readFrom_77 : decode cX6_readFrom 77 = .ok (.goto (-25), 3) := by decide +kernel
theorem dX6_readFrom_80 : decode cX6_readFrom 80 = .ok (.return_, 1) := by decide +kernel
theorem dX6_allEggs_0 : decode cX6_allEggs 0 = .ok (.iconst 1, 1) := by decide +kernel
theorem dX6_allEggs_1 : decode cX6_allEggs 1 = .ok (.aload_n 0, 1) := by decide +kernel
theorem dX6_allEggs_2 : decode cX6_allEggs 2 = .ok (.getfield 27, 3) := by decide +kernel
theorem dX6_allEggs_5 : decode cX6_allEggs 5 = .ok (.ishl, 1) := by decide +kernel
theorem dX6_allEggs_6 : decode cX6_allEggs 6 = .ok (.iconst 1, 1) := by decide +kernel
theorem dX6_allEggs_7 : decode cX6_allEggs 7 = .ok (.isub, 1) := by decide +kernel
theorem dX6_allEggs_8 : decode cX6_allEggs 8 = .ok (.ireturn, 1) := by decide +kernel
theorem dX6_tenthsOf_0 : decode cX6_tenthsOf 0 = .ok (.iload_n 1, 1) := by decide +kernel
theorem dX6_tenthsOf_1 : decode cX6_tenthsOf 1 = .ok (.ifCond .eq 10, 3) := by decide +kernel
theorem dX6_tenthsOf_4 : decode cX6_tenthsOf 4 = .ok (.aload_n 0, 1) := by decide +kernel
theorem dX6_tenthsOf_5 : decode cX6_tenthsOf 5 = .ok (.getfield 34, 3) := by decide +kernel
theorem dX6_tenthsOf_8 : decode cX6_tenthsOf 8 = .ok (.goto 7, 3) := by decide +kernel
theorem dX6_tenthsOf_11 : decode cX6_tenthsOf 11 = .ok (.aload_n 0, 1) := by decide +kernel
theorem dX6_tenthsOf_12 : decode cX6_tenthsOf 12 = .ok (.getfield 37, 3) := by decide +kernel
theorem dX6_tenthsOf_15 : decode cX6_tenthsOf 15 = .ok (.istore_n 3, 1) := by decide +kernel
theorem dX6_tenthsOf_16 : decode cX6_tenthsOf 16 = .ok (.iload_n 2, 1) := by decide +kernel
theorem dX6_tenthsOf_17 : decode cX6_tenthsOf 17 = .ok (.ifCond .eq 7, 3) := by decide +kernel
theorem dX6_tenthsOf_20 : decode cX6_tenthsOf 20 = .ok (.iload_n 3, 1) := by decide +kernel
theorem dX6_tenthsOf_21 : decode cX6_tenthsOf 21 = .ok (.goto 7, 3) := by decide +kernel
theorem dX6_tenthsOf_24 : decode cX6_tenthsOf 24 = .ok (.bipush 10, 2) := by decide +kernel
theorem dX6_tenthsOf_26 : decode cX6_tenthsOf 26 = .ok (.iload_n 3, 1) := by decide +kernel
theorem dX6_tenthsOf_27 : decode cX6_tenthsOf 27 = .ok (.isub, 1) := by decide +kernel
theorem dX6_tenthsOf_28 : decode cX6_tenthsOf 28 = .ok (.ireturn, 1) := by decide +kernel
set_option maxRecDepth 20000 in
theorem ggX6_habitsOf_X10_has : GoodIn wsX6_habitsOf wsX10_has := goodIn_r _ [5] (by decide +kernel) (by decide +kernel)
set_option maxRecDepth 20000 in
theorem gX6_habitsOf_X10_has_n43 : GoodIn wsX6_habitsOf (wsX10_has) := ggX6_habitsOf_X10_has
theorem dX6_habitsOf_0 : decode cX6_habitsOf 0 = .ok (.lconst 1, 1) := by decide +kernel
theorem dX6_habitsOf_1 : decode cX6_habitsOf 1 = .ok (.lstore_n 2, 1) := by decide +kernel
theorem dX6_habitsOf_2 : decode cX6_habitsOf 2 = .ok (.iconst 0, 1) := by decide +kernel
theorem dX6_habitsOf_3 : decode cX6_habitsOf 3 = .ok (.istore 4, 2) := by decide +kernel
theorem dX6_habitsOf_5 : decode cX6_habitsOf 5 = .ok (.iload 4, 2) := by decide +kernel
theorem dX6_habitsOf_7 : decode cX6_habitsOf 7 = .ok (.aload_n 0, 1) := by decide +kernel
theorem dX6_habitsOf_8 : decode cX6_habitsOf 8 = .ok (.getfield 27, 3) := by decide +kernel
theorem dX6_habitsOf_11 : decode cX6_habitsOf 11 = .ok (.if_icmp .ge 29, 3) := by decide +kernel
theorem dX6_habitsOf_14 : decode cX6_habitsOf 14 = .ok (.iload_n 1, 1) := by decide +kernel
theorem dX6_habitsOf_15 : decode cX6_habitsOf 15 = .ok (.iload 4, 2) := by decide +kernel
theorem dX6_habitsOf_17 : decode cX6_habitsOf 17 = .ok (.invokestatic 43, 3) := by decide +kernel
theorem dX6_habitsOf_20 : decode cX6_habitsOf 20 = .ok (.ifCond .eq 14, 3) := by decide +kernel
theorem dX6_habitsOf_23 : decode cX6_habitsOf 23 = .ok (.lload_n 2, 1) := by decide +kernel
theorem dX6_habitsOf_24 : decode cX6_habitsOf 24 = .ok (.aload_n 0, 1) := by decide +kernel
theorem dX6_habitsOf_25 : decode cX6_habitsOf 25 = .ok (.getfield 9, 3) := by decide +kernel
theorem dX6_habitsOf_28 : decode cX6_habitsOf 28 = .ok (.iload 4, 2) := by decide +kernel
theorem dX6_habitsOf_30 : decode cX6_habitsOf 30 = .ok (.iaload, 1) := by decide +kernel
theorem dX6_habitsOf_31 : decode cX6_habitsOf 31 = .ok (.i2l, 1) := by decide +kernel
theorem dX6_habitsOf_32 : decode cX6_habitsOf 32 = .ok (.lmul, 1) := by decide +kernel
theorem dX6_habitsOf_33 : decode cX6_habitsOf 33 = .ok (.lstore_n 2, 1) := by decide +kernel
theorem dX6_habitsOf_34 : decode cX6_habitsOf 34 = .ok (.iinc 4 1, 3) := by decide +kernel
theorem dX6_habitsOf_37 : decode cX6_habitsOf 37 = .ok (.goto (-32), 3) := by decide +kernel
theorem dX6_habitsOf_40 : decode cX6_habitsOf 40 = .ok (.lload_n 2, 1) := by decide +kernel
theorem dX6_habitsOf_41 : decode cX6_habitsOf 41 = .ok (.lreturn, 1) := by decide +kernel
theorem dX7_init_0 : decode cX7_init 0 = .ok (.aload_n 0, 1) := by decide +kernel
theorem dX7_init_1 : decode cX7_init 1 = .ok (.invokespecial 3, 3) := by decide +kernel
theorem dX7_init_4 : decode cX7_init 4 = .ok (.aload_n 0, 1) := by decide +kernel
theorem dX7_init_5 : decode cX7_init 5 = .ok (.bipush 14, 2) := by decide +kernel
theorem dX7_init_7 : decode cX7_init 7 = .ok (.newarray .int, 2) := by decide +kernel
theorem dX7_init_9 : decode cX7_init 9 = .ok (.putfield 9, 3) := by decide +kernel
theorem dX7_init_12 : decode cX7_init 12 = .ok (.return_, 1) := by decide +kernel
theorem dX7_isFull_0 : decode cX7_isFull 0 = .ok (.aload_n 0, 1) := by decide +kernel
theorem dX7_isFull_1 : decode cX7_isFull 1 = .ok (.getfield 15, 3) := by decide +kernel
theorem dX7_isFull_4 : decode cX7_isFull 4 = .ok (.bipush 14, 2) := by decide +kernel
theorem dX7_isFull_6 : decode cX7_isFull 6 = .ok (.if_icmp .lt 7, 3) := by decide +kernel
theorem dX7_isFull_9 : decode cX7_isFull 9 = .ok (.iconst 1, 1) := by decide +kernel
theorem dX7_isFull_10 : decode cX7_isFull 10 = .ok (.goto 4, 3) := by decide +kernel
theorem dX7_isFull_13 : decode cX7_isFull 13 = .ok (.iconst 0, 1) := by decide +kernel
theorem dX7_isFull_14 : decode cX7_isFull 14 = .ok (.ireturn, 1) := by decide +kernel
set_option maxRecDepth 20000 in
theorem ggX7_append_X7_isFull : GoodIn wsX7_append wsX7_isFull := goodIn_r _ [7, 2, 8, 9] (by decide +kernel) (by decide +kernel)
set_option maxRecDepth 20000 in
theorem gX7_append_X7_isFull : GoodIn wsX7_append (wsV RX7 19 RX7 yX7_isFull wsX7_isFull) := goodIn_app (goodIn_of _ (by decide +kernel)) ggX7_append_X7_isFull
theorem dX7_append_0 : decode cX7_append 0 = .ok (.aload_n 0, 1) := by decide +kernel
theorem dX7_append_1 : decode cX7_append 1 = .ok (.invokevirtual 19, 3) := by decide +kernel
theorem dX7_append_4 : decode cX7_append 4 = .ok (.ifCond .ne 20, 3) := by decide +kernel
theorem dX7_append_7 : decode cX7_append 7 = .ok (.aload_n 0, 1) := by decide +kernel
theorem dX7_append_8 : decode cX7_append 8 = .ok (.getfield 9, 3) := by decide +kernel
theorem dX7_append_11 : decode cX7_append 11 = .ok (.aload_n 0, 1) := by decide +kernel
theorem dX7_append_12 : decode cX7_append 12 = .ok (.dup, 1) := by decide +kernel
theorem dX7_append_13 : decode cX7_append 13 = .ok (.getfield 15, 3) := by decide +kernel
theorem dX7_append_16 : decode cX7_append 16 = .ok (.dup_x1, 1) := by decide +kernel
theorem dX7_append_17 : decode cX7_append 17 = .ok (.iconst 1, 1) := by decide +kernel
theorem dX7_append_18 : decode cX7_append 18 = .ok (.iadd, 1) := by decide +kernel
theorem dX7_append_19 : decode cX7_append 19 = .ok (.putfield 15, 3) := by decide +kernel
theorem dX7_append_22 : decode cX7_append 22 = .ok (.iload_n 1, 1) := by decide +kernel
theorem dX7_append_23 : decode cX7_append 23 = .ok (.iastore, 1) := by decide +kernel
theorem dX7_append_24 : decode cX7_append 24 = .ok (.aload_n 0, 1) := by decide +kernel
theorem dX7_append_25 : decode cX7_append 25 = .ok (.getfield 15, 3) := by decide +kernel
theorem dX7_append_28 : decode cX7_append 28 = .ok (.ireturn, 1) := by decide +kernel
theorem dX7_clear_0 : decode cX7_clear 0 = .ok (.aload_n 0, 1) := by decide +kernel
theorem dX7_clear_1 : decode cX7_clear 1 = .ok (.getfield 15, 3) := by decide +kernel
theorem dX7_clear_4 : decode cX7_clear 4 = .ok (.istore_n 1, 1) := by decide +kernel
theorem dX7_clear_5 : decode cX7_clear 5 = .ok (.aload_n 0, 1) := by decide +kernel
theorem dX7_clear_6 : decode cX7_clear 6 = .ok (.iconst 0, 1) := by decide +kernel
theorem dX7_clear_7 : decode cX7_clear 7 = .ok (.putfield 15, 3) := by decide +kernel
theorem dX7_clear_10 : decode cX7_clear 10 = .ok (.iload_n 1, 1) := by decide +kernel
theorem dX7_clear_11 : decode cX7_clear 11 = .ok (.ireturn, 1) := by decide +kernel
set_option maxRecDepth 20000 in
theorem ggX7_firstFault_X7_suits : GoodIn wsX7_firstFault wsX7_suits := goodIn_r _ [6, 7, 8, 9, 10, 5, 11, 12, 13, 14, 15, 1, 16, 17] (by decide +kernel) (by decide +kernel)
set_option maxRecDepth 20000 in
theorem gX7_firstFault_X7_suits : GoodIn wsX7_firstFault (wsV RX7 23 RX7 yX7_suits wsX7_suits) := goodIn_app (goodIn_of _ (by decide +kernel)) ggX7_firstFault_X7_suits
theorem dX7_firstFault_0 : decode cX7_firstFault 0 = .ok (.iconst 0, 1) := by decide +kernel
theorem dX7_firstFault_1 : decode cX7_firstFault 1 = .ok (.istore_n 1, 1) := by decide +kernel
theorem dX7_firstFault_2 : decode cX7_firstFault 2 = .ok (.iload_n 1, 1) := by decide +kernel
theorem dX7_firstFault_3 : decode cX7_firstFault 3 = .ok (.aload_n 0, 1) := by decide +kernel
theorem dX7_firstFault_4 : decode cX7_firstFault 4 = .ok (.getfield 15, 3) := by decide +kernel
theorem dX7_firstFault_7 : decode cX7_firstFault 7 = .ok (.if_icmp .ge 19, 3) := by decide +kernel
theorem dX7_firstFault_10 : decode cX7_firstFault 10 = .ok (.aload_n 0, 1) := by decide +kernel
theorem dX7_firstFault_11 : decode cX7_firstFault 11 = .ok (.iload_n 1, 1) := by decide +kernel
theorem dX7_firstFault_12 : decode cX7_firstFault 12 = .ok (.invokevirtual 23, 3) := by decide +kernel
theorem dX7_firstFault_15 : decode cX7_firstFault 15 = .ok (.ifCond .ne 5, 3) := by decide +kernel
theorem dX7_firstFault_18 : decode cX7_firstFault 18 = .ok (.iload_n 1, 1) := by decide +kernel
theorem dX7_firstFault_19 : decode cX7_firstFault 19 = .ok (.ireturn, 1) := by decide +kernel
theorem dX7_firstFault_20 : decode cX7_firstFault 20 = .ok (.iinc 1 1, 3) := by decide +kernel
theorem dX7_firstFault_23 : decode cX7_firstFault 23 = .ok (.goto (-21), 3) := by decide +kernel
theorem dX7_firstFault_26 : decode cX7_firstFault 26 = .ok (.aload_n 0, 1) := by decide +kernel
theorem dX7_firstFault_27 : decode cX7_firstFault 27 = .ok (.getfield 15, 3) := by decide +kernel
theorem dX7_firstFault_30 : decode cX7_firstFault 30 = .ok (.ireturn, 1) := by decide +kernel
set_option maxRecDepth 20000 in
theorem ggX7_isWholeKitchen_X7_digit : GoodIn wsX7_isWholeKitchen wsX7_digit := goodIn_r _ [6, 1, 7, 20, 21] (by decide +kernel) (by decide +kernel)
set_option maxRecDepth 20000 in
theorem gX7_isWholeKitchen_X7_digit : GoodIn wsX7_isWholeKitchen (wsV RX7 27 RX7 yX7_digit wsX7_digit) := goodIn_app (goodIn_of _ (by decide +kernel)) ggX7_isWholeKitchen_X7_digit
set_option maxRecDepth 20000 in
theorem ggX7_isWholeKitchen_X7_firstFault : GoodIn wsX7_isWholeKitchen wsX7_firstFault := goodIn_r _ [11, 1, 12, 13, 14, 5, 15, 7, 16, 17, 18, 19, 2, 3, 4, 6, 20, 21] (by decide +kernel) (by decide +kernel)
set_option maxRecDepth 20000 in
theorem gX7_isWholeKitchen_X7_firstFault : GoodIn wsX7_isWholeKitchen (wsV RX7 31 RX7 yX7_firstFault wsX7_firstFault) := goodIn_app (goodIn_of _ (by decide +kernel)) ggX7_isWholeKitchen_X7_firstFault
theorem dX7_isWholeKitchen_0 : decode cX7_isWholeKitchen 0 = .ok (.aload_n 0, 1) := by decide +kernel
theorem dX7_isWholeKitchen_1 : decode cX7_isWholeKitchen 1 = .ok (.getfield 15, 3) := by decide +kernel
theorem dX7_isWholeKitchen_4 : decode cX7_isWholeKitchen 4 = .ok (.bipush 7, 2) := by decide +kernel
theorem dX7_isWholeKitchen_6 : decode cX7_isWholeKitchen 6 = .ok (.if_icmp .le 33, 3) := by decide +kernel
theorem dX7_isWholeKitchen_9 : decode cX7_isWholeKitchen 9 = .ok (.aload_n 0, 1) := by decide +kernel
theorem dX7_isWholeKitchen_10 : decode cX7_isWholeKitchen 10 = .ok (.getfield 15, 3) := by decide +kernel
theorem dX7_isWholeKitchen_13 : decode cX7_isWholeKitchen 13 = .ok (.bipush 7, 2) := by decide +kernel
theorem dX7_isWholeKitchen_15 : decode cX7_isWholeKitchen 15 = .ok (.aload_n 0, 1) := by decide +kernel
theorem dX7_isWholeKitchen_16 : decode cX7_isWholeKitchen 16 = .ok (.iconst 0, 1) := by decide +kernel
theorem dX7_isWholeKitchen_17 : decode cX7_isWholeKitchen 17 = .ok (.invokevirtual 27, 3) := by decide +kernel
theorem dX7_isWholeKitchen_20 : decode cX7_isWholeKitchen 20 = .ok (.iadd, 1) := by decide +kernel
theorem dX7_isWholeKitchen_21 : decode cX7_isWholeKitchen 21 = .ok (.if_icmp .ne 18, 3) := by decide +kernel
theorem dX7_isWholeKitchen_24 : decode cX7_isWholeKitchen 24 = .ok (.aload_n 0, 1) := by decide +kernel
theorem dX7_isWholeKitchen_25 : decode cX7_isWholeKitchen 25 = .ok (.invokevirtual 31, 3) := by decide +kernel
theorem dX7_isWholeKitchen_28 : decode cX7_isWholeKitchen 28 = .ok (.aload_n 0, 1) := by decide +kernel
theorem dX7_isWholeKitchen_29 : decode cX7_isWholeKitchen 29 = .ok (.getfield 15, 3) := by decide +kernel
theorem dX7_isWholeKitchen_32 : decode cX7_isWholeKitchen 32 = .ok (.if_icmp .ne 7, 3) := by decide +kernel
theorem dX7_isWholeKitchen_35 : decode cX7_isWholeKitchen 35 = .ok (.iconst 1, 1) := by decide +kernel
theorem dX7_isWholeKitchen_36 : decode cX7_isWholeKitchen 36 = .ok (.goto 4, 3) := by decide +kernel
theorem dX7_isWholeKitchen_39 : decode cX7_isWholeKitchen 39 = .ok (.iconst 0, 1) := by decide +kernel
theorem dX7_isWholeKitchen_40 : decode cX7_isWholeKitchen 40 = .ok (.ireturn, 1) := by decide +kernel
theorem dX7_digit_0 : decode cX7_digit 0 = .ok (.iload_n 1, 1) := by decide +kernel
theorem dX7_digit_1 : decode cX7_digit 1 = .ok (.ifCond .lt 23, 3) := by decide +kernel
theorem dX7_digit_4 : decode cX7_digit 4 = .ok (.iload_n 1, 1) := by decide +kernel
theorem dX7_digit_5 : decode cX7_digit 5 = .ok (.aload_n 0, 1) := by decide +kernel
theorem dX7_digit_6 : decode cX7_digit 6 = .ok (.getfield 15, 3) := by decide +kernel
theorem dX7_digit_9 : decode cX7_digit 9 = .ok (.if_icmp .ge 15, 3) := by decide +kernel
theorem dX7_digit_12 : decode cX7_digit 12 = .ok (.aload_n 0, 1) := by decide +kernel
theorem dX7_digit_13 : decode cX7_digit 13 = .ok (.getfield 9, 3) := by decide +kernel
theorem dX7_digit_16 : decode cX7_digit 16 = .ok (.iload_n 1, 1) := by decide +kernel
theorem dX7_digit_17 : decode cX7_digit 17 = .ok (.iaload, 1) := by decide +kernel
theorem dX7_digit_18 : decode cX7_digit 18 = .ok (.bipush 48, 2) := by decide +kernel
theorem dX7_digit_20 : decode cX7_digit 20 = .ok (.isub, 1) := by decide +kernel
theorem dX7_digit_21 : decode cX7_digit 21 = .ok (.goto 4, 3) := by decide +kernel
theorem dX7_digit_24 : decode cX7_digit 24 = .ok (.iconst (-1), 1) := by decide +kernel
theorem dX7_digit_25 : decode cX7_digit 25 = .ok (.ireturn, 1) := by decide +kernel
set_option maxRecDepth 20000 in
theorem ggX7_suits_X7_isDigit : GoodIn wsX7_suits wsX7_isDigit := goodIn_r _ [6, 7, 8, 9, 5, 10, 11, 1, 12, 13] (by decide +kernel) (by decide +kernel)
set_option maxRecDepth 20000 in
theorem gX7_suits_X7_isDigit : GoodIn wsX7_suits (wsV RX7 35 RX7 yX7_isDigit wsX7_isDigit) := goodIn_app (goodIn_of _ (by decide +kernel)) ggX7_suits_X7_isDigit
set_option maxRecDepth 20000 in
theorem ggX7_suits_X7_digit : GoodIn wsX7_suits wsX7_digit := goodIn_r _ [10, 11, 1, 12, 13] (by decide +kernel) (by decide +kernel)
set_option maxRecDepth 20000 in
theorem gX7_suits_X7_digit : GoodIn wsX7_suits (wsV RX7 27 RX7 yX7_digit wsX7_digit) := goodIn_app (goodIn_of _ (by decide +kernel)) ggX7_suits_X7_digit
theorem dX7_suits_0 : decode cX7_suits 0 = .ok (.iload_n 1, 1) := by decide +kernel
theorem dX7_suits_1 : decode cX7_suits 1 = .ok (.tableswitch 107 0 6 #[43, 52, 64, 81, 81, 81, 90], 43) := by decide +kernel
theorem dX7_suits_44 : decode cX7_suits 44 = .ok (.aload_n 0, 1) := by decide +kernel
theorem dX7_suits_45 : decode cX7_suits 45 = .ok (.iload_n 1, 1) := by decide +kernel
theorem dX7_suits_46 : decode cX7_suits 46 = .ok (.iconst 2, 1) := by decide +kernel
theorem dX7_suits_47 : decode cX7_suits 47 = .ok (.bipush 6, 2) := by decide +kernel
theorem dX7_suits_49 : decode cX7_suits 49 = .ok (.invokevirtual 35, 3) := by decide +kernel
theorem dX7_suits_52 : decode cX7_suits 52 = .ok (.ireturn, 1) := by decide +kernel
theorem dX7_suits_53 : decode cX7_suits 53 = .ok (.aload_n 0, 1) := by decide +kernel
theorem dX7_suits_54 : decode cX7_suits 54 = .ok (.iload_n 1, 1) := by decide +kernel
theorem dX7_suits_55 : decode cX7_suits 55 = .ok (.iconst 0, 1) := by decide +kernel
theorem dX7_suits_56 : decode cX7_suits 56 = .ok (.aload_n 0, 1) := by decide +kernel
theorem dX7_suits_57 : decode cX7_suits 57 = .ok (.iconst 0, 1) := by decide +kernel
theorem dX7_suits_58 : decode cX7_suits 58 = .ok (.invokevirtual 27, 3) := by decide +kernel
theorem dX7_suits_61 : decode cX7_suits 61 = .ok (.invokevirtual 35, 3) := by decide +kernel
theorem dX7_suits_64 : decode cX7_suits 64 = .ok (.ireturn, 1) := by decide +kernel
theorem dX7_suits_65 : decode cX7_suits 65 = .ok (.aload_n 0, 1) := by decide +kernel
theorem dX7_suits_66 : decode cX7_suits 66 = .ok (.getfield 9, 3) := by decide +kernel
theorem dX7_suits_69 : decode cX7_suits 69 = .ok (.iload_n 1, 1) := by decide +kernel
theorem dX7_suits_70 : decode cX7_suits 70 = .ok (.iaload, 1) := by decide +kernel
theorem dX7_suits_71 : decode cX7_suits 71 = .ok (.bipush 58, 2) := by decide +kernel
theorem dX7_suits_73 : decode cX7_suits 73 = .ok (.if_icmp .ne 7, 3) := by decide +kernel
theorem dX7_suits_76 : decode cX7_suits 76 = .ok (.iconst 1, 1) := by decide +kernel
theorem dX7_suits_77 : decode cX7_suits 77 = .ok (.goto 4, 3) := by decide +kernel
theorem dX7_suits_80 : decode cX7_suits 80 = .ok (.iconst 0, 1) := by decide +kernel
theorem dX7_suits_81 : decode cX7_suits 81 = .ok (.ireturn, 1) := by decide +kernel
theorem dX7_suits_82 : decode cX7_suits 82 = .ok (.aload_n 0, 1) := by decide +kernel
theorem dX7_suits_83 : decode cX7_suits 83 = .ok (.iload_n 1, 1) := by decide +kernel
theorem dX7_suits_84 : decode cX7_suits 84 = .ok (.iconst 0, 1) := by decide +kernel
theorem dX7_suits_85 : decode cX7_suits 85 = .ok (.bipush 9, 2) := by decide +kernel
theorem dX7_suits_87 : decode cX7_suits 87 = .ok (.invokevirtual 35, 3) := by decide +kernel
theorem dX7_suits_90 : decode cX7_suits 90 = .ok (.ireturn, 1) := by decide +kernel
theorem dX7_suits_91 : decode cX7_suits 91 = .ok (.aload_n 0, 1) := by decide +kernel
theorem dX7_suits_92 : decode cX7_suits 92 = .ok (.getfield 9, 3) := by decide +kernel
theorem dX7_suits_95 : decode cX7_suits 95 = .ok (.iload_n 1, 1) := by decide +kernel
theorem dX7_suits_96 : decode cX7_suits 96 = .ok (.iaload, 1) := by decide +kernel
theorem dX7_suits_97 : decode cX7_suits 97 = .ok (.bipush 59, 2) := by decide +kernel
theorem dX7_suits_99 : decode cX7_suits 99 = .ok (.if_icmp .ne 7, 3) := by decide +kernel
theorem dX7_suits_102 : decode cX7_suits 102 = .ok (.iconst 1, 1) := by decide +kernel
theorem dX7_suits_103 : decode cX7_suits 103 = .ok (.goto 4, 3) := by decide +kernel
theorem dX7_suits_106 : decode cX7_suits 106 = .ok (.iconst 0, 1) := by decide +kernel
theorem dX7_suits_107 : decode cX7_suits 107 = .ok (.ireturn, 1) := by decide +kernel
theorem dX7_suits_108 : decode cX7_suits 108 = .ok (.iload_n 1, 1) := by decide +kernel
theorem dX7_suits_109 : decode cX7_suits 109 = .ok (.bipush 7, 2) := by decide +kernel
theorem dX7_suits_111 : decode cX7_suits 111 = .ok (.aload_n 0, 1) := by decide +kernel
theorem dX7_suits_112 : decode cX7_suits 112 = .ok (.iconst 0, 1) := by decide +kernel
theorem dX7_suits_113 : decode cX7_suits 113 = .ok (.invokevirtual 27, 3) := by decide +kernel
theorem dX7_suits_116 : decode cX7_suits 116 = .ok (.iadd, 1) := by decide +kernel
theorem dX7_suits_117 : decode cX7_suits 117 = .ok (.if_icmp .ge 17, 3) := by decide +kernel
theorem dX7_suits_120 : decode cX7_suits 120 = .ok (.aload_n 0, 1) := by decide +kernel
theorem dX7_suits_121 : decode cX7_suits 121 = .ok (.iload_n 1, 1) := by decide +kernel
theorem dX7_suits_122 : decode cX7_suits 122 = .ok (.iconst 1, 1) := by decide +kernel
theorem dX7_suits_123 : decode cX7_suits 123 = .ok (.iconst 4, 1) := by decide +kernel
theorem dX7_suits_124 : decode cX7_suits 124 = .ok (.invokevirtual 35, 3) := by decide +kernel
theorem dX7_suits_127 : decode cX7_suits 127 = .ok (.ifCond .eq 7, 3) := by decide +kernel
theorem dX7_suits_130 : decode cX7_suits 130 = .ok (.iconst 1, 1) := by decide +kernel
theorem dX7_suits_131 : decode cX7_suits 131 = .ok (.goto 4, 3) := by decide +kernel
theorem dX7_suits_134 : decode cX7_suits 134 = .ok (.iconst 0, 1) := by decide +kernel
theorem dX7_suits_135 : decode cX7_suits 135 = .ok (.ireturn, 1) := by decide +kernel
set_option maxRecDepth 20000 in
theorem ggX7_isDigit_X7_digit : GoodIn wsX7_isDigit wsX7_digit := goodIn_r _ [5, 6, 7, 8, 9] (by decide +kernel) (by decide +kernel)
set_option maxRecDepth 20000 in
theorem gX7_isDigit_X7_digit : GoodIn wsX7_isDigit (wsV RX7 27 RX7 yX7_digit wsX7_digit) := goodIn_app (goodIn_of _ (by decide +kernel)) ggX7_isDigit_X7_digit
theorem dX7_isDigit_0 : decode cX7_isDigit 0 = .ok (.aload_n 0, 1) := by decide +kernel
theorem dX7_isDigit_1 : decode cX7_isDigit 1 = .ok (.iload_n 1, 1) := by decide +kernel
theorem dX7_isDigit_2 : decode cX7_isDigit 2 = .ok (.invokevirtual 27, 3) := by decide +kernel
theorem dX7_isDigit_5 : decode cX7_isDigit 5 = .ok (.istore 4, 2) := by decide +kernel
theorem dX7_isDigit_7 : decode cX7_isDigit 7 = .ok (.iload 4, 2) := by decide +kernel
theorem dX7_isDigit_9 : decode cX7_isDigit 9 = .ok (.iload_n 2, 1) := by decide +kernel
theorem dX7_isDigit_10 : decode cX7_isDigit 10 = .ok (.if_icmp .lt 13, 3) := by decide +kernel
theorem dX7_isDigit_13 : decode cX7_isDigit 13 = .ok (.iload 4, 2) := by decide +kernel
theorem dX7_isDigit_15 : decode cX7_isDigit 15 = .ok (.iload_n 3, 1) := by decide +kernel
theorem dX7_isDigit_16 : decode cX7_isDigit 16 = .ok (.if_icmp .gt 7, 3) := by decide +kernel
theorem dX7_isDigit_19 : decode cX7_isDigit 19 = .ok (.iconst 1, 1) := by decide +kernel
theorem dX7_isDigit_20 : decode cX7_isDigit 20 = .ok (.goto 4, 3) := by decide +kernel
theorem dX7_isDigit_23 : decode cX7_isDigit 23 = .ok (.iconst 0, 1) := by decide +kernel
theorem dX7_isDigit_24 : decode cX7_isDigit 24 = .ok (.ireturn, 1) := by decide +kernel
theorem dX8_init_0 : decode cX8_init 0 = .ok (.aload_n 0, 1) := by decide +kernel
theorem dX8_init_1 : decode cX8_init 1 = .ok (.invokespecial 3, 3) := by decide +kernel
theorem dX8_init_4 : decode cX8_init 4 = .ok (.aload_n 0, 1) := by decide +kernel
theorem dX8_init_5 : decode cX8_init 5 = .ok (.bipush 20, 2) := by decide +kernel
theorem dX8_init_7 : decode cX8_init 7 = .ok (.newarray .int, 2) := by decide +kernel
theorem dX8_init_9 : decode cX8_init 9 = .ok (.putfield 9, 3) := by decide +kernel
theorem dX8_init_12 : decode cX8_init 12 = .ok (.aload_n 0, 1) := by decide +kernel
theorem dX8_init_13 : decode cX8_init 13 = .ok (.bipush 20, 2) := by decide +kernel
theorem dX8_init_15 : decode cX8_init 15 = .ok (.newarray .long, 2) := by decide +kernel
theorem dX8_init_17 : decode cX8_init 17 = .ok (.putfield 15, 3) := by decide +kernel
theorem dX8_init_20 : decode cX8_init 20 = .ok (.aload_n 0, 1) := by decide +kernel
theorem dX8_init_21 : decode cX8_init 21 = .ok (.bipush 6, 2) := by decide +kernel
theorem dX8_init_23 : decode cX8_init 23 = .ok (.newarray .int, 2) := by decide +kernel
theorem dX8_init_25 : decode cX8_init 25 = .ok (.putfield 19, 3) := by decide +kernel
theorem dX8_init_28 : decode cX8_init 28 = .ok (.aload_n 0, 1) := by decide +kernel
theorem dX8_init_29 : decode cX8_init 29 = .ok (.bipush 6, 2) := by decide +kernel
theorem dX8_init_31 : decode cX8_init 31 = .ok (.newarray .int, 2) := by decide +kernel
theorem dX8_init_33 : decode cX8_init 33 = .ok (.putfield 22, 3) := by decide +kernel
theorem dX8_init_36 : decode cX8_init 36 = .ok (.aload_n 0, 1) := by decide +kernel
theorem dX8_init_37 : decode cX8_init 37 = .ok (.bipush 6, 2) := by decide +kernel
theorem dX8_init_39 : decode cX8_init 39 = .ok (.newarray .int, 2) := by decide +kernel
theorem dX8_init_41 : decode cX8_init 41 = .ok (.putfield 25, 3) := by decide +kernel
theorem dX8_init_44 : decode cX8_init 44 = .ok (.return_, 1) := by decide +kernel
set_option maxRecDepth 20000 in
theorem ggX8_begin_X6_allEggs : GoodIn wsX8_begin wsX6_allEggs := goodIn_r _ [11, 12, 43, 44, 45, 46, 47, 48] (by decide +kernel) (by decide +kernel)
set_option maxRecDepth 20000 in
theorem gX8_begin_X6_allEggs : GoodIn wsX8_begin (wsV RX8 32 RX6 yX6_allEggs wsX6_allEggs) := goodIn_app (goodIn_of _ (by decide +kernel)) ggX8_begin_X6_allEggs
set_option maxRecDepth 20000 in
theorem ggX8_begin_J6_bitCount_0f7a4 : GoodIn wsX8_begin wsJ6_bitCount_0f7a4 := goodIn_r _ [16, 17, 18, 19] (by decide +kernel) (by decide +kernel)
set_option maxRecDepth 20000 in
theorem gX8_begin_J6_bitCount_0f7a4 : GoodIn wsX8_begin (va_wsS RX8 38 yJ6_bitCount_0f7a4 wsJ6_bitCount_0f7a4) := goodIn_app (goodIn_of _ (by decide +kernel)) ggX8_begin_J6_bitCount_0f7a4
set_option maxRecDepth 20000 in
theorem ggX8_begin_X6_habitsOf : GoodIn wsX8_begin wsX6_habitsOf := goodIn_r _ [23, 12, 24, 25, 26, 27, 43, 44, 45, 46, 47, 48] (by decide +kernel) (by decide +kernel)
set_option maxRecDepth 20000 in
theorem gX8_begin_X6_habitsOf : GoodIn wsX8_begin (wsV RX8 47 RX6 yX6_habitsOf wsX6_habitsOf) := goodIn_app (goodIn_of _ (by decide +kernel)) ggX8_begin_X6_habitsOf
set_option maxRecDepth 20000 in
theorem ggX8_begin_X8_keep : GoodIn wsX8_begin wsX8_keep := goodIn_r _ [32, 1, 33, 34, 35, 36, 37, 38, 39, 40, 41, 42] (by decide +kernel) (by decide +kernel)
set_option maxRecDepth 20000 in
theorem gX8_begin_X8_keep : GoodIn wsX8_begin (wsV RX8 51 RX8 yX8_keep wsX8_keep) := goodIn_app (goodIn_of _ (by decide +kernel)) ggX8_begin_X8_keep
theorem dX8_begin_0 : decode cX8_begin 0 = .ok (.aload_n 0, 1) := by decide +kernel
theorem dX8_begin_1 : decode cX8_begin 1 = .ok (.iconst 0, 1) := by decide +kernel
theorem dX8_begin_2 : decode cX8_begin 2 = .ok (.putfield 28, 3) := by decide +kernel
theorem dX8_begin_5 : decode cX8_begin 5 = .ok (.aload_n 1, 1) := by decide +kernel
theorem dX8_begin_6 : decode cX8_begin 6 = .ok (.invokevirtual 32, 3) := by decide +kernel
theorem dX8_begin_9 : decode cX8_begin 9 = .ok (.istore_n 2, 1) := by decide +kernel
theorem dX8_begin_10 : decode cX8_begin 10 = .ok (.iconst 0, 1) := by decide +kernel
theorem dX8_begin_11 : decode cX8_begin 11 = .ok (.istore_n 3, 1) := by decide +kernel
theorem dX8_begin_12 : decode cX8_begin 12 = .ok (.iload_n 3, 1) := by decide +kernel
theorem dX8_begin_13 : decode cX8_begin 13 = .ok (.iload_n 2, 1) := by decide +kernel
theorem dX8_begin_14 : decode cX8_begin 14 = .ok (.if_icmp .gt 30, 3) := by decide +kernel
theorem dX8_begin_17 : decode cX8_begin 17 = .ok (.iload_n 3, 1) := by decide +kernel
theorem dX8_begin_18 : decode cX8_begin 18 = .ok (.invokestatic 38, 3) := by decide +kernel
theorem dX8_begin_21 : decode cX8_begin 21 = .ok (.aload_n 1, 1) := by decide +kernel
theorem dX8_begin_22 : decode cX8_begin 22 = .ok (.getfield 44, 3) := by decide +kernel
theorem dX8_begin_25 : decode cX8_begin 25 = .ok (.if_icmp .ne 13, 3) := by decide +kernel
theorem dX8_begin_28 : decode cX8_begin 28 = .ok (.aload_n 0, 1) := by decide +kernel
theorem dX8_begin_29 : decode cX8_begin 29 = .ok (.iload_n 3, 1) := by decide +kernel
theorem dX8_begin_30 : decode cX8_begin 30 = .ok (.aload_n 1, 1) := by decide +kernel
theorem dX8_begin_31 : decode cX8_begin 31 = .ok (.iload_n 3, 1) := by decide +kernel
theorem dX8_begin_32 : decode cX8_begin 32 = .ok (.invokevirtual 47, 3) := by decide +kernel
theorem dX8_begin_35 : decode cX8_begin 35 = .ok (.invokevirtual 51, 3) := by decide +kernel
theorem dX8_begin_38 : decode cX8_begin 38 = .ok (.iinc 3 1, 3) := by decide +kernel
theorem dX8_begin_41 : decode cX8_begin 41 = .ok (.goto (-29), 3) := by decide +kernel
theorem dX8_begin_44 : decode cX8_begin 44 = .ok (.iconst 0, 1) := by decide +kernel
theorem dX8_begin_45 : decode cX8_begin 45 = .ok (.istore_n 3, 1) := by decide +kernel
theorem dX8_begin_46 : decode cX8_begin 46 = .ok (.iload_n 3, 1) := by decide +kernel
theorem dX8_begin_47 : decode cX8_begin 47 = .ok (.bipush 6, 2) := by decide +kernel
theorem dX8_begin_49 : decode cX8_begin 49 = .ok (.if_icmp .ge 30, 3) := by decide +kernel
theorem dX8_begin_52 : decode cX8_begin 52 = .ok (.aload_n 0, 1) := by decide +kernel
theorem dX8_begin_53 : decode cX8_begin 53 = .ok (.getfield 19, 3) := by decide +kernel
theorem dX8_begin_56 : decode cX8_begin 56 = .ok (.iload_n 3, 1) := by decide +kernel
theorem dX8_begin_57 : decode cX8_begin 57 = .ok (.iconst 0, 1) := by decide +kernel
theorem dX8_begin_58 : decode cX8_begin 58 = .ok (.iastore, 1) := by decide +kernel
theorem dX8_begin_59 : decode cX8_begin 59 = .ok (.aload_n 0, 1) := by decide +kernel
theorem dX8_begin_60 : decode cX8_begin 60 = .ok (.getfield 22, 3) := by decide +kernel
theorem dX8_begin_63 : decode cX8_begin 63 = .ok (.iload_n 3, 1) := by decide +kernel
theorem dX8_begin_64 : decode cX8_begin 64 = .ok (.iconst 0, 1) := by decide +kernel
theorem dX8_begin_65 : decode cX8_begin 65 = .ok (.iastore, 1) := by decide +kernel
theorem dX8_begin_66 : decode cX8_begin 66 = .ok (.aload_n 0, 1) := by decide +kernel
theorem dX8_begin_67 : decode cX8_begin 67 = .ok (.getfield 25, 3) := by decide +kernel
theorem dX8_begin_70 : decode cX8_begin 70 = .ok (.iload_n 3, 1) := by decide +kernel
theorem dX8_begin_71 : decode cX8_begin 71 = .ok (.iconst (-1), 1) := by decide +kernel
theorem dX8_begin_72 : decode cX8_begin 72 = .ok (.iastore, 1) := by decide +kernel
theorem dX8_begin_73 : decode cX8_begin 73 = .ok (.iinc 3 1, 3) := by decide +kernel
theorem dX8_begin_76 : decode cX8_begin 76 = .ok (.goto (-30), 3) := by decide +kernel
theorem dX8_begin_79 : decode cX8_begin 79 = .ok (.aload_n 0, 1) := by decide +kernel
theorem dX8_begin_80 : decode cX8_begin 80 = .ok (.iload_n 2, 1) := by decide +kernel
theorem dX8_begin_81 : decode cX8_begin 81 = .ok (.putfield 55, 3) := by decide +kernel
theorem dX8_begin_84 : decode cX8_begin 84 = .ok (.aload_n 0, 1) := by decide +kernel
theorem dX8_begin_85 : decode cX8_begin 85 = .ok (.iconst 0, 1) := by decide +kernel
theorem dX8_begin_86 : decode cX8_begin 86 = .ok (.putfield 58, 3) := by decide +kernel
theorem dX8_begin_89 : decode cX8_begin 89 = .ok (.return_, 1) := by decide +kernel
theorem dX8_copyFrom_0 : decode cX8_copyFrom 0 = .ok (.aload_n 1, 1) := by decide +kernel
theorem dX8_copyFrom_1 : decode cX8_copyFrom 1 = .ok (.getfield 9, 3) := by decide +kernel
theorem dX8_copyFrom_4 : decode cX8_copyFrom 4 = .ok (.iconst 0, 1) := by decide +kernel
theorem dX8_copyFrom_5 : decode cX8_copyFrom 5 = .ok (.aload_n 0, 1) := by decide +kernel
theorem dX8_copyFrom_6 : decode cX8_copyFrom 6 = .ok (.getfield 9, 3) := by decide +kernel
theorem dX8_copyFrom_9 : decode cX8_copyFrom 9 = .ok (.iconst 0, 1) := by decide +kernel
theorem dX8_copyFrom_10 : decode cX8_copyFrom 10 = .ok (.bipush 20, 2) := by decide +kernel
theorem dX8_copyFrom_12 : decode cX8_copyFrom 12 = .ok (.invokestatic 61, 3) := by decide +kernel
theorem dX8_copyFrom_15 : decode cX8_copyFrom 15 = .ok (.aload_n 1, 1) := by decide +kernel
theorem dX8_copyFrom_16 : decode cX8_copyFrom 16 = .ok (.getfield 15, 3) := by decide +kernel
theorem dX8_copyFrom_19 : decode cX8_copyFrom 19 = .ok (.iconst 0, 1) := by decide +kernel
theorem dX8_copyFrom_20 : decode cX8_copyFrom 20 = .ok (.aload_n 0, 1) := by decide +kernel
theorem dX8_copyFrom_21 : decode cX8_copyFrom 21 = .ok (.getfield 15, 3) := by decide +kernel
theorem dX8_copyFrom_24 : decode cX8_copyFrom 24 = .ok (.iconst 0, 1) := by decide +kernel
theorem dX8_copyFrom_25 : decode cX8_copyFrom 25 = .ok (.bipush 20, 2) := by decide +kernel
theorem dX8_copyFrom_27 : decode cX8_copyFrom 27 = .ok (.invokestatic 61, 3) := by decide +kernel
theorem dX8_copyFrom_30 : decode cX8_copyFrom 30 = .ok (.aload_n 1, 1) := by decide +kernel
theorem dX8_copyFrom_31 : decode cX8_copyFrom 31 = .ok (.getfield 19, 3) := by decide +kernel
theorem dX8_copyFrom_34 : decode cX8_copyFrom 34 = .ok (.iconst 0, 1) := by decide +kernel
theorem dX8_copyFrom_35 : decode cX8_copyFrom 35 = .ok (.aload_n 0, 1) := by decide +kernel
theorem dX8_copyFrom_36 : decode cX8_copyFrom 36 = .ok (.getfield 19, 3) := by decide +kernel
theorem dX8_copyFrom_39 : decode cX8_copyFrom 39 = .ok (.iconst 0, 1) := by decide +kernel
theorem dX8_copyFrom_40 : decode cX8_copyFrom 40 = .ok (.bipush 6, 2) := by decide +kernel
theorem dX8_copyFrom_42 : decode cX8_copyFrom 42 = .ok (.invokestatic 61, 3) := by decide +kernel
theorem dX8_copyFrom_45 : decode cX8_copyFrom 45 = .ok (.aload_n 1, 1) := by decide +kernel
theorem dX8_copyFrom_46 : decode cX8_copyFrom 46 = .ok (.getfield 22, 3) := by decide +kernel
theorem dX8_copyFrom_49 : decode cX8_copyFrom 49 = .ok (.iconst 0, 1) := by decide +kernel
theorem dX8_copyFrom_50 : decode cX8_copyFrom 50 = .ok (.aload_n 0, 1) := by decide +kernel
theorem dX8_copyFrom_51 : decode cX8_copyFrom 51 = .ok (.getfield 22, 3) := by decide +kernel
theorem dX8_copyFrom_54 : decode cX8_copyFrom 54 = .ok (.iconst 0, 1) := by decide +kernel
theorem dX8_copyFrom_55 : decode cX8_copyFrom 55 = .ok (.bipush 6, 2) := by decide +kernel
theorem dX8_copyFrom_57 : decode cX8_copyFrom 57 = .ok (.invokestatic 61, 3) := by decide +kernel
theorem dX8_copyFrom_60 : decode cX8_copyFrom 60 = .ok (.aload_n 1, 1) := by decide +kernel
theorem dX8_copyFrom_61 : decode cX8_copyFrom 61 = .ok (.getfield 25, 3) := by decide +kernel
theorem dX8_copyFrom_64 : decode cX8_copyFrom 64 = .ok (.iconst 0, 1) := by decide +kernel
theorem dX8_copyFrom_65 : decode cX8_copyFrom 65 = .ok (.aload_n 0, 1) := by decide +kernel
theorem dX8_copyFrom_66 : decode cX8_copyFrom 66 = .ok (.getfield 25, 3) := by decide +kernel
theorem dX8_copyFrom_69 : decode cX8_copyFrom 69 = .ok (.iconst 0, 1) := by decide +kernel
theorem dX8_copyFrom_70 : decode cX8_copyFrom 70 = .ok (.bipush 6, 2) := by decide +kernel
theorem dX8_copyFrom_72 : decode cX8_copyFrom 72 = .ok (.invokestatic 61, 3) := by decide +kernel
theorem dX8_copyFrom_75 : decode cX8_copyFrom 75 = .ok (.aload_n 0, 1) := by decide +kernel
theorem dX8_copyFrom_76 : decode cX8_copyFrom 76 = .ok (.aload_n 1, 1) := by decide +kernel
theorem dX8_copyFrom_77 : decode cX8_copyFrom 77 = .ok (.getfield 28, 3) := by decide +kernel
theorem dX8_copyFrom_80 : decode cX8_copyFrom 80 = .ok (.putfield 28, 3) := by decide +kernel
theorem dX8_copyFrom_83 : decode cX8_copyFrom 83 = .ok (.aload_n 0, 1) := by decide +kernel
theorem dX8_copyFrom_84 : decode cX8_copyFrom 84 = .ok (.aload_n 1, 1) := by decide +kernel
theorem dX8_copyFrom_85 : decode cX8_copyFrom 85 = .ok (.getfield 55, 3) := by decide +kernel
theorem dX8_copyFrom_88 : decode cX8_copyFrom 88 = .ok (.putfield 55, 3) := by decide +kernel
theorem dX8_copyFrom_91 : decode cX8_copyFrom 91 = .ok (.aload_n 0, 1) := by decide +kernel
theorem dX8_copyFrom_92 : decode cX8_copyFrom 92 = .ok (.aload_n 1, 1) := by decide +kernel
theorem dX8_copyFrom_93 : decode cX8_copyFrom 93 = .ok (.getfield 58, 3) := by decide +kernel
theorem dX8_copyFrom_96 : decode cX8_copyFrom 96 = .ok (.putfield 58, 3) := by decide +kernel
theorem dX8_copyFrom_99 : decode cX8_copyFrom 99 = .ok (.return_, 1) := by decide +kernel
theorem dX8_keep_0 : decode cX8_keep 0 = .ok (.lload_n 2, 1) := by decide +kernel
theorem dX8_keep_1 : decode cX8_keep 1 = .ok (.lconst 0, 1) := by decide +kernel
theorem dX8_keep_2 : decode cX8_keep 2 = .ok (.lcmp, 1) := by decide +kernel
theorem dX8_keep_3 : decode cX8_keep 3 = .ok (.ifCond .le 42, 3) := by decide +kernel
theorem dX8_keep_6 : decode cX8_keep 6 = .ok (.aload_n 0, 1) := by decide +kernel
theorem dX8_keep_7 : decode cX8_keep 7 = .ok (.getfield 28, 3) := by decide +kernel
theorem dX8_keep_10 : decode cX8_keep 10 = .ok (.bipush 20, 2) := by decide +kernel
theorem dX8_keep_12 : decode cX8_keep 12 = .ok (.if_icmp .ge 33, 3) := by decide +kernel
theorem dX8_keep_15 : decode cX8_keep 15 = .ok (.aload_n 0, 1) := by decide +kernel
theorem dX8_keep_16 : decode cX8_keep 16 = .ok (.getfield 9, 3) := by decide +kernel
theorem dX8_keep_19 : decode cX8_keep 19 = .ok (.aload_n 0, 1) := by decide +kernel
theorem dX8_keep_20 : decode cX8_keep 20 = .ok (.getfield 28, 3) := by decide +kernel
theorem dX8_keep_23 : decode cX8_keep 23 = .ok (.iload_n 1, 1) := by decide +kernel
theorem dX8_keep_24 : decode cX8_keep 24 = .ok (.iastore, 1) := by decide +kernel
theorem dX8_keep_25 : decode cX8_keep 25 = .ok (.aload_n 0, 1) := by decide +kernel
theorem dX8_keep_26 : decode cX8_keep 26 = .ok (.getfield 15, 3) := by decide +kernel
theorem dX8_keep_29 : decode cX8_keep 29 = .ok (.aload_n 0, 1) := by decide +kernel
theorem dX8_keep_30 : decode cX8_keep 30 = .ok (.getfield 28, 3) := by decide +kernel
theorem dX8_keep_33 : decode cX8_keep 33 = .ok (.lload_n 2, 1) := by decide +kernel
theorem dX8_keep_34 : decode cX8_keep 34 = .ok (.lastore, 1) := by decide +kernel
theorem dX8_keep_35 : decode cX8_keep 35 = .ok (.aload_n 0, 1) := by decide +kernel
theorem dX8_keep_36 : decode cX8_keep 36 = .ok (.dup, 1) := by decide +kernel
theorem dX8_keep_37 : decode cX8_keep 37 = .ok (.getfield 28, 3) := by decide +kernel
theorem dX8_keep_40 : decode cX8_keep 40 = .ok (.iconst 1, 1) := by decide +kernel
theorem dX8_keep_41 : decode cX8_keep 41 = .ok (.iadd, 1) := by decide +kernel
theorem dX8_keep_42 : decode cX8_keep 42 = .ok (.putfield 28, 3) := by decide +kernel
theorem dX8_keep_45 : decode cX8_keep 45 = .ok (.return_, 1) := by decide +kernel
set_option maxRecDepth 20000 in
theorem ggX8_canBe_X8_boiledWeight : GoodIn wsX8_canBe wsX8_boiledWeight := goodIn_r _ [5, 6, 7, 8, 9, 10, 11, 16, 17, 18, 19, 20, 21, 22, 23] (by decide +kernel) (by decide +kernel)
set_option maxRecDepth 20000 in
theorem gX8_canBe_X8_boiledWeight : GoodIn wsX8_canBe (wsV RX8 67 RX8 yX8_boiledWeight wsX8_boiledWeight) := goodIn_app (goodIn_of _ (by decide +kernel)) ggX8_canBe_X8_boiledWeight
set_option maxRecDepth 20000 in
theorem ggX8_canBe_X8_allWeight : GoodIn wsX8_canBe wsX8_allWeight := goodIn_r _ [15, 6, 8, 16, 17, 18, 19, 20, 21, 22, 23] (by decide +kernel) (by decide +kernel)
set_option maxRecDepth 20000 in
theorem gX8_canBe_X8_allWeight : GoodIn wsX8_canBe (wsV RX8 70 RX8 yX8_allWeight wsX8_allWeight) := goodIn_app (goodIn_of _ (by decide +kernel)) ggX8_canBe_X8_allWeight
theorem dX8_canBe_0 : decode cX8_canBe 0 = .ok (.aload_n 0, 1) := by decide +kernel
theorem dX8_canBe_1 : decode cX8_canBe 1 = .ok (.iload_n 1, 1) := by decide +kernel
theorem dX8_canBe_2 : decode cX8_canBe 2 = .ok (.invokevirtual 67, 3) := by decide +kernel
theorem dX8_canBe_5 : decode cX8_canBe 5 = .ok (.lstore 4, 2) := by decide +kernel
theorem dX8_canBe_7 : decode cX8_canBe 7 = .ok (.lload 4, 2) := by decide +kernel
theorem dX8_canBe_9 : decode cX8_canBe 9 = .ok (.iload_n 2, 1) := by decide +kernel
theorem dX8_canBe_10 : decode cX8_canBe 10 = .ok (.i2l, 1) := by decide +kernel
theorem dX8_canBe_11 : decode cX8_canBe 11 = .ok (.lmul, 1) := by decide +kernel
theorem dX8_canBe_12 : decode cX8_canBe 12 = .ok (.aload_n 0, 1) := by decide +kernel
theorem dX8_canBe_13 : decode cX8_canBe 13 = .ok (.invokevirtual 70, 3) := by decide +kernel
theorem dX8_canBe_16 : decode cX8_canBe 16 = .ok (.lload 4, 2) := by decide +kernel
theorem dX8_canBe_18 : decode cX8_canBe 18 = .ok (.lsub, 1) := by decide +kernel
theorem dX8_canBe_19 : decode cX8_canBe 19 = .ok (.iload_n 3, 1) := by decide +kernel
theorem dX8_canBe_20 : decode cX8_canBe 20 = .ok (.i2l, 1) := by decide +kernel
theorem dX8_canBe_21 : decode cX8_canBe 21 = .ok (.lmul, 1) := by decide +kernel
theorem dX8_canBe_22 : decode cX8_canBe 22 = .ok (.ladd, 1) := by decide +kernel
theorem dX8_canBe_23 : decode cX8_canBe 23 = .ok (.lconst 0, 1) := by decide +kernel
theorem dX8_canBe_24 : decode cX8_canBe 24 = .ok (.lcmp, 1) := by decide +kernel
theorem dX8_canBe_25 : decode cX8_canBe 25 = .ok (.ifCond .le 7, 3) := by decide +kernel
theorem dX8_canBe_28 : decode cX8_canBe 28 = .ok (.iconst 1, 1) := by decide +kernel
theorem dX8_canBe_29 : decode cX8_canBe 29 = .ok (.goto 4, 3) := by decide +kernel
theorem dX8_canBe_32 : decode cX8_canBe 32 = .ok (.iconst 0, 1) := by decide +kernel
theorem dX8_canBe_33 : decode cX8_canBe 33 = .ok (.ireturn, 1) := by decide +kernel
set_option maxRecDepth 20000 in
theorem ggX8_canBeSure_X8_canBe : GoodIn wsX8_canBeSure wsX8_canBe := goodIn_r _ [5, 6, 7, 8, 4, 9, 10, 11, 12, 13, 14, 15, 16, 17, 18, 19, 20, 21, 22, 23, 24, 25, 26, 27] (by decide +kernel) (by decide +kernel)
set_option maxRecDepth 20000 in
theorem gX8_canBeSure_X8_canBe : GoodIn wsX8_canBeSure (wsV RX8 74 RX8 yX8_canBe wsX8_canBe) := goodIn_app (goodIn_of _ (by decide +kernel)) ggX8_canBeSure_X8_canBe
theorem dX8_canBeSure_0 : decode cX8_canBeSure 0 = .ok (.aload_n 0, 1) := by decide +kernel
theorem dX8_canBeSure_1 : decode cX8_canBeSure 1 = .ok (.iload_n 1, 1) := by decide +kernel
theorem dX8_canBeSure_2 : decode cX8_canBeSure 2 = .ok (.iload_n 2, 1) := by decide +kernel
theorem dX8_canBeSure_3 : decode cX8_canBeSure 3 = .ok (.ifCond .eq 7, 3) := by decide +kernel
theorem dX8_canBeSure_6 : decode cX8_canBeSure 6 = .ok (.iconst 1, 1) := by decide +kernel
theorem dX8_canBeSure_7 : decode cX8_canBeSure 7 = .ok (.goto 4, 3) := by decide +kernel
theorem dX8_canBeSure_10 : decode cX8_canBeSure 10 = .ok (.iconst 0, 1) := by decide +kernel
theorem dX8_canBeSure_11 : decode cX8_canBeSure 11 = .ok (.iload_n 2, 1) := by decide +kernel
theorem dX8_canBeSure_12 : decode cX8_canBeSure 12 = .ok (.ifCond .eq 7, 3) := by decide +kernel
theorem dX8_canBeSure_15 : decode cX8_canBeSure 15 = .ok (.iconst 0, 1) := by decide +kernel
theorem dX8_canBeSure_16 : decode cX8_canBeSure 16 = .ok (.goto 4, 3) := by decide +kernel
theorem dX8_canBeSure_19 : decode cX8_canBeSure 19 = .ok (.iconst 1, 1) := by decide +kernel
theorem dX8_canBeSure_20 : decode cX8_canBeSure 20 = .ok (.invokevirtual 74, 3) := by decide +kernel
theorem dX8_canBeSure_23 : decode cX8_canBeSure 23 = .ok (.ireturn, 1) := by decide +kernel
set_option maxRecDepth 20000 in
theorem ggX8_weigh_X10_has : GoodIn wsX8_weigh wsX10_has := goodIn_r _ [6] (by decide +kernel) (by decide +kernel)
set_option maxRecDepth 20000 in
theorem gX8_weigh_X10_has_n78 : GoodIn wsX8_weigh (wsX10_has) := ggX8_weigh_X10_has
set_option maxRecDepth 20000 in
theorem ggX8_weigh_X8_keep : GoodIn wsX8_weigh wsX8_keep := goodIn_r _ [11, 1, 2, 3, 12, 13, 14, 15, 16, 17, 18, 19] (by decide +kernel) (by decide +kernel)
set_option maxRecDepth 20000 in
theorem gX8_weigh_X8_keep : GoodIn wsX8_weigh (wsV RX8 51 RX8 yX8_keep wsX8_keep) := goodIn_app (goodIn_of _ (by decide +kernel)) ggX8_weigh_X8_keep
theorem dX8_weigh_0 : decode cX8_weigh 0 = .ok (.aload_n 0, 1) := by decide +kernel
theorem dX8_weigh_1 : decode cX8_weigh 1 = .ok (.getfield 28, 3) := by decide +kernel
theorem dX8_weigh_4 : decode cX8_weigh 4 = .ok (.istore 4, 2) := by decide +kernel
theorem dX8_weigh_6 : decode cX8_weigh 6 = .ok (.aload_n 0, 1) := by decide +kernel
theorem dX8_weigh_7 : decode cX8_weigh 7 = .ok (.iconst 0, 1) := by decide +kernel
theorem dX8_weigh_8 : decode cX8_weigh 8 = .ok (.putfield 28, 3) := by decide +kernel
theorem dX8_weigh_11 : decode cX8_weigh 11 = .ok (.iconst 0, 1) := by decide +kernel
theorem dX8_weigh_12 : decode cX8_weigh 12 = .ok (.istore 5, 2) := by decide +kernel
theorem dX8_weigh_14 : decode cX8_weigh 14 = .ok (.iload 5, 2) := by decide +kernel
theorem dX8_weigh_16 : decode cX8_weigh 16 = .ok (.iload 4, 2) := by decide +kernel
theorem dX8_weigh_18 : decode cX8_weigh 18 = .ok (.if_icmp .ge 48, 3) := by decide +kernel
theorem dX8_weigh_21 : decode cX8_weigh 21 = .ok (.aload_n 0, 1) := by decide +kernel
theorem dX8_weigh_22 : decode cX8_weigh 22 = .ok (.aload_n 0, 1) := by decide +kernel
theorem dX8_weigh_23 : decode cX8_weigh 23 = .ok (.getfield 9, 3) := by decide +kernel
theorem dX8_weigh_26 : decode cX8_weigh 26 = .ok (.iload 5, 2) := by decide +kernel
theorem dX8_weigh_28 : decode cX8_weigh 28 = .ok (.iaload, 1) := by decide +kernel
theorem dX8_weigh_29 : decode cX8_weigh 29 = .ok (.aload_n 0, 1) := by decide +kernel
theorem dX8_weigh_30 : decode cX8_weigh 30 = .ok (.getfield 15, 3) := by decide +kernel
theorem dX8_weigh_33 : decode cX8_weigh 33 = .ok (.iload 5, 2) := by decide +kernel
theorem dX8_weigh_35 : decode cX8_weigh 35 = .ok (.laload, 1) := by decide +kernel
theorem dX8_weigh_36 : decode cX8_weigh 36 = .ok (.aload_n 0, 1) := by decide +kernel
theorem dX8_weigh_37 : decode cX8_weigh 37 = .ok (.getfield 9, 3) := by decide +kernel
theorem dX8_weigh_40 : decode cX8_weigh 40 = .ok (.iload 5, 2) := by decide +kernel
theorem dX8_weigh_42 : decode cX8_weigh 42 = .ok (.iaload, 1) := by decide +kernel
theorem dX8_weigh_43 : decode cX8_weigh 43 = .ok (.iload_n 1, 1) := by decide +kernel
theorem dX8_weigh_44 : decode cX8_weigh 44 = .ok (.invokestatic 78, 3) := by decide +kernel
theorem dX8_weigh_47 : decode cX8_weigh 47 = .ok (.ifCond .eq 7, 3) := by decide +kernel
theorem dX8_weigh_50 : decode cX8_weigh 50 = .ok (.iload_n 2, 1) := by decide +kernel
theorem dX8_weigh_51 : decode cX8_weigh 51 = .ok (.goto 4, 3) := by decide +kernel
theorem dX8_weigh_54 : decode cX8_weigh 54 = .ok (.iload_n 3, 1) := by decide +kernel
theorem dX8_weigh_55 : decode cX8_weigh 55 = .ok (.i2l, 1) := by decide +kernel
theorem dX8_weigh_56 : decode cX8_weigh 56 = .ok (.lmul, 1) := by decide +kernel
theorem dX8_weigh_57 : decode cX8_weigh 57 = .ok (.invokevirtual 51, 3) := by decide +kernel
theorem dX8_weigh_60 : decode cX8_weigh 60 = .ok (.iinc 5 1, 3) := by decide +kernel
theorem dX8_weigh_63 : decode cX8_weigh 63 = .ok (.goto (-49), 3) := by decide +kernel
theorem dX8_weigh_66 : decode cX8_weigh 66 = .ok (.return_, 1) := by decide +kernel
theorem dX8_countSpin_0 : decode cX8_countSpin 0 = .ok (.aload_n 0, 1) := by decide +kernel
theorem dX8_countSpin_1 : decode cX8_countSpin 1 = .ok (.getfield 19, 3) := by decide +kernel
theorem dX8_countSpin_4 : decode cX8_countSpin 4 = .ok (.iload_n 1, 1) := by decide +kernel
theorem dX8_countSpin_5 : decode cX8_countSpin 5 = .ok (.dup2, 1) := by decide +kernel
theorem dX8_countSpin_6 : decode cX8_countSpin 6 = .ok (.iaload, 1) := by decide +kernel
theorem dX8_countSpin_7 : decode cX8_countSpin 7 = .ok (.iconst 1, 1) := by decide +kernel
theorem dX8_countSpin_8 : decode cX8_countSpin 8 = .ok (.iadd, 1) := by decide +kernel
theorem dX8_countSpin_9 : decode cX8_countSpin 9 = .ok (.iastore, 1) := by decide +kernel
theorem dX8_countSpin_10 : decode cX8_countSpin 10 = .ok (.iload_n 2, 1) := by decide +kernel
theorem dX8_countSpin_11 : decode cX8_countSpin 11 = .ok (.ifCond .eq 13, 3) := by decide +kernel
theorem dX8_countSpin_14 : decode cX8_countSpin 14 = .ok (.aload_n 0, 1) := by decide +kernel
theorem dX8_countSpin_15 : decode cX8_countSpin 15 = .ok (.getfield 22, 3) := by decide +kernel
theorem dX8_countSpin_18 : decode cX8_countSpin 18 = .ok (.iload_n 1, 1) := by decide +kernel
theorem dX8_countSpin_19 : decode cX8_countSpin 19 = .ok (.dup2, 1) := by decide +kernel
theorem dX8_countSpin_20 : decode cX8_countSpin 20 = .ok (.iaload, 1) := by decide +kernel
theorem dX8_countSpin_21 : decode cX8_countSpin 21 = .ok (.iconst 1, 1) := by decide +kernel
theorem dX8_countSpin_22 : decode cX8_countSpin 22 = .ok (.iadd, 1) := by decide +kernel
theorem dX8_countSpin_23 : decode cX8_countSpin 23 = .ok (.iastore, 1) := by decide +kernel
theorem dX8_countSpin_24 : decode cX8_countSpin 24 = .ok (.aload_n 0, 1) := by decide +kernel
theorem dX8_countSpin_25 : decode cX8_countSpin 25 = .ok (.dup, 1) := by decide +kernel
theorem dX8_countSpin_26 : decode cX8_countSpin 26 = .ok (.getfield 58, 3) := by decide +kernel
theorem dX8_countSpin_29 : decode cX8_countSpin 29 = .ok (.iconst 1, 1) := by decide +kernel
theorem dX8_countSpin_30 : decode cX8_countSpin 30 = .ok (.iadd, 1) := by decide +kernel
theorem dX8_countSpin_31 : decode cX8_countSpin 31 = .ok (.putfield 58, 3) := by decide +kernel
theorem dX8_countSpin_34 : decode cX8_countSpin 34 = .ok (.return_, 1) := by decide +kernel
set_option maxRecDepth 20000 in
theorem ggX8_makeSure_X8_weigh : GoodIn wsX8_makeSure wsX8_weigh := goodIn_r _ [6, 7, 8, 9, 10, 11, 12, 13, 14, 15, 5, 16, 17, 18, 19, 20, 21, 22, 23, 24] (by decide +kernel) (by decide +kernel)
set_option maxRecDepth 20000 in
theorem gX8_makeSure_X8_weigh : GoodIn wsX8_makeSure (wsV RX8 82 RX8 yX8_weigh wsX8_weigh) := goodIn_app (goodIn_of _ (by decide +kernel)) ggX8_makeSure_X8_weigh
theorem dX8_makeSure_0 : decode cX8_makeSure 0 = .ok (.aload_n 0, 1) := by decide +kernel
theorem dX8_makeSure_1 : decode cX8_makeSure 1 = .ok (.iload_n 1, 1) := by decide +kernel
theorem dX8_makeSure_2 : decode cX8_makeSure 2 = .ok (.iload_n 2, 1) := by decide +kernel
theorem dX8_makeSure_3 : decode cX8_makeSure 3 = .ok (.ifCond .eq 7, 3) := by decide +kernel
theorem dX8_makeSure_6 : decode cX8_makeSure 6 = .ok (.iconst 1, 1) := by decide +kernel
theorem dX8_makeSure_7 : decode cX8_makeSure 7 = .ok (.goto 4, 3) := by decide +kernel
theorem dX8_makeSure_10 : decode cX8_makeSure 10 = .ok (.iconst 0, 1) := by decide +kernel
theorem dX8_makeSure_11 : decode cX8_makeSure 11 = .ok (.iload_n 2, 1) := by decide +kernel
theorem dX8_makeSure_12 : decode cX8_makeSure 12 = .ok (.ifCond .eq 7, 3) := by decide +kernel
theorem dX8_makeSure_15 : decode cX8_makeSure 15 = .ok (.iconst 0, 1) := by decide +kernel
theorem dX8_makeSure_16 : decode cX8_makeSure 16 = .ok (.goto 4, 3) := by decide +kernel
theorem dX8_makeSure_19 : decode cX8_makeSure 19 = .ok (.iconst 1, 1) := by decide +kernel
theorem dX8_makeSure_20 : decode cX8_makeSure 20 = .ok (.invokevirtual 82, 3) := by decide +kernel
theorem dX8_makeSure_23 : decode cX8_makeSure 23 = .ok (.aload_n 0, 1) := by decide +kernel
theorem dX8_makeSure_24 : decode cX8_makeSure 24 = .ok (.getfield 25, 3) := by decide +kernel
theorem dX8_makeSure_27 : decode cX8_makeSure 27 = .ok (.iload_n 1, 1) := by decide +kernel
theorem dX8_makeSure_28 : decode cX8_makeSure 28 = .ok (.iload_n 2, 1) := by decide +kernel
theorem dX8_makeSure_29 : decode cX8_makeSure 29 = .ok (.ifCond .eq 7, 3) := by decide +kernel
theorem dX8_makeSure_32 : decode cX8_makeSure 32 = .ok (.iconst 1, 1) := by decide +kernel
theorem dX8_makeSure_33 : decode cX8_makeSure 33 = .ok (.goto 4, 3) := by decide +kernel
theorem dX8_makeSure_36 : decode cX8_makeSure 36 = .ok (.iconst 0, 1) := by decide +kernel
theorem dX8_makeSure_37 : decode cX8_makeSure 37 = .ok (.iastore, 1) := by decide +kernel
theorem dX8_makeSure_38 : decode cX8_makeSure 38 = .ok (.return_, 1) := by decide +kernel
theorem dX8_takeOut_0 : decode cX8_takeOut 0 = .ok (.aload_n 0, 1) := by decide +kernel
theorem dX8_takeOut_1 : decode cX8_takeOut 1 = .ok (.dup, 1) := by decide +kernel
theorem dX8_takeOut_2 : decode cX8_takeOut 2 = .ok (.getfield 55, 3) := by decide +kernel
theorem dX8_takeOut_5 : decode cX8_takeOut 5 = .ok (.iconst 1, 1) := by decide +kernel
theorem dX8_takeOut_6 : decode cX8_takeOut 6 = .ok (.iload_n 1, 1) := by decide +kernel
theorem dX8_takeOut_7 : decode cX8_takeOut 7 = .ok (.ishl, 1) := by decide +kernel
theorem dX8_takeOut_8 : decode cX8_takeOut 8 = .ok (.iconst (-1), 1) := by decide +kernel
theorem dX8_takeOut_9 : decode cX8_takeOut 9 = .ok (.ixor, 1) := by decide +kernel
theorem dX8_takeOut_10 : decode cX8_takeOut 10 = .ok (.iand, 1) := by decide +kernel
theorem dX8_takeOut_11 : decode cX8_takeOut 11 = .ok (.putfield 55, 3) := by decide +kernel
theorem dX8_takeOut_14 : decode cX8_takeOut 14 = .ok (.return_, 1) := by decide +kernel
set_option maxRecDepth 20000 in
theorem ggX8_isInBox_X10_has : GoodIn wsX8_isInBox wsX10_has := goodIn_r _ [4] (by decide +kernel) (by decide +kernel)
set_option maxRecDepth 20000 in
theorem gX8_isInBox_X10_has_n78 : GoodIn wsX8_isInBox (wsX10_has) := ggX8_isInBox_X10_has
theorem dX8_isInBox_0 : decode cX8_isInBox 0 = .ok (.aload_n 0, 1) := by decide +kernel
theorem dX8_isInBox_1 : decode cX8_isInBox 1 = .ok (.getfield 55, 3) := by decide +kernel
theorem dX8_isInBox_4 : decode cX8_isInBox 4 = .ok (.iload_n 1, 1) := by decide +kernel
theorem dX8_isInBox_5 : decode cX8_isInBox 5 = .ok (.invokestatic 78, 3) := by decide +kernel
theorem dX8_isInBox_8 : decode cX8_isInBox 8 = .ok (.ireturn, 1) := by decide +kernel
set_option maxRecDepth 20000 in
theorem ggX8_howManyInBox_J6_bitCount_0f7a4 : GoodIn wsX8_howManyInBox wsJ6_bitCount_0f7a4 := goodIn_r _ [5, 6, 7, 8] (by decide +kernel) (by decide +kernel)
set_option maxRecDepth 20000 in
theorem gX8_howManyInBox_J6_bitCount_0f7a4 : GoodIn wsX8_howManyInBox (va_wsS RX8 38 yJ6_bitCount_0f7a4 wsJ6_bitCount_0f7a4) := goodIn_app (goodIn_of _ (by decide +kernel)) ggX8_howManyInBox_J6_bitCount_0f7a4
theorem dX8_howManyInBox_0 : decode cX8_howManyInBox 0 = .ok (.aload_n 0, 1) := by decide +kernel
theorem dX8_howManyInBox_1 : decode cX8_howManyInBox 1 = .ok (.getfield 55, 3) := by decide +kernel
theorem dX8_howManyInBox_4 : decode cX8_howManyInBox 4 = .ok (.invokestatic 38, 3) := by decide +kernel
theorem dX8_howManyInBox_7 : decode cX8_howManyInBox 7 = .ok (.ireturn, 1) := by decide +kernel
set_option maxRecDepth 20000 in
theorem ggX8_eggAtPlace_X8_isInBox : GoodIn wsX8_eggAtPlace wsX8_isInBox := goodIn_r _ [5, 6, 7, 8, 9, 10, 11, 12, 13, 14, 15, 16, 17] (by decide +kernel) (by decide +kernel)
set_option maxRecDepth 20000 in
theorem gX8_eggAtPlace_X8_isInBox : GoodIn wsX8_eggAtPlace (wsV RX8 86 RX8 yX8_isInBox wsX8_isInBox) := goodIn_app (goodIn_of _ (by decide +kernel)) ggX8_eggAtPlace_X8_isInBox
theorem dX8_eggAtPlace_0 : decode cX8_eggAtPlace 0 = .ok (.iconst 0, 1) := by decide +kernel
theorem dX8_eggAtPlace_1 : decode cX8_eggAtPlace 1 = .ok (.istore_n 2, 1) := by decide +kernel
theorem dX8_eggAtPlace_2 : decode cX8_eggAtPlace 2 = .ok (.iconst 0, 1) := by decide +kernel
theorem dX8_eggAtPlace_3 : decode cX8_eggAtPlace 3 = .ok (.istore_n 3, 1) := by decide +kernel
theorem dX8_eggAtPlace_4 : decode cX8_eggAtPlace 4 = .ok (.iload_n 3, 1) := by decide +kernel
theorem dX8_eggAtPlace_5 : decode cX8_eggAtPlace 5 = .ok (.bipush 6, 2) := by decide +kernel
theorem dX8_eggAtPlace_7 : decode cX8_eggAtPlace 7 = .ok (.if_icmp .ge 27, 3) := by decide +kernel
theorem dX8_eggAtPlace_10 : decode cX8_eggAtPlace 10 = .ok (.aload_n 0, 1) := by decide +kernel
theorem dX8_eggAtPlace_11 : decode cX8_eggAtPlace 11 = .ok (.iload_n 3, 1) := by decide +kernel
theorem dX8_eggAtPlace_12 : decode cX8_eggAtPlace 12 = .ok (.invokevirtual 86, 3) := by decide +kernel
theorem dX8_eggAtPlace_15 : decode cX8_eggAtPlace 15 = .ok (.ifCond .eq 13, 3) := by decide +kernel
theorem dX8_eggAtPlace_18 : decode cX8_eggAtPlace 18 = .ok (.iload_n 2, 1) := by decide +kernel
theorem dX8_eggAtPlace_19 : decode cX8_eggAtPlace 19 = .ok (.iload_n 1, 1) := by decide +kernel
theorem dX8_eggAtPlace_20 : decode cX8_eggAtPlace 20 = .ok (.if_icmp .ne 5, 3) := by decide +kernel
theorem dX8_eggAtPlace_23 : decode cX8_eggAtPlace 23 = .ok (.iload_n 3, 1) := by decide +kernel
theorem dX8_eggAtPlace_24 : decode cX8_eggAtPlace 24 = .ok (.ireturn, 1) := by decide +kernel
theorem dX8_eggAtPlace_25 : decode cX8_eggAtPlace 25 = .ok (.iinc 2 1, 3) := by decide +kernel
theorem dX8_eggAtPlace_28 : decode cX8_eggAtPlace 28 = .ok (.iinc 3 1, 3) := by decide +kernel
theorem dX8_eggAtPlace_31 : decode cX8_eggAtPlace 31 = .ok (.goto (-27), 3) := by decide +kernel
theorem dX8_eggAtPlace_34 : decode cX8_eggAtPlace 34 = .ok (.iconst (-1), 1) := by decide +kernel
theorem dX8_eggAtPlace_35 : decode cX8_eggAtPlace 35 = .ok (.ireturn, 1) := by decide +kernel
theorem dX8_allWeight_0 : decode cX8_allWeight 0 = .ok (.lconst 0, 1) := by decide +kernel
theorem dX8_allWeight_1 : decode cX8_allWeight 1 = .ok (.lstore_n 1, 1) := by decide +kernel
theorem dX8_allWeight_2 : decode cX8_allWeight 2 = .ok (.iconst 0, 1) := by decide +kernel
theorem dX8_allWeight_3 : decode cX8_allWeight 3 = .ok (.istore_n 3, 1) := by decide +kernel
theorem dX8_allWeight_4 : decode cX8_allWeight 4 = .ok (.iload_n 3, 1) := by decide +kernel
theorem dX8_allWeight_5 : decode cX8_allWeight 5 = .ok (.aload_n 0, 1) := by decide +kernel
theorem dX8_allWeight_6 : decode cX8_allWeight 6 = .ok (.getfield 28, 3) := by decide +kernel
theorem dX8_allWeight_9 : decode cX8_allWeight 9 = .ok (.if_icmp .ge 18, 3) := by decide +kernel
theorem dX8_allWeight_12 : decode cX8_allWeight 12 = .ok (.lload_n 1, 1) := by decide +kernel
theorem dX8_allWeight_13 : decode cX8_allWeight 13 = .ok (.aload_n 0, 1) := by decide +kernel
theorem dX8_allWeight_14 : decode cX8_allWeight 14 = .ok (.getfield 15, 3) := by decide +kernel
theorem dX8_allWeight_17 : decode cX8_allWeight 17 = .ok (.iload_n 3, 1) := by decide +kernel
theorem dX8_allWeight_18 : decode cX8_allWeight 18 = .ok (.laload, 1) := by decide +kernel
theorem dX8_allWeight_19 : decode cX8_allWeight 19 = .ok (.ladd, 1) := by decide +kernel
theorem dX8_allWeight_20 : decode cX8_allWeight 20 = .ok (.lstore_n 1, 1) := by decide +kernel
theorem dX8_allWeight_21 : decode cX8_allWeight 21 = .ok (.iinc 3 1, 3) := by decide +kernel
theorem dX8_allWeight_24 : decode cX8_allWeight 24 = .ok (.goto (-20), 3) := by decide +kernel
theorem dX8_allWeight_27 : decode cX8_allWeight 27 = .ok (.lload_n 1, 1) := by decide +kernel
theorem dX8_allWeight_28 : decode cX8_allWeight 28 = .ok (.lreturn, 1) := by decide +kernel
set_option maxRecDepth 20000 in
theorem ggX8_boiledWeight_X10_has : GoodIn wsX8_boiledWeight wsX10_has := goodIn_r _ [6] (by decide +kernel) (by decide +kernel)
set_option maxRecDepth 20000 in
theorem gX8_boiledWeight_X10_has_n78 : GoodIn wsX8_boiledWeight (wsX10_has) := ggX8_boiledWeight_X10_has
theorem dX8_boiledWeight_0 : decode cX8_boiledWeight 0 = .ok (.lconst 0, 1) := by decide +kernel
theorem dX8_boiledWeight_1 : decode cX8_boiledWeight 1 = .ok (.lstore_n 2, 1) := by decide +kernel
theorem dX8_boiledWeight_2 : decode cX8_boiledWeight 2 = .ok (.iconst 0, 1) := by decide +kernel
theorem dX8_boiledWeight_3 : decode cX8_boiledWeight 3 = .ok (.istore 4, 2) := by decide +kernel
theorem dX8_boiledWeight_5 : decode cX8_boiledWeight 5 = .ok (.iload 4, 2) := by decide +kernel
theorem dX8_boiledWeight_7 : decode cX8_boiledWeight 7 = .ok (.aload_n 0, 1) := by decide +kernel
theorem dX8_boiledWeight_8 : decode cX8_boiledWeight 8 = .ok (.getfield 28, 3) := by decide +kernel
theorem dX8_boiledWeight_11 : decode cX8_boiledWeight 11 = .ok (.if_icmp .ge 33, 3) := by decide +kernel
theorem dX8_boiledWeight_14 : decode cX8_boiledWeight 14 = .ok (.aload_n 0, 1) := by decide +kernel
theorem dX8_boiledWeight_15 : decode cX8_boiledWeight 15 = .ok (.getfield 9, 3) := by decide +kernel
theorem dX8_boiledWeight_18 : decode cX8_boiledWeight 18 = .ok (.iload 4, 2) := by decide +kernel
theorem dX8_boiledWeight_20 : decode cX8_boiledWeight 20 = .ok (.iaload, 1) := by decide +kernel
theorem dX8_boiledWeight_21 : decode cX8_boiledWeight 21 = .ok (.iload_n 1, 1) := by decide +kernel
theorem dX8_boiledWeight_22 : decode cX8_boiledWeight 22 = .ok (.invokestatic 78, 3) := by decide +kernel
theorem dX8_boiledWeight_25 : decode cX8_boiledWeight 25 = .ok (.ifCond .eq 13, 3) := by decide +kernel
theorem dX8_boiledWeight_28 : decode cX8_boiledWeight 28 = .ok (.lload_n 2, 1) := by decide +kernel
theorem dX8_boiledWeight_29 : decode cX8_boiledWeight 29 = .ok (.aload_n 0, 1) := by decide +kernel
theorem dX8_boiledWeight_30 : decode cX8_boiledWeight 30 = .ok (.getfield 15, 3) := by decide +kernel
theorem dX8_boiledWeight_33 : decode cX8_boiledWeight 33 = .ok (.iload 4, 2) := by decide +kernel
theorem dX8_boiledWeight_35 : decode cX8_boiledWeight 35 = .ok (.laload, 1) := by decide +kernel
theorem dX8_boiledWeight_36 : decode cX8_boiledWeight 36 = .ok (.ladd, 1) := by decide +kernel
theorem dX8_boiledWeight_37 : decode cX8_boiledWeight 37 = .ok (.lstore_n 2, 1) := by decide +kernel
theorem dX8_boiledWeight_38 : decode cX8_boiledWeight 38 = .ok (.iinc 4 1, 3) := by decide +kernel
theorem dX8_boiledWeight_41 : decode cX8_boiledWeight 41 = .ok (.goto (-36), 3) := by decide +kernel
theorem dX8_boiledWeight_44 : decode cX8_boiledWeight 44 = .ok (.lload_n 2, 1) := by decide +kernel
theorem dX8_boiledWeight_45 : decode cX8_boiledWeight 45 = .ok (.lreturn, 1) := by decide +kernel
theorem dX8_fittingBox_0 : decode cX8_fittingBox 0 = .ok (.iload_n 1, 1) := by decide +kernel
theorem dX8_fittingBox_1 : decode cX8_fittingBox 1 = .ok (.ifCond .lt 20, 3) := by decide +kernel
theorem dX8_fittingBox_4 : decode cX8_fittingBox 4 = .ok (.iload_n 1, 1) := by decide +kernel
theorem dX8_fittingBox_5 : decode cX8_fittingBox 5 = .ok (.aload_n 0, 1) := by decide +kernel
theorem dX8_fittingBox_6 : decode cX8_fittingBox 6 = .ok (.getfield 28, 3) := by decide +kernel
theorem dX8_fittingBox_9 : decode cX8_fittingBox 9 = .ok (.if_icmp .ge 12, 3) := by decide +kernel
theorem dX8_fittingBox_12 : decode cX8_fittingBox 12 = .ok (.aload_n 0, 1) := by decide +kernel
theorem dX8_fittingBox_13 : decode cX8_fittingBox 13 = .ok (.getfield 9, 3) := by decide +kernel
theorem dX8_fittingBox_16 : decode cX8_fittingBox 16 = .ok (.iload_n 1, 1) := by decide +kernel
theorem dX8_fittingBox_17 : decode cX8_fittingBox 17 = .ok (.iaload, 1) := by decide +kernel
theorem dX8_fittingBox_18 : decode cX8_fittingBox 18 = .ok (.goto 4, 3) := by decide +kernel
theorem dX8_fittingBox_21 : decode cX8_fittingBox 21 = .ok (.iconst 0, 1) := by decide +kernel
theorem dX8_fittingBox_22 : decode cX8_fittingBox 22 = .ok (.ireturn, 1) := by decide +kernel
theorem dX8_heaviestBox_0 : decode cX8_heaviestBox 0 = .ok (.iconst 0, 1) := by decide +kernel
theorem dX8_heaviestBox_1 : decode cX8_heaviestBox 1 = .ok (.istore_n 1, 1) := by decide +kernel
theorem dX8_heaviestBox_2 : decode cX8_heaviestBox 2 = .ok (.iconst 1, 1) := by decide +kernel
theorem dX8_heaviestBox_3 : decode cX8_heaviestBox 3 = .ok (.istore_n 2, 1) := by decide +kernel
theorem dX8_heaviestBox_4 : decode cX8_heaviestBox 4 = .ok (.iload_n 2, 1) := by decide +kernel
theorem dX8_heaviestBox_5 : decode cX8_heaviestBox 5 = .ok (.aload_n 0, 1) := by decide +kernel
theorem dX8_heaviestBox_6 : decode cX8_heaviestBox 6 = .ok (.getfield 28, 3) := by decide +kernel
theorem dX8_heaviestBox_9 : decode cX8_heaviestBox 9 = .ok (.if_icmp .ge 27, 3) := by decide +kernel
theorem dX8_heaviestBox_12 : decode cX8_heaviestBox 12 = .ok (.aload_n 0, 1) := by decide +kernel
theorem dX8_heaviestBox_13 : decode cX8_heaviestBox 13 = .ok (.getfield 15, 3) := by decide +kernel
theorem dX8_heaviestBox_16 : decode cX8_heaviestBox 16 = .ok (.iload_n 2, 1) := by decide +kernel
theorem dX8_heaviestBox_17 : decode cX8_heaviestBox 17 = .ok (.laload, 1) := by decide +kernel
theorem dX8_heaviestBox_18 : decode cX8_heaviestBox 18 = .ok (.aload_n 0, 1) := by decide +kernel
theorem dX8_heaviestBox_19 : decode cX8_heaviestBox 19 = .ok (.getfield 15, 3) := by decide +kernel
theorem dX8_heaviestBox_22 : decode cX8_heaviestBox 22 = .ok (.iload_n 1, 1) := by decide +kernel
theorem dX8_heaviestBox_23 : decode cX8_heaviestBox 23 = .ok (.laload, 1) := by decide +kernel
theorem dX8_heaviestBox_24 : decode cX8_heaviestBox 24 = .ok (.lcmp, 1) := by decide +kernel
theorem dX8_heaviestBox_25 : decode cX8_heaviestBox 25 = .ok (.ifCond .le 5, 3) := by decide +kernel
theorem dX8_heaviestBox_28 : decode cX8_heaviestBox 28 = .ok (.iload_n 2, 1) := by decide +kernel
theorem dX8_heaviestBox_29 : decode cX8_heaviestBox 29 = .ok (.istore_n 1, 1) := by decide +kernel
theorem dX8_heaviestBox_30 : decode cX8_heaviestBox 30 = .ok (.iinc 2 1, 3) := by decide +kernel
theorem dX8_heaviestBox_33 : decode cX8_heaviestBox 33 = .ok (.goto (-29), 3) := by decide +kernel
theorem dX8_heaviestBox_36 : decode cX8_heaviestBox 36 = .ok (.aload_n 0, 1) := by decide +kernel
theorem dX8_heaviestBox_37 : decode cX8_heaviestBox 37 = .ok (.getfield 9, 3) := by decide +kernel
theorem dX8_heaviestBox_40 : decode cX8_heaviestBox 40 = .ok (.iload_n 1, 1) := by decide +kernel
theorem dX8_heaviestBox_41 : decode cX8_heaviestBox 41 = .ok (.iaload, 1) := by decide +kernel
theorem dX8_heaviestBox_42 : decode cX8_heaviestBox 42 = .ok (.ireturn, 1) := by decide +kernel
theorem dX8_surelyBoiled_0 : decode cX8_surelyBoiled 0 = .ok (.iload_n 1, 1) := by decide +kernel
theorem dX8_surelyBoiled_1 : decode cX8_surelyBoiled 1 = .ok (.istore_n 2, 1) := by decide +kernel
theorem dX8_surelyBoiled_2 : decode cX8_surelyBoiled 2 = .ok (.iconst 0, 1) := by decide +kernel
theorem dX8_surelyBoiled_3 : decode cX8_surelyBoiled 3 = .ok (.istore_n 3, 1) := by decide +kernel
theorem dX8_surelyBoiled_4 : decode cX8_surelyBoiled 4 = .ok (.iload_n 3, 1) := by decide +kernel
theorem dX8_surelyBoiled_5 : decode cX8_surelyBoiled 5 = .ok (.aload_n 0, 1) := by decide +kernel
theorem dX8_surelyBoiled_6 : decode cX8_surelyBoiled 6 = .ok (.getfield 28, 3) := by decide +kernel
theorem dX8_surelyBoiled_9 : decode cX8_surelyBoiled 9 = .ok (.if_icmp .ge 18, 3) := by decide +kernel
theorem dX8_surelyBoiled_12 : decode cX8_surelyBoiled 12 = .ok (.iload_n 2, 1) := by decide +kernel
theorem dX8_surelyBoiled_13 : decode cX8_surelyBoiled 13 = .ok (.aload_n 0, 1) := by decide +kernel
theorem dX8_surelyBoiled_14 : decode cX8_surelyBoiled 14 = .ok (.getfield 9, 3) := by decide +kernel
theorem dX8_surelyBoiled_17 : decode cX8_surelyBoiled 17 = .ok (.iload_n 3, 1) := by decide +kernel
theorem dX8_surelyBoiled_18 : decode cX8_surelyBoiled 18 = .ok (.iaload, 1) := by decide +kernel
theorem dX8_surelyBoiled_19 : decode cX8_surelyBoiled 19 = .ok (.iand, 1) := by decide +kernel
theorem dX8_surelyBoiled_20 : decode cX8_surelyBoiled 20 = .ok (.istore_n 2, 1) := by decide +kernel
theorem dX8_surelyBoiled_21 : decode cX8_surelyBoiled 21 = .ok (.iinc 3 1, 3) := by decide +kernel
theorem dX8_surelyBoiled_24 : decode cX8_surelyBoiled 24 = .ok (.goto (-20), 3) := by decide +kernel
theorem dX8_surelyBoiled_27 : decode cX8_surelyBoiled 27 = .ok (.iload_n 2, 1) := by decide +kernel
theorem dX8_surelyBoiled_28 : decode cX8_surelyBoiled 28 = .ok (.ireturn, 1) := by decide +kernel
theorem dX8_surelyRaw_0 : decode cX8_surelyRaw 0 = .ok (.iload_n 1, 1) := by decide +kernel
theorem dX8_surelyRaw_1 : decode cX8_surelyRaw 1 = .ok (.istore_n 2, 1) := by decide +kernel
theorem dX8_surelyRaw_2 : decode cX8_surelyRaw 2 = .ok (.iconst 0, 1) := by decide +kernel
theorem dX8_surelyRaw_3 : decode cX8_surelyRaw 3 = .ok (.istore_n 3, 1) := by decide +kernel
theorem dX8_surelyRaw_4 : decode cX8_surelyRaw 4 = .ok (.iload_n 3, 1) := by decide +kernel
theorem dX8_surelyRaw_5 : decode cX8_surelyRaw 5 = .ok (.aload_n 0, 1) := by decide +kernel
theorem dX8_surelyRaw_6 : decode cX8_surelyRaw 6 = .ok (.getfield 28, 3) := by decide +kernel
theorem dX8_surelyRaw_9 : decode cX8_surelyRaw 9 = .ok (.if_icmp .ge 20, 3) := by decide +kernel
theorem dX8_surelyRaw_12 : decode cX8_surelyRaw 12 = .ok (.iload_n 2, 1) := by decide +kernel
theorem dX8_surelyRaw_13 : decode cX8_surelyRaw 13 = .ok (.aload_n 0, 1) := by decide +kernel
theorem dX8_surelyRaw_14 : decode cX8_surelyRaw 14 = .ok (.getfield 9, 3) := by decide +kernel
theorem dX8_surelyRaw_17 : decode cX8_surelyRaw 17 = .ok (.iload_n 3, 1) := by decide +kernel
theorem dX8_surelyRaw_18 : decode cX8_surelyRaw 18 = .ok (.iaload, 1) := by decide +kernel
theorem dX8_surelyRaw_19 : decode cX8_surelyRaw 19 = .ok (.iconst (-1), 1) := by decide +kernel
theorem dX8_surelyRaw_20 : decode cX8_surelyRaw 20 = .ok (.ixor, 1) := by decide +kernel
theorem dX8_surelyRaw_21 : decode cX8_surelyRaw 21 = .ok (.iand, 1) := by decide +kernel
theorem dX8_surelyRaw_22 : decode cX8_surelyRaw 22 = .ok (.istore_n 2, 1) := by decide +kernel
theorem dX8_surelyRaw_23 : decode cX8_surelyRaw 23 = .ok (.iinc 3 1, 3) := by decide +kernel
theorem dX8_surelyRaw_26 : decode cX8_surelyRaw 26 = .ok (.goto (-22), 3) := by decide +kernel
theorem dX8_surelyRaw_29 : decode cX8_surelyRaw 29 = .ok (.iload_n 2, 1) := by decide +kernel
theorem dX8_surelyRaw_30 : decode cX8_surelyRaw 30 = .ok (.ireturn, 1) := by decide +kernel
set_option maxRecDepth 20000 in
theorem ggX8_hasRawInBox_J6_bitCount_0f7a4 : GoodIn wsX8_hasRawInBox wsJ6_bitCount_0f7a4 := goodIn_r _ [7, 8, 9, 10] (by decide +kernel) (by decide +kernel)
set_option maxRecDepth 20000 in
theorem gX8_hasRawInBox_J6_bitCount_0f7a4 : GoodIn wsX8_hasRawInBox (va_wsS RX8 38 yJ6_bitCount_0f7a4 wsJ6_bitCount_0f7a4) := goodIn_app (goodIn_of _ (by decide +kernel)) ggX8_hasRawInBox_J6_bitCount_0f7a4
theorem dX8_hasRawInBox_0 : decode cX8_hasRawInBox 0 = .ok (.iconst 0, 1) := by decide +kernel
theorem dX8_hasRawInBox_1 : decode cX8_hasRawInBox 1 = .ok (.istore_n 2, 1) := by decide +kernel
theorem dX8_hasRawInBox_2 : decode cX8_hasRawInBox 2 = .ok (.iload_n 2, 1) := by decide +kernel
theorem dX8_hasRawInBox_3 : decode cX8_hasRawInBox 3 = .ok (.aload_n 0, 1) := by decide +kernel
theorem dX8_hasRawInBox_4 : decode cX8_hasRawInBox 4 = .ok (.getfield 28, 3) := by decide +kernel
theorem dX8_hasRawInBox_7 : decode cX8_hasRawInBox 7 = .ok (.if_icmp .ge 31, 3) := by decide +kernel
theorem dX8_hasRawInBox_10 : decode cX8_hasRawInBox 10 = .ok (.aload_n 0, 1) := by decide +kernel
theorem dX8_hasRawInBox_11 : decode cX8_hasRawInBox 11 = .ok (.getfield 55, 3) := by decide +kernel
theorem dX8_hasRawInBox_14 : decode cX8_hasRawInBox 14 = .ok (.aload_n 0, 1) := by decide +kernel
theorem dX8_hasRawInBox_15 : decode cX8_hasRawInBox 15 = .ok (.getfield 9, 3) := by decide +kernel
theorem dX8_hasRawInBox_18 : decode cX8_hasRawInBox 18 = .ok (.iload_n 2, 1) := by decide +kernel
theorem dX8_hasRawInBox_19 : decode cX8_hasRawInBox 19 = .ok (.iaload, 1) := by decide +kernel
theorem dX8_hasRawInBox_20 : decode cX8_hasRawInBox 20 = .ok (.iconst (-1), 1) := by decide +kernel
theorem dX8_hasRawInBox_21 : decode cX8_hasRawInBox 21 = .ok (.ixor, 1) := by decide +kernel
theorem dX8_hasRawInBox_22 : decode cX8_hasRawInBox 22 = .ok (.iand, 1) := by decide +kernel
theorem dX8_hasRawInBox_23 : decode cX8_hasRawInBox 23 = .ok (.invokestatic 38, 3) := by decide +kernel
theorem dX8_hasRawInBox_26 : decode cX8_hasRawInBox 26 = .ok (.iload_n 1, 1) := by decide +kernel
theorem dX8_hasRawInBox_27 : decode cX8_hasRawInBox 27 = .ok (.if_icmp .ge 5, 3) := by decide +kernel
theorem dX8_hasRawInBox_30 : decode cX8_hasRawInBox 30 = .ok (.iconst 0, 1) := by decide +kernel
theorem dX8_hasRawInBox_31 : decode cX8_hasRawInBox 31 = .ok (.ireturn, 1) := by decide +kernel
theorem dX8_hasRawInBox_32 : decode cX8_hasRawInBox 32 = .ok (.iinc 2 1, 3) := by decide +kernel
theorem dX8_hasRawInBox_35 : decode cX8_hasRawInBox 35 = .ok (.goto (-33), 3) := by decide +kernel
theorem dX8_hasRawInBox_38 : decode cX8_hasRawInBox 38 = .ok (.iconst 1, 1) := by decide +kernel
theorem dX8_hasRawInBox_39 : decode cX8_hasRawInBox 39 = .ok (.ireturn, 1) := by decide +kernel
theorem dX9_init_0 : decode cX9_init 0 = .ok (.aload_n 0, 1) := by decide +kernel
theorem dX9_init_1 : decode cX9_init 1 = .ok (.invokespecial 3, 3) := by decide +kernel
theorem dX9_init_4 : decode cX9_init 4 = .ok (.return_, 1) := by decide +kernel
theorem dX9_kind_0 : decode cX9_kind 0 = .ok (.iconst 0, 1) := by decide +kernel
theorem dX9_kind_1 : decode cX9_kind 1 = .ok (.ireturn, 1) := by decide +kernel
theorem dX9_score_0 : decode cX9_score 0 = .ok (.lconst 0, 1) := by decide +kernel
theorem dX9_score_1 : decode cX9_score 1 = .ok (.lreturn, 1) := by decide +kernel
theorem dX9_takesLast_0 : decode cX9_takesLast 0 = .ok (.iconst 0, 1) := by decide +kernel
theorem dX9_takesLast_1 : decode cX9_takesLast 1 = .ok (.ireturn, 1) := by decide +kernel
set_option maxRecDepth 20000 in
theorem ggX9_nextEgg_X8_isInBox : GoodIn wsX9_nextEgg wsX8_isInBox := goodIn_r _ [5, 6, 7, 8, 9, 63, 64, 65, 66, 67, 68, 69, 70] (by decide +kernel) (by decide +kernel)
set_option maxRecDepth 20000 in
theorem gX9_nextEgg_X8_isInBox : GoodIn wsX9_nextEgg (wsV RX9 9 RX8 yX8_isInBox wsX8_isInBox) := goodIn_app (goodIn_of _ (by decide +kernel)) ggX9_nextEgg_X8_isInBox
set_option maxRecDepth 20000 in
theorem ggX9_nextEgg_X0_score : GoodIn wsX9_nextEgg wsX0_score := goodIn_r _ [16, 17, 18, 19, 4, 20, 21, 22, 23, 7, 8, 9, 63, 64, 65, 66, 67, 68, 69, 70] (by decide +kernel) (by decide +kernel)
set_option maxRecDepth 20000 in
theorem gX9_nextEgg_X0_score_u15X0 : GoodIn wsX9_nextEgg (va_wsO RX9 15 RX0 "BoiledEggs$Trier" ⟨"BoiledEggs$Trier", "score", "(LBoiledEggs$Told;I)J"⟩ yX0_score wsX0_score) := goodIn_app (goodIn_of _ (by decide +kernel)) ggX9_nextEgg_X0_score
set_option maxRecDepth 20000 in
theorem ggX9_nextEgg_X2_score : GoodIn wsX9_nextEgg wsX2_score := goodIn_r _ [28, 29, 30, 31, 32, 33, 34, 18, 19, 4, 20, 21, 22, 23, 7, 8, 9, 35, 36, 37, 38, 63, 64, 65, 66, 67, 68, 69, 70] (by decide +kernel) (by decide +kernel)
set_option maxRecDepth 20000 in
theorem gX9_nextEgg_X2_score_u15X2 : GoodIn wsX9_nextEgg (va_wsO RX9 15 RX2 "BoiledEggs$Trier" ⟨"BoiledEggs$Trier", "score", "(LBoiledEggs$Told;I)J"⟩ yX2_score wsX2_score) := goodIn_app (goodIn_of _ (by decide +kernel)) ggX9_nextEgg_X2_score
set_option maxRecDepth 20000 in
theorem ggX9_nextEgg_X5_score : GoodIn wsX9_nextEgg wsX5_score := goodIn_r _ [42, 43, 18, 19, 4, 20, 21, 22, 23, 7, 8, 9, 63, 64, 65, 66, 67, 68, 69, 70] (by decide +kernel) (by decide +kernel)
set_option maxRecDepth 20000 in
theorem gX9_nextEgg_X5_score_u15X4 : GoodIn wsX9_nextEgg (va_wsO RX9 15 RX4 "BoiledEggs$Trier" ⟨"BoiledEggs$Trier", "score", "(LBoiledEggs$Told;I)J"⟩ yX5_score wsX5_score) := goodIn_app (goodIn_of _ (by decide +kernel)) ggX9_nextEgg_X5_score
set_option maxRecDepth 20000 in
theorem gX9_nextEgg_X5_score_u15X5 : GoodIn wsX9_nextEgg (va_wsO RX9 15 RX5 "BoiledEggs$Trier" ⟨"BoiledEggs$Trier", "score", "(LBoiledEggs$Told;I)J"⟩ yX5_score wsX5_score) := goodIn_app (goodIn_of _ (by decide +kernel)) ggX9_nextEgg_X5_score
set_option maxRecDepth 20000 in
theorem ggX9_nextEgg_X9_score : GoodIn wsX9_nextEgg wsX9_score := goodIn_r _ [24] (by decide +kernel) (by decide +kernel)
set_option maxRecDepth 20000 in
theorem gX9_nextEgg_X9_score : GoodIn wsX9_nextEgg (wsV RX9 15 RX9 yX9_score wsX9_score) := goodIn_app (goodIn_of _ (by decide +kernel)) ggX9_nextEgg_X9_score
set_option maxRecDepth 20000 in
theorem ggX9_nextEgg_X9_takesLast : GoodIn wsX9_nextEgg wsX9_takesLast := goodIn_r _ [53] (by decide +kernel) (by decide +kernel)
set_option maxRecDepth 20000 in
theorem gX9_nextEgg_X9_takesLast_u21X0 : GoodIn wsX9_nextEgg (va_wsU RX9 21 RX0 "BoiledEggs$Trier" ⟨"BoiledEggs$Trier", "takesLast", "()Z"⟩ yX9_takesLast wsX9_takesLast) := goodIn_app (goodIn_of _ (by decide +kernel)) ggX9_nextEgg_X9_takesLast
set_option maxRecDepth 20000 in
theorem gX9_nextEgg_X9_takesLast_u21X2 : GoodIn wsX9_nextEgg (va_wsU RX9 21 RX2 "BoiledEggs$Trier" ⟨"BoiledEggs$Trier", "takesLast", "()Z"⟩ yX9_takesLast wsX9_takesLast) := goodIn_app (goodIn_of _ (by decide +kernel)) ggX9_nextEgg_X9_takesLast
set_option maxRecDepth 20000 in
theorem ggX9_nextEgg_X4_takesLast : GoodIn wsX9_nextEgg wsX4_takesLast := goodIn_r _ [59] (by decide +kernel) (by decide +kernel)
set_option maxRecDepth 20000 in
theorem gX9_nextEgg_X4_takesLast_u21X4 : GoodIn wsX9_nextEgg (va_wsO RX9 21 RX4 "BoiledEggs$Trier" ⟨"BoiledEggs$Trier", "takesLast", "()Z"⟩ yX4_takesLast wsX4_takesLast) := goodIn_app (goodIn_of _ (by decide +kernel)) ggX9_nextEgg_X4_takesLast
set_option maxRecDepth 20000 in
theorem gX9_nextEgg_X9_takesLast_u21X5 : GoodIn wsX9_nextEgg (va_wsU RX9 21 RX5 "BoiledEggs$Trier" ⟨"BoiledEggs$Trier", "takesLast", "()Z"⟩ yX9_takesLast wsX9_takesLast) := goodIn_app (goodIn_of _ (by decide +kernel)) ggX9_nextEgg_X9_takesLast
set_option maxRecDepth 20000 in
theorem gX9_nextEgg_X9_takesLast : GoodIn wsX9_nextEgg (wsV RX9 21 RX9 yX9_takesLast wsX9_takesLast) := goodIn_app (goodIn_of _ (by decide +kernel)) ggX9_nextEgg_X9_takesLast
theorem dX9_nextEgg_0 : decode cX9_nextEgg 0 = .ok (.iconst (-1), 1) := by decide +kernel
theorem dX9_nextEgg_1 : decode cX9_nextEgg 1 = .ok (.istore_n 2, 1) := by decide +kernel
theorem dX9_nextEgg_2 : decode cX9_nextEgg 2 = .ok (.lconst 0, 1) := by decide +kernel
theorem dX9_nextEgg_3 : decode cX9_nextEgg 3 = .ok (.lstore_n 3, 1) := by decide +kernel
theorem dX9_nextEgg_4 : decode cX9_nextEgg 4 = .ok (.iconst 0, 1) := by decide +kernel
theorem dX9_nextEgg_5 : decode cX9_nextEgg 5 = .ok (.istore 5, 2) := by decide +kernel
theorem dX9_nextEgg_7 : decode cX9_nextEgg 7 = .ok (.iload 5, 2) := by decide +kernel
theorem dX9_nextEgg_9 : decode cX9_nextEgg 9 = .ok (.bipush 6, 2) := by decide +kernel
theorem dX9_nextEgg_11 : decode cX9_nextEgg 11 = .ok (.if_icmp .ge 71, 3) := by decide +kernel
theorem dX9_nextEgg_14 : decode cX9_nextEgg 14 = .ok (.aload_n 1, 1) := by decide +kernel
theorem dX9_nextEgg_15 : decode cX9_nextEgg 15 = .ok (.iload 5, 2) := by decide +kernel
theorem dX9_nextEgg_17 : decode cX9_nextEgg 17 = .ok (.invokevirtual 9, 3) := by decide +kernel
theorem dX9_nextEgg_20 : decode cX9_nextEgg 20 = .ok (.ifCond .eq 56, 3) := by decide +kernel
theorem dX9_nextEgg_23 : decode cX9_nextEgg 23 = .ok (.aload_n 0, 1) := by decide +kernel
theorem dX9_nextEgg_24 : decode cX9_nextEgg 24 = .ok (.aload_n 1, 1) := by decide +kernel
theorem dX9_nextEgg_25 : decode cX9_nextEgg 25 = .ok (.iload 5, 2) := by decide +kernel
theorem dX9_nextEgg_27 : decode cX9_nextEgg 27 = .ok (.invokevirtual 15, 3) := by decide +kernel
theorem dX9_nextEgg_30 : decode cX9_nextEgg 30 = .ok (.lstore 6, 2) := by decide +kernel
theorem dX9_nextEgg_32 : decode cX9_nextEgg 32 = .ok (.lload 6, 2) := by decide +kernel
theorem dX9_nextEgg_34 : decode cX9_nextEgg 34 = .ok (.lload_n 3, 1) := by decide +kernel
theorem dX9_nextEgg_35 : decode cX9_nextEgg 35 = .ok (.lcmp, 1) := by decide +kernel
theorem dX9_nextEgg_36 : decode cX9_nextEgg 36 = .ok (.ifCond .ne 14, 3) := by decide +kernel
theorem dX9_nextEgg_39 : decode cX9_nextEgg 39 = .ok (.aload_n 0, 1) := by decide +kernel
theorem dX9_nextEgg_40 : decode cX9_nextEgg 40 = .ok (.invokevirtual 21, 3) := by decide +kernel
theorem dX9_nextEgg_43 : decode cX9_nextEgg 43 = .ok (.ifCond .eq 7, 3) := by decide +kernel
theorem dX9_nextEgg_46 : decode cX9_nextEgg 46 = .ok (.iconst 1, 1) := by decide +kernel
theorem dX9_nextEgg_47 : decode cX9_nextEgg 47 = .ok (.goto 4, 3) := by decide +kernel
theorem dX9_nextEgg_50 : decode cX9_nextEgg 50 = .ok (.iconst 0, 1) := by decide +kernel
theorem dX9_nextEgg_51 : decode cX9_nextEgg 51 = .ok (.istore 8, 2) := by decide +kernel
theorem dX9_nextEgg_53 : decode cX9_nextEgg 53 = .ok (.iload_n 2, 1) := by decide +kernel
theorem dX9_nextEgg_54 : decode cX9_nextEgg 54 = .ok (.iconst (-1), 1) := by decide +kernel
theorem dX9_nextEgg_55 : decode cX9_nextEgg 55 = .ok (.if_icmp .eq 15, 3) := by decide +kernel
theorem dX9_nextEgg_58 : decode cX9_nextEgg 58 = .ok (.lload 6, 2) := by decide +kernel
theorem dX9_nextEgg_60 : decode cX9_nextEgg 60 = .ok (.lload_n 3, 1) := by decide +kernel
theorem dX9_nextEgg_61 : decode cX9_nextEgg 61 = .ok (.lcmp, 1) := by decide +kernel
theorem dX9_nextEgg_62 : decode cX9_nextEgg 62 = .ok (.ifCond .lt 8, 3) := by decide +kernel
theorem dX9_nextEgg_65 : decode cX9_nextEgg 65 = .ok (.iload 8, 2) := by decide +kernel
theorem dX9_nextEgg_67 : decode cX9_nextEgg 67 = .ok (.ifCond .eq 9, 3) := by decide +kernel
theorem dX9_nextEgg_70 : decode cX9_nextEgg 70 = .ok (.iload 5, 2) := by decide +kernel
theorem dX9_nextEgg_72 : decode cX9_nextEgg 72 = .ok (.istore_n 2, 1) := by decide +kernel
theorem dX9_nextEgg_73 : decode cX9_nextEgg 73 = .ok (.lload 6, 2) := by decide +kernel
theorem dX9_nextEgg_75 : decode cX9_nextEgg 75 = .ok (.lstore_n 3, 1) := by decide +kernel
theorem dX9_nextEgg_76 : decode cX9_nextEgg 76 = .ok (.iinc 5 1, 3) := by decide +kernel
theorem dX9_nextEgg_79 : decode cX9_nextEgg 79 = .ok (.goto (-72), 3) := by decide +kernel
theorem dX9_nextEgg_82 : decode cX9_nextEgg 82 = .ok (.iload_n 2, 1) := by decide +kernel
theorem dX9_nextEgg_83 : decode cX9_nextEgg 83 = .ok (.ireturn, 1) := by decide +kernel
set_option maxRecDepth 20000 in
theorem ggX10_init_X7_init : GoodIn wsX10_init wsX7_init := goodIn_r _ [28, 29, 2, 3, 30, 31, 54, 55] (by decide +kernel) (by decide +kernel)
set_option maxRecDepth 20000 in
theorem gX10_init_X7_init_n9 : GoodIn wsX10_init (wsX7_init) := ggX10_init_X7_init
set_option maxRecDepth 20000 in
theorem ggX10_init_X6_init : GoodIn wsX10_init wsX6_init := goodIn_r _ [33, 34, 2, 3, 30, 35, 68, 69, 70, 71, 72, 73] (by decide +kernel) (by decide +kernel)
set_option maxRecDepth 20000 in
theorem gX10_init_X6_init_n18 : GoodIn wsX10_init (wsX6_init) := ggX10_init_X6_init
set_option maxRecDepth 20000 in
theorem ggX10_init_X8_init : GoodIn wsX10_init wsX8_init := goodIn_r _ [37, 38, 2, 3, 30, 39, 40, 41, 42, 43, 44, 74, 75, 76, 77, 78, 79, 80, 81] (by decide +kernel) (by decide +kernel)
set_option maxRecDepth 20000 in
theorem gX10_init_X8_init_n25 : GoodIn wsX10_init (wsX8_init) := ggX10_init_X8_init
set_option maxRecDepth 20000 in
theorem ggX10_init_X1_init : GoodIn wsX10_init wsX1_init := goodIn_r _ [46, 47, 2, 3, 40, 48, 49, 30, 50, 82, 83, 84, 85, 86, 87] (by decide +kernel) (by decide +kernel)
set_option maxRecDepth 20000 in
theorem gX10_init_X1_init_n35 : GoodIn wsX10_init (wsX1_init) := ggX10_init_X1_init
set_option maxRecDepth 20000 in
theorem ggX10_init_X3_init : GoodIn wsX10_init wsX3_init := goodIn_r _ [52, 53, 2, 3] (by decide +kernel) (by decide +kernel)
set_option maxRecDepth 20000 in
theorem gX10_init_X3_init_n42 : GoodIn wsX10_init (wsX3_init) := ggX10_init_X3_init
theorem dX10_init_0 : decode cX10_init 0 = .ok (.aload_n 0, 1) := by decide +kernel
theorem dX10_init_1 : decode cX10_init 1 = .ok (.invokespecial 1, 3) := by decide +kernel
theorem dX10_init_4 : decode cX10_init 4 = .ok (.aload_n 0, 1) := by decide +kernel
theorem dX10_init_5 : decode cX10_init 5 = .ok (.new 7, 3) := by decide +kernel
theorem dX10_init_8 : decode cX10_init 8 = .ok (.dup, 1) := by decide +kernel
theorem dX10_init_9 : decode cX10_init 9 = .ok (.invokespecial 9, 3) := by decide +kernel
theorem dX10_init_12 : decode cX10_init 12 = .ok (.putfield 10, 3) := by decide +kernel
theorem dX10_init_15 : decode cX10_init 15 = .ok (.aload_n 0, 1) := by decide +kernel
theorem dX10_init_16 : decode cX10_init 16 = .ok (.new 16, 3) := by decide +kernel
theorem dX10_init_19 : decode cX10_init 19 = .ok (.dup, 1) := by decide +kernel
theorem dX10_init_20 : decode cX10_init 20 = .ok (.invokespecial 18, 3) := by decide +kernel
theorem dX10_init_23 : decode cX10_init 23 = .ok (.putfield 19, 3) := by decide +kernel
theorem dX10_init_26 : decode cX10_init 26 = .ok (.aload_n 0, 1) := by decide +kernel
theorem dX10_init_27 : decode cX10_init 27 = .ok (.new 23, 3) := by decide +kernel
theorem dX10_init_30 : decode cX10_init 30 = .ok (.dup, 1) := by decide +kernel
theorem dX10_init_31 : decode cX10_init 31 = .ok (.invokespecial 25, 3) := by decide +kernel
theorem dX10_init_34 : decode cX10_init 34 = .ok (.putfield 26, 3) := by decide +kernel
theorem dX10_init_37 : decode cX10_init 37 = .ok (.aload_n 0, 1) := by decide +kernel
theorem dX10_init_38 : decode cX10_init 38 = .ok (.new 23, 3) := by decide +kernel
theorem dX10_init_41 : decode cX10_init 41 = .ok (.dup, 1) := by decide +kernel
theorem dX10_init_42 : decode cX10_init 42 = .ok (.invokespecial 25, 3) := by decide +kernel
theorem dX10_init_45 : decode cX10_init 45 = .ok (.putfield 30, 3) := by decide +kernel
theorem dX10_init_48 : decode cX10_init 48 = .ok (.aload_n 0, 1) := by decide +kernel
theorem dX10_init_49 : decode cX10_init 49 = .ok (.new 33, 3) := by decide +kernel
theorem dX10_init_52 : decode cX10_init 52 = .ok (.dup, 1) := by decide +kernel
theorem dX10_init_53 : decode cX10_init 53 = .ok (.invokespecial 35, 3) := by decide +kernel
theorem dX10_init_56 : decode cX10_init 56 = .ok (.putfield 36, 3) := by decide +kernel
theorem dX10_init_59 : decode cX10_init 59 = .ok (.aload_n 0, 1) := by decide +kernel
theorem dX10_init_60 : decode cX10_init 60 = .ok (.new 40, 3) := by decide +kernel
theorem dX10_init_63 : decode cX10_init 63 = .ok (.dup, 1) := by decide +kernel
theorem dX10_init_64 : decode cX10_init 64 = .ok (.invokespecial 42, 3) := by decide +kernel
theorem dX10_init_67 : decode cX10_init 67 = .ok (.putfield 43, 3) := by decide +kernel
theorem dX10_init_70 : decode cX10_init 70 = .ok (.aload_n 0, 1) := by decide +kernel
theorem dX10_init_71 : decode cX10_init 71 = .ok (.iconst 4, 1) := by decide +kernel
theorem dX10_init_72 : decode cX10_init 72 = .ok (.anewarray 47, 3) := by decide +kernel
theorem dX10_init_75 : decode cX10_init 75 = .ok (.putfield 49, 3) := by decide +kernel
theorem dX10_init_78 : decode cX10_init 78 = .ok (.return_, 1) := by decide +kernel
set_option maxRecDepth 20000 in
theorem ggX10_letter_X7_isFull : GoodIn wsX10_letter wsX7_isFull := goodIn_r _ [6, 7, 26, 27] (by decide +kernel) (by decide +kernel)
set_option maxRecDepth 20000 in
theorem gX10_letter_X7_isFull : GoodIn wsX10_letter (wsV RX10 53 RX7 yX7_isFull wsX7_isFull) := goodIn_app (goodIn_of _ (by decide +kernel)) ggX10_letter_X7_isFull
set_option maxRecDepth 20000 in
theorem ggX10_letter_X7_append : GoodIn wsX10_letter wsX7_append := goodIn_r _ [11, 12, 7, 13, 3, 4, 5, 6, 26, 27] (by decide +kernel) (by decide +kernel)
set_option maxRecDepth 20000 in
theorem gX10_letter_X7_append : GoodIn wsX10_letter (wsV RX10 57 RX7 yX7_append wsX7_append) := goodIn_app (goodIn_of _ (by decide +kernel)) ggX10_letter_X7_append
theorem dX10_letter_0 : decode cX10_letter 0 = .ok (.iload_n 1, 1) := by decide +kernel
theorem dX10_letter_1 : decode cX10_letter 1 = .ok (.bipush 32, 2) := by decide +kernel
theorem dX10_letter_3 : decode cX10_letter 3 = .ok (.if_icmp .lt 9, 3) := by decide +kernel
theorem dX10_letter_6 : decode cX10_letter 6 = .ok (.iload_n 1, 1) := by decide +kernel
theorem dX10_letter_7 : decode cX10_letter 7 = .ok (.bipush 126, 2) := by decide +kernel
theorem dX10_letter_9 : decode cX10_letter 9 = .ok (.if_icmp .le 6, 3) := by decide +kernel
theorem dX10_letter_12 : decode cX10_letter 12 = .ok (.bipush (-102), 2) := by decide +kernel
theorem dX10_letter_14 : decode cX10_letter 14 = .ok (.ireturn, 1) := by decide +kernel
theorem dX10_letter_15 : decode cX10_letter 15 = .ok (.aload_n 0, 1) := by decide +kernel
theorem dX10_letter_16 : decode cX10_letter 16 = .ok (.getfield 10, 3) := by decide +kernel
theorem dX10_letter_19 : decode cX10_letter 19 = .ok (.invokevirtual 53, 3) := by decide +kernel
theorem dX10_letter_22 : decode cX10_letter 22 = .ok (.ifCond .eq 6, 3) := by decide +kernel
theorem dX10_letter_25 : decode cX10_letter 25 = .ok (.bipush (-104), 2) := by decide +kernel
theorem dX10_letter_27 : decode cX10_letter 27 = .ok (.ireturn, 1) := by decide +kernel
theorem dX10_letter_28 : decode cX10_letter 28 = .ok (.aload_n 0, 1) := by decide +kernel
theorem dX10_letter_29 : decode cX10_letter 29 = .ok (.getfield 10, 3) := by decide +kernel
theorem dX10_letter_32 : decode cX10_letter 32 = .ok (.iload_n 1, 1) := by decide +kernel
theorem dX10_letter_33 : decode cX10_letter 33 = .ok (.invokevirtual 57, 3) := by decide +kernel
theorem dX10_letter_36 : decode cX10_letter 36 = .ok (.ireturn, 1) := by decide +kernel
set_option maxRecDepth 20000 in
theorem ggX10_blank_X7_clear : GoodIn wsX10_blank wsX7_clear := goodIn_r _ [6, 7, 20, 21] (by decide +kernel) (by decide +kernel)
set_option maxRecDepth 20000 in
theorem gX10_blank_X7_clear : GoodIn wsX10_blank (wsV RX10 61 RX7 yX7_clear wsX7_clear) := goodIn_app (goodIn_of _ (by decide +kernel)) ggX10_blank_X7_clear
theorem dX10_blank_0 : decode cX10_blank 0 = .ok (.aload_n 0, 1) := by decide +kernel
theorem dX10_blank_1 : decode cX10_blank 1 = .ok (.getfield 10, 3) := by decide +kernel
theorem dX10_blank_4 : decode cX10_blank 4 = .ok (.invokevirtual 61, 3) := by decide +kernel
theorem dX10_blank_7 : decode cX10_blank 7 = .ok (.ireturn, 1) := by decide +kernel
set_option maxRecDepth 20000 in
theorem ggX10_fault_X7_firstFault : GoodIn wsX10_fault wsX7_firstFault := goodIn_r _ [6, 7, 8, 9, 10, 5, 11, 12, 13, 14, 15, 16, 17, 18, 19, 20, 33, 34] (by decide +kernel) (by decide +kernel)
set_option maxRecDepth 20000 in
theorem gX10_fault_X7_firstFault : GoodIn wsX10_fault (wsV RX10 65 RX7 yX7_firstFault wsX7_firstFault) := goodIn_app (goodIn_of _ (by decide +kernel)) ggX10_fault_X7_firstFault
theorem dX10_fault_0 : decode cX10_fault 0 = .ok (.aload_n 0, 1) := by decide +kernel
theorem dX10_fault_1 : decode cX10_fault 1 = .ok (.getfield 10, 3) := by decide +kernel
theorem dX10_fault_4 : decode cX10_fault 4 = .ok (.invokevirtual 65, 3) := by decide +kernel
theorem dX10_fault_7 : decode cX10_fault 7 = .ok (.ireturn, 1) := by decide +kernel
set_option maxRecDepth 20000 in
theorem ggX10_kitchen_X7_isWholeKitchen : GoodIn wsX10_kitchen wsX7_isWholeKitchen := goodIn_r _ [11, 12, 13, 14, 15, 10, 16, 17, 18, 19, 20, 21, 22, 23, 24, 25, 26, 27, 28, 29, 103, 104] (by decide +kernel) (by decide +kernel)
set_option maxRecDepth 20000 in
theorem gX10_kitchen_X7_isWholeKitchen : GoodIn wsX10_kitchen (wsV RX10 68 RX7 yX7_isWholeKitchen wsX7_isWholeKitchen) := goodIn_app (goodIn_of _ (by decide +kernel)) ggX10_kitchen_X7_isWholeKitchen
set_option maxRecDepth 20000 in
theorem ggX10_kitchen_X6_readFrom : GoodIn wsX10_kitchen wsX6_readFrom := goodIn_r _ [34, 35, 36, 37, 38, 39, 40, 41, 42, 43, 44, 45, 14, 15, 10, 16, 12, 17, 97, 98, 99, 100, 101, 102, 103, 104] (by decide +kernel) (by decide +kernel)
set_option maxRecDepth 20000 in
theorem gX10_kitchen_X6_readFrom : GoodIn wsX10_kitchen (wsV RX10 71 RX6 yX6_readFrom wsX6_readFrom) := goodIn_app (goodIn_of _ (by decide +kernel)) ggX10_kitchen_X6_readFrom
set_option maxRecDepth 20000 in
theorem ggX10_kitchen_X7_clear : GoodIn wsX10_kitchen wsX7_clear := goodIn_r _ [49, 12, 103, 104] (by decide +kernel) (by decide +kernel)
set_option maxRecDepth 20000 in
theorem gX10_kitchen_X7_clear : GoodIn wsX10_kitchen (wsV RX10 61 RX7 yX7_clear wsX7_clear) := goodIn_app (goodIn_of _ (by decide +kernel)) ggX10_kitchen_X7_clear
set_option maxRecDepth 20000 in
theorem ggX10_kitchen_X8_begin : GoodIn wsX10_kitchen wsX8_begin := goodIn_r _ [54, 55, 56, 57, 58, 59, 60, 61, 62, 63, 33, 64, 39, 65, 66, 67, 68, 69, 70, 71, 72, 73, 74, 75, 44, 76, 77, 78, 79, 80, 81, 53, 82, 83, 84, 105, 106, 107, 108, 109, 110, 111, 112, 97, 98, 99, 100, 101, 102] (by decide +kernel) (by decide +kernel)
set_option maxRecDepth 20000 in
theorem gX10_kitchen_X8_begin : GoodIn wsX10_kitchen (wsV RX10 75 RX8 yX8_begin wsX8_begin) := goodIn_app (goodIn_of _ (by decide +kernel)) ggX10_kitchen_X8_begin
theorem dX10_kitchen_0 : decode cX10_kitchen 0 = .ok (.aload_n 0, 1) := by decide +kernel
theorem dX10_kitchen_1 : decode cX10_kitchen 1 = .ok (.getfield 10, 3) := by decide +kernel
theorem dX10_kitchen_4 : decode cX10_kitchen 4 = .ok (.invokevirtual 68, 3) := by decide +kernel
theorem dX10_kitchen_7 : decode cX10_kitchen 7 = .ok (.ifCond .ne 6, 3) := by decide +kernel
theorem dX10_kitchen_10 : decode cX10_kitchen 10 = .ok (.bipush (-103), 2) := by decide +kernel
theorem dX10_kitchen_12 : decode cX10_kitchen 12 = .ok (.ireturn, 1) := by decide +kernel
theorem dX10_kitchen_13 : decode cX10_kitchen 13 = .ok (.aload_n 0, 1) := by decide +kernel
theorem dX10_kitchen_14 : decode cX10_kitchen 14 = .ok (.getfield 19, 3) := by decide +kernel
theorem dX10_kitchen_17 : decode cX10_kitchen 17 = .ok (.aload_n 0, 1) := by decide +kernel
theorem dX10_kitchen_18 : decode cX10_kitchen 18 = .ok (.getfield 10, 3) := by decide +kernel
theorem dX10_kitchen_21 : decode cX10_kitchen 21 = .ok (.invokevirtual 71, 3) := by decide +kernel
theorem dX10_kitchen_24 : decode cX10_kitchen 24 = .ok (.aload_n 0, 1) := by decide +kernel
theorem dX10_kitchen_25 : decode cX10_kitchen 25 = .ok (.getfield 10, 3) := by decide +kernel
theorem dX10_kitchen_28 : decode cX10_kitchen 28 = .ok (.invokevirtual 61, 3) := by decide +kernel
theorem dX10_kitchen_31 : decode cX10_kitchen 31 = .ok (.pop, 1) := by decide +kernel
theorem dX10_kitchen_32 : decode cX10_kitchen 32 = .ok (.aload_n 0, 1) := by decide +kernel
theorem dX10_kitchen_33 : decode cX10_kitchen 33 = .ok (.getfield 26, 3) := by decide +kernel
theorem dX10_kitchen_36 : decode cX10_kitchen 36 = .ok (.aload_n 0, 1) := by decide +kernel
theorem dX10_kitchen_37 : decode cX10_kitchen 37 = .ok (.getfield 19, 3) := by decide +kernel
theorem dX10_kitchen_40 : decode cX10_kitchen 40 = .ok (.invokevirtual 75, 3) := by decide +kernel
theorem dX10_kitchen_43 : decode cX10_kitchen 43 = .ok (.aload_n 0, 1) := by decide +kernel
theorem dX10_kitchen_44 : decode cX10_kitchen 44 = .ok (.iconst 0, 1) := by decide +kernel
theorem dX10_kitchen_45 : decode cX10_kitchen 45 = .ok (.putfield 79, 3) := by decide +kernel
theorem dX10_kitchen_48 : decode cX10_kitchen 48 = .ok (.aload_n 0, 1) := by decide +kernel
theorem dX10_kitchen_49 : decode cX10_kitchen 49 = .ok (.iconst 0, 1) := by decide +kernel
theorem dX10_kitchen_50 : decode cX10_kitchen 50 = .ok (.putfield 83, 3) := by decide +kernel
theorem dX10_kitchen_53 : decode cX10_kitchen 53 = .ok (.aload_n 0, 1) := by decide +kernel
theorem dX10_kitchen_54 : decode cX10_kitchen 54 = .ok (.dup, 1) := by decide +kernel
theorem dX10_kitchen_55 : decode cX10_kitchen 55 = .ok (.getfield 87, 3) := by decide +kernel
theorem dX10_kitchen_58 : decode cX10_kitchen 58 = .ok (.iconst 1, 1) := by decide +kernel
theorem dX10_kitchen_59 : decode cX10_kitchen 59 = .ok (.iadd, 1) := by decide +kernel
theorem dX10_kitchen_60 : decode cX10_kitchen 60 = .ok (.putfield 87, 3) := by decide +kernel
theorem dX10_kitchen_63 : decode cX10_kitchen 63 = .ok (.aload_n 0, 1) := by decide +kernel
theorem dX10_kitchen_64 : decode cX10_kitchen 64 = .ok (.getfield 19, 3) := by decide +kernel
theorem dX10_kitchen_67 : decode cX10_kitchen 67 = .ok (.getfield 90, 3) := by decide +kernel
theorem dX10_kitchen_70 : decode cX10_kitchen 70 = .ok (.ireturn, 1) := by decide +kernel
set_option maxRecDepth 20000 in
theorem ggX10_egg_X10_isEgg : GoodIn wsX10_egg wsX10_isEgg := goodIn_r _ [7, 1, 16, 17, 18, 19, 20, 21, 22, 23, 24, 25, 26, 27, 28, 29, 30, 31, 32, 33] (by decide +kernel) (by decide +kernel)
set_option maxRecDepth 20000 in
theorem gX10_egg_X10_isEgg : GoodIn wsX10_egg (wsV RX10 93 RX10 yX10_isEgg wsX10_isEgg) := goodIn_app (goodIn_of _ (by decide +kernel)) ggX10_egg_X10_isEgg
set_option maxRecDepth 20000 in
theorem ggX10_egg_X8_isInBox : GoodIn wsX10_egg wsX8_isInBox := goodIn_r _ [12, 13, 14, 6, 15, 34, 35, 36, 37, 38, 39, 40, 41] (by decide +kernel) (by decide +kernel)
set_option maxRecDepth 20000 in
theorem gX10_egg_X8_isInBox : GoodIn wsX10_egg (wsV RX10 101 RX8 yX8_isInBox wsX8_isInBox) := goodIn_app (goodIn_of _ (by decide +kernel)) ggX10_egg_X8_isInBox
theorem dX10_egg_0 : decode cX10_egg 0 = .ok (.aload_n 0, 1) := by decide +kernel
theorem dX10_egg_1 : decode cX10_egg 1 = .ok (.iload_n 1, 1) := by decide +kernel
theorem dX10_egg_2 : decode cX10_egg 2 = .ok (.invokevirtual 93, 3) := by decide +kernel
theorem dX10_egg_5 : decode cX10_egg 5 = .ok (.ifCond .ne 6, 3) := by decide +kernel
theorem dX10_egg_8 : decode cX10_egg 8 = .ok (.bipush (-101), 2) := by decide +kernel
theorem dX10_egg_10 : decode cX10_egg 10 = .ok (.ireturn, 1) := by decide +kernel
theorem dX10_egg_11 : decode cX10_egg 11 = .ok (.iload_n 2, 1) := by decide +kernel
theorem dX10_egg_12 : decode cX10_egg 12 = .ok (.tableswitch 93 0 4 #[36, 46, 63, 73, 83], 36) := by decide +kernel
theorem dX10_egg_48 : decode cX10_egg 48 = .ok (.aload_n 0, 1) := by decide +kernel
theorem dX10_egg_49 : decode cX10_egg 49 = .ok (.getfield 19, 3) := by decide +kernel
theorem dX10_egg_52 : decode cX10_egg 52 = .ok (.getfield 97, 3) := by decide +kernel
theorem dX10_egg_55 : decode cX10_egg 55 = .ok (.iload_n 1, 1) := by decide +kernel
theorem dX10_egg_56 : decode cX10_egg 56 = .ok (.iaload, 1) := by decide +kernel
theorem dX10_egg_57 : decode cX10_egg 57 = .ok (.ireturn, 1) := by decide +kernel
theorem dX10_egg_58 : decode cX10_egg 58 = .ok (.aload_n 0, 1) := by decide +kernel
theorem dX10_egg_59 : decode cX10_egg 59 = .ok (.getfield 26, 3) := by decide +kernel
theorem dX10_egg_62 : decode cX10_egg 62 = .ok (.iload_n 1, 1) := by decide +kernel
theorem dX10_egg_63 : decode cX10_egg 63 = .ok (.invokevirtual 101, 3) := by decide +kernel
theorem dX10_egg_66 : decode cX10_egg 66 = .ok (.ifCond .eq 7, 3) := by decide +kernel
theorem dX10_egg_69 : decode cX10_egg 69 = .ok (.iconst 1, 1) := by decide +kernel
theorem dX10_egg_70 : decode cX10_egg 70 = .ok (.goto 4, 3) := by decide +kernel
theorem dX10_egg_73 : decode cX10_egg 73 = .ok (.iconst 0, 1) := by decide +kernel
theorem dX10_egg_74 : decode cX10_egg 74 = .ok (.ireturn, 1) := by decide +kernel
theorem dX10_egg_75 : decode cX10_egg 75 = .ok (.aload_n 0, 1) := by decide +kernel
theorem dX10_egg_76 : decode cX10_egg 76 = .ok (.getfield 26, 3) := by decide +kernel
theorem dX10_egg_79 : decode cX10_egg 79 = .ok (.getfield 104, 3) := by decide +kernel
theorem dX10_egg_82 : decode cX10_egg 82 = .ok (.iload_n 1, 1) := by decide +kernel
theorem dX10_egg_83 : decode cX10_egg 83 = .ok (.iaload, 1) := by decide +kernel
theorem dX10_egg_84 : decode cX10_egg 84 = .ok (.ireturn, 1) := by decide +kernel
theorem dX10_egg_85 : decode cX10_egg 85 = .ok (.aload_n 0, 1) := by decide +kernel
theorem dX10_egg_86 : decode cX10_egg 86 = .ok (.getfield 26, 3) := by decide +kernel
theorem dX10_egg_89 : decode cX10_egg 89 = .ok (.getfield 107, 3) := by decide +kernel
theorem dX10_egg_92 : decode cX10_egg 92 = .ok (.iload_n 1, 1) := by decide +kernel
theorem dX10_egg_93 : decode cX10_egg 93 = .ok (.iaload, 1) := by decide +kernel
theorem dX10_egg_94 : decode cX10_egg 94 = .ok (.ireturn, 1) := by decide +kernel
theorem dX10_egg_95 : decode cX10_egg 95 = .ok (.aload_n 0, 1) := by decide +kernel
theorem dX10_egg_96 : decode cX10_egg 96 = .ok (.getfield 26, 3) := by decide +kernel
theorem dX10_egg_99 : decode cX10_egg 99 = .ok (.getfield 110, 3) := by decide +kernel
theorem dX10_egg_102 : decode cX10_egg 102 = .ok (.iload_n 1, 1) := by decide +kernel
theorem dX10_egg_103 : decode cX10_egg 103 = .ok (.iaload, 1) := by decide +kernel
theorem dX10_egg_104 : decode cX10_egg 104 = .ok (.ireturn, 1) := by decide +kernel
theorem dX10_egg_105 : decode cX10_egg 105 = .ok (.bipush (-102), 2) := by decide +kernel
theorem dX10_egg_107 : decode cX10_egg 107 = .ok (.ireturn, 1) := by decide +kernel
set_option maxRecDepth 20000 in
theorem ggX10_spin_X10_isEgg : GoodIn wsX10_spin wsX10_isEgg := goodIn_r _ [7, 1, 53, 54, 55, 56, 57, 58, 59, 60, 61, 62, 63, 64, 73, 74, 75, 76, 77, 78] (by decide +kernel) (by decide +kernel)
set_option maxRecDepth 20000 in
theorem gX10_spin_X10_isEgg : GoodIn wsX10_spin (wsV RX10 93 RX10 yX10_isEgg wsX10_isEgg) := goodIn_app (goodIn_of _ (by decide +kernel)) ggX10_spin_X10_isEgg
set_option maxRecDepth 20000 in
theorem ggX10_spin_X6_tenthsOf : GoodIn wsX10_spin wsX6_tenthsOf := goodIn_r _ [12, 13, 14, 73, 74, 75, 76, 77, 78] (by decide +kernel) (by decide +kernel)
set_option maxRecDepth 20000 in
theorem gX10_spin_X6_tenthsOf : GoodIn wsX10_spin (wsV RX10 113 RX6 yX6_tenthsOf wsX6_tenthsOf) := goodIn_app (goodIn_of _ (by decide +kernel)) ggX10_spin_X6_tenthsOf
set_option maxRecDepth 20000 in
theorem ggX10_spin_X8_isInBox : GoodIn wsX10_spin wsX8_isInBox := goodIn_r _ [19, 20, 21, 6, 22, 65, 66, 67, 68, 69, 70, 71, 72] (by decide +kernel) (by decide +kernel)
set_option maxRecDepth 20000 in
theorem gX10_spin_X8_isInBox : GoodIn wsX10_spin (wsV RX10 101 RX8 yX8_isInBox wsX8_isInBox) := goodIn_app (goodIn_of _ (by decide +kernel)) ggX10_spin_X8_isInBox
set_option maxRecDepth 20000 in
theorem ggX10_spin_X8_canBe : GoodIn wsX10_spin wsX8_canBe := goodIn_r _ [26, 27, 28, 29, 18, 30, 31, 32, 33, 21, 6, 22, 34, 35, 36, 37, 65, 66, 67, 68, 69, 70, 71, 72] (by decide +kernel) (by decide +kernel)
set_option maxRecDepth 20000 in
theorem gX10_spin_X8_canBe : GoodIn wsX10_spin (wsV RX10 117 RX8 yX8_canBe wsX8_canBe) := goodIn_app (goodIn_of _ (by decide +kernel)) ggX10_spin_X8_canBe
set_option maxRecDepth 20000 in
theorem ggX10_spin_X8_weigh : GoodIn wsX10_spin wsX8_weigh := goodIn_r _ [41, 31, 32, 33, 21, 6, 22, 42, 43, 44, 18, 45, 65, 66, 67, 68, 69, 70, 71, 72] (by decide +kernel) (by decide +kernel)
set_option maxRecDepth 20000 in
theorem gX10_spin_X8_weigh : GoodIn wsX10_spin (wsV RX10 124 RX8 yX8_weigh wsX8_weigh) := goodIn_app (goodIn_of _ (by decide +kernel)) ggX10_spin_X8_weigh
set_option maxRecDepth 20000 in
theorem ggX10_spin_X8_countSpin : GoodIn wsX10_spin wsX8_countSpin := goodIn_r _ [49, 50, 51, 52, 65, 66, 67, 68, 69, 70, 71, 72] (by decide +kernel) (by decide +kernel)
set_option maxRecDepth 20000 in
theorem gX10_spin_X8_countSpin : GoodIn wsX10_spin (wsV RX10 128 RX8 yX8_countSpin wsX8_countSpin) := goodIn_app (goodIn_of _ (by decide +kernel)) ggX10_spin_X8_countSpin
theorem dX10_spin_0 : decode cX10_spin 0 = .ok (.aload_n 0, 1) := by decide +kernel
theorem dX10_spin_1 : decode cX10_spin 1 = .ok (.iload_n 1, 1) := by decide +kernel
theorem dX10_spin_2 : decode cX10_spin 2 = .ok (.invokevirtual 93, 3) := by decide +kernel
theorem dX10_spin_5 : decode cX10_spin 5 = .ok (.ifCond .ne 6, 3) := by decide +kernel
theorem dX10_spin_8 : decode cX10_spin 8 = .ok (.bipush (-101), 2) := by decide +kernel
theorem dX10_spin_10 : decode cX10_spin 10 = .ok (.ireturn, 1) := by decide +kernel
theorem dX10_spin_11 : decode cX10_spin 11 = .ok (.aload_n 0, 1) := by decide +kernel
theorem dX10_spin_12 : decode cX10_spin 12 = .ok (.getfield 19, 3) := by decide +kernel
theorem dX10_spin_15 : decode cX10_spin 15 = .ok (.iconst 1, 1) := by decide +kernel
theorem dX10_spin_16 : decode cX10_spin 16 = .ok (.iload_n 2, 1) := by decide +kernel
theorem dX10_spin_17 : decode cX10_spin 17 = .ok (.invokevirtual 113, 3) := by decide +kernel
theorem dX10_spin_20 : decode cX10_spin 20 = .ok (.istore_n 3, 1) := by decide +kernel
theorem dX10_spin_21 : decode cX10_spin 21 = .ok (.aload_n 0, 1) := by decide +kernel
theorem dX10_spin_22 : decode cX10_spin 22 = .ok (.getfield 19, 3) := by decide +kernel
theorem dX10_spin_25 : decode cX10_spin 25 = .ok (.iconst 0, 1) := by decide +kernel
theorem dX10_spin_26 : decode cX10_spin 26 = .ok (.iload_n 2, 1) := by decide +kernel
theorem dX10_spin_27 : decode cX10_spin 27 = .ok (.invokevirtual 113, 3) := by decide +kernel
theorem dX10_spin_30 : decode cX10_spin 30 = .ok (.istore 4, 2) := by decide +kernel
theorem dX10_spin_32 : decode cX10_spin 32 = .ok (.aload_n 0, 1) := by decide +kernel
theorem dX10_spin_33 : decode cX10_spin 33 = .ok (.getfield 26, 3) := by decide +kernel
theorem dX10_spin_36 : decode cX10_spin 36 = .ok (.iload_n 1, 1) := by decide +kernel
theorem dX10_spin_37 : decode cX10_spin 37 = .ok (.invokevirtual 101, 3) := by decide +kernel
theorem dX10_spin_40 : decode cX10_spin 40 = .ok (.ifCond .eq 17, 3) := by decide +kernel
theorem dX10_spin_43 : decode cX10_spin 43 = .ok (.aload_n 0, 1) := by decide +kernel
theorem dX10_spin_44 : decode cX10_spin 44 = .ok (.getfield 26, 3) := by decide +kernel
theorem dX10_spin_47 : decode cX10_spin 47 = .ok (.iload_n 1, 1) := by decide +kernel
theorem dX10_spin_48 : decode cX10_spin 48 = .ok (.iload_n 3, 1) := by decide +kernel
theorem dX10_spin_49 : decode cX10_spin 49 = .ok (.iload 4, 2) := by decide +kernel
theorem dX10_spin_51 : decode cX10_spin 51 = .ok (.invokevirtual 117, 3) := by decide +kernel
theorem dX10_spin_54 : decode cX10_spin 54 = .ok (.ifCond .ne 6, 3) := by decide +kernel
theorem dX10_spin_57 : decode cX10_spin 57 = .ok (.bipush (-103), 2) := by decide +kernel
theorem dX10_spin_59 : decode cX10_spin 59 = .ok (.ireturn, 1) := by decide +kernel
theorem dX10_spin_60 : decode cX10_spin 60 = .ok (.aload_n 0, 1) := by decide +kernel
theorem dX10_spin_61 : decode cX10_spin 61 = .ok (.getfield 26, 3) := by decide +kernel
theorem dX10_spin_64 : decode cX10_spin 64 = .ok (.getfield 121, 3) := by decide +kernel
theorem dX10_spin_67 : decode cX10_spin 67 = .ok (.bipush 8, 2) := by decide +kernel
theorem dX10_spin_69 : decode cX10_spin 69 = .ok (.if_icmp .lt 6, 3) := by decide +kernel
theorem dX10_spin_72 : decode cX10_spin 72 = .ok (.bipush (-104), 2) := by decide +kernel
theorem dX10_spin_74 : decode cX10_spin 74 = .ok (.ireturn, 1) := by decide +kernel
theorem dX10_spin_75 : decode cX10_spin 75 = .ok (.aload_n 0, 1) := by decide +kernel
theorem dX10_spin_76 : decode cX10_spin 76 = .ok (.getfield 26, 3) := by decide +kernel
theorem dX10_spin_79 : decode cX10_spin 79 = .ok (.iload_n 1, 1) := by decide +kernel
theorem dX10_spin_80 : decode cX10_spin 80 = .ok (.iload_n 3, 1) := by decide +kernel
theorem dX10_spin_81 : decode cX10_spin 81 = .ok (.iload 4, 2) := by decide +kernel
theorem dX10_spin_83 : decode cX10_spin 83 = .ok (.invokevirtual 124, 3) := by decide +kernel
theorem dX10_spin_86 : decode cX10_spin 86 = .ok (.aload_n 0, 1) := by decide +kernel
theorem dX10_spin_87 : decode cX10_spin 87 = .ok (.getfield 26, 3) := by decide +kernel
theorem dX10_spin_90 : decode cX10_spin 90 = .ok (.iload_n 1, 1) := by decide +kernel
theorem dX10_spin_91 : decode cX10_spin 91 = .ok (.iload_n 2, 1) := by decide +kernel
theorem dX10_spin_92 : decode cX10_spin 92 = .ok (.invokevirtual 128, 3) := by decide +kernel
theorem dX10_spin_95 : decode cX10_spin 95 = .ok (.aload_n 0, 1) := by decide +kernel
theorem dX10_spin_96 : decode cX10_spin 96 = .ok (.getfield 26, 3) := by decide +kernel
theorem dX10_spin_99 : decode cX10_spin 99 = .ok (.getfield 121, 3) := by decide +kernel
theorem dX10_spin_102 : decode cX10_spin 102 = .ok (.ireturn, 1) := by decide +kernel
set_option maxRecDepth 20000 in
theorem ggX10_stop_X10_isEgg : GoodIn wsX10_stop wsX10_isEgg := goodIn_r _ [7, 2, 63, 64, 65, 66, 67, 68, 69, 70, 71, 72, 73, 74, 75, 76, 77, 78, 79, 80] (by decide +kernel) (by decide +kernel)
set_option maxRecDepth 20000 in
theorem gX10_stop_X10_isEgg : GoodIn wsX10_stop (wsV RX10 93 RX10 yX10_isEgg wsX10_isEgg) := goodIn_app (goodIn_of _ (by decide +kernel)) ggX10_stop_X10_isEgg
set_option maxRecDepth 20000 in
theorem ggX10_stop_X8_isInBox : GoodIn wsX10_stop wsX8_isInBox := goodIn_r _ [12, 13, 14, 6, 15, 81, 82, 83, 84, 85, 86, 87, 88] (by decide +kernel) (by decide +kernel)
set_option maxRecDepth 20000 in
theorem gX10_stop_X8_isInBox : GoodIn wsX10_stop (wsV RX10 101 RX8 yX8_isInBox wsX8_isInBox) := goodIn_app (goodIn_of _ (by decide +kernel)) ggX10_stop_X8_isInBox
set_option maxRecDepth 20000 in
theorem ggX10_stop_X8_takeOut : GoodIn wsX10_stop wsX8_takeOut := goodIn_r _ [19, 13, 81, 82, 83, 84, 85, 86, 87, 88] (by decide +kernel) (by decide +kernel)
set_option maxRecDepth 20000 in
theorem gX10_stop_X8_takeOut : GoodIn wsX10_stop (wsV RX10 135 RX8 yX8_takeOut wsX8_takeOut) := goodIn_app (goodIn_of _ (by decide +kernel)) ggX10_stop_X8_takeOut
set_option maxRecDepth 20000 in
theorem ggX10_stop_X8_canBeSure : GoodIn wsX10_stop wsX8_canBeSure := goodIn_r _ [23, 24, 25, 26, 11, 27, 28, 29, 30, 31, 32, 33, 34, 14, 6, 15, 35, 36, 37, 38, 81, 82, 83, 84, 85, 86, 87, 88] (by decide +kernel) (by decide +kernel)
set_option maxRecDepth 20000 in
theorem gX10_stop_X8_canBeSure : GoodIn wsX10_stop (wsV RX10 139 RX8 yX8_canBeSure wsX8_canBeSure) := goodIn_app (goodIn_of _ (by decide +kernel)) ggX10_stop_X8_canBeSure
set_option maxRecDepth 20000 in
theorem ggX10_stop_X8_makeSure : GoodIn wsX10_stop wsX8_makeSure := goodIn_r _ [42, 43, 44, 45, 46, 11, 47, 32, 33, 34, 14, 6, 15, 48, 49, 50, 51, 81, 82, 83, 84, 85, 86, 87, 88] (by decide +kernel) (by decide +kernel)
set_option maxRecDepth 20000 in
theorem gX10_stop_X8_makeSure : GoodIn wsX10_stop (wsV RX10 143 RX8 yX8_makeSure wsX8_makeSure) := goodIn_app (goodIn_of _ (by decide +kernel)) ggX10_stop_X8_makeSure
set_option maxRecDepth 20000 in
theorem ggX10_stop_X8_howManyInBox : GoodIn wsX10_stop wsX8_howManyInBox := goodIn_r _ [55, 13, 56, 57, 58, 59, 60, 61, 62, 81, 82, 83, 84, 85, 86, 87, 88] (by decide +kernel) (by decide +kernel)
set_option maxRecDepth 20000 in
theorem gX10_stop_X8_howManyInBox : GoodIn wsX10_stop (wsV RX10 146 RX8 yX8_howManyInBox wsX8_howManyInBox) := goodIn_app (goodIn_of _ (by decide +kernel)) ggX10_stop_X8_howManyInBox
theorem dX10_stop_0 : decode cX10_stop 0 = .ok (.aload_n 0, 1) := by decide +kernel
theorem dX10_stop_1 : decode cX10_stop 1 = .ok (.iload_n 1, 1) := by decide +kernel
theorem dX10_stop_2 : decode cX10_stop 2 = .ok (.invokevirtual 93, 3) := by decide +kernel
theorem dX10_stop_5 : decode cX10_stop 5 = .ok (.ifCond .ne 6, 3) := by decide +kernel
theorem dX10_stop_8 : decode cX10_stop 8 = .ok (.bipush (-101), 2) := by decide +kernel
theorem dX10_stop_10 : decode cX10_stop 10 = .ok (.ireturn, 1) := by decide +kernel
theorem dX10_stop_11 : decode cX10_stop 11 = .ok (.iload_n 2, 1) := by decide +kernel
theorem dX10_stop_12 : decode cX10_stop 12 = .ok (.ifCond .lt 8, 3) := by decide +kernel
theorem dX10_stop_15 : decode cX10_stop 15 = .ok (.iload_n 2, 1) := by decide +kernel
theorem dX10_stop_16 : decode cX10_stop 16 = .ok (.iconst 2, 1) := by decide +kernel
theorem dX10_stop_17 : decode cX10_stop 17 = .ok (.if_icmp .le 6, 3) := by decide +kernel
theorem dX10_stop_20 : decode cX10_stop 20 = .ok (.bipush (-102), 2) := by decide +kernel
theorem dX10_stop_22 : decode cX10_stop 22 = .ok (.ireturn, 1) := by decide +kernel
theorem dX10_stop_23 : decode cX10_stop 23 = .ok (.aload_n 0, 1) := by decide +kernel
theorem dX10_stop_24 : decode cX10_stop 24 = .ok (.getfield 26, 3) := by decide +kernel
theorem dX10_stop_27 : decode cX10_stop 27 = .ok (.iload_n 1, 1) := by decide +kernel
theorem dX10_stop_28 : decode cX10_stop 28 = .ok (.invokevirtual 101, 3) := by decide +kernel
theorem dX10_stop_31 : decode cX10_stop 31 = .ok (.ifCond .ne 6, 3) := by decide +kernel
theorem dX10_stop_34 : decode cX10_stop 34 = .ok (.bipush (-103), 2) := by decide +kernel
theorem dX10_stop_36 : decode cX10_stop 36 = .ok (.ireturn, 1) := by decide +kernel
theorem dX10_stop_37 : decode cX10_stop 37 = .ok (.iload_n 2, 1) := by decide +kernel
theorem dX10_stop_38 : decode cX10_stop 38 = .ok (.iconst 2, 1) := by decide +kernel
theorem dX10_stop_39 : decode cX10_stop 39 = .ok (.if_icmp .ne 27, 3) := by decide +kernel
theorem dX10_stop_42 : decode cX10_stop 42 = .ok (.aload_n 0, 1) := by decide +kernel
theorem dX10_stop_43 : decode cX10_stop 43 = .ok (.getfield 19, 3) := by decide +kernel
theorem dX10_stop_46 : decode cX10_stop 46 = .ok (.getfield 132, 3) := by decide +kernel
theorem dX10_stop_49 : decode cX10_stop 49 = .ok (.ifCond .ne 6, 3) := by decide +kernel
theorem dX10_stop_52 : decode cX10_stop 52 = .ok (.bipush (-103), 2) := by decide +kernel
theorem dX10_stop_54 : decode cX10_stop 54 = .ok (.ireturn, 1) := by decide +kernel
theorem dX10_stop_55 : decode cX10_stop 55 = .ok (.aload_n 0, 1) := by decide +kernel
theorem dX10_stop_56 : decode cX10_stop 56 = .ok (.getfield 26, 3) := by decide +kernel
theorem dX10_stop_59 : decode cX10_stop 59 = .ok (.iload_n 1, 1) := by decide +kernel
theorem dX10_stop_60 : decode cX10_stop 60 = .ok (.invokevirtual 135, 3) := by decide +kernel
theorem dX10_stop_63 : decode cX10_stop 63 = .ok (.goto 45, 3) := by decide +kernel
theorem dX10_stop_66 : decode cX10_stop 66 = .ok (.aload_n 0, 1) := by decide +kernel
theorem dX10_stop_67 : decode cX10_stop 67 = .ok (.getfield 26, 3) := by decide +kernel
theorem dX10_stop_70 : decode cX10_stop 70 = .ok (.iload_n 1, 1) := by decide +kernel
theorem dX10_stop_71 : decode cX10_stop 71 = .ok (.iload_n 2, 1) := by decide +kernel
theorem dX10_stop_72 : decode cX10_stop 72 = .ok (.iconst 1, 1) := by decide +kernel
theorem dX10_stop_73 : decode cX10_stop 73 = .ok (.if_icmp .ne 7, 3) := by decide +kernel
theorem dX10_stop_76 : decode cX10_stop 76 = .ok (.iconst 1, 1) := by decide +kernel
theorem dX10_stop_77 : decode cX10_stop 77 = .ok (.goto 4, 3) := by decide +kernel
theorem dX10_stop_80 : decode cX10_stop 80 = .ok (.iconst 0, 1) := by decide +kernel
theorem dX10_stop_81 : decode cX10_stop 81 = .ok (.invokevirtual 139, 3) := by decide +kernel
theorem dX10_stop_84 : decode cX10_stop 84 = .ok (.ifCond .ne 6, 3) := by decide +kernel
theorem dX10_stop_87 : decode cX10_stop 87 = .ok (.bipush (-103), 2) := by decide +kernel
theorem dX10_stop_89 : decode cX10_stop 89 = .ok (.ireturn, 1) := by decide +kernel
theorem dX10_stop_90 : decode cX10_stop 90 = .ok (.aload_n 0, 1) := by decide +kernel
theorem dX10_stop_91 : decode cX10_stop 91 = .ok (.getfield 26, 3) := by decide +kernel
theorem dX10_stop_94 : decode cX10_stop 94 = .ok (.iload_n 1, 1) := by decide +kernel
theorem dX10_stop_95 : decode cX10_stop 95 = .ok (.iload_n 2, 1) := by decide +kernel
theorem dX10_stop_96 : decode cX10_stop 96 = .ok (.iconst 1, 1) := by decide +kernel
theorem dX10_stop_97 : decode cX10_stop 97 = .ok (.if_icmp .ne 7, 3) := by decide +kernel
theorem dX10_stop_100 : decode cX10_stop 100 = .ok (.iconst 1, 1) := by decide +kernel
theorem dX10_stop_101 : decode cX10_stop 101 = .ok (.goto 4, 3) := by decide +kernel
theorem dX10_stop_104 : decode cX10_stop 104 = .ok (.iconst 0, 1) := by decide +kernel
theorem dX10_stop_105 : decode cX10_stop 105 = .ok (.invokevirtual 143, 3) := by decide +kernel
theorem dX10_stop_108 : decode cX10_stop 108 = .ok (.aload_n 0, 1) := by decide +kernel
theorem dX10_stop_109 : decode cX10_stop 109 = .ok (.getfield 26, 3) := by decide +kernel
theorem dX10_stop_112 : decode cX10_stop 112 = .ok (.invokevirtual 146, 3) := by decide +kernel
theorem dX10_stop_115 : decode cX10_stop 115 = .ok (.ireturn, 1) := by decide +kernel
set_option maxRecDepth 20000 in
theorem ggX10_crack_X10_isEgg : GoodIn wsX10_crack wsX10_isEgg := goodIn_r _ [6, 7, 63, 64, 65, 66, 67, 68, 69, 70, 71, 72, 73, 74, 75, 76, 77, 78, 79, 80] (by decide +kernel) (by decide +kernel)
set_option maxRecDepth 20000 in
theorem gX10_crack_X10_isEgg : GoodIn wsX10_crack (wsV RX10 93 RX10 yX10_isEgg wsX10_isEgg) := goodIn_app (goodIn_of _ (by decide +kernel)) ggX10_crack_X10_isEgg
set_option maxRecDepth 20000 in
theorem ggX10_crack_X8_isInBox : GoodIn wsX10_crack wsX8_isInBox := goodIn_r _ [12, 13, 14, 5, 15, 81, 82, 83, 84, 85, 86, 87, 88] (by decide +kernel) (by decide +kernel)
set_option maxRecDepth 20000 in
theorem gX10_crack_X8_isInBox : GoodIn wsX10_crack (wsV RX10 101 RX8 yX8_isInBox wsX8_isInBox) := goodIn_app (goodIn_of _ (by decide +kernel)) ggX10_crack_X8_isInBox
set_option maxRecDepth 20000 in
theorem ggX10_crack_X8_canBeSure : GoodIn wsX10_crack wsX8_canBeSure := goodIn_r _ [19, 20, 21, 22, 11, 23, 24, 25, 26, 27, 28, 29, 30, 14, 5, 15, 31, 32, 33, 34, 81, 82, 83, 84, 85, 86, 87, 88] (by decide +kernel) (by decide +kernel)
set_option maxRecDepth 20000 in
theorem gX10_crack_X8_canBeSure : GoodIn wsX10_crack (wsV RX10 139 RX8 yX8_canBeSure wsX8_canBeSure) := goodIn_app (goodIn_of _ (by decide +kernel)) ggX10_crack_X8_canBeSure
set_option maxRecDepth 20000 in
theorem ggX10_crack_X8_makeSure : GoodIn wsX10_crack wsX8_makeSure := goodIn_r _ [38, 39, 40, 41, 42, 11, 43, 28, 29, 30, 14, 5, 15, 44, 45, 46, 47, 81, 82, 83, 84, 85, 86, 87, 88] (by decide +kernel) (by decide +kernel)
set_option maxRecDepth 20000 in
theorem gX10_crack_X8_makeSure : GoodIn wsX10_crack (wsV RX10 143 RX8 yX8_makeSure wsX8_makeSure) := goodIn_app (goodIn_of _ (by decide +kernel)) ggX10_crack_X8_makeSure
set_option maxRecDepth 20000 in
theorem ggX10_crack_X8_takeOut : GoodIn wsX10_crack wsX8_takeOut := goodIn_r _ [51, 13, 81, 82, 83, 84, 85, 86, 87, 88] (by decide +kernel) (by decide +kernel)
set_option maxRecDepth 20000 in
theorem gX10_crack_X8_takeOut : GoodIn wsX10_crack (wsV RX10 135 RX8 yX8_takeOut wsX8_takeOut) := goodIn_app (goodIn_of _ (by decide +kernel)) ggX10_crack_X8_takeOut
set_option maxRecDepth 20000 in
theorem ggX10_crack_X8_howManyInBox : GoodIn wsX10_crack wsX8_howManyInBox := goodIn_r _ [55, 13, 56, 57, 58, 59, 60, 61, 62, 81, 82, 83, 84, 85, 86, 87, 88] (by decide +kernel) (by decide +kernel)
set_option maxRecDepth 20000 in
theorem gX10_crack_X8_howManyInBox : GoodIn wsX10_crack (wsV RX10 146 RX8 yX8_howManyInBox wsX8_howManyInBox) := goodIn_app (goodIn_of _ (by decide +kernel)) ggX10_crack_X8_howManyInBox
theorem dX10_crack_0 : decode cX10_crack 0 = .ok (.aload_n 0, 1) := by decide +kernel
theorem dX10_crack_1 : decode cX10_crack 1 = .ok (.iload_n 1, 1) := by decide +kernel
theorem dX10_crack_2 : decode cX10_crack 2 = .ok (.invokevirtual 93, 3) := by decide +kernel
theorem dX10_crack_5 : decode cX10_crack 5 = .ok (.ifCond .ne 6, 3) := by decide +kernel
theorem dX10_crack_8 : decode cX10_crack 8 = .ok (.bipush (-101), 2) := by decide +kernel
theorem dX10_crack_10 : decode cX10_crack 10 = .ok (.ireturn, 1) := by decide +kernel
theorem dX10_crack_11 : decode cX10_crack 11 = .ok (.aload_n 0, 1) := by decide +kernel
theorem dX10_crack_12 : decode cX10_crack 12 = .ok (.getfield 26, 3) := by decide +kernel
theorem dX10_crack_15 : decode cX10_crack 15 = .ok (.iload_n 1, 1) := by decide +kernel
theorem dX10_crack_16 : decode cX10_crack 16 = .ok (.invokevirtual 101, 3) := by decide +kernel
theorem dX10_crack_19 : decode cX10_crack 19 = .ok (.ifCond .eq 15, 3) := by decide +kernel
theorem dX10_crack_22 : decode cX10_crack 22 = .ok (.aload_n 0, 1) := by decide +kernel
theorem dX10_crack_23 : decode cX10_crack 23 = .ok (.getfield 26, 3) := by decide +kernel
theorem dX10_crack_26 : decode cX10_crack 26 = .ok (.iload_n 1, 1) := by decide +kernel
theorem dX10_crack_27 : decode cX10_crack 27 = .ok (.iload_n 2, 1) := by decide +kernel
theorem dX10_crack_28 : decode cX10_crack 28 = .ok (.invokevirtual 139, 3) := by decide +kernel
theorem dX10_crack_31 : decode cX10_crack 31 = .ok (.ifCond .ne 6, 3) := by decide +kernel
theorem dX10_crack_34 : decode cX10_crack 34 = .ok (.bipush (-103), 2) := by decide +kernel
theorem dX10_crack_36 : decode cX10_crack 36 = .ok (.ireturn, 1) := by decide +kernel
theorem dX10_crack_37 : decode cX10_crack 37 = .ok (.aload_n 0, 1) := by decide +kernel
theorem dX10_crack_38 : decode cX10_crack 38 = .ok (.getfield 26, 3) := by decide +kernel
theorem dX10_crack_41 : decode cX10_crack 41 = .ok (.iload_n 1, 1) := by decide +kernel
theorem dX10_crack_42 : decode cX10_crack 42 = .ok (.iload_n 2, 1) := by decide +kernel
theorem dX10_crack_43 : decode cX10_crack 43 = .ok (.invokevirtual 143, 3) := by decide +kernel
theorem dX10_crack_46 : decode cX10_crack 46 = .ok (.aload_n 0, 1) := by decide +kernel
theorem dX10_crack_47 : decode cX10_crack 47 = .ok (.getfield 26, 3) := by decide +kernel
theorem dX10_crack_50 : decode cX10_crack 50 = .ok (.iload_n 1, 1) := by decide +kernel
theorem dX10_crack_51 : decode cX10_crack 51 = .ok (.invokevirtual 135, 3) := by decide +kernel
theorem dX10_crack_54 : decode cX10_crack 54 = .ok (.aload_n 0, 1) := by decide +kernel
theorem dX10_crack_55 : decode cX10_crack 55 = .ok (.getfield 26, 3) := by decide +kernel
theorem dX10_crack_58 : decode cX10_crack 58 = .ok (.invokevirtual 146, 3) := by decide +kernel
theorem dX10_crack_61 : decode cX10_crack 61 = .ok (.ireturn, 1) := by decide +kernel
set_option maxRecDepth 20000 in
theorem ggX10_likely_X10_isEgg : GoodIn wsX10_likely wsX10_isEgg := goodIn_r _ [8, 9, 33, 34, 35, 36, 37, 38, 39, 40, 41, 42, 43, 44, 45, 46, 47, 48, 49, 50] (by decide +kernel) (by decide +kernel)
set_option maxRecDepth 20000 in
theorem gX10_likely_X10_isEgg : GoodIn wsX10_likely (wsV RX10 93 RX10 yX10_isEgg wsX10_isEgg) := goodIn_app (goodIn_of _ (by decide +kernel)) ggX10_likely_X10_isEgg
set_option maxRecDepth 20000 in
theorem ggX10_likely_X10_isPart : GoodIn wsX10_likely wsX10_isPart := goodIn_r _ [12] (by decide +kernel) (by decide +kernel)
set_option maxRecDepth 20000 in
theorem gX10_likely_X10_isPart : GoodIn wsX10_likely (va_wsS RX10 151 yX10_isPart wsX10_isPart) := goodIn_app (goodIn_of _ (by decide +kernel)) ggX10_likely_X10_isPart
set_option maxRecDepth 20000 in
theorem ggX10_likely_X8_boiledWeight : GoodIn wsX10_likely wsX8_boiledWeight := goodIn_r _ [17, 18, 19, 20, 21, 7, 22, 51, 52, 53, 54, 55, 56, 57, 58] (by decide +kernel) (by decide +kernel)
set_option maxRecDepth 20000 in
theorem gX10_likely_X8_boiledWeight : GoodIn wsX10_likely (wsV RX10 156 RX8 yX8_boiledWeight wsX8_boiledWeight) := goodIn_app (goodIn_of _ (by decide +kernel)) ggX10_likely_X8_boiledWeight
set_option maxRecDepth 20000 in
theorem ggX10_likely_X8_allWeight : GoodIn wsX10_likely wsX8_allWeight := goodIn_r _ [26, 18, 20, 51, 52, 53, 54, 55, 56, 57, 58] (by decide +kernel) (by decide +kernel)
set_option maxRecDepth 20000 in
theorem gX10_likely_X8_allWeight : GoodIn wsX10_likely (wsV RX10 160 RX8 yX8_allWeight wsX8_allWeight) := goodIn_app (goodIn_of _ (by decide +kernel)) ggX10_likely_X8_allWeight
set_option maxRecDepth 20000 in
theorem ggX10_likely_X10_inLowestTerms : GoodIn wsX10_likely wsX10_inLowestTerms := goodIn_r _ [29, 30, 31, 7, 32] (by decide +kernel) (by decide +kernel)
set_option maxRecDepth 20000 in
theorem gX10_likely_X10_inLowestTerms : GoodIn wsX10_likely (va_wsS RX10 164 yX10_inLowestTerms wsX10_inLowestTerms) := goodIn_app (goodIn_of _ (by decide +kernel)) ggX10_likely_X10_inLowestTerms
theorem dX10_likely_0 : decode cX10_likely 0 = .ok (.aload_n 0, 1) := by decide +kernel
theorem dX10_likely_1 : decode cX10_likely 1 = .ok (.iload_n 1, 1) := by decide +kernel
theorem dX10_likely_2 : decode cX10_likely 2 = .ok (.invokevirtual 93, 3) := by decide +kernel
theorem dX10_likely_5 : decode cX10_likely 5 = .ok (.ifCond .ne 7, 3) := by decide +kernel
theorem dX10_likely_8 : decode cX10_likely 8 = .ok (.ldc2_w 149, 3) := by decide +kernel
theorem dX10_likely_11 : decode cX10_likely 11 = .ok (.lreturn, 1) := by decide +kernel
theorem dX10_likely_12 : decode cX10_likely 12 = .ok (.iload_n 2, 1) := by decide +kernel
theorem dX10_likely_13 : decode cX10_likely 13 = .ok (.invokestatic 151, 3) := by decide +kernel
theorem dX10_likely_16 : decode cX10_likely 16 = .ok (.ifCond .ne 7, 3) := by decide +kernel
theorem dX10_likely_19 : decode cX10_likely 19 = .ok (.ldc2_w 154, 3) := by decide +kernel
theorem dX10_likely_22 : decode cX10_likely 22 = .ok (.lreturn, 1) := by decide +kernel
theorem dX10_likely_23 : decode cX10_likely 23 = .ok (.aload_n 0, 1) := by decide +kernel
theorem dX10_likely_24 : decode cX10_likely 24 = .ok (.getfield 26, 3) := by decide +kernel
theorem dX10_likely_27 : decode cX10_likely 27 = .ok (.iload_n 1, 1) := by decide +kernel
theorem dX10_likely_28 : decode cX10_likely 28 = .ok (.invokevirtual 156, 3) := by decide +kernel
theorem dX10_likely_31 : decode cX10_likely 31 = .ok (.aload_n 0, 1) := by decide +kernel
theorem dX10_likely_32 : decode cX10_likely 32 = .ok (.getfield 26, 3) := by decide +kernel
theorem dX10_likely_35 : decode cX10_likely 35 = .ok (.invokevirtual 160, 3) := by decide +kernel
theorem dX10_likely_38 : decode cX10_likely 38 = .ok (.iload_n 2, 1) := by decide +kernel
theorem dX10_likely_39 : decode cX10_likely 39 = .ok (.invokestatic 164, 3) := by decide +kernel
theorem dX10_likely_42 : decode cX10_likely 42 = .ok (.lreturn, 1) := by decide +kernel
set_option maxRecDepth 20000 in
theorem ggX10_likeliest_X10_hasKitchen : GoodIn wsX10_likeliest wsX10_hasKitchen := goodIn_r _ [6, 7, 16, 17, 18, 19, 20, 21, 22, 23, 24, 25, 26, 27, 28, 29, 30, 31, 32, 33] (by decide +kernel) (by decide +kernel)
set_option maxRecDepth 20000 in
theorem gX10_likeliest_X10_hasKitchen : GoodIn wsX10_likeliest (wsV RX10 168 RX10 yX10_hasKitchen wsX10_hasKitchen) := goodIn_app (goodIn_of _ (by decide +kernel)) ggX10_likeliest_X10_hasKitchen
set_option maxRecDepth 20000 in
theorem ggX10_likeliest_X8_heaviestBox : GoodIn wsX10_likeliest wsX8_heaviestBox := goodIn_r _ [12, 13, 14, 15, 34, 35, 36, 37, 38, 39, 40, 41] (by decide +kernel) (by decide +kernel)
set_option maxRecDepth 20000 in
theorem gX10_likeliest_X8_heaviestBox : GoodIn wsX10_likeliest (wsV RX10 171 RX8 yX8_heaviestBox wsX8_heaviestBox) := goodIn_app (goodIn_of _ (by decide +kernel)) ggX10_likeliest_X8_heaviestBox
theorem dX10_likeliest_0 : decode cX10_likeliest 0 = .ok (.aload_n 0, 1) := by decide +kernel
theorem dX10_likeliest_1 : decode cX10_likeliest 1 = .ok (.invokevirtual 168, 3) := by decide +kernel
theorem dX10_likeliest_4 : decode cX10_likeliest 4 = .ok (.ifCond .ne 6, 3) := by decide +kernel
theorem dX10_likeliest_7 : decode cX10_likeliest 7 = .ok (.bipush (-103), 2) := by decide +kernel
theorem dX10_likeliest_9 : decode cX10_likeliest 9 = .ok (.ireturn, 1) := by decide +kernel
theorem dX10_likeliest_10 : decode cX10_likeliest 10 = .ok (.aload_n 0, 1) := by decide +kernel
theorem dX10_likeliest_11 : decode cX10_likeliest 11 = .ok (.getfield 26, 3) := by decide +kernel
theorem dX10_likeliest_14 : decode cX10_likeliest 14 = .ok (.invokevirtual 171, 3) := by decide +kernel
theorem dX10_likeliest_17 : decode cX10_likeliest 17 = .ok (.ireturn, 1) := by decide +kernel
set_option maxRecDepth 20000 in
theorem ggX10_turning_X10_isEgg : GoodIn wsX10_turning wsX10_isEgg := goodIn_r _ [8, 3, 23, 24, 25, 26, 27, 28, 29, 30, 31, 32, 33, 34, 35, 36, 37, 38, 39, 40] (by decide +kernel) (by decide +kernel)
set_option maxRecDepth 20000 in
theorem gX10_turning_X10_isEgg : GoodIn wsX10_turning (wsV RX10 93 RX10 yX10_isEgg wsX10_isEgg) := goodIn_app (goodIn_of _ (by decide +kernel)) ggX10_turning_X10_isEgg
set_option maxRecDepth 20000 in
theorem ggX10_turning_X8_boiledWeight : GoodIn wsX10_turning wsX8_boiledWeight := goodIn_r _ [13, 14, 15, 16, 17, 7, 18, 41, 42, 43, 44, 45, 46, 47, 48] (by decide +kernel) (by decide +kernel)
set_option maxRecDepth 20000 in
theorem gX10_turning_X8_boiledWeight : GoodIn wsX10_turning (wsV RX10 156 RX8 yX8_boiledWeight wsX8_boiledWeight) := goodIn_app (goodIn_of _ (by decide +kernel)) ggX10_turning_X8_boiledWeight
set_option maxRecDepth 20000 in
theorem ggX10_turning_X8_allWeight : GoodIn wsX10_turning wsX8_allWeight := goodIn_r _ [22, 14, 16, 41, 42, 43, 44, 45, 46, 47, 48] (by decide +kernel) (by decide +kernel)
set_option maxRecDepth 20000 in
theorem gX10_turning_X8_allWeight : GoodIn wsX10_turning (wsV RX10 160 RX8 yX8_allWeight wsX8_allWeight) := goodIn_app (goodIn_of _ (by decide +kernel)) ggX10_turning_X8_allWeight
theorem dX10_turning_0 : decode cX10_turning 0 = .ok (.aload_n 0, 1) := by decide +kernel
theorem dX10_turning_1 : decode cX10_turning 1 = .ok (.iload_n 1, 1) := by decide +kernel
theorem dX10_turning_2 : decode cX10_turning 2 = .ok (.invokevirtual 93, 3) := by decide +kernel
theorem dX10_turning_5 : decode cX10_turning 5 = .ok (.ifCond .ne 6, 3) := by decide +kernel
theorem dX10_turning_8 : decode cX10_turning 8 = .ok (.bipush (-101), 2) := by decide +kernel
theorem dX10_turning_10 : decode cX10_turning 10 = .ok (.ireturn, 1) := by decide +kernel
theorem dX10_turning_11 : decode cX10_turning 11 = .ok (.iload_n 2, 1) := by decide +kernel
theorem dX10_turning_12 : decode cX10_turning 12 = .ok (.iconst 1, 1) := by decide +kernel
theorem dX10_turning_13 : decode cX10_turning 13 = .ok (.if_icmp .lt 9, 3) := by decide +kernel
theorem dX10_turning_16 : decode cX10_turning 16 = .ok (.iload_n 2, 1) := by decide +kernel
theorem dX10_turning_17 : decode cX10_turning 17 = .ok (.bipush 10, 2) := by decide +kernel
theorem dX10_turning_19 : decode cX10_turning 19 = .ok (.if_icmp .lt 6, 3) := by decide +kernel
theorem dX10_turning_22 : decode cX10_turning 22 = .ok (.bipush (-102), 2) := by decide +kernel
theorem dX10_turning_24 : decode cX10_turning 24 = .ok (.ireturn, 1) := by decide +kernel
theorem dX10_turning_25 : decode cX10_turning 25 = .ok (.aload_n 0, 1) := by decide +kernel
theorem dX10_turning_26 : decode cX10_turning 26 = .ok (.getfield 26, 3) := by decide +kernel
theorem dX10_turning_29 : decode cX10_turning 29 = .ok (.iload_n 1, 1) := by decide +kernel
theorem dX10_turning_30 : decode cX10_turning 30 = .ok (.invokevirtual 156, 3) := by decide +kernel
theorem dX10_turning_33 : decode cX10_turning 33 = .ok (.lstore_n 3, 1) := by decide +kernel
theorem dX10_turning_34 : decode cX10_turning 34 = .ok (.aload_n 0, 1) := by decide +kernel
theorem dX10_turning_35 : decode cX10_turning 35 = .ok (.getfield 26, 3) := by decide +kernel
theorem dX10_turning_38 : decode cX10_turning 38 = .ok (.invokevirtual 160, 3) := by decide +kernel
theorem dX10_turning_41 : decode cX10_turning 41 = .ok (.lload_n 3, 1) := by decide +kernel
theorem dX10_turning_42 : decode cX10_turning 42 = .ok (.lsub, 1) := by decide +kernel
theorem dX10_turning_43 : decode cX10_turning 43 = .ok (.lstore 5, 2) := by decide +kernel
theorem dX10_turning_45 : decode cX10_turning 45 = .ok (.iconst 0, 1) := by decide +kernel
theorem dX10_turning_46 : decode cX10_turning 46 = .ok (.istore 7, 2) := by decide +kernel
theorem dX10_turning_48 : decode cX10_turning 48 = .ok (.iload 7, 2) := by decide +kernel
theorem dX10_turning_50 : decode cX10_turning 50 = .ok (.iconst 5, 1) := by decide +kernel
theorem dX10_turning_51 : decode cX10_turning 51 = .ok (.if_icmp .gt 63, 3) := by decide +kernel
theorem dX10_turning_54 : decode cX10_turning 54 = .ok (.lload_n 3, 1) := by decide +kernel
theorem dX10_turning_55 : decode cX10_turning 55 = .ok (.lload 5, 2) := by decide +kernel
theorem dX10_turning_57 : decode cX10_turning 57 = .ok (.ladd, 1) := by decide +kernel
theorem dX10_turning_58 : decode cX10_turning 58 = .ok (.lstore 8, 2) := by decide +kernel
theorem dX10_turning_60 : decode cX10_turning 60 = .ok (.lload 8, 2) := by decide +kernel
theorem dX10_turning_62 : decode cX10_turning 62 = .ok (.lconst 0, 1) := by decide +kernel
theorem dX10_turning_63 : decode cX10_turning 63 = .ok (.lcmp, 1) := by decide +kernel
theorem dX10_turning_64 : decode cX10_turning 64 = .ok (.ifCond .le 20, 3) := by decide +kernel
theorem dX10_turning_67 : decode cX10_turning 67 = .ok (.lload_n 3, 1) := by decide +kernel
theorem dX10_turning_68 : decode cX10_turning 68 = .ok (.ldc2_w 174, 3) := by decide +kernel
theorem dX10_turning_71 : decode cX10_turning 71 = .ok (.lmul, 1) := by decide +kernel
theorem dX10_turning_72 : decode cX10_turning 72 = .ok (.lload 8, 2) := by decide +kernel
theorem dX10_turning_74 : decode cX10_turning 74 = .ok (.iload_n 2, 1) := by decide +kernel
theorem dX10_turning_75 : decode cX10_turning 75 = .ok (.i2l, 1) := by decide +kernel
theorem dX10_turning_76 : decode cX10_turning 76 = .ok (.lmul, 1) := by decide +kernel
theorem dX10_turning_77 : decode cX10_turning 77 = .ok (.lcmp, 1) := by decide +kernel
theorem dX10_turning_78 : decode cX10_turning 78 = .ok (.ifCond .lt 6, 3) := by decide +kernel
theorem dX10_turning_81 : decode cX10_turning 81 = .ok (.iload 7, 2) := by decide +kernel
theorem dX10_turning_83 : decode cX10_turning 83 = .ok (.ireturn, 1) := by decide +kernel
theorem dX10_turning_84 : decode cX10_turning 84 = .ok (.lload_n 3, 1) := by decide +kernel
theorem dX10_turning_85 : decode cX10_turning 85 = .ok (.aload_n 0, 1) := by decide +kernel
theorem dX10_turning_86 : decode cX10_turning 86 = .ok (.getfield 19, 3) := by decide +kernel
theorem dX10_turning_89 : decode cX10_turning 89 = .ok (.getfield 176, 3) := by decide +kernel
theorem dX10_turning_92 : decode cX10_turning 92 = .ok (.i2l, 1) := by decide +kernel
theorem dX10_turning_93 : decode cX10_turning 93 = .ok (.lmul, 1) := by decide +kernel
theorem dX10_turning_94 : decode cX10_turning 94 = .ok (.lstore_n 3, 1) := by decide +kernel
theorem dX10_turning_95 : decode cX10_turning 95 = .ok (.lload 5, 2) := by decide +kernel
theorem dX10_turning_97 : decode cX10_turning 97 = .ok (.aload_n 0, 1) := by decide +kernel
theorem dX10_turning_98 : decode cX10_turning 98 = .ok (.getfield 19, 3) := by decide +kernel
theorem dX10_turning_101 : decode cX10_turning 101 = .ok (.getfield 179, 3) := by decide +kernel
theorem dX10_turning_104 : decode cX10_turning 104 = .ok (.i2l, 1) := by decide +kernel
theorem dX10_turning_105 : decode cX10_turning 105 = .ok (.lmul, 1) := by decide +kernel
theorem dX10_turning_106 : decode cX10_turning 106 = .ok (.lstore 5, 2) := by decide +kernel
theorem dX10_turning_108 : decode cX10_turning 108 = .ok (.iinc 7 1, 3) := by decide +kernel
theorem dX10_turning_111 : decode cX10_turning 111 = .ok (.goto (-63), 3) := by decide +kernel
theorem dX10_turning_114 : decode cX10_turning 114 = .ok (.iconst (-1), 1) := by decide +kernel
theorem dX10_turning_115 : decode cX10_turning 115 = .ok (.ireturn, 1) := by decide +kernel
set_option maxRecDepth 20000 in
theorem ggX10_worst_X10_isRawNumber : GoodIn wsX10_worst wsX10_isRawNumber := goodIn_r _ [7] (by decide +kernel) (by decide +kernel)
set_option maxRecDepth 20000 in
theorem gX10_worst_X10_isRawNumber : GoodIn wsX10_worst (va_wsS RX10 182 yX10_isRawNumber wsX10_isRawNumber) := goodIn_app (goodIn_of _ (by decide +kernel)) ggX10_worst_X10_isRawNumber
set_option maxRecDepth 20000 in
theorem ggX10_worst_X10_mayBreak : GoodIn wsX10_worst wsX10_mayBreak := goodIn_r _ [11, 1, 12, 13, 14, 6, 15, 16, 91, 92, 93, 94, 95, 96, 97, 98, 99, 100, 101, 102, 103, 104, 105, 106, 107, 108] (by decide +kernel) (by decide +kernel)
set_option maxRecDepth 20000 in
theorem gX10_worst_X10_mayBreak : GoodIn wsX10_worst (wsV RX10 185 RX10 yX10_mayBreak wsX10_mayBreak) := goodIn_app (goodIn_of _ (by decide +kernel)) ggX10_worst_X10_mayBreak
set_option maxRecDepth 20000 in
theorem ggX10_worst_X8_hasRawInBox : GoodIn wsX10_worst wsX8_hasRawInBox := goodIn_r _ [21, 22, 23, 24, 25, 26, 27, 28, 29, 30, 31, 109, 110, 111, 112, 113, 114, 115, 116] (by decide +kernel) (by decide +kernel)
set_option maxRecDepth 20000 in
theorem gX10_worst_X8_hasRawInBox : GoodIn wsX10_worst (wsV RX10 191 RX8 yX8_hasRawInBox wsX8_hasRawInBox) := goodIn_app (goodIn_of _ (by decide +kernel)) ggX10_worst_X8_hasRawInBox
set_option maxRecDepth 20000 in
theorem ggX10_worst_X1_solve : GoodIn wsX10_worst wsX1_solve := goodIn_r _ [36, 37, 38, 39, 40, 41, 20, 42, 23, 25, 26, 27, 28, 29, 30, 31, 43, 44, 45, 35, 46, 47, 48, 49, 50, 51, 52, 53, 54, 55, 56, 6, 57, 58, 59, 60, 61, 62, 63, 64, 65, 66, 67, 68, 69, 70, 71, 72, 73, 74, 75, 76, 77, 117, 118, 119, 120, 121, 122, 109, 110, 111, 112, 113, 114, 115, 116] (by decide +kernel) (by decide +kernel)
set_option maxRecDepth 20000 in
theorem gX10_worst_X1_solve : GoodIn wsX10_worst (wsV RX10 194 RX1 yX1_solve wsX1_solve) := goodIn_app (goodIn_of _ (by decide +kernel)) ggX10_worst_X1_solve
set_option maxRecDepth 20000 in
theorem ggX10_worst_X1_fewestAtWorst : GoodIn wsX10_worst wsX1_fewestAtWorst := goodIn_r _ [81, 63, 117, 118, 119, 120, 121, 122] (by decide +kernel) (by decide +kernel)
set_option maxRecDepth 20000 in
theorem gX10_worst_X1_fewestAtWorst : GoodIn wsX10_worst (wsV RX10 198 RX1 yX1_fewestAtWorst wsX1_fewestAtWorst) := goodIn_app (goodIn_of _ (by decide +kernel)) ggX10_worst_X1_fewestAtWorst
set_option maxRecDepth 20000 in
theorem ggX10_worst_X1_firstPlace : GoodIn wsX10_worst wsX1_firstPlace := goodIn_r _ [85, 70, 117, 118, 119, 120, 121, 122] (by decide +kernel) (by decide +kernel)
set_option maxRecDepth 20000 in
theorem gX10_worst_X1_firstPlace : GoodIn wsX10_worst (wsV RX10 201 RX1 yX1_firstPlace wsX1_firstPlace) := goodIn_app (goodIn_of _ (by decide +kernel)) ggX10_worst_X1_firstPlace
set_option maxRecDepth 20000 in
theorem ggX10_worst_X8_eggAtPlace : GoodIn wsX10_worst wsX8_eggAtPlace := goodIn_r _ [89, 90, 53, 54, 20, 55, 23, 56, 6, 57, 109, 110, 111, 112, 113, 114, 115, 116] (by decide +kernel) (by decide +kernel)
set_option maxRecDepth 20000 in
theorem gX10_worst_X8_eggAtPlace : GoodIn wsX10_worst (wsV RX10 204 RX8 yX8_eggAtPlace wsX8_eggAtPlace) := goodIn_app (goodIn_of _ (by decide +kernel)) ggX10_worst_X8_eggAtPlace
theorem dX10_worst_0 : decode cX10_worst 0 = .ok (.iload_n 1, 1) := by decide +kernel
theorem dX10_worst_1 : decode cX10_worst 1 = .ok (.invokestatic 182, 3) := by decide +kernel
theorem dX10_worst_4 : decode cX10_worst 4 = .ok (.ifCond .eq 12, 3) := by decide +kernel
theorem dX10_worst_7 : decode cX10_worst 7 = .ok (.iload_n 2, 1) := by decide +kernel
theorem dX10_worst_8 : decode cX10_worst 8 = .ok (.ifCond .lt 8, 3) := by decide +kernel
theorem dX10_worst_11 : decode cX10_worst 11 = .ok (.iload_n 2, 1) := by decide +kernel
theorem dX10_worst_12 : decode cX10_worst 12 = .ok (.iconst 1, 1) := by decide +kernel
theorem dX10_worst_13 : decode cX10_worst 13 = .ok (.if_icmp .le 6, 3) := by decide +kernel
theorem dX10_worst_16 : decode cX10_worst 16 = .ok (.bipush (-102), 2) := by decide +kernel
theorem dX10_worst_18 : decode cX10_worst 18 = .ok (.ireturn, 1) := by decide +kernel
theorem dX10_worst_19 : decode cX10_worst 19 = .ok (.aload_n 0, 1) := by decide +kernel
theorem dX10_worst_20 : decode cX10_worst 20 = .ok (.invokevirtual 185, 3) := by decide +kernel
theorem dX10_worst_23 : decode cX10_worst 23 = .ok (.ifCond .ne 6, 3) := by decide +kernel
theorem dX10_worst_26 : decode cX10_worst 26 = .ok (.bipush (-103), 2) := by decide +kernel
theorem dX10_worst_28 : decode cX10_worst 28 = .ok (.ireturn, 1) := by decide +kernel
theorem dX10_worst_29 : decode cX10_worst 29 = .ok (.aload_n 0, 1) := by decide +kernel
theorem dX10_worst_30 : decode cX10_worst 30 = .ok (.dup, 1) := by decide +kernel
theorem dX10_worst_31 : decode cX10_worst 31 = .ok (.getfield 188, 3) := by decide +kernel
theorem dX10_worst_34 : decode cX10_worst 34 = .ok (.iconst 1, 1) := by decide +kernel
theorem dX10_worst_35 : decode cX10_worst 35 = .ok (.iadd, 1) := by decide +kernel
theorem dX10_worst_36 : decode cX10_worst 36 = .ok (.putfield 188, 3) := by decide +kernel
theorem dX10_worst_39 : decode cX10_worst 39 = .ok (.aload_n 0, 1) := by decide +kernel
theorem dX10_worst_40 : decode cX10_worst 40 = .ok (.getfield 26, 3) := by decide +kernel
theorem dX10_worst_43 : decode cX10_worst 43 = .ok (.iload_n 1, 1) := by decide +kernel
theorem dX10_worst_44 : decode cX10_worst 44 = .ok (.invokevirtual 191, 3) := by decide +kernel
theorem dX10_worst_47 : decode cX10_worst 47 = .ok (.ifCond .ne 5, 3) := by decide +kernel
theorem dX10_worst_50 : decode cX10_worst 50 = .ok (.iconst (-1), 1) := by decide +kernel
theorem dX10_worst_51 : decode cX10_worst 51 = .ok (.ireturn, 1) := by decide +kernel
theorem dX10_worst_52 : decode cX10_worst 52 = .ok (.aload_n 0, 1) := by decide +kernel
theorem dX10_worst_53 : decode cX10_worst 53 = .ok (.getfield 36, 3) := by decide +kernel
theorem dX10_worst_56 : decode cX10_worst 56 = .ok (.aload_n 0, 1) := by decide +kernel
theorem dX10_worst_57 : decode cX10_worst 57 = .ok (.getfield 26, 3) := by decide +kernel
theorem dX10_worst_60 : decode cX10_worst 60 = .ok (.iload_n 1, 1) := by decide +kernel
theorem dX10_worst_61 : decode cX10_worst 61 = .ok (.invokevirtual 194, 3) := by decide +kernel
theorem dX10_worst_64 : decode cX10_worst 64 = .ok (.iload_n 2, 1) := by decide +kernel
theorem dX10_worst_65 : decode cX10_worst 65 = .ok (.ifCond .ne 13, 3) := by decide +kernel
theorem dX10_worst_68 : decode cX10_worst 68 = .ok (.aload_n 0, 1) := by decide +kernel
theorem dX10_worst_69 : decode cX10_worst 69 = .ok (.getfield 36, 3) := by decide +kernel
theorem dX10_worst_72 : decode cX10_worst 72 = .ok (.invokevirtual 198, 3) := by decide +kernel
theorem dX10_worst_75 : decode cX10_worst 75 = .ok (.goto 17, 3) := by decide +kernel
theorem dX10_worst_78 : decode cX10_worst 78 = .ok (.aload_n 0, 1) := by decide +kernel
theorem dX10_worst_79 : decode cX10_worst 79 = .ok (.getfield 26, 3) := by decide +kernel
theorem dX10_worst_82 : decode cX10_worst 82 = .ok (.aload_n 0, 1) := by decide +kernel
theorem dX10_worst_83 : decode cX10_worst 83 = .ok (.getfield 36, 3) := by decide +kernel
theorem dX10_worst_86 : decode cX10_worst 86 = .ok (.invokevirtual 201, 3) := by decide +kernel
theorem dX10_worst_89 : decode cX10_worst 89 = .ok (.invokevirtual 204, 3) := by decide +kernel
theorem dX10_worst_92 : decode cX10_worst 92 = .ok (.ireturn, 1) := by decide +kernel
set_option maxRecDepth 20000 in
theorem ggX10_mean_X10_isRawNumber : GoodIn wsX10_mean wsX10_isRawNumber := goodIn_r _ [10] (by decide +kernel) (by decide +kernel)
set_option maxRecDepth 20000 in
theorem gX10_mean_X10_isRawNumber : GoodIn wsX10_mean (va_wsS RX10 182 yX10_isRawNumber wsX10_isRawNumber) := goodIn_app (goodIn_of _ (by decide +kernel)) ggX10_mean_X10_isRawNumber
set_option maxRecDepth 20000 in
theorem ggX10_mean_X10_isPart : GoodIn wsX10_mean wsX10_isPart := goodIn_r _ [13] (by decide +kernel) (by decide +kernel)
set_option maxRecDepth 20000 in
theorem gX10_mean_X10_isPart : GoodIn wsX10_mean (va_wsS RX10 151 yX10_isPart wsX10_isPart) := goodIn_app (goodIn_of _ (by decide +kernel)) ggX10_mean_X10_isPart
set_option maxRecDepth 20000 in
theorem ggX10_mean_X10_mayBreak : GoodIn wsX10_mean wsX10_mayBreak := goodIn_r _ [17, 3, 18, 19, 20, 9, 21, 22, 99, 100, 101, 102, 103, 104, 105, 106, 107, 108, 109, 110, 111, 112, 113, 114, 115, 116] (by decide +kernel) (by decide +kernel)
set_option maxRecDepth 20000 in
theorem gX10_mean_X10_mayBreak : GoodIn wsX10_mean (wsV RX10 185 RX10 yX10_mayBreak wsX10_mayBreak) := goodIn_app (goodIn_of _ (by decide +kernel)) ggX10_mean_X10_mayBreak
set_option maxRecDepth 20000 in
theorem ggX10_mean_X8_hasRawInBox : GoodIn wsX10_mean wsX8_hasRawInBox := goodIn_r _ [27, 28, 29, 30, 31, 32, 33, 34, 35, 36, 37, 117, 118, 119, 120, 121, 122, 123, 124] (by decide +kernel) (by decide +kernel)
set_option maxRecDepth 20000 in
theorem gX10_mean_X8_hasRawInBox : GoodIn wsX10_mean (wsV RX10 191 RX8 yX8_hasRawInBox wsX8_hasRawInBox) := goodIn_app (goodIn_of _ (by decide +kernel)) ggX10_mean_X8_hasRawInBox
set_option maxRecDepth 20000 in
theorem ggX10_mean_X1_solve : GoodIn wsX10_mean wsX1_solve := goodIn_r _ [42, 43, 44, 45, 46, 47, 26, 48, 29, 31, 32, 33, 34, 35, 36, 37, 49, 50, 51, 41, 52, 53, 54, 55, 56, 57, 58, 59, 60, 61, 62, 9, 63, 64, 65, 66, 67, 68, 69, 70, 71, 72, 73, 74, 75, 76, 77, 78, 79, 80, 81, 82, 83, 125, 126, 127, 128, 129, 130, 117, 118, 119, 120, 121, 122, 123, 124] (by decide +kernel) (by decide +kernel)
set_option maxRecDepth 20000 in
theorem gX10_mean_X1_solve : GoodIn wsX10_mean (wsV RX10 194 RX1 yX1_solve wsX1_solve) := goodIn_app (goodIn_of _ (by decide +kernel)) ggX10_mean_X1_solve
set_option maxRecDepth 20000 in
theorem ggX10_mean_X1_fewestByWeight : GoodIn wsX10_mean wsX1_fewestByWeight := goodIn_r _ [87, 68, 125, 126, 127, 128, 129, 130] (by decide +kernel) (by decide +kernel)
set_option maxRecDepth 20000 in
theorem gX10_mean_X1_fewestByWeight : GoodIn wsX10_mean (wsV RX10 211 RX1 yX1_fewestByWeight wsX1_fewestByWeight) := goodIn_app (goodIn_of _ (by decide +kernel)) ggX10_mean_X1_fewestByWeight
set_option maxRecDepth 20000 in
theorem ggX10_mean_X8_allWeight : GoodIn wsX10_mean wsX8_allWeight := goodIn_r _ [91, 28, 92, 117, 118, 119, 120, 121, 122, 123, 124] (by decide +kernel) (by decide +kernel)
set_option maxRecDepth 20000 in
theorem gX10_mean_X8_allWeight : GoodIn wsX10_mean (wsV RX10 160 RX8 yX8_allWeight wsX8_allWeight) := goodIn_app (goodIn_of _ (by decide +kernel)) ggX10_mean_X8_allWeight
set_option maxRecDepth 20000 in
theorem ggX10_mean_X10_inLowestTerms : GoodIn wsX10_mean wsX10_inLowestTerms := goodIn_r _ [95, 96, 97, 9, 98] (by decide +kernel) (by decide +kernel)
set_option maxRecDepth 20000 in
theorem gX10_mean_X10_inLowestTerms : GoodIn wsX10_mean (va_wsS RX10 164 yX10_inLowestTerms wsX10_inLowestTerms) := goodIn_app (goodIn_of _ (by decide +kernel)) ggX10_mean_X10_inLowestTerms
theorem dX10_mean_0 : decode cX10_mean 0 = .ok (.iload_n 1, 1) := by decide +kernel
theorem dX10_mean_1 : decode cX10_mean 1 = .ok (.invokestatic 182, 3) := by decide +kernel
theorem dX10_mean_4 : decode cX10_mean 4 = .ok (.ifCond .eq 10, 3) := by decide +kernel
theorem dX10_mean_7 : decode cX10_mean 7 = .ok (.iload_n 2, 1) := by decide +kernel
theorem dX10_mean_8 : decode cX10_mean 8 = .ok (.invokestatic 151, 3) := by decide +kernel
theorem dX10_mean_11 : decode cX10_mean 11 = .ok (.ifCond .ne 7, 3) := by decide +kernel
theorem dX10_mean_14 : decode cX10_mean 14 = .ok (.ldc2_w 154, 3) := by decide +kernel
theorem dX10_mean_17 : decode cX10_mean 17 = .ok (.lreturn, 1) := by decide +kernel
theorem dX10_mean_18 : decode cX10_mean 18 = .ok (.aload_n 0, 1) := by decide +kernel
theorem dX10_mean_19 : decode cX10_mean 19 = .ok (.invokevirtual 185, 3) := by decide +kernel
theorem dX10_mean_22 : decode cX10_mean 22 = .ok (.ifCond .ne 7, 3) := by decide +kernel
theorem dX10_mean_25 : decode cX10_mean 25 = .ok (.ldc2_w 207, 3) := by decide +kernel
theorem dX10_mean_28 : decode cX10_mean 28 = .ok (.lreturn, 1) := by decide +kernel
theorem dX10_mean_29 : decode cX10_mean 29 = .ok (.aload_n 0, 1) := by decide +kernel
theorem dX10_mean_30 : decode cX10_mean 30 = .ok (.dup, 1) := by decide +kernel
theorem dX10_mean_31 : decode cX10_mean 31 = .ok (.getfield 188, 3) := by decide +kernel
theorem dX10_mean_34 : decode cX10_mean 34 = .ok (.iconst 1, 1) := by decide +kernel
theorem dX10_mean_35 : decode cX10_mean 35 = .ok (.iadd, 1) := by decide +kernel
theorem dX10_mean_36 : decode cX10_mean 36 = .ok (.putfield 188, 3) := by decide +kernel
theorem dX10_mean_39 : decode cX10_mean 39 = .ok (.aload_n 0, 1) := by decide +kernel
theorem dX10_mean_40 : decode cX10_mean 40 = .ok (.getfield 26, 3) := by decide +kernel
theorem dX10_mean_43 : decode cX10_mean 43 = .ok (.iload_n 1, 1) := by decide +kernel
theorem dX10_mean_44 : decode cX10_mean 44 = .ok (.invokevirtual 191, 3) := by decide +kernel
theorem dX10_mean_47 : decode cX10_mean 47 = .ok (.ifCond .ne 15, 3) := by decide +kernel
theorem dX10_mean_50 : decode cX10_mean 50 = .ok (.iload_n 2, 1) := by decide +kernel
theorem dX10_mean_51 : decode cX10_mean 51 = .ok (.ifCond .ne 9, 3) := by decide +kernel
theorem dX10_mean_54 : decode cX10_mean 54 = .ok (.ldc2_w 209, 3) := by decide +kernel
theorem dX10_mean_57 : decode cX10_mean 57 = .ok (.goto 4, 3) := by decide +kernel
theorem dX10_mean_60 : decode cX10_mean 60 = .ok (.lconst 0, 1) := by decide +kernel
theorem dX10_mean_61 : decode cX10_mean 61 = .ok (.lreturn, 1) := by decide +kernel
theorem dX10_mean_62 : decode cX10_mean 62 = .ok (.aload_n 0, 1) := by decide +kernel
theorem dX10_mean_63 : decode cX10_mean 63 = .ok (.getfield 36, 3) := by decide +kernel
theorem dX10_mean_66 : decode cX10_mean 66 = .ok (.aload_n 0, 1) := by decide +kernel
theorem dX10_mean_67 : decode cX10_mean 67 = .ok (.getfield 26, 3) := by decide +kernel
theorem dX10_mean_70 : decode cX10_mean 70 = .ok (.iload_n 1, 1) := by decide +kernel
theorem dX10_mean_71 : decode cX10_mean 71 = .ok (.invokevirtual 194, 3) := by decide +kernel
theorem dX10_mean_74 : decode cX10_mean 74 = .ok (.aload_n 0, 1) := by decide +kernel
theorem dX10_mean_75 : decode cX10_mean 75 = .ok (.getfield 36, 3) := by decide +kernel
theorem dX10_mean_78 : decode cX10_mean 78 = .ok (.invokevirtual 211, 3) := by decide +kernel
theorem dX10_mean_81 : decode cX10_mean 81 = .ok (.aload_n 0, 1) := by decide +kernel
theorem dX10_mean_82 : decode cX10_mean 82 = .ok (.getfield 26, 3) := by decide +kernel
theorem dX10_mean_85 : decode cX10_mean 85 = .ok (.invokevirtual 160, 3) := by decide +kernel
theorem dX10_mean_88 : decode cX10_mean 88 = .ok (.iload_n 2, 1) := by decide +kernel
theorem dX10_mean_89 : decode cX10_mean 89 = .ok (.invokestatic 164, 3) := by decide +kernel
theorem dX10_mean_92 : decode cX10_mean 92 = .ok (.lreturn, 1) := by decide +kernel
set_option maxRecDepth 20000 in
theorem ggX10_risk_X10_isEgg : GoodIn wsX10_risk wsX10_isEgg := goodIn_r _ [11, 5, 40, 41, 42, 43, 44, 45, 46, 47, 48, 49, 50, 51, 52, 53, 54, 55, 56, 57] (by decide +kernel) (by decide +kernel)
set_option maxRecDepth 20000 in
theorem gX10_risk_X10_isEgg : GoodIn wsX10_risk (wsV RX10 93 RX10 yX10_isEgg wsX10_isEgg) := goodIn_app (goodIn_of _ (by decide +kernel)) ggX10_risk_X10_isEgg
set_option maxRecDepth 20000 in
theorem ggX10_risk_X10_isPart : GoodIn wsX10_risk wsX10_isPart := goodIn_r _ [14] (by decide +kernel) (by decide +kernel)
set_option maxRecDepth 20000 in
theorem gX10_risk_X10_isPart : GoodIn wsX10_risk (va_wsS RX10 151 yX10_isPart wsX10_isPart) := goodIn_app (goodIn_of _ (by decide +kernel)) ggX10_risk_X10_isPart
set_option maxRecDepth 20000 in
theorem ggX10_risk_X8_isInBox : GoodIn wsX10_risk wsX8_isInBox := goodIn_r _ [19, 20, 21, 10, 22, 58, 59, 60, 61, 62, 63, 64, 65] (by decide +kernel) (by decide +kernel)
set_option maxRecDepth 20000 in
theorem gX10_risk_X8_isInBox : GoodIn wsX10_risk (wsV RX10 101 RX8 yX8_isInBox wsX8_isInBox) := goodIn_app (goodIn_of _ (by decide +kernel)) ggX10_risk_X8_isInBox
set_option maxRecDepth 20000 in
theorem ggX10_risk_X8_allWeight : GoodIn wsX10_risk wsX8_allWeight := goodIn_r _ [26, 27, 28, 58, 59, 60, 61, 62, 63, 64, 65] (by decide +kernel) (by decide +kernel)
set_option maxRecDepth 20000 in
theorem gX10_risk_X8_allWeight : GoodIn wsX10_risk (wsV RX10 160 RX8 yX8_allWeight wsX8_allWeight) := goodIn_app (goodIn_of _ (by decide +kernel)) ggX10_risk_X8_allWeight
set_option maxRecDepth 20000 in
theorem ggX10_risk_X8_boiledWeight : GoodIn wsX10_risk wsX8_boiledWeight := goodIn_r _ [32, 27, 33, 28, 21, 10, 22, 58, 59, 60, 61, 62, 63, 64, 65] (by decide +kernel) (by decide +kernel)
set_option maxRecDepth 20000 in
theorem gX10_risk_X8_boiledWeight : GoodIn wsX10_risk (wsV RX10 156 RX8 yX8_boiledWeight wsX8_boiledWeight) := goodIn_app (goodIn_of _ (by decide +kernel)) ggX10_risk_X8_boiledWeight
set_option maxRecDepth 20000 in
theorem ggX10_risk_X10_inLowestTerms : GoodIn wsX10_risk wsX10_inLowestTerms := goodIn_r _ [36, 37, 38, 10, 39] (by decide +kernel) (by decide +kernel)
set_option maxRecDepth 20000 in
theorem gX10_risk_X10_inLowestTerms : GoodIn wsX10_risk (va_wsS RX10 164 yX10_inLowestTerms wsX10_inLowestTerms) := goodIn_app (goodIn_of _ (by decide +kernel)) ggX10_risk_X10_inLowestTerms
theorem dX10_risk_0 : decode cX10_risk 0 = .ok (.aload_n 0, 1) := by decide +kernel
theorem dX10_risk_1 : decode cX10_risk 1 = .ok (.iload_n 1, 1) := by decide +kernel
theorem dX10_risk_2 : decode cX10_risk 2 = .ok (.invokevirtual 93, 3) := by decide +kernel
theorem dX10_risk_5 : decode cX10_risk 5 = .ok (.ifCond .ne 7, 3) := by decide +kernel
theorem dX10_risk_8 : decode cX10_risk 8 = .ok (.ldc2_w 149, 3) := by decide +kernel
theorem dX10_risk_11 : decode cX10_risk 11 = .ok (.lreturn, 1) := by decide +kernel
theorem dX10_risk_12 : decode cX10_risk 12 = .ok (.iload_n 2, 1) := by decide +kernel
theorem dX10_risk_13 : decode cX10_risk 13 = .ok (.invokestatic 151, 3) := by decide +kernel
theorem dX10_risk_16 : decode cX10_risk 16 = .ok (.ifCond .ne 7, 3) := by decide +kernel
theorem dX10_risk_19 : decode cX10_risk 19 = .ok (.ldc2_w 154, 3) := by decide +kernel
theorem dX10_risk_22 : decode cX10_risk 22 = .ok (.lreturn, 1) := by decide +kernel
theorem dX10_risk_23 : decode cX10_risk 23 = .ok (.aload_n 0, 1) := by decide +kernel
theorem dX10_risk_24 : decode cX10_risk 24 = .ok (.getfield 26, 3) := by decide +kernel
theorem dX10_risk_27 : decode cX10_risk 27 = .ok (.iload_n 1, 1) := by decide +kernel
theorem dX10_risk_28 : decode cX10_risk 28 = .ok (.invokevirtual 101, 3) := by decide +kernel
theorem dX10_risk_31 : decode cX10_risk 31 = .ok (.ifCond .ne 7, 3) := by decide +kernel
theorem dX10_risk_34 : decode cX10_risk 34 = .ok (.ldc2_w 207, 3) := by decide +kernel
theorem dX10_risk_37 : decode cX10_risk 37 = .ok (.lreturn, 1) := by decide +kernel
theorem dX10_risk_38 : decode cX10_risk 38 = .ok (.aload_n 0, 1) := by decide +kernel
theorem dX10_risk_39 : decode cX10_risk 39 = .ok (.getfield 26, 3) := by decide +kernel
theorem dX10_risk_42 : decode cX10_risk 42 = .ok (.invokevirtual 160, 3) := by decide +kernel
theorem dX10_risk_45 : decode cX10_risk 45 = .ok (.lstore_n 3, 1) := by decide +kernel
theorem dX10_risk_46 : decode cX10_risk 46 = .ok (.lload_n 3, 1) := by decide +kernel
theorem dX10_risk_47 : decode cX10_risk 47 = .ok (.aload_n 0, 1) := by decide +kernel
theorem dX10_risk_48 : decode cX10_risk 48 = .ok (.getfield 26, 3) := by decide +kernel
theorem dX10_risk_51 : decode cX10_risk 51 = .ok (.iload_n 1, 1) := by decide +kernel
theorem dX10_risk_52 : decode cX10_risk 52 = .ok (.invokevirtual 156, 3) := by decide +kernel
theorem dX10_risk_55 : decode cX10_risk 55 = .ok (.lsub, 1) := by decide +kernel
theorem dX10_risk_56 : decode cX10_risk 56 = .ok (.lstore 5, 2) := by decide +kernel
theorem dX10_risk_58 : decode cX10_risk 58 = .ok (.lload 5, 2) := by decide +kernel
theorem dX10_risk_60 : decode cX10_risk 60 = .ok (.aload_n 0, 1) := by decide +kernel
theorem dX10_risk_61 : decode cX10_risk 61 = .ok (.getfield 19, 3) := by decide +kernel
theorem dX10_risk_64 : decode cX10_risk 64 = .ok (.getfield 132, 3) := by decide +kernel
theorem dX10_risk_67 : decode cX10_risk 67 = .ok (.i2l, 1) := by decide +kernel
theorem dX10_risk_68 : decode cX10_risk 68 = .ok (.lmul, 1) := by decide +kernel
theorem dX10_risk_69 : decode cX10_risk 69 = .ok (.lload_n 3, 1) := by decide +kernel
theorem dX10_risk_70 : decode cX10_risk 70 = .ok (.ldc2_w 174, 3) := by decide +kernel
theorem dX10_risk_73 : decode cX10_risk 73 = .ok (.lmul, 1) := by decide +kernel
theorem dX10_risk_74 : decode cX10_risk 74 = .ok (.iload_n 2, 1) := by decide +kernel
theorem dX10_risk_75 : decode cX10_risk 75 = .ok (.invokestatic 164, 3) := by decide +kernel
theorem dX10_risk_78 : decode cX10_risk 78 = .ok (.lreturn, 1) := by decide +kernel
set_option maxRecDepth 20000 in
theorem ggX10_trier_X10_isKind : GoodIn wsX10_trier wsX10_isKind := goodIn_r _ [6] (by decide +kernel) (by decide +kernel)
set_option maxRecDepth 20000 in
theorem gX10_trier_X10_isKind : GoodIn wsX10_trier (va_wsS RX10 214 yX10_isKind wsX10_isKind) := goodIn_app (goodIn_of _ (by decide +kernel)) ggX10_trier_X10_isKind
set_option maxRecDepth 20000 in
theorem ggX10_trier_X10_hasKitchen : GoodIn wsX10_trier wsX10_hasKitchen := goodIn_r _ [10, 11, 43, 44, 45, 46, 47, 48, 49, 50, 51, 52, 53, 54, 55, 56, 57, 58, 59, 60] (by decide +kernel) (by decide +kernel)
set_option maxRecDepth 20000 in
theorem gX10_trier_X10_hasKitchen : GoodIn wsX10_trier (wsV RX10 168 RX10 yX10_hasKitchen wsX10_hasKitchen) := goodIn_app (goodIn_of _ (by decide +kernel)) ggX10_trier_X10_hasKitchen
set_option maxRecDepth 20000 in
theorem ggX10_trier_X10_newTrier : GoodIn wsX10_trier wsX10_newTrier := goodIn_r _ [14, 15, 16, 17, 18, 19, 20, 21, 22, 23, 24, 25, 26, 27, 28, 29, 30, 31, 32, 33, 34, 35, 36, 37, 38, 39, 40, 41, 42] (by decide +kernel) (by decide +kernel)
set_option maxRecDepth 20000 in
theorem gX10_trier_X10_newTrier : GoodIn wsX10_trier (va_wsS RX10 217 yX10_newTrier wsX10_newTrier) := goodIn_app (goodIn_of _ (by decide +kernel)) ggX10_trier_X10_newTrier
theorem dX10_trier_0 : decode cX10_trier 0 = .ok (.iload_n 1, 1) := by decide +kernel
theorem dX10_trier_1 : decode cX10_trier 1 = .ok (.invokestatic 214, 3) := by decide +kernel
theorem dX10_trier_4 : decode cX10_trier 4 = .ok (.ifCond .ne 6, 3) := by decide +kernel
theorem dX10_trier_7 : decode cX10_trier 7 = .ok (.bipush (-102), 2) := by decide +kernel
theorem dX10_trier_9 : decode cX10_trier 9 = .ok (.ireturn, 1) := by decide +kernel
theorem dX10_trier_10 : decode cX10_trier 10 = .ok (.aload_n 0, 1) := by decide +kernel
theorem dX10_trier_11 : decode cX10_trier 11 = .ok (.invokevirtual 168, 3) := by decide +kernel
theorem dX10_trier_14 : decode cX10_trier 14 = .ok (.ifCond .ne 6, 3) := by decide +kernel
theorem dX10_trier_17 : decode cX10_trier 17 = .ok (.bipush (-103), 2) := by decide +kernel
theorem dX10_trier_19 : decode cX10_trier 19 = .ok (.ireturn, 1) := by decide +kernel
theorem dX10_trier_20 : decode cX10_trier 20 = .ok (.aload_n 0, 1) := by decide +kernel
theorem dX10_trier_21 : decode cX10_trier 21 = .ok (.getfield 79, 3) := by decide +kernel
theorem dX10_trier_24 : decode cX10_trier 24 = .ok (.iconst 4, 1) := by decide +kernel
theorem dX10_trier_25 : decode cX10_trier 25 = .ok (.if_icmp .lt 6, 3) := by decide +kernel
theorem dX10_trier_28 : decode cX10_trier 28 = .ok (.bipush (-104), 2) := by decide +kernel
theorem dX10_trier_30 : decode cX10_trier 30 = .ok (.ireturn, 1) := by decide +kernel
theorem dX10_trier_31 : decode cX10_trier 31 = .ok (.aload_n 0, 1) := by decide +kernel
theorem dX10_trier_32 : decode cX10_trier 32 = .ok (.getfield 49, 3) := by decide +kernel
theorem dX10_trier_35 : decode cX10_trier 35 = .ok (.aload_n 0, 1) := by decide +kernel
theorem dX10_trier_36 : decode cX10_trier 36 = .ok (.getfield 79, 3) := by decide +kernel
theorem dX10_trier_39 : decode cX10_trier 39 = .ok (.iload_n 1, 1) := by decide +kernel
theorem dX10_trier_40 : decode cX10_trier 40 = .ok (.invokestatic 217, 3) := by decide +kernel
theorem dX10_trier_43 : decode cX10_trier 43 = .ok (.aastore, 1) := by decide +kernel
theorem dX10_trier_44 : decode cX10_trier 44 = .ok (.aload_n 0, 1) := by decide +kernel
theorem dX10_trier_45 : decode cX10_trier 45 = .ok (.dup, 1) := by decide +kernel
theorem dX10_trier_46 : decode cX10_trier 46 = .ok (.getfield 79, 3) := by decide +kernel
theorem dX10_trier_49 : decode cX10_trier 49 = .ok (.dup_x1, 1) := by decide +kernel
theorem dX10_trier_50 : decode cX10_trier 50 = .ok (.iconst 1, 1) := by decide +kernel
theorem dX10_trier_51 : decode cX10_trier 51 = .ok (.iadd, 1) := by decide +kernel
theorem dX10_trier_52 : decode cX10_trier 52 = .ok (.putfield 79, 3) := by decide +kernel
theorem dX10_trier_55 : decode cX10_trier 55 = .ok (.ireturn, 1) := by decide +kernel
set_option maxRecDepth 20000 in
theorem ggX10_about_X10_trierOf : GoodIn wsX10_about wsX10_trierOf := goodIn_r _ [6, 7, 8, 99, 100, 101, 102, 103, 104, 105, 106, 107, 108, 109, 110] (by decide +kernel) (by decide +kernel)
set_option maxRecDepth 20000 in
theorem gX10_about_X10_trierOf : GoodIn wsX10_about (wsV RX10 221 RX10 yX10_trierOf wsX10_trierOf) := goodIn_app (goodIn_of _ (by decide +kernel)) ggX10_about_X10_trierOf
set_option maxRecDepth 20000 in
theorem ggX10_about_X0_kind : GoodIn wsX10_about wsX0_kind := goodIn_r _ [15] (by decide +kernel) (by decide +kernel)
set_option maxRecDepth 20000 in
theorem gX10_about_X0_kind_u224X0 : GoodIn wsX10_about (va_wsO RX10 224 RX0 "BoiledEggs$Trier" ⟨"BoiledEggs$Trier", "kind", "()I"⟩ yX0_kind wsX0_kind) := goodIn_app (goodIn_of _ (by decide +kernel)) ggX10_about_X0_kind
set_option maxRecDepth 20000 in
theorem ggX10_about_X2_kind : GoodIn wsX10_about wsX2_kind := goodIn_r _ [20] (by decide +kernel) (by decide +kernel)
set_option maxRecDepth 20000 in
theorem gX10_about_X2_kind_u224X2 : GoodIn wsX10_about (va_wsO RX10 224 RX2 "BoiledEggs$Trier" ⟨"BoiledEggs$Trier", "kind", "()I"⟩ yX2_kind wsX2_kind) := goodIn_app (goodIn_of _ (by decide +kernel)) ggX10_about_X2_kind
set_option maxRecDepth 20000 in
theorem ggX10_about_X4_kind : GoodIn wsX10_about wsX4_kind := goodIn_r _ [24] (by decide +kernel) (by decide +kernel)
set_option maxRecDepth 20000 in
theorem gX10_about_X4_kind_u224X4 : GoodIn wsX10_about (va_wsO RX10 224 RX4 "BoiledEggs$Trier" ⟨"BoiledEggs$Trier", "kind", "()I"⟩ yX4_kind wsX4_kind) := goodIn_app (goodIn_of _ (by decide +kernel)) ggX10_about_X4_kind
set_option maxRecDepth 20000 in
theorem ggX10_about_X5_kind : GoodIn wsX10_about wsX5_kind := goodIn_r _ [28] (by decide +kernel) (by decide +kernel)
set_option maxRecDepth 20000 in
theorem gX10_about_X5_kind_u224X5 : GoodIn wsX10_about (va_wsO RX10 224 RX5 "BoiledEggs$Trier" ⟨"BoiledEggs$Trier", "kind", "()I"⟩ yX5_kind wsX5_kind) := goodIn_app (goodIn_of _ (by decide +kernel)) ggX10_about_X5_kind
set_option maxRecDepth 20000 in
theorem ggX10_about_X9_kind : GoodIn wsX10_about wsX9_kind := goodIn_r _ [16] (by decide +kernel) (by decide +kernel)
set_option maxRecDepth 20000 in
theorem gX10_about_X9_kind : GoodIn wsX10_about (wsV RX10 224 RX9 yX9_kind wsX9_kind) := goodIn_app (goodIn_of _ (by decide +kernel)) ggX10_about_X9_kind
set_option maxRecDepth 20000 in
theorem ggX10_about_X9_nextEgg : GoodIn wsX10_about wsX9_nextEgg := goodIn_r _ [37, 38, 39, 40, 41, 42, 43, 44, 5, 45, 46, 47, 48, 49, 50, 14, 51, 52, 53, 54, 55, 56, 57, 58, 59, 60, 61, 19, 62, 63, 64, 65, 66, 67, 68, 69, 70, 71, 72, 73, 74, 27, 75, 76, 77, 78, 79, 80, 32, 81, 82, 83, 84, 85, 86, 87, 88, 89, 23, 90, 91, 92, 93, 111, 112, 113, 114, 115, 116, 117, 118] (by decide +kernel) (by decide +kernel)
set_option maxRecDepth 20000 in
theorem gX10_about_X9_nextEgg_u227X0 : GoodIn wsX10_about (va_wsU RX10 227 RX0 "BoiledEggs$Trier" ⟨"BoiledEggs$Trier", "nextEgg", "(LBoiledEggs$Told;)I"⟩ yX9_nextEgg wsX9_nextEgg) := goodIn_app (goodIn_of _ (by decide +kernel)) ggX10_about_X9_nextEgg
set_option maxRecDepth 20000 in
theorem gX10_about_X9_nextEgg_u227X2 : GoodIn wsX10_about (va_wsU RX10 227 RX2 "BoiledEggs$Trier" ⟨"BoiledEggs$Trier", "nextEgg", "(LBoiledEggs$Told;)I"⟩ yX9_nextEgg wsX9_nextEgg) := goodIn_app (goodIn_of _ (by decide +kernel)) ggX10_about_X9_nextEgg
set_option maxRecDepth 20000 in
theorem gX10_about_X9_nextEgg_u227X4 : GoodIn wsX10_about (va_wsU RX10 227 RX4 "BoiledEggs$Trier" ⟨"BoiledEggs$Trier", "nextEgg", "(LBoiledEggs$Told;)I"⟩ yX9_nextEgg wsX9_nextEgg) := goodIn_app (goodIn_of _ (by decide +kernel)) ggX10_about_X9_nextEgg
set_option maxRecDepth 20000 in
theorem gX10_about_X9_nextEgg_u227X5 : GoodIn wsX10_about (va_wsU RX10 227 RX5 "BoiledEggs$Trier" ⟨"BoiledEggs$Trier", "nextEgg", "(LBoiledEggs$Told;)I"⟩ yX9_nextEgg wsX9_nextEgg) := goodIn_app (goodIn_of _ (by decide +kernel)) ggX10_about_X9_nextEgg
set_option maxRecDepth 20000 in
theorem gX10_about_X9_nextEgg : GoodIn wsX10_about (wsV RX10 227 RX9 yX9_nextEgg wsX9_nextEgg) := goodIn_app (goodIn_of _ (by decide +kernel)) ggX10_about_X9_nextEgg
theorem dX10_about_0 : decode cX10_about 0 = .ok (.aload_n 0, 1) := by decide +kernel
theorem dX10_about_1 : decode cX10_about 1 = .ok (.iload_n 1, 1) := by decide +kernel
theorem dX10_about_2 : decode cX10_about 2 = .ok (.invokevirtual 221, 3) := by decide +kernel
theorem dX10_about_5 : decode cX10_about 5 = .ok (.astore_n 3, 1) := by decide +kernel
theorem dX10_about_6 : decode cX10_about 6 = .ok (.aload_n 3, 1) := by decide +kernel
theorem dX10_about_7 : decode cX10_about 7 = .ok (.ifnonnull 6, 3) := by decide +kernel
theorem dX10_about_10 : decode cX10_about 10 = .ok (.bipush (-101), 2) := by decide +kernel
theorem dX10_about_12 : decode cX10_about 12 = .ok (.ireturn, 1) := by decide +kernel
theorem dX10_about_13 : decode cX10_about 13 = .ok (.iload_n 2, 1) := by decide +kernel
theorem dX10_about_14 : decode cX10_about 14 = .ok (.ifCond .lt 8, 3) := by decide +kernel
theorem dX10_about_17 : decode cX10_about 17 = .ok (.iload_n 2, 1) := by decide +kernel
theorem dX10_about_18 : decode cX10_about 18 = .ok (.iconst 1, 1) := by decide +kernel
theorem dX10_about_19 : decode cX10_about 19 = .ok (.if_icmp .le 6, 3) := by decide +kernel
theorem dX10_about_22 : decode cX10_about 22 = .ok (.bipush (-102), 2) := by decide +kernel
theorem dX10_about_24 : decode cX10_about 24 = .ok (.ireturn, 1) := by decide +kernel
theorem dX10_about_25 : decode cX10_about 25 = .ok (.iload_n 2, 1) := by decide +kernel
theorem dX10_about_26 : decode cX10_about 26 = .ok (.ifCond .ne 10, 3) := by decide +kernel
theorem dX10_about_29 : decode cX10_about 29 = .ok (.aload_n 3, 1) := by decide +kernel
theorem dX10_about_30 : decode cX10_about 30 = .ok (.invokevirtual 224, 3) := by decide +kernel
theorem dX10_about_33 : decode cX10_about 33 = .ok (.goto 11, 3) := by decide +kernel
theorem dX10_about_36 : decode cX10_about 36 = .ok (.aload_n 3, 1) := by decide +kernel
theorem dX10_about_37 : decode cX10_about 37 = .ok (.aload_n 0, 1) := by decide +kernel
theorem dX10_about_38 : decode cX10_about 38 = .ok (.getfield 26, 3) := by decide +kernel
theorem dX10_about_41 : decode cX10_about 41 = .ok (.invokevirtual 227, 3) := by decide +kernel
theorem dX10_about_44 : decode cX10_about 44 = .ok (.ireturn, 1) := by decide +kernel
set_option maxRecDepth 20000 in
theorem ggX10_as_X10_trierOf : GoodIn wsX10_as wsX10_trierOf := goodIn_r _ [5, 6, 7, 18, 19, 20, 21, 22, 23, 24, 25, 26, 27, 28, 29] (by decide +kernel) (by decide +kernel)
set_option maxRecDepth 20000 in
theorem gX10_as_X10_trierOf : GoodIn wsX10_as (wsV RX10 221 RX10 yX10_trierOf wsX10_trierOf) := goodIn_app (goodIn_of _ (by decide +kernel)) ggX10_as_X10_trierOf
set_option maxRecDepth 20000 in
theorem ggX10_as_X10_isKind : GoodIn wsX10_as wsX10_isKind := goodIn_r _ [10] (by decide +kernel) (by decide +kernel)
set_option maxRecDepth 20000 in
theorem gX10_as_X10_isKind : GoodIn wsX10_as (va_wsS RX10 214 yX10_isKind wsX10_isKind) := goodIn_app (goodIn_of _ (by decide +kernel)) ggX10_as_X10_isKind
set_option maxRecDepth 20000 in
theorem ggX10_as_X10_isOfKind : GoodIn wsX10_as wsX10_isOfKind := goodIn_r _ [13, 14, 15, 16, 17] (by decide +kernel) (by decide +kernel)
set_option maxRecDepth 20000 in
theorem gX10_as_X10_isOfKind : GoodIn wsX10_as (va_wsS RX10 231 yX10_isOfKind wsX10_isOfKind) := goodIn_app (goodIn_of _ (by decide +kernel)) ggX10_as_X10_isOfKind
theorem dX10_as_0 : decode cX10_as 0 = .ok (.aload_n 0, 1) := by decide +kernel
theorem dX10_as_1 : decode cX10_as 1 = .ok (.iload_n 1, 1) := by decide +kernel
theorem dX10_as_2 : decode cX10_as 2 = .ok (.invokevirtual 221, 3) := by decide +kernel
theorem dX10_as_5 : decode cX10_as 5 = .ok (.astore_n 3, 1) := by decide +kernel
theorem dX10_as_6 : decode cX10_as 6 = .ok (.aload_n 3, 1) := by decide +kernel
theorem dX10_as_7 : decode cX10_as 7 = .ok (.ifnonnull 6, 3) := by decide +kernel
theorem dX10_as_10 : decode cX10_as 10 = .ok (.bipush (-101), 2) := by decide +kernel
theorem dX10_as_12 : decode cX10_as 12 = .ok (.ireturn, 1) := by decide +kernel
theorem dX10_as_13 : decode cX10_as 13 = .ok (.iload_n 2, 1) := by decide +kernel
theorem dX10_as_14 : decode cX10_as 14 = .ok (.invokestatic 214, 3) := by decide +kernel
theorem dX10_as_17 : decode cX10_as 17 = .ok (.ifCond .ne 6, 3) := by decide +kernel
theorem dX10_as_20 : decode cX10_as 20 = .ok (.bipush (-102), 2) := by decide +kernel
theorem dX10_as_22 : decode cX10_as 22 = .ok (.ireturn, 1) := by decide +kernel
theorem dX10_as_23 : decode cX10_as 23 = .ok (.aload_n 3, 1) := by decide +kernel
theorem dX10_as_24 : decode cX10_as 24 = .ok (.iload_n 2, 1) := by decide +kernel
theorem dX10_as_25 : decode cX10_as 25 = .ok (.invokestatic 231, 3) := by decide +kernel
theorem dX10_as_28 : decode cX10_as 28 = .ok (.ifCond .eq 7, 3) := by decide +kernel
theorem dX10_as_31 : decode cX10_as 31 = .ok (.iload_n 1, 1) := by decide +kernel
theorem dX10_as_32 : decode cX10_as 32 = .ok (.goto 4, 3) := by decide +kernel
theorem dX10_as_35 : decode cX10_as 35 = .ok (.iconst (-1), 1) := by decide +kernel
theorem dX10_as_36 : decode cX10_as 36 = .ok (.ireturn, 1) := by decide +kernel
set_option maxRecDepth 20000 in
theorem ggX10_fits_X10_hasKitchen : GoodIn wsX10_fits wsX10_hasKitchen := goodIn_r _ [7, 2, 25, 26, 27, 28, 29, 30, 31, 32, 33, 34, 35, 36, 45, 46, 47, 48, 49, 50] (by decide +kernel) (by decide +kernel)
set_option maxRecDepth 20000 in
theorem gX10_fits_X10_hasKitchen : GoodIn wsX10_fits (wsV RX10 168 RX10 yX10_hasKitchen wsX10_hasKitchen) := goodIn_app (goodIn_of _ (by decide +kernel)) ggX10_fits_X10_hasKitchen
set_option maxRecDepth 20000 in
theorem ggX10_fits_X6_allEggs : GoodIn wsX10_fits wsX6_allEggs := goodIn_r _ [12, 13, 45, 46, 47, 48, 49, 50] (by decide +kernel) (by decide +kernel)
set_option maxRecDepth 20000 in
theorem gX10_fits_X6_allEggs : GoodIn wsX10_fits (wsV RX10 238 RX6 yX6_allEggs wsX6_allEggs) := goodIn_app (goodIn_of _ (by decide +kernel)) ggX10_fits_X6_allEggs
set_option maxRecDepth 20000 in
theorem ggX10_fits_X8_surelyBoiled : GoodIn wsX10_fits wsX8_surelyBoiled := goodIn_r _ [18, 19, 20, 37, 38, 39, 40, 41, 42, 43, 44] (by decide +kernel) (by decide +kernel)
set_option maxRecDepth 20000 in
theorem gX10_fits_X8_surelyBoiled : GoodIn wsX10_fits (wsV RX10 241 RX8 yX8_surelyBoiled wsX8_surelyBoiled) := goodIn_app (goodIn_of _ (by decide +kernel)) ggX10_fits_X8_surelyBoiled
set_option maxRecDepth 20000 in
theorem ggX10_fits_X8_surelyRaw : GoodIn wsX10_fits wsX8_surelyRaw := goodIn_r _ [24, 19, 20, 37, 38, 39, 40, 41, 42, 43, 44] (by decide +kernel) (by decide +kernel)
set_option maxRecDepth 20000 in
theorem gX10_fits_X8_surelyRaw : GoodIn wsX10_fits (wsV RX10 244 RX8 yX8_surelyRaw wsX8_surelyRaw) := goodIn_app (goodIn_of _ (by decide +kernel)) ggX10_fits_X8_surelyRaw
theorem dX10_fits_0 : decode cX10_fits 0 = .ok (.iload_n 1, 1) := by decide +kernel
theorem dX10_fits_1 : decode cX10_fits 1 = .ok (.ifCond .lt 8, 3) := by decide +kernel
theorem dX10_fits_4 : decode cX10_fits 4 = .ok (.iload_n 1, 1) := by decide +kernel
theorem dX10_fits_5 : decode cX10_fits 5 = .ok (.iconst 2, 1) := by decide +kernel
theorem dX10_fits_6 : decode cX10_fits 6 = .ok (.if_icmp .le 6, 3) := by decide +kernel
theorem dX10_fits_9 : decode cX10_fits 9 = .ok (.bipush (-102), 2) := by decide +kernel
theorem dX10_fits_11 : decode cX10_fits 11 = .ok (.ireturn, 1) := by decide +kernel
theorem dX10_fits_12 : decode cX10_fits 12 = .ok (.aload_n 0, 1) := by decide +kernel
theorem dX10_fits_13 : decode cX10_fits 13 = .ok (.invokevirtual 168, 3) := by decide +kernel
theorem dX10_fits_16 : decode cX10_fits 16 = .ok (.ifCond .ne 6, 3) := by decide +kernel
theorem dX10_fits_19 : decode cX10_fits 19 = .ok (.bipush (-103), 2) := by decide +kernel
theorem dX10_fits_21 : decode cX10_fits 21 = .ok (.ireturn, 1) := by decide +kernel
theorem dX10_fits_22 : decode cX10_fits 22 = .ok (.iload_n 1, 1) := by decide +kernel
theorem dX10_fits_23 : decode cX10_fits 23 = .ok (.ifCond .ne 11, 3) := by decide +kernel
theorem dX10_fits_26 : decode cX10_fits 26 = .ok (.aload_n 0, 1) := by decide +kernel
theorem dX10_fits_27 : decode cX10_fits 27 = .ok (.getfield 26, 3) := by decide +kernel
theorem dX10_fits_30 : decode cX10_fits 30 = .ok (.getfield 235, 3) := by decide +kernel
theorem dX10_fits_33 : decode cX10_fits 33 = .ok (.ireturn, 1) := by decide +kernel
theorem dX10_fits_34 : decode cX10_fits 34 = .ok (.iload_n 1, 1) := by decide +kernel
theorem dX10_fits_35 : decode cX10_fits 35 = .ok (.iconst 1, 1) := by decide +kernel
theorem dX10_fits_36 : decode cX10_fits 36 = .ok (.if_icmp .ne 20, 3) := by decide +kernel
theorem dX10_fits_39 : decode cX10_fits 39 = .ok (.aload_n 0, 1) := by decide +kernel
theorem dX10_fits_40 : decode cX10_fits 40 = .ok (.getfield 26, 3) := by decide +kernel
theorem dX10_fits_43 : decode cX10_fits 43 = .ok (.aload_n 0, 1) := by decide +kernel
theorem dX10_fits_44 : decode cX10_fits 44 = .ok (.getfield 19, 3) := by decide +kernel
theorem dX10_fits_47 : decode cX10_fits 47 = .ok (.invokevirtual 238, 3) := by decide +kernel
theorem dX10_fits_50 : decode cX10_fits 50 = .ok (.invokevirtual 241, 3) := by decide +kernel
theorem dX10_fits_53 : decode cX10_fits 53 = .ok (.goto 17, 3) := by decide +kernel
theorem dX10_fits_56 : decode cX10_fits 56 = .ok (.aload_n 0, 1) := by decide +kernel
theorem dX10_fits_57 : decode cX10_fits 57 = .ok (.getfield 26, 3) := by decide +kernel
theorem dX10_fits_60 : decode cX10_fits 60 = .ok (.aload_n 0, 1) := by decide +kernel
theorem dX10_fits_61 : decode cX10_fits 61 = .ok (.getfield 19, 3) := by decide +kernel
theorem dX10_fits_64 : decode cX10_fits 64 = .ok (.invokevirtual 238, 3) := by decide +kernel
theorem dX10_fits_67 : decode cX10_fits 67 = .ok (.invokevirtual 244, 3) := by decide +kernel
theorem dX10_fits_70 : decode cX10_fits 70 = .ok (.ireturn, 1) := by decide +kernel
set_option maxRecDepth 20000 in
theorem ggX10_mornings_X10_hasKitchen : GoodIn wsX10_mornings wsX10_hasKitchen := goodIn_r _ [7, 8, 44, 45, 46, 47, 48, 49, 50, 51, 52, 53, 54, 55, 65, 66, 67, 68, 69, 70] (by decide +kernel) (by decide +kernel)
set_option maxRecDepth 20000 in
theorem gX10_mornings_X10_hasKitchen : GoodIn wsX10_mornings (wsV RX10 168 RX10 yX10_hasKitchen wsX10_hasKitchen) := goodIn_app (goodIn_of _ (by decide +kernel)) ggX10_mornings_X10_hasKitchen
set_option maxRecDepth 20000 in
theorem ggX10_mornings_X3_startFrom : GoodIn wsX10_mornings wsX3_startFrom := goodIn_r _ [13, 14, 64] (by decide +kernel) (by decide +kernel)
set_option maxRecDepth 20000 in
theorem gX10_mornings_X3_startFrom : GoodIn wsX10_mornings (wsV RX10 247 RX3 yX3_startFrom wsX3_startFrom) := goodIn_app (goodIn_of _ (by decide +kernel)) ggX10_mornings_X3_startFrom
set_option maxRecDepth 20000 in
theorem ggX10_mornings_X3_next : GoodIn wsX10_mornings wsX3_next := goodIn_r _ [18, 19, 14, 20, 21, 22, 64] (by decide +kernel) (by decide +kernel)
set_option maxRecDepth 20000 in
theorem gX10_mornings_X3_next : GoodIn wsX10_mornings (wsV RX10 250 RX3 yX3_next wsX3_next) := goodIn_app (goodIn_of _ (by decide +kernel)) ggX10_mornings_X3_next
set_option maxRecDepth 20000 in
theorem ggX10_mornings_X8_fittingBox : GoodIn wsX10_mornings wsX8_fittingBox := goodIn_r _ [27, 28, 29, 56, 57, 58, 59, 60, 61, 62, 63] (by decide +kernel) (by decide +kernel)
set_option maxRecDepth 20000 in
theorem gX10_mornings_X8_fittingBox : GoodIn wsX10_mornings (wsV RX10 253 RX8 yX8_fittingBox wsX8_fittingBox) := goodIn_app (goodIn_of _ (by decide +kernel)) ggX10_mornings_X8_fittingBox
set_option maxRecDepth 20000 in
theorem ggX10_mornings_X10_eggsAsMeant : GoodIn wsX10_mornings wsX10_eggsAsMeant := goodIn_r _ [33, 8, 1, 34, 35, 6, 36, 15, 16, 17, 12, 18, 19, 14, 20, 21, 22, 37, 38, 39, 40, 41, 42, 43, 44, 45, 46, 47, 48, 49, 50, 51, 52, 53, 54, 55, 65, 66, 67, 68, 69, 70, 64] (by decide +kernel) (by decide +kernel)
set_option maxRecDepth 20000 in
theorem gX10_mornings_X10_eggsAsMeant : GoodIn wsX10_mornings (wsV RX10 256 RX10 yX10_eggsAsMeant wsX10_eggsAsMeant) := goodIn_app (goodIn_of _ (by decide +kernel)) ggX10_mornings_X10_eggsAsMeant
theorem dX10_mornings_0 : decode cX10_mornings 0 = .ok (.iload_n 1, 1) := by decide +kernel
theorem dX10_mornings_1 : decode cX10_mornings 1 = .ok (.iconst 1, 1) := by decide +kernel
theorem dX10_mornings_2 : decode cX10_mornings 2 = .ok (.if_icmp .lt 22, 3) := by decide +kernel
theorem dX10_mornings_5 : decode cX10_mornings 5 = .ok (.iload_n 1, 1) := by decide +kernel
theorem dX10_mornings_6 : decode cX10_mornings 6 = .ok (.bipush 40, 2) := by decide +kernel
theorem dX10_mornings_8 : decode cX10_mornings 8 = .ok (.if_icmp .gt 16, 3) := by decide +kernel
theorem dX10_mornings_11 : decode cX10_mornings 11 = .ok (.iload_n 2, 1) := by decide +kernel
theorem dX10_mornings_12 : decode cX10_mornings 12 = .ok (.ifCond .lt 12, 3) := by decide +kernel
theorem dX10_mornings_15 : decode cX10_mornings 15 = .ok (.iload_n 3, 1) := by decide +kernel
theorem dX10_mornings_16 : decode cX10_mornings 16 = .ok (.ifCond .lt 8, 3) := by decide +kernel
theorem dX10_mornings_19 : decode cX10_mornings 19 = .ok (.iload_n 3, 1) := by decide +kernel
theorem dX10_mornings_20 : decode cX10_mornings 20 = .ok (.iconst 1, 1) := by decide +kernel
theorem dX10_mornings_21 : decode cX10_mornings 21 = .ok (.if_icmp .le 6, 3) := by decide +kernel
theorem dX10_mornings_24 : decode cX10_mornings 24 = .ok (.bipush (-102), 2) := by decide +kernel
theorem dX10_mornings_26 : decode cX10_mornings 26 = .ok (.ireturn, 1) := by decide +kernel
theorem dX10_mornings_27 : decode cX10_mornings 27 = .ok (.aload_n 0, 1) := by decide +kernel
theorem dX10_mornings_28 : decode cX10_mornings 28 = .ok (.invokevirtual 168, 3) := by decide +kernel
theorem dX10_mornings_31 : decode cX10_mornings 31 = .ok (.ifCond .ne 6, 3) := by decide +kernel
theorem dX10_mornings_34 : decode cX10_mornings 34 = .ok (.bipush (-103), 2) := by decide +kernel
theorem dX10_mornings_36 : decode cX10_mornings 36 = .ok (.ireturn, 1) := by decide +kernel
theorem dX10_mornings_37 : decode cX10_mornings 37 = .ok (.aload_n 0, 1) := by decide +kernel
theorem dX10_mornings_38 : decode cX10_mornings 38 = .ok (.getfield 43, 3) := by decide +kernel
theorem dX10_mornings_41 : decode cX10_mornings 41 = .ok (.iload_n 2, 1) := by decide +kernel
theorem dX10_mornings_42 : decode cX10_mornings 42 = .ok (.invokevirtual 247, 3) := by decide +kernel
theorem dX10_mornings_45 : decode cX10_mornings 45 = .ok (.iconst 0, 1) := by decide +kernel
theorem dX10_mornings_46 : decode cX10_mornings 46 = .ok (.istore 4, 2) := by decide +kernel
theorem dX10_mornings_48 : decode cX10_mornings 48 = .ok (.iconst 0, 1) := by decide +kernel
theorem dX10_mornings_49 : decode cX10_mornings 49 = .ok (.istore 5, 2) := by decide +kernel
theorem dX10_mornings_51 : decode cX10_mornings 51 = .ok (.iload 5, 2) := by decide +kernel
theorem dX10_mornings_53 : decode cX10_mornings 53 = .ok (.iload_n 1, 1) := by decide +kernel
theorem dX10_mornings_54 : decode cX10_mornings 54 = .ok (.if_icmp .ge 43, 3) := by decide +kernel
theorem dX10_mornings_57 : decode cX10_mornings 57 = .ok (.aload_n 0, 1) := by decide +kernel
theorem dX10_mornings_58 : decode cX10_mornings 58 = .ok (.getfield 26, 3) := by decide +kernel
theorem dX10_mornings_61 : decode cX10_mornings 61 = .ok (.aload_n 0, 1) := by decide +kernel
theorem dX10_mornings_62 : decode cX10_mornings 62 = .ok (.getfield 43, 3) := by decide +kernel
theorem dX10_mornings_65 : decode cX10_mornings 65 = .ok (.aload_n 0, 1) := by decide +kernel
theorem dX10_mornings_66 : decode cX10_mornings 66 = .ok (.getfield 26, 3) := by decide +kernel
theorem dX10_mornings_69 : decode cX10_mornings 69 = .ok (.getfield 235, 3) := by decide +kernel
theorem dX10_mornings_72 : decode cX10_mornings 72 = .ok (.invokevirtual 250, 3) := by decide +kernel
theorem dX10_mornings_75 : decode cX10_mornings 75 = .ok (.invokevirtual 253, 3) := by decide +kernel
theorem dX10_mornings_78 : decode cX10_mornings 78 = .ok (.istore 6, 2) := by decide +kernel
theorem dX10_mornings_80 : decode cX10_mornings 80 = .ok (.iload 4, 2) := by decide +kernel
theorem dX10_mornings_82 : decode cX10_mornings 82 = .ok (.aload_n 0, 1) := by decide +kernel
theorem dX10_mornings_83 : decode cX10_mornings 83 = .ok (.iload 6, 2) := by decide +kernel
theorem dX10_mornings_85 : decode cX10_mornings 85 = .ok (.invokevirtual 256, 3) := by decide +kernel
theorem dX10_mornings_88 : decode cX10_mornings 88 = .ok (.iadd, 1) := by decide +kernel
theorem dX10_mornings_89 : decode cX10_mornings 89 = .ok (.istore 4, 2) := by decide +kernel
theorem dX10_mornings_91 : decode cX10_mornings 91 = .ok (.iinc 5 1, 3) := by decide +kernel
theorem dX10_mornings_94 : decode cX10_mornings 94 = .ok (.goto (-43), 3) := by decide +kernel
theorem dX10_mornings_97 : decode cX10_mornings 97 = .ok (.iload_n 3, 1) := by decide +kernel
theorem dX10_mornings_98 : decode cX10_mornings 98 = .ok (.ifCond .ne 8, 3) := by decide +kernel
theorem dX10_mornings_101 : decode cX10_mornings 101 = .ok (.iload 4, 2) := by decide +kernel
theorem dX10_mornings_103 : decode cX10_mornings 103 = .ok (.goto 11, 3) := by decide +kernel
theorem dX10_mornings_106 : decode cX10_mornings 106 = .ok (.aload_n 0, 1) := by decide +kernel
theorem dX10_mornings_107 : decode cX10_mornings 107 = .ok (.getfield 43, 3) := by decide +kernel
theorem dX10_mornings_110 : decode cX10_mornings 110 = .ok (.getfield 259, 3) := by decide +kernel
theorem dX10_mornings_113 : decode cX10_mornings 113 = .ok (.l2i, 1) := by decide +kernel
theorem dX10_mornings_114 : decode cX10_mornings 114 = .ok (.ireturn, 1) := by decide +kernel
set_option maxRecDepth 20000 in
theorem ggX10_image_X10_hasKitchen : GoodIn wsX10_image wsX10_hasKitchen := goodIn_r _ [10, 11, 40, 41, 42, 43, 44, 45, 46, 47, 48, 49, 50, 51, 52, 53, 54, 55, 56, 57] (by decide +kernel) (by decide +kernel)
set_option maxRecDepth 20000 in
theorem gX10_image_X10_hasKitchen : GoodIn wsX10_image (wsV RX10 168 RX10 yX10_hasKitchen wsX10_hasKitchen) := goodIn_app (goodIn_of _ (by decide +kernel)) ggX10_image_X10_hasKitchen
set_option maxRecDepth 20000 in
theorem ggX10_image_X8_copyFrom : GoodIn wsX10_image wsX8_copyFrom := goodIn_r _ [16, 17, 18, 19, 20, 21, 22, 23, 24, 25, 26, 27, 28, 58, 59, 60, 61, 62, 63, 64, 65] (by decide +kernel) (by decide +kernel)
set_option maxRecDepth 20000 in
theorem gX10_image_X8_copyFrom : GoodIn wsX10_image (wsV RX10 263 RX8 yX8_copyFrom wsX8_copyFrom) := goodIn_app (goodIn_of _ (by decide +kernel)) ggX10_image_X8_copyFrom
set_option maxRecDepth 20000 in
theorem ggX10_image_X8_howManyInBox : GoodIn wsX10_image wsX8_howManyInBox := goodIn_r _ [32, 27, 33, 34, 35, 36, 37, 38, 39, 58, 59, 60, 61, 62, 63, 64, 65] (by decide +kernel) (by decide +kernel)
set_option maxRecDepth 20000 in
theorem gX10_image_X8_howManyInBox : GoodIn wsX10_image (wsV RX10 146 RX8 yX8_howManyInBox wsX8_howManyInBox) := goodIn_app (goodIn_of _ (by decide +kernel)) ggX10_image_X8_howManyInBox
theorem dX10_image_0 : decode cX10_image 0 = .ok (.aload_n 0, 1) := by decide +kernel
theorem dX10_image_1 : decode cX10_image 1 = .ok (.invokevirtual 168, 3) := by decide +kernel
theorem dX10_image_4 : decode cX10_image 4 = .ok (.ifCond .ne 6, 3) := by decide +kernel
theorem dX10_image_7 : decode cX10_image 7 = .ok (.bipush (-103), 2) := by decide +kernel
theorem dX10_image_9 : decode cX10_image 9 = .ok (.ireturn, 1) := by decide +kernel
theorem dX10_image_10 : decode cX10_image 10 = .ok (.aload_n 0, 1) := by decide +kernel
theorem dX10_image_11 : decode cX10_image 11 = .ok (.getfield 30, 3) := by decide +kernel
theorem dX10_image_14 : decode cX10_image 14 = .ok (.aload_n 0, 1) := by decide +kernel
theorem dX10_image_15 : decode cX10_image 15 = .ok (.getfield 26, 3) := by decide +kernel
theorem dX10_image_18 : decode cX10_image 18 = .ok (.invokevirtual 263, 3) := by decide +kernel
theorem dX10_image_21 : decode cX10_image 21 = .ok (.aload_n 0, 1) := by decide +kernel
theorem dX10_image_22 : decode cX10_image 22 = .ok (.aload_n 0, 1) := by decide +kernel
theorem dX10_image_23 : decode cX10_image 23 = .ok (.getfield 79, 3) := by decide +kernel
theorem dX10_image_26 : decode cX10_image 26 = .ok (.putfield 267, 3) := by decide +kernel
theorem dX10_image_29 : decode cX10_image 29 = .ok (.aload_n 0, 1) := by decide +kernel
theorem dX10_image_30 : decode cX10_image 30 = .ok (.iconst 1, 1) := by decide +kernel
theorem dX10_image_31 : decode cX10_image 31 = .ok (.putfield 83, 3) := by decide +kernel
theorem dX10_image_34 : decode cX10_image 34 = .ok (.aload_n 0, 1) := by decide +kernel
theorem dX10_image_35 : decode cX10_image 35 = .ok (.getfield 26, 3) := by decide +kernel
theorem dX10_image_38 : decode cX10_image 38 = .ok (.invokevirtual 146, 3) := by decide +kernel
theorem dX10_image_41 : decode cX10_image 41 = .ok (.ireturn, 1) := by decide +kernel
set_option maxRecDepth 20000 in
theorem ggX10_restore_X8_copyFrom : GoodIn wsX10_restore wsX8_copyFrom := goodIn_r _ [10, 11, 12, 13, 14, 15, 16, 17, 18, 19, 20, 21, 22, 46, 47, 48, 49, 50, 51, 52, 53] (by decide +kernel) (by decide +kernel)
set_option maxRecDepth 20000 in
theorem gX10_restore_X8_copyFrom : GoodIn wsX10_restore (wsV RX10 263 RX8 yX8_copyFrom wsX8_copyFrom) := goodIn_app (goodIn_of _ (by decide +kernel)) ggX10_restore_X8_copyFrom
set_option maxRecDepth 20000 in
theorem ggX10_restore_X8_howManyInBox : GoodIn wsX10_restore wsX8_howManyInBox := goodIn_r _ [26, 21, 27, 28, 29, 30, 31, 32, 33, 46, 47, 48, 49, 50, 51, 52, 53] (by decide +kernel) (by decide +kernel)
set_option maxRecDepth 20000 in
theorem gX10_restore_X8_howManyInBox : GoodIn wsX10_restore (wsV RX10 146 RX8 yX8_howManyInBox wsX8_howManyInBox) := goodIn_app (goodIn_of _ (by decide +kernel)) ggX10_restore_X8_howManyInBox
theorem dX10_restore_0 : decode cX10_restore 0 = .ok (.aload_n 0, 1) := by decide +kernel
theorem dX10_restore_1 : decode cX10_restore 1 = .ok (.getfield 83, 3) := by decide +kernel
theorem dX10_restore_4 : decode cX10_restore 4 = .ok (.ifCond .ne 6, 3) := by decide +kernel
theorem dX10_restore_7 : decode cX10_restore 7 = .ok (.bipush (-103), 2) := by decide +kernel
theorem dX10_restore_9 : decode cX10_restore 9 = .ok (.ireturn, 1) := by decide +kernel
theorem dX10_restore_10 : decode cX10_restore 10 = .ok (.aload_n 0, 1) := by decide +kernel
theorem dX10_restore_11 : decode cX10_restore 11 = .ok (.getfield 26, 3) := by decide +kernel
theorem dX10_restore_14 : decode cX10_restore 14 = .ok (.aload_n 0, 1) := by decide +kernel
theorem dX10_restore_15 : decode cX10_restore 15 = .ok (.getfield 30, 3) := by decide +kernel
theorem dX10_restore_18 : decode cX10_restore 18 = .ok (.invokevirtual 263, 3) := by decide +kernel
theorem dX10_restore_21 : decode cX10_restore 21 = .ok (.aload_n 0, 1) := by decide +kernel
theorem dX10_restore_22 : decode cX10_restore 22 = .ok (.aload_n 0, 1) := by decide +kernel
theorem dX10_restore_23 : decode cX10_restore 23 = .ok (.getfield 267, 3) := by decide +kernel
theorem dX10_restore_26 : decode cX10_restore 26 = .ok (.putfield 79, 3) := by decide +kernel
theorem dX10_restore_29 : decode cX10_restore 29 = .ok (.aload_n 0, 1) := by decide +kernel
theorem dX10_restore_30 : decode cX10_restore 30 = .ok (.getfield 26, 3) := by decide +kernel
theorem dX10_restore_33 : decode cX10_restore 33 = .ok (.invokevirtual 146, 3) := by decide +kernel
theorem dX10_restore_36 : decode cX10_restore 36 = .ok (.ireturn, 1) := by decide +kernel
set_option maxRecDepth 20000 in
theorem ggX10_count_X8_howManyInBox : GoodIn wsX10_count wsX8_howManyInBox := goodIn_r _ [11, 12, 13, 14, 15, 16, 17, 18, 19, 38, 39, 40, 41, 42, 43, 44, 45] (by decide +kernel) (by decide +kernel)
set_option maxRecDepth 20000 in
theorem gX10_count_X8_howManyInBox : GoodIn wsX10_count (wsV RX10 146 RX8 yX8_howManyInBox wsX8_howManyInBox) := goodIn_app (goodIn_of _ (by decide +kernel)) ggX10_count_X8_howManyInBox
theorem dX10_count_0 : decode cX10_count 0 = .ok (.iload_n 1, 1) := by decide +kernel
theorem dX10_count_1 : decode cX10_count 1 = .ok (.tableswitch 138 0 10 #[59, 67, 75, 83, 91, 99, 107, 115, 120, 128, 133], 59) := by decide +kernel
theorem dX10_count_60 : decode cX10_count 60 = .ok (.aload_n 0, 1) := by decide +kernel
theorem dX10_count_61 : decode cX10_count 61 = .ok (.getfield 19, 3) := by decide +kernel
theorem dX10_count_64 : decode cX10_count 64 = .ok (.getfield 90, 3) := by decide +kernel
theorem dX10_count_67 : decode cX10_count 67 = .ok (.ireturn, 1) := by decide +kernel
theorem dX10_count_68 : decode cX10_count 68 = .ok (.aload_n 0, 1) := by decide +kernel
theorem dX10_count_69 : decode cX10_count 69 = .ok (.getfield 19, 3) := by decide +kernel
theorem dX10_count_72 : decode cX10_count 72 = .ok (.getfield 270, 3) := by decide +kernel
theorem dX10_count_75 : decode cX10_count 75 = .ok (.ireturn, 1) := by decide +kernel
theorem dX10_count_76 : decode cX10_count 76 = .ok (.aload_n 0, 1) := by decide +kernel
theorem dX10_count_77 : decode cX10_count 77 = .ok (.getfield 19, 3) := by decide +kernel
theorem dX10_count_80 : decode cX10_count 80 = .ok (.getfield 176, 3) := by decide +kernel
theorem dX10_count_83 : decode cX10_count 83 = .ok (.ireturn, 1) := by decide +kernel
theorem dX10_count_84 : decode cX10_count 84 = .ok (.aload_n 0, 1) := by decide +kernel
theorem dX10_count_85 : decode cX10_count 85 = .ok (.getfield 19, 3) := by decide +kernel
theorem dX10_count_88 : decode cX10_count 88 = .ok (.getfield 179, 3) := by decide +kernel
theorem dX10_count_91 : decode cX10_count 91 = .ok (.ireturn, 1) := by decide +kernel
theorem dX10_count_92 : decode cX10_count 92 = .ok (.aload_n 0, 1) := by decide +kernel
theorem dX10_count_93 : decode cX10_count 93 = .ok (.getfield 19, 3) := by decide +kernel
theorem dX10_count_96 : decode cX10_count 96 = .ok (.getfield 132, 3) := by decide +kernel
theorem dX10_count_99 : decode cX10_count 99 = .ok (.ireturn, 1) := by decide +kernel
theorem dX10_count_100 : decode cX10_count 100 = .ok (.aload_n 0, 1) := by decide +kernel
theorem dX10_count_101 : decode cX10_count 101 = .ok (.getfield 26, 3) := by decide +kernel
theorem dX10_count_104 : decode cX10_count 104 = .ok (.invokevirtual 146, 3) := by decide +kernel
theorem dX10_count_107 : decode cX10_count 107 = .ok (.ireturn, 1) := by decide +kernel
theorem dX10_count_108 : decode cX10_count 108 = .ok (.aload_n 0, 1) := by decide +kernel
theorem dX10_count_109 : decode cX10_count 109 = .ok (.getfield 26, 3) := by decide +kernel
theorem dX10_count_112 : decode cX10_count 112 = .ok (.getfield 121, 3) := by decide +kernel
theorem dX10_count_115 : decode cX10_count 115 = .ok (.ireturn, 1) := by decide +kernel
theorem dX10_count_116 : decode cX10_count 116 = .ok (.aload_n 0, 1) := by decide +kernel
theorem dX10_count_117 : decode cX10_count 117 = .ok (.getfield 79, 3) := by decide +kernel
theorem dX10_count_120 : decode cX10_count 120 = .ok (.ireturn, 1) := by decide +kernel
theorem dX10_count_121 : decode cX10_count 121 = .ok (.aload_n 0, 1) := by decide +kernel
theorem dX10_count_122 : decode cX10_count 122 = .ok (.getfield 10, 3) := by decide +kernel
theorem dX10_count_125 : decode cX10_count 125 = .ok (.getfield 273, 3) := by decide +kernel
theorem dX10_count_128 : decode cX10_count 128 = .ok (.ireturn, 1) := by decide +kernel
theorem dX10_count_129 : decode cX10_count 129 = .ok (.aload_n 0, 1) := by decide +kernel
theorem dX10_count_130 : decode cX10_count 130 = .ok (.getfield 87, 3) := by decide +kernel
theorem dX10_count_133 : decode cX10_count 133 = .ok (.ireturn, 1) := by decide +kernel
theorem dX10_count_134 : decode cX10_count 134 = .ok (.aload_n 0, 1) := by decide +kernel
theorem dX10_count_135 : decode cX10_count 135 = .ok (.getfield 188, 3) := by decide +kernel
theorem dX10_count_138 : decode cX10_count 138 = .ok (.ireturn, 1) := by decide +kernel
theorem dX10_count_139 : decode cX10_count 139 = .ok (.bipush (-102), 2) := by decide +kernel
theorem dX10_count_141 : decode cX10_count 141 = .ok (.ireturn, 1) := by decide +kernel
set_option maxRecDepth 20000 in
theorem ggX10_digest_X10_withEgg : GoodIn wsX10_digest wsX10_withEgg := goodIn_r _ [9, 10, 11, 12, 8, 13, 2, 14, 15, 16, 17, 18, 19, 20, 21, 22, 23, 24, 25, 26, 27, 28, 29, 30, 31, 32, 33, 34, 35, 36, 37, 38, 39, 40, 41, 42, 43, 44, 45, 46, 47, 48, 49, 50, 51, 52, 53, 54, 55, 56, 187, 188, 189, 190, 191, 192, 193, 194, 195, 196, 197, 198, 199, 200, 201, 202, 203, 204, 207, 208, 209, 210, 211, 212, 213, 214] (by decide +kernel) (by decide +kernel)
set_option maxRecDepth 20000 in
theorem gX10_digest_X10_withEgg : GoodIn wsX10_digest (wsV RX10 278 RX10 yX10_withEgg wsX10_withEgg) := goodIn_app (goodIn_of _ (by decide +kernel)) ggX10_digest_X10_withEgg
set_option maxRecDepth 20000 in
theorem ggX10_digest_X10_about : GoodIn wsX10_digest wsX10_about := goodIn_r _ [60, 14, 61, 62, 63, 8, 64, 3, 65, 66, 67, 68, 69, 70, 71, 72, 73, 74, 75, 76, 77, 78, 79, 80, 81, 82, 83, 84, 85, 86, 87, 88, 89, 90, 91, 92, 93, 94, 95, 20, 21, 22, 23, 24, 25, 26, 96, 97, 98, 99, 100, 101, 102, 41, 42, 43, 44, 45, 46, 103, 104, 105, 106, 107, 108, 109, 110, 111, 112, 113, 48, 49, 50, 114, 115, 116, 117, 118, 119, 120, 121, 122, 123, 124, 125, 126, 127, 128, 129, 130, 131, 132, 133, 134, 135, 136, 137, 138, 139, 187, 188, 189, 190, 191, 192, 193, 194, 195, 196, 197, 198, 207, 208, 209, 210, 211, 212, 213, 214] (by decide +kernel) (by decide +kernel)
set_option maxRecDepth 20000 in
theorem gX10_digest_X10_about : GoodIn wsX10_digest (wsV RX10 282 RX10 yX10_about wsX10_about) := goodIn_app (goodIn_of _ (by decide +kernel)) ggX10_digest_X10_about
set_option maxRecDepth 20000 in
theorem ggX10_digest_X10_with : GoodIn wsX10_digest wsX10_with := goodIn_r _ [29, 30] (by decide +kernel) (by decide +kernel)
set_option maxRecDepth 20000 in
theorem gX10_digest_X10_with : GoodIn wsX10_digest (va_wsS RX10 286 yX10_with wsX10_with) := goodIn_app (goodIn_of _ (by decide +kernel)) ggX10_digest_X10_with
set_option maxRecDepth 20000 in
theorem ggX10_digest_X10_hasKitchen : GoodIn wsX10_digest wsX10_hasKitchen := goodIn_r _ [143, 2, 187, 188, 189, 190, 191, 192, 193, 194, 195, 196, 197, 198, 199, 200, 201, 202, 203, 204] (by decide +kernel) (by decide +kernel)
set_option maxRecDepth 20000 in
theorem gX10_digest_X10_hasKitchen : GoodIn wsX10_digest (wsV RX10 168 RX10 yX10_hasKitchen wsX10_hasKitchen) := goodIn_app (goodIn_of _ (by decide +kernel)) ggX10_digest_X10_hasKitchen
set_option maxRecDepth 20000 in
theorem ggX10_digest_X10_likeliest : GoodIn wsX10_digest wsX10_likeliest := goodIn_r _ [147, 14, 140, 141, 142, 8, 143, 2, 148, 149, 150, 22, 151, 44, 46, 45, 187, 188, 189, 190, 191, 192, 193, 194, 195, 196, 197, 198, 199, 200, 201, 202, 203, 204, 207, 208, 209, 210, 211, 212, 213, 214] (by decide +kernel) (by decide +kernel)
set_option maxRecDepth 20000 in
theorem gX10_digest_X10_likeliest : GoodIn wsX10_digest (wsV RX10 290 RX10 yX10_likeliest wsX10_likeliest) := goodIn_app (goodIn_of _ (by decide +kernel)) ggX10_digest_X10_likeliest
set_option maxRecDepth 20000 in
theorem ggX10_digest_X10_fits : GoodIn wsX10_digest wsX10_fits := goodIn_r _ [155, 14, 2, 140, 141, 142, 8, 143, 156, 157, 158, 159, 160, 161, 162, 163, 164, 22, 165, 44, 45, 166, 167, 168, 169, 187, 188, 189, 190, 191, 192, 193, 194, 195, 196, 197, 198, 207, 208, 209, 210, 211, 212, 213, 214, 199, 200, 201, 202, 203, 204] (by decide +kernel) (by decide +kernel)
set_option maxRecDepth 20000 in
theorem gX10_digest_X10_fits : GoodIn wsX10_digest (wsV RX10 293 RX10 yX10_fits wsX10_fits) := goodIn_app (goodIn_of _ (by decide +kernel)) ggX10_digest_X10_fits
set_option maxRecDepth 20000 in
theorem ggX10_digest_X10_count : GoodIn wsX10_digest wsX10_count := goodIn_r _ [173, 2, 14, 3, 4, 174, 175, 176, 177, 178, 22, 179, 24, 180, 181, 182, 183, 184, 185, 186, 187, 188, 189, 190, 191, 192, 193, 194, 195, 196, 197, 198, 199, 200, 201, 202, 203, 204, 207, 208, 209, 210, 211, 212, 213, 214, 205, 206] (by decide +kernel) (by decide +kernel)
set_option maxRecDepth 20000 in
theorem gX10_digest_X10_count : GoodIn wsX10_digest (wsV RX10 299 RX10 yX10_count wsX10_count) := goodIn_app (goodIn_of _ (by decide +kernel)) ggX10_digest_X10_count
theorem dX10_digest_0 : decode cX10_digest 0 = .ok (.ldc2_w 276, 3) := by decide +kernel
theorem dX10_digest_3 : decode cX10_digest 3 = .ok (.lstore_n 1, 1) := by decide +kernel
theorem dX10_digest_4 : decode cX10_digest 4 = .ok (.iconst 0, 1) := by decide +kernel
theorem dX10_digest_5 : decode cX10_digest 5 = .ok (.istore_n 3, 1) := by decide +kernel
theorem dX10_digest_6 : decode cX10_digest 6 = .ok (.iload_n 3, 1) := by decide +kernel
theorem dX10_digest_7 : decode cX10_digest 7 = .ok (.aload_n 0, 1) := by decide +kernel
theorem dX10_digest_8 : decode cX10_digest 8 = .ok (.getfield 19, 3) := by decide +kernel
theorem dX10_digest_11 : decode cX10_digest 11 = .ok (.getfield 90, 3) := by decide +kernel
theorem dX10_digest_14 : decode cX10_digest 14 = .ok (.if_icmp .ge 16, 3) := by decide +kernel
theorem dX10_digest_17 : decode cX10_digest 17 = .ok (.aload_n 0, 1) := by decide +kernel
theorem dX10_digest_18 : decode cX10_digest 18 = .ok (.lload_n 1, 1) := by decide +kernel
theorem dX10_digest_19 : decode cX10_digest 19 = .ok (.iload_n 3, 1) := by decide +kernel
theorem dX10_digest_20 : decode cX10_digest 20 = .ok (.invokevirtual 278, 3) := by decide +kernel
theorem dX10_digest_23 : decode cX10_digest 23 = .ok (.lstore_n 1, 1) := by decide +kernel
theorem dX10_digest_24 : decode cX10_digest 24 = .ok (.iinc 3 1, 3) := by decide +kernel
theorem dX10_digest_27 : decode cX10_digest 27 = .ok (.goto (-21), 3) := by decide +kernel
theorem dX10_digest_30 : decode cX10_digest 30 = .ok (.iconst 0, 1) := by decide +kernel
theorem dX10_digest_31 : decode cX10_digest 31 = .ok (.istore_n 3, 1) := by decide +kernel
theorem dX10_digest_32 : decode cX10_digest 32 = .ok (.iload_n 3, 1) := by decide +kernel
theorem dX10_digest_33 : decode cX10_digest 33 = .ok (.aload_n 0, 1) := by decide +kernel
theorem dX10_digest_34 : decode cX10_digest 34 = .ok (.getfield 79, 3) := by decide +kernel
theorem dX10_digest_37 : decode cX10_digest 37 = .ok (.if_icmp .ge 37, 3) := by decide +kernel
theorem dX10_digest_40 : decode cX10_digest 40 = .ok (.iconst 0, 1) := by decide +kernel
theorem dX10_digest_41 : decode cX10_digest 41 = .ok (.istore 4, 2) := by decide +kernel
theorem dX10_digest_43 : decode cX10_digest 43 = .ok (.iload 4, 2) := by decide +kernel
theorem dX10_digest_45 : decode cX10_digest 45 = .ok (.iconst 1, 1) := by decide +kernel
theorem dX10_digest_46 : decode cX10_digest 46 = .ok (.if_icmp .gt 22, 3) := by decide +kernel
theorem dX10_digest_49 : decode cX10_digest 49 = .ok (.lload_n 1, 1) := by decide +kernel
theorem dX10_digest_50 : decode cX10_digest 50 = .ok (.aload_n 0, 1) := by decide +kernel
theorem dX10_digest_51 : decode cX10_digest 51 = .ok (.iload_n 3, 1) := by decide +kernel
theorem dX10_digest_52 : decode cX10_digest 52 = .ok (.iload 4, 2) := by decide +kernel
theorem dX10_digest_54 : decode cX10_digest 54 = .ok (.invokevirtual 282, 3) := by decide +kernel
theorem dX10_digest_57 : decode cX10_digest 57 = .ok (.i2l, 1) := by decide +kernel
theorem dX10_digest_58 : decode cX10_digest 58 = .ok (.invokestatic 286, 3) := by decide +kernel
theorem dX10_digest_61 : decode cX10_digest 61 = .ok (.lstore_n 1, 1) := by decide +kernel
theorem dX10_digest_62 : decode cX10_digest 62 = .ok (.iinc 4 1, 3) := by decide +kernel
theorem dX10_digest_65 : decode cX10_digest 65 = .ok (.goto (-22), 3) := by decide +kernel
theorem dX10_digest_68 : decode cX10_digest 68 = .ok (.iinc 3 1, 3) := by decide +kernel
theorem dX10_digest_71 : decode cX10_digest 71 = .ok (.goto (-39), 3) := by decide +kernel
theorem dX10_digest_74 : decode cX10_digest 74 = .ok (.aload_n 0, 1) := by decide +kernel
theorem dX10_digest_75 : decode cX10_digest 75 = .ok (.invokevirtual 168, 3) := by decide +kernel
theorem dX10_digest_78 : decode cX10_digest 78 = .ok (.ifCond .eq 37, 3) := by decide +kernel
theorem dX10_digest_81 : decode cX10_digest 81 = .ok (.lload_n 1, 1) := by decide +kernel
theorem dX10_digest_82 : decode cX10_digest 82 = .ok (.aload_n 0, 1) := by decide +kernel
theorem dX10_digest_83 : decode cX10_digest 83 = .ok (.invokevirtual 290, 3) := by decide +kernel
theorem dX10_digest_86 : decode cX10_digest 86 = .ok (.i2l, 1) := by decide +kernel
theorem dX10_digest_87 : decode cX10_digest 87 = .ok (.invokestatic 286, 3) := by decide +kernel
theorem dX10_digest_90 : decode cX10_digest 90 = .ok (.lstore_n 1, 1) := by decide +kernel
theorem dX10_digest_91 : decode cX10_digest 91 = .ok (.iconst 0, 1) := by decide +kernel
theorem dX10_digest_92 : decode cX10_digest 92 = .ok (.istore_n 3, 1) := by decide +kernel
theorem dX10_digest_93 : decode cX10_digest 93 = .ok (.iload_n 3, 1) := by decide +kernel
theorem dX10_digest_94 : decode cX10_digest 94 = .ok (.iconst 2, 1) := by decide +kernel
theorem dX10_digest_95 : decode cX10_digest 95 = .ok (.if_icmp .gt 20, 3) := by decide +kernel
theorem dX10_digest_98 : decode cX10_digest 98 = .ok (.lload_n 1, 1) := by decide +kernel
theorem dX10_digest_99 : decode cX10_digest 99 = .ok (.aload_n 0, 1) := by decide +kernel
theorem dX10_digest_100 : decode cX10_digest 100 = .ok (.iload_n 3, 1) := by decide +kernel
theorem dX10_digest_101 : decode cX10_digest 101 = .ok (.invokevirtual 293, 3) := by decide +kernel
theorem dX10_digest_104 : decode cX10_digest 104 = .ok (.i2l, 1) := by decide +kernel
theorem dX10_digest_105 : decode cX10_digest 105 = .ok (.invokestatic 286, 3) := by decide +kernel
theorem dX10_digest_108 : decode cX10_digest 108 = .ok (.lstore_n 1, 1) := by decide +kernel
theorem dX10_digest_109 : decode cX10_digest 109 = .ok (.iinc 3 1, 3) := by decide +kernel
theorem dX10_digest_112 : decode cX10_digest 112 = .ok (.goto (-19), 3) := by decide +kernel
theorem dX10_digest_115 : decode cX10_digest 115 = .ok (.iconst 0, 1) := by decide +kernel
theorem dX10_digest_116 : decode cX10_digest 116 = .ok (.istore_n 3, 1) := by decide +kernel
theorem dX10_digest_117 : decode cX10_digest 117 = .ok (.iload_n 3, 1) := by decide +kernel
theorem dX10_digest_118 : decode cX10_digest 118 = .ok (.aload_n 0, 1) := by decide +kernel
theorem dX10_digest_119 : decode cX10_digest 119 = .ok (.getfield 10, 3) := by decide +kernel
theorem dX10_digest_122 : decode cX10_digest 122 = .ok (.getfield 273, 3) := by decide +kernel
theorem dX10_digest_125 : decode cX10_digest 125 = .ok (.if_icmp .ge 24, 3) := by decide +kernel
theorem dX10_digest_128 : decode cX10_digest 128 = .ok (.lload_n 1, 1) := by decide +kernel
theorem dX10_digest_129 : decode cX10_digest 129 = .ok (.aload_n 0, 1) := by decide +kernel
theorem dX10_digest_130 : decode cX10_digest 130 = .ok (.getfield 10, 3) := by decide +kernel
theorem dX10_digest_133 : decode cX10_digest 133 = .ok (.getfield 296, 3) := by decide +kernel
theorem dX10_digest_136 : decode cX10_digest 136 = .ok (.iload_n 3, 1) := by decide +kernel
theorem dX10_digest_137 : decode cX10_digest 137 = .ok (.iaload, 1) := by decide +kernel
theorem dX10_digest_138 : decode cX10_digest 138 = .ok (.i2l, 1) := by decide +kernel
theorem dX10_digest_139 : decode cX10_digest 139 = .ok (.invokestatic 286, 3) := by decide +kernel
theorem dX10_digest_142 : decode cX10_digest 142 = .ok (.lstore_n 1, 1) := by decide +kernel
theorem dX10_digest_143 : decode cX10_digest 143 = .ok (.iinc 3 1, 3) := by decide +kernel
theorem dX10_digest_146 : decode cX10_digest 146 = .ok (.goto (-29), 3) := by decide +kernel
theorem dX10_digest_149 : decode cX10_digest 149 = .ok (.iconst 0, 1) := by decide +kernel
theorem dX10_digest_150 : decode cX10_digest 150 = .ok (.istore_n 3, 1) := by decide +kernel
theorem dX10_digest_151 : decode cX10_digest 151 = .ok (.iload_n 3, 1) := by decide +kernel
theorem dX10_digest_152 : decode cX10_digest 152 = .ok (.bipush 10, 2) := by decide +kernel
theorem dX10_digest_154 : decode cX10_digest 154 = .ok (.if_icmp .gt 20, 3) := by decide +kernel
theorem dX10_digest_157 : decode cX10_digest 157 = .ok (.lload_n 1, 1) := by decide +kernel
theorem dX10_digest_158 : decode cX10_digest 158 = .ok (.aload_n 0, 1) := by decide +kernel
theorem dX10_digest_159 : decode cX10_digest 159 = .ok (.iload_n 3, 1) := by decide +kernel
theorem dX10_digest_160 : decode cX10_digest 160 = .ok (.invokevirtual 299, 3) := by decide +kernel
theorem dX10_digest_163 : decode cX10_digest 163 = .ok (.i2l, 1) := by decide +kernel
theorem dX10_digest_164 : decode cX10_digest 164 = .ok (.invokestatic 286, 3) := by decide +kernel
theorem dX10_digest_167 : decode cX10_digest 167 = .ok (.lstore_n 1, 1) := by decide +kernel
theorem dX10_digest_168 : decode cX10_digest 168 = .ok (.iinc 3 1, 3) := by decide +kernel
theorem dX10_digest_171 : decode cX10_digest 171 = .ok (.goto (-20), 3) := by decide +kernel
theorem dX10_digest_174 : decode cX10_digest 174 = .ok (.lload_n 1, 1) := by decide +kernel
theorem dX10_digest_175 : decode cX10_digest 175 = .ok (.lreturn, 1) := by decide +kernel
theorem dX10_hasKitchen_0 : decode cX10_hasKitchen 0 = .ok (.aload_n 0, 1) := by decide +kernel
theorem dX10_hasKitchen_1 : decode cX10_hasKitchen 1 = .ok (.getfield 19, 3) := by decide +kernel
theorem dX10_hasKitchen_4 : decode cX10_hasKitchen 4 = .ok (.getfield 90, 3) := by decide +kernel
theorem dX10_hasKitchen_7 : decode cX10_hasKitchen 7 = .ok (.ifCond .le 7, 3) := by decide +kernel
theorem dX10_hasKitchen_10 : decode cX10_hasKitchen 10 = .ok (.iconst 1, 1) := by decide +kernel
theorem dX10_hasKitchen_11 : decode cX10_hasKitchen 11 = .ok (.goto 4, 3) := by decide +kernel
theorem dX10_hasKitchen_14 : decode cX10_hasKitchen 14 = .ok (.iconst 0, 1) := by decide +kernel
theorem dX10_hasKitchen_15 : decode cX10_hasKitchen 15 = .ok (.ireturn, 1) := by decide +kernel
theorem dX10_isEgg_0 : decode cX10_isEgg 0 = .ok (.iload_n 1, 1) := by decide +kernel
theorem dX10_isEgg_1 : decode cX10_isEgg 1 = .ok (.ifCond .lt 18, 3) := by decide +kernel
theorem dX10_isEgg_4 : decode cX10_isEgg 4 = .ok (.iload_n 1, 1) := by decide +kernel
theorem dX10_isEgg_5 : decode cX10_isEgg 5 = .ok (.aload_n 0, 1) := by decide +kernel
theorem dX10_isEgg_6 : decode cX10_isEgg 6 = .ok (.getfield 19, 3) := by decide +kernel
theorem dX10_isEgg_9 : decode cX10_isEgg 9 = .ok (.getfield 90, 3) := by decide +kernel
theorem dX10_isEgg_12 : decode cX10_isEgg 12 = .ok (.if_icmp .ge 7, 3) := by decide +kernel
theorem dX10_isEgg_15 : decode cX10_isEgg 15 = .ok (.iconst 1, 1) := by decide +kernel
theorem dX10_isEgg_16 : decode cX10_isEgg 16 = .ok (.goto 4, 3) := by decide +kernel
theorem dX10_isEgg_19 : decode cX10_isEgg 19 = .ok (.iconst 0, 1) := by decide +kernel
theorem dX10_isEgg_20 : decode cX10_isEgg 20 = .ok (.ireturn, 1) := by decide +kernel
set_option maxRecDepth 20000 in
theorem ggX10_mayBreak_X10_hasKitchen : GoodIn wsX10_mayBreak wsX10_hasKitchen := goodIn_r _ [6, 7, 8, 9, 10, 11, 12, 13, 14, 15, 16, 17, 18, 19, 20, 21, 22, 23, 24, 25] (by decide +kernel) (by decide +kernel)
set_option maxRecDepth 20000 in
theorem gX10_mayBreak_X10_hasKitchen : GoodIn wsX10_mayBreak (wsV RX10 168 RX10 yX10_hasKitchen wsX10_hasKitchen) := goodIn_app (goodIn_of _ (by decide +kernel)) ggX10_mayBreak_X10_hasKitchen
theorem dX10_mayBreak_0 : decode cX10_mayBreak 0 = .ok (.aload_n 0, 1) := by decide +kernel
theorem dX10_mayBreak_1 : decode cX10_mayBreak 1 = .ok (.invokevirtual 168, 3) := by decide +kernel
theorem dX10_mayBreak_4 : decode cX10_mayBreak 4 = .ok (.ifCond .eq 16, 3) := by decide +kernel
theorem dX10_mayBreak_7 : decode cX10_mayBreak 7 = .ok (.aload_n 0, 1) := by decide +kernel
theorem dX10_mayBreak_8 : decode cX10_mayBreak 8 = .ok (.getfield 188, 3) := by decide +kernel
theorem dX10_mayBreak_11 : decode cX10_mayBreak 11 = .ok (.bipush 60, 2) := by decide +kernel
theorem dX10_mayBreak_13 : decode cX10_mayBreak 13 = .ok (.if_icmp .ge 7, 3) := by decide +kernel
theorem dX10_mayBreak_16 : decode cX10_mayBreak 16 = .ok (.iconst 1, 1) := by decide +kernel
theorem dX10_mayBreak_17 : decode cX10_mayBreak 17 = .ok (.goto 4, 3) := by decide +kernel
theorem dX10_mayBreak_20 : decode cX10_mayBreak 20 = .ok (.iconst 0, 1) := by decide +kernel
theorem dX10_mayBreak_21 : decode cX10_mayBreak 21 = .ok (.ireturn, 1) := by decide +kernel
theorem dX10_trierOf_0 : decode cX10_trierOf 0 = .ok (.iload_n 1, 1) := by decide +kernel
theorem dX10_trierOf_1 : decode cX10_trierOf 1 = .ok (.ifCond .lt 20, 3) := by decide +kernel
theorem dX10_trierOf_4 : decode cX10_trierOf 4 = .ok (.iload_n 1, 1) := by decide +kernel
theorem dX10_trierOf_5 : decode cX10_trierOf 5 = .ok (.aload_n 0, 1) := by decide +kernel
theorem dX10_trierOf_6 : decode cX10_trierOf 6 = .ok (.getfield 79, 3) := by decide +kernel
theorem dX10_trierOf_9 : decode cX10_trierOf 9 = .ok (.if_icmp .ge 12, 3) := by decide +kernel
theorem dX10_trierOf_12 : decode cX10_trierOf 12 = .ok (.aload_n 0, 1) := by decide +kernel
theorem dX10_trierOf_13 : decode cX10_trierOf 13 = .ok (.getfield 49, 3) := by decide +kernel
theorem dX10_trierOf_16 : decode cX10_trierOf 16 = .ok (.iload_n 1, 1) := by decide +kernel
theorem dX10_trierOf_17 : decode cX10_trierOf 17 = .ok (.aaload, 1) := by decide +kernel
theorem dX10_trierOf_18 : decode cX10_trierOf 18 = .ok (.goto 4, 3) := by decide +kernel
theorem dX10_trierOf_21 : decode cX10_trierOf 21 = .ok (.aconst_null, 1) := by decide +kernel
theorem dX10_trierOf_22 : decode cX10_trierOf 22 = .ok (.areturn, 1) := by decide +kernel
set_option maxRecDepth 20000 in
theorem ggX10_eggsAsMeant_X10_has : GoodIn wsX10_eggsAsMeant wsX10_has := goodIn_r _ [6] (by decide +kernel) (by decide +kernel)
set_option maxRecDepth 20000 in
theorem gX10_eggsAsMeant_X10_has : GoodIn wsX10_eggsAsMeant (va_wsS RX10 302 yX10_has wsX10_has) := goodIn_app (goodIn_of _ (by decide +kernel)) ggX10_eggsAsMeant_X10_has
set_option maxRecDepth 20000 in
theorem ggX10_eggsAsMeant_X3_next : GoodIn wsX10_eggsAsMeant wsX3_next := goodIn_r _ [11, 12, 13, 14, 15, 16, 42] (by decide +kernel) (by decide +kernel)
set_option maxRecDepth 20000 in
theorem gX10_eggsAsMeant_X3_next : GoodIn wsX10_eggsAsMeant (wsV RX10 250 RX3 yX3_next wsX3_next) := goodIn_app (goodIn_of _ (by decide +kernel)) ggX10_eggsAsMeant_X3_next
set_option maxRecDepth 20000 in
theorem ggX10_eggsAsMeant_X6_tenthsOf : GoodIn wsX10_eggsAsMeant wsX6_tenthsOf := goodIn_r _ [21, 22, 23, 36, 37, 38, 39, 40, 41] (by decide +kernel) (by decide +kernel)
set_option maxRecDepth 20000 in
theorem gX10_eggsAsMeant_X6_tenthsOf : GoodIn wsX10_eggsAsMeant (wsV RX10 113 RX6 yX6_tenthsOf wsX6_tenthsOf) := goodIn_app (goodIn_of _ (by decide +kernel)) ggX10_eggsAsMeant_X6_tenthsOf
theorem dX10_eggsAsMeant_0 : decode cX10_eggsAsMeant 0 = .ok (.iconst 0, 1) := by decide +kernel
theorem dX10_eggsAsMeant_1 : decode cX10_eggsAsMeant 1 = .ok (.istore_n 2, 1) := by decide +kernel
theorem dX10_eggsAsMeant_2 : decode cX10_eggsAsMeant 2 = .ok (.iconst 0, 1) := by decide +kernel
theorem dX10_eggsAsMeant_3 : decode cX10_eggsAsMeant 3 = .ok (.istore_n 3, 1) := by decide +kernel
theorem dX10_eggsAsMeant_4 : decode cX10_eggsAsMeant 4 = .ok (.iload_n 3, 1) := by decide +kernel
theorem dX10_eggsAsMeant_5 : decode cX10_eggsAsMeant 5 = .ok (.aload_n 0, 1) := by decide +kernel
theorem dX10_eggsAsMeant_6 : decode cX10_eggsAsMeant 6 = .ok (.getfield 19, 3) := by decide +kernel
theorem dX10_eggsAsMeant_9 : decode cX10_eggsAsMeant 9 = .ok (.getfield 90, 3) := by decide +kernel
theorem dX10_eggsAsMeant_12 : decode cX10_eggsAsMeant 12 = .ok (.if_icmp .ge 55, 3) := by decide +kernel
theorem dX10_eggsAsMeant_15 : decode cX10_eggsAsMeant 15 = .ok (.iload_n 1, 1) := by decide +kernel
theorem dX10_eggsAsMeant_16 : decode cX10_eggsAsMeant 16 = .ok (.iload_n 3, 1) := by decide +kernel
theorem dX10_eggsAsMeant_17 : decode cX10_eggsAsMeant 17 = .ok (.invokestatic 302, 3) := by decide +kernel
theorem dX10_eggsAsMeant_20 : decode cX10_eggsAsMeant 20 = .ok (.istore 4, 2) := by decide +kernel
theorem dX10_eggsAsMeant_22 : decode cX10_eggsAsMeant 22 = .ok (.aload_n 0, 1) := by decide +kernel
theorem dX10_eggsAsMeant_23 : decode cX10_eggsAsMeant 23 = .ok (.getfield 43, 3) := by decide +kernel
theorem dX10_eggsAsMeant_26 : decode cX10_eggsAsMeant 26 = .ok (.bipush 10, 2) := by decide +kernel
theorem dX10_eggsAsMeant_28 : decode cX10_eggsAsMeant 28 = .ok (.invokevirtual 250, 3) := by decide +kernel
theorem dX10_eggsAsMeant_31 : decode cX10_eggsAsMeant 31 = .ok (.aload_n 0, 1) := by decide +kernel
theorem dX10_eggsAsMeant_32 : decode cX10_eggsAsMeant 32 = .ok (.getfield 19, 3) := by decide +kernel
theorem dX10_eggsAsMeant_35 : decode cX10_eggsAsMeant 35 = .ok (.iload 4, 2) := by decide +kernel
theorem dX10_eggsAsMeant_37 : decode cX10_eggsAsMeant 37 = .ok (.iconst 1, 1) := by decide +kernel
theorem dX10_eggsAsMeant_38 : decode cX10_eggsAsMeant 38 = .ok (.invokevirtual 113, 3) := by decide +kernel
theorem dX10_eggsAsMeant_41 : decode cX10_eggsAsMeant 41 = .ok (.if_icmp .ge 7, 3) := by decide +kernel
theorem dX10_eggsAsMeant_44 : decode cX10_eggsAsMeant 44 = .ok (.iconst 1, 1) := by decide +kernel
theorem dX10_eggsAsMeant_45 : decode cX10_eggsAsMeant 45 = .ok (.goto 4, 3) := by decide +kernel
theorem dX10_eggsAsMeant_48 : decode cX10_eggsAsMeant 48 = .ok (.iconst 0, 1) := by decide +kernel
theorem dX10_eggsAsMeant_49 : decode cX10_eggsAsMeant 49 = .ok (.istore 5, 2) := by decide +kernel
theorem dX10_eggsAsMeant_51 : decode cX10_eggsAsMeant 51 = .ok (.iload 5, 2) := by decide +kernel
theorem dX10_eggsAsMeant_53 : decode cX10_eggsAsMeant 53 = .ok (.iload 4, 2) := by decide +kernel
theorem dX10_eggsAsMeant_55 : decode cX10_eggsAsMeant 55 = .ok (.if_icmp .ne 6, 3) := by decide +kernel
theorem dX10_eggsAsMeant_58 : decode cX10_eggsAsMeant 58 = .ok (.iinc 2 1, 3) := by decide +kernel
theorem dX10_eggsAsMeant_61 : decode cX10_eggsAsMeant 61 = .ok (.iinc 3 1, 3) := by decide +kernel
theorem dX10_eggsAsMeant_64 : decode cX10_eggsAsMeant 64 = .ok (.goto (-60), 3) := by decide +kernel
theorem dX10_eggsAsMeant_67 : decode cX10_eggsAsMeant 67 = .ok (.iload_n 2, 1) := by decide +kernel
theorem dX10_eggsAsMeant_68 : decode cX10_eggsAsMeant 68 = .ok (.ireturn, 1) := by decide +kernel
set_option maxRecDepth 20000 in
theorem ggX10_withEgg_X10_egg : GoodIn wsX10_withEgg wsX10_egg := goodIn_r _ [5, 6, 7, 8, 9, 10, 4, 11, 12, 13, 14, 15, 16, 17, 18, 19, 50, 51, 52, 53, 54, 55, 56, 57, 58, 59, 60, 61, 62, 63, 64, 65, 66, 67, 68, 69, 70, 71, 72, 73, 74, 75] (by decide +kernel) (by decide +kernel)
set_option maxRecDepth 20000 in
theorem gX10_withEgg_X10_egg : GoodIn wsX10_withEgg (wsV RX10 306 RX10 yX10_egg wsX10_egg) := goodIn_app (goodIn_of _ (by decide +kernel)) ggX10_withEgg_X10_egg
set_option maxRecDepth 20000 in
theorem ggX10_withEgg_X10_with : GoodIn wsX10_withEgg wsX10_with := goodIn_r _ [22, 23] (by decide +kernel) (by decide +kernel)
set_option maxRecDepth 20000 in
theorem gX10_withEgg_X10_with : GoodIn wsX10_withEgg (va_wsS RX10 286 yX10_with wsX10_with) := goodIn_app (goodIn_of _ (by decide +kernel)) ggX10_withEgg_X10_with
set_option maxRecDepth 20000 in
theorem ggX10_withEgg_X10_likely : GoodIn wsX10_withEgg wsX10_likely := goodIn_r _ [27, 28, 29, 7, 8, 9, 10, 4, 11, 6, 30, 31, 32, 33, 34, 35, 15, 36, 37, 38, 39, 18, 19, 40, 41, 42, 43, 44, 45, 46, 47, 48, 49, 50, 51, 52, 53, 54, 55, 56, 57, 58, 59, 60, 61, 62, 63, 64, 65, 66, 67, 68, 69, 70, 71, 72, 73, 74, 75] (by decide +kernel) (by decide +kernel)
set_option maxRecDepth 20000 in
theorem gX10_withEgg_X10_likely : GoodIn wsX10_withEgg (wsV RX10 309 RX10 yX10_likely wsX10_likely) := goodIn_app (goodIn_of _ (by decide +kernel)) ggX10_withEgg_X10_likely
theorem dX10_withEgg_0 : decode cX10_withEgg 0 = .ok (.lload_n 1, 1) := by decide +kernel
theorem dX10_withEgg_1 : decode cX10_withEgg 1 = .ok (.lstore 4, 2) := by decide +kernel
theorem dX10_withEgg_3 : decode cX10_withEgg 3 = .ok (.iconst 0, 1) := by decide +kernel
theorem dX10_withEgg_4 : decode cX10_withEgg 4 = .ok (.istore 6, 2) := by decide +kernel
theorem dX10_withEgg_6 : decode cX10_withEgg 6 = .ok (.iload 6, 2) := by decide +kernel
theorem dX10_withEgg_8 : decode cX10_withEgg 8 = .ok (.iconst 4, 1) := by decide +kernel
theorem dX10_withEgg_9 : decode cX10_withEgg 9 = .ok (.if_icmp .gt 24, 3) := by decide +kernel
theorem dX10_withEgg_12 : decode cX10_withEgg 12 = .ok (.lload 4, 2) := by decide +kernel
theorem dX10_withEgg_14 : decode cX10_withEgg 14 = .ok (.aload_n 0, 1) := by decide +kernel
theorem dX10_withEgg_15 : decode cX10_withEgg 15 = .ok (.iload_n 3, 1) := by decide +kernel
theorem dX10_withEgg_16 : decode cX10_withEgg 16 = .ok (.iload 6, 2) := by decide +kernel
theorem dX10_withEgg_18 : decode cX10_withEgg 18 = .ok (.invokevirtual 306, 3) := by decide +kernel
theorem dX10_withEgg_21 : decode cX10_withEgg 21 = .ok (.i2l, 1) := by decide +kernel
theorem dX10_withEgg_22 : decode cX10_withEgg 22 = .ok (.invokestatic 286, 3) := by decide +kernel
theorem dX10_withEgg_25 : decode cX10_withEgg 25 = .ok (.lstore 4, 2) := by decide +kernel
theorem dX10_withEgg_27 : decode cX10_withEgg 27 = .ok (.iinc 6 1, 3) := by decide +kernel
theorem dX10_withEgg_30 : decode cX10_withEgg 30 = .ok (.goto (-24), 3) := by decide +kernel
theorem dX10_withEgg_33 : decode cX10_withEgg 33 = .ok (.iconst 0, 1) := by decide +kernel
theorem dX10_withEgg_34 : decode cX10_withEgg 34 = .ok (.istore 6, 2) := by decide +kernel
theorem dX10_withEgg_36 : decode cX10_withEgg 36 = .ok (.iload 6, 2) := by decide +kernel
theorem dX10_withEgg_38 : decode cX10_withEgg 38 = .ok (.iconst 1, 1) := by decide +kernel
theorem dX10_withEgg_39 : decode cX10_withEgg 39 = .ok (.if_icmp .gt 23, 3) := by decide +kernel
theorem dX10_withEgg_42 : decode cX10_withEgg 42 = .ok (.lload 4, 2) := by decide +kernel
theorem dX10_withEgg_44 : decode cX10_withEgg 44 = .ok (.aload_n 0, 1) := by decide +kernel
theorem dX10_withEgg_45 : decode cX10_withEgg 45 = .ok (.iload_n 3, 1) := by decide +kernel
theorem dX10_withEgg_46 : decode cX10_withEgg 46 = .ok (.iload 6, 2) := by decide +kernel
theorem dX10_withEgg_48 : decode cX10_withEgg 48 = .ok (.invokevirtual 309, 3) := by decide +kernel
theorem dX10_withEgg_51 : decode cX10_withEgg 51 = .ok (.invokestatic 286, 3) := by decide +kernel
theorem dX10_withEgg_54 : decode cX10_withEgg 54 = .ok (.lstore 4, 2) := by decide +kernel
theorem dX10_withEgg_56 : decode cX10_withEgg 56 = .ok (.iinc 6 1, 3) := by decide +kernel
theorem dX10_withEgg_59 : decode cX10_withEgg 59 = .ok (.goto (-23), 3) := by decide +kernel
theorem dX10_withEgg_62 : decode cX10_withEgg 62 = .ok (.lload 4, 2) := by decide +kernel
theorem dX10_withEgg_64 : decode cX10_withEgg 64 = .ok (.lreturn, 1) := by decide +kernel
theorem dX10_with_0 : decode cX10_with 0 = .ok (.ldc2_w 313, 3) := by decide +kernel
theorem dX10_with_3 : decode cX10_with 3 = .ok (.lload_n 0, 1) := by decide +kernel
theorem dX10_with_4 : decode cX10_with 4 = .ok (.lmul, 1) := by decide +kernel
theorem dX10_with_5 : decode cX10_with 5 = .ok (.lload_n 2, 1) := by decide +kernel
theorem dX10_with_6 : decode cX10_with 6 = .ok (.ladd, 1) := by decide +kernel
theorem dX10_with_7 : decode cX10_with 7 = .ok (.lreturn, 1) := by decide +kernel
theorem dX10_isPart_0 : decode cX10_isPart 0 = .ok (.iload_n 0, 1) := by decide +kernel
theorem dX10_isPart_1 : decode cX10_isPart 1 = .ok (.ifCond .eq 8, 3) := by decide +kernel
theorem dX10_isPart_4 : decode cX10_isPart 4 = .ok (.iload_n 0, 1) := by decide +kernel
theorem dX10_isPart_5 : decode cX10_isPart 5 = .ok (.iconst 1, 1) := by decide +kernel
theorem dX10_isPart_6 : decode cX10_isPart 6 = .ok (.if_icmp .ne 7, 3) := by decide +kernel
theorem dX10_isPart_9 : decode cX10_isPart 9 = .ok (.iconst 1, 1) := by decide +kernel
theorem dX10_isPart_10 : decode cX10_isPart 10 = .ok (.goto 4, 3) := by decide +kernel
theorem dX10_isPart_13 : decode cX10_isPart 13 = .ok (.iconst 0, 1) := by decide +kernel
theorem dX10_isPart_14 : decode cX10_isPart 14 = .ok (.ireturn, 1) := by decide +kernel
theorem dX10_isRawNumber_0 : decode cX10_isRawNumber 0 = .ok (.iload_n 0, 1) := by decide +kernel
theorem dX10_isRawNumber_1 : decode cX10_isRawNumber 1 = .ok (.iconst 1, 1) := by decide +kernel
theorem dX10_isRawNumber_2 : decode cX10_isRawNumber 2 = .ok (.if_icmp .lt 13, 3) := by decide +kernel
theorem dX10_isRawNumber_5 : decode cX10_isRawNumber 5 = .ok (.iload_n 0, 1) := by decide +kernel
theorem dX10_isRawNumber_6 : decode cX10_isRawNumber 6 = .ok (.bipush 6, 2) := by decide +kernel
theorem dX10_isRawNumber_8 : decode cX10_isRawNumber 8 = .ok (.if_icmp .gt 7, 3) := by decide +kernel
theorem dX10_isRawNumber_11 : decode cX10_isRawNumber 11 = .ok (.iconst 1, 1) := by decide +kernel
theorem dX10_isRawNumber_12 : decode cX10_isRawNumber 12 = .ok (.goto 4, 3) := by decide +kernel
theorem dX10_isRawNumber_15 : decode cX10_isRawNumber 15 = .ok (.iconst 0, 1) := by decide +kernel
theorem dX10_isRawNumber_16 : decode cX10_isRawNumber 16 = .ok (.ireturn, 1) := by decide +kernel
theorem dX10_isKind_0 : decode cX10_isKind 0 = .ok (.iload_n 0, 1) := by decide +kernel
theorem dX10_isKind_1 : decode cX10_isKind 1 = .ok (.ifCond .lt 12, 3) := by decide +kernel
theorem dX10_isKind_4 : decode cX10_isKind 4 = .ok (.iload_n 0, 1) := by decide +kernel
theorem dX10_isKind_5 : decode cX10_isKind 5 = .ok (.iconst 5, 1) := by decide +kernel
theorem dX10_isKind_6 : decode cX10_isKind 6 = .ok (.if_icmp .ge 7, 3) := by decide +kernel
theorem dX10_isKind_9 : decode cX10_isKind 9 = .ok (.iconst 1, 1) := by decide +kernel
theorem dX10_isKind_10 : decode cX10_isKind 10 = .ok (.goto 4, 3) := by decide +kernel
theorem dX10_isKind_13 : decode cX10_isKind 13 = .ok (.iconst 0, 1) := by decide +kernel
theorem dX10_isKind_14 : decode cX10_isKind 14 = .ok (.ireturn, 1) := by decide +kernel
theorem dX10_has_0 : decode cX10_has 0 = .ok (.iload_n 0, 1) := by decide +kernel
theorem dX10_has_1 : decode cX10_has 1 = .ok (.iload_n 1, 1) := by decide +kernel
theorem dX10_has_2 : decode cX10_has 2 = .ok (.ishr, 1) := by decide +kernel
theorem dX10_has_3 : decode cX10_has 3 = .ok (.iconst 1, 1) := by decide +kernel
theorem dX10_has_4 : decode cX10_has 4 = .ok (.iand, 1) := by decide +kernel
theorem dX10_has_5 : decode cX10_has 5 = .ok (.iconst 1, 1) := by decide +kernel
theorem dX10_has_6 : decode cX10_has 6 = .ok (.if_icmp .ne 7, 3) := by decide +kernel
theorem dX10_has_9 : decode cX10_has 9 = .ok (.iconst 1, 1) := by decide +kernel
theorem dX10_has_10 : decode cX10_has 10 = .ok (.goto 4, 3) := by decide +kernel
theorem dX10_has_13 : decode cX10_has 13 = .ok (.iconst 0, 1) := by decide +kernel
theorem dX10_has_14 : decode cX10_has 14 = .ok (.ireturn, 1) := by decide +kernel
set_option maxRecDepth 20000 in
theorem ggX10_inLowestTerms_X10_commonDivisor : GoodIn wsX10_inLowestTerms wsX10_commonDivisor := goodIn_r _ [4] (by decide +kernel) (by decide +kernel)
set_option maxRecDepth 20000 in
theorem gX10_inLowestTerms_X10_commonDivisor : GoodIn wsX10_inLowestTerms (va_wsS RX10 315 yX10_commonDivisor wsX10_commonDivisor) := goodIn_app (goodIn_of _ (by decide +kernel)) ggX10_inLowestTerms_X10_commonDivisor
theorem dX10_inLowestTerms_0 : decode cX10_inLowestTerms 0 = .ok (.lload_n 0, 1) := by decide +kernel
theorem dX10_inLowestTerms_1 : decode cX10_inLowestTerms 1 = .ok (.lload_n 2, 1) := by decide +kernel
theorem dX10_inLowestTerms_2 : decode cX10_inLowestTerms 2 = .ok (.invokestatic 315, 3) := by decide +kernel
theorem dX10_inLowestTerms_5 : decode cX10_inLowestTerms 5 = .ok (.lstore 5, 2) := by decide +kernel
theorem dX10_inLowestTerms_7 : decode cX10_inLowestTerms 7 = .ok (.iload 4, 2) := by decide +kernel
theorem dX10_inLowestTerms_9 : decode cX10_inLowestTerms 9 = .ok (.ifCond .ne 7, 3) := by decide +kernel
theorem dX10_inLowestTerms_12 : decode cX10_inLowestTerms 12 = .ok (.lload_n 0, 1) := by decide +kernel
theorem dX10_inLowestTerms_13 : decode cX10_inLowestTerms 13 = .ok (.goto 4, 3) := by decide +kernel
theorem dX10_inLowestTerms_16 : decode cX10_inLowestTerms 16 = .ok (.lload_n 2, 1) := by decide +kernel
theorem dX10_inLowestTerms_17 : decode cX10_inLowestTerms 17 = .ok (.lstore 7, 2) := by decide +kernel
theorem dX10_inLowestTerms_19 : decode cX10_inLowestTerms 19 = .ok (.lload 5, 2) := by decide +kernel
theorem dX10_inLowestTerms_21 : decode cX10_inLowestTerms 21 = .ok (.lconst 0, 1) := by decide +kernel
theorem dX10_inLowestTerms_22 : decode cX10_inLowestTerms 22 = .ok (.lcmp, 1) := by decide +kernel
theorem dX10_inLowestTerms_23 : decode cX10_inLowestTerms 23 = .ok (.ifCond .ne 8, 3) := by decide +kernel
theorem dX10_inLowestTerms_26 : decode cX10_inLowestTerms 26 = .ok (.lload 7, 2) := by decide +kernel
theorem dX10_inLowestTerms_28 : decode cX10_inLowestTerms 28 = .ok (.goto 8, 3) := by decide +kernel
theorem dX10_inLowestTerms_31 : decode cX10_inLowestTerms 31 = .ok (.lload 7, 2) := by decide +kernel
theorem dX10_inLowestTerms_33 : decode cX10_inLowestTerms 33 = .ok (.lload 5, 2) := by decide +kernel
theorem dX10_inLowestTerms_35 : decode cX10_inLowestTerms 35 = .ok (.ldiv, 1) := by decide +kernel
theorem dX10_inLowestTerms_36 : decode cX10_inLowestTerms 36 = .ok (.lreturn, 1) := by decide +kernel
theorem dX10_commonDivisor_0 : decode cX10_commonDivisor 0 = .ok (.lload_n 0, 1) := by decide +kernel
theorem dX10_commonDivisor_1 : decode cX10_commonDivisor 1 = .ok (.lstore 4, 2) := by decide +kernel
theorem dX10_commonDivisor_3 : decode cX10_commonDivisor 3 = .ok (.lload_n 2, 1) := by decide +kernel
theorem dX10_commonDivisor_4 : decode cX10_commonDivisor 4 = .ok (.lstore 6, 2) := by decide +kernel
theorem dX10_commonDivisor_6 : decode cX10_commonDivisor 6 = .ok (.iconst 0, 1) := by decide +kernel
theorem dX10_commonDivisor_7 : decode cX10_commonDivisor 7 = .ok (.istore 8, 2) := by decide +kernel
theorem dX10_commonDivisor_9 : decode cX10_commonDivisor 9 = .ok (.iload 8, 2) := by decide +kernel
theorem dX10_commonDivisor_11 : decode cX10_commonDivisor 11 = .ok (.bipush 100, 2) := by decide +kernel
theorem dX10_commonDivisor_13 : decode cX10_commonDivisor 13 = .ok (.if_icmp .ge 31, 3) := by decide +kernel
theorem dX10_commonDivisor_16 : decode cX10_commonDivisor 16 = .ok (.lload 6, 2) := by decide +kernel
theorem dX10_commonDivisor_18 : decode cX10_commonDivisor 18 = .ok (.lconst 0, 1) := by decide +kernel
theorem dX10_commonDivisor_19 : decode cX10_commonDivisor 19 = .ok (.lcmp, 1) := by decide +kernel
theorem dX10_commonDivisor_20 : decode cX10_commonDivisor 20 = .ok (.ifCond .eq 24, 3) := by decide +kernel
theorem dX10_commonDivisor_23 : decode cX10_commonDivisor 23 = .ok (.lload 4, 2) := by decide +kernel
theorem dX10_commonDivisor_25 : decode cX10_commonDivisor 25 = .ok (.lload 6, 2) := by decide +kernel
theorem dX10_commonDivisor_27 : decode cX10_commonDivisor 27 = .ok (.lrem, 1) := by decide +kernel
theorem dX10_commonDivisor_28 : decode cX10_commonDivisor 28 = .ok (.lstore 9, 2) := by decide +kernel
theorem dX10_commonDivisor_30 : decode cX10_commonDivisor 30 = .ok (.lload 6, 2) := by decide +kernel
theorem dX10_commonDivisor_32 : decode cX10_commonDivisor 32 = .ok (.lstore 4, 2) := by decide +kernel
theorem dX10_commonDivisor_34 : decode cX10_commonDivisor 34 = .ok (.lload 9, 2) := by decide +kernel
theorem dX10_commonDivisor_36 : decode cX10_commonDivisor 36 = .ok (.lstore 6, 2) := by decide +kernel
theorem dX10_commonDivisor_38 : decode cX10_commonDivisor 38 = .ok (.iinc 8 1, 3) := by decide +kernel
theorem dX10_commonDivisor_41 : decode cX10_commonDivisor 41 = .ok (.goto (-32), 3) := by decide +kernel
theorem dX10_commonDivisor_44 : decode cX10_commonDivisor 44 = .ok (.lload 4, 2) := by decide +kernel
theorem dX10_commonDivisor_46 : decode cX10_commonDivisor 46 = .ok (.lreturn, 1) := by decide +kernel
set_option maxRecDepth 20000 in
theorem ggX10_newTrier_X2_init : GoodIn wsX10_newTrier wsX2_init := goodIn_r _ [17, 18, 15, 19, 20, 21, 22] (by decide +kernel) (by decide +kernel)
set_option maxRecDepth 20000 in
theorem gX10_newTrier_X2_init_n320 : GoodIn wsX10_newTrier (wsX2_init) := ggX10_newTrier_X2_init
set_option maxRecDepth 20000 in
theorem ggX10_newTrier_X0_init : GoodIn wsX10_newTrier wsX0_init := goodIn_r _ [24, 18, 15, 19, 20, 21, 22] (by decide +kernel) (by decide +kernel)
set_option maxRecDepth 20000 in
theorem gX10_newTrier_X0_init_n323 : GoodIn wsX10_newTrier (wsX0_init) := ggX10_newTrier_X0_init
set_option maxRecDepth 20000 in
theorem ggX10_newTrier_X5_init : GoodIn wsX10_newTrier wsX5_init := goodIn_r _ [26, 18, 15, 19, 20, 21, 22] (by decide +kernel) (by decide +kernel)
set_option maxRecDepth 20000 in
theorem gX10_newTrier_X5_init_n326 : GoodIn wsX10_newTrier (wsX5_init) := ggX10_newTrier_X5_init
set_option maxRecDepth 20000 in
theorem ggX10_newTrier_X4_init : GoodIn wsX10_newTrier wsX4_init := goodIn_r _ [28, 25, 9, 26, 18, 15, 19, 20, 21, 22] (by decide +kernel) (by decide +kernel)
set_option maxRecDepth 20000 in
theorem gX10_newTrier_X4_init_n329 : GoodIn wsX10_newTrier (wsX4_init) := ggX10_newTrier_X4_init
set_option maxRecDepth 20000 in
theorem ggX10_newTrier_X9_init : GoodIn wsX10_newTrier wsX9_init := goodIn_r _ [19, 20, 21, 22] (by decide +kernel) (by decide +kernel)
set_option maxRecDepth 20000 in
theorem gX10_newTrier_X9_init_n330 : GoodIn wsX10_newTrier (wsX9_init) := ggX10_newTrier_X9_init
theorem dX10_newTrier_0 : decode cX10_newTrier 0 = .ok (.iload_n 0, 1) := by decide +kernel
theorem dX10_newTrier_1 : decode cX10_newTrier 1 = .ok (.tableswitch 63 1 4 #[31, 39, 47, 55], 31) := by decide +kernel
theorem dX10_newTrier_32 : decode cX10_newTrier 32 = .ok (.new 318, 3) := by decide +kernel
theorem dX10_newTrier_35 : decode cX10_newTrier 35 = .ok (.dup, 1) := by decide +kernel
theorem dX10_newTrier_36 : decode cX10_newTrier 36 = .ok (.invokespecial 320, 3) := by decide +kernel
theorem dX10_newTrier_39 : decode cX10_newTrier 39 = .ok (.areturn, 1) := by decide +kernel
theorem dX10_newTrier_40 : decode cX10_newTrier 40 = .ok (.new 321, 3) := by decide +kernel
theorem dX10_newTrier_43 : decode cX10_newTrier 43 = .ok (.dup, 1) := by decide +kernel
theorem dX10_newTrier_44 : decode cX10_newTrier 44 = .ok (.invokespecial 323, 3) := by decide +kernel
theorem dX10_newTrier_47 : decode cX10_newTrier 47 = .ok (.areturn, 1) := by decide +kernel
theorem dX10_newTrier_48 : decode cX10_newTrier 48 = .ok (.new 324, 3) := by decide +kernel
theorem dX10_newTrier_51 : decode cX10_newTrier 51 = .ok (.dup, 1) := by decide +kernel
theorem dX10_newTrier_52 : decode cX10_newTrier 52 = .ok (.invokespecial 326, 3) := by decide +kernel
theorem dX10_newTrier_55 : decode cX10_newTrier 55 = .ok (.areturn, 1) := by decide +kernel
theorem dX10_newTrier_56 : decode cX10_newTrier 56 = .ok (.new 327, 3) := by decide +kernel
theorem dX10_newTrier_59 : decode cX10_newTrier 59 = .ok (.dup, 1) := by decide +kernel
theorem dX10_newTrier_60 : decode cX10_newTrier 60 = .ok (.invokespecial 329, 3) := by decide +kernel
theorem dX10_newTrier_63 : decode cX10_newTrier 63 = .ok (.areturn, 1) := by decide +kernel
theorem dX10_newTrier_64 : decode cX10_newTrier 64 = .ok (.new 47, 3) := by decide +kernel
theorem dX10_newTrier_67 : decode cX10_newTrier 67 = .ok (.dup, 1) := by decide +kernel
theorem dX10_newTrier_68 : decode cX10_newTrier 68 = .ok (.invokespecial 330, 3) := by decide +kernel
theorem dX10_newTrier_71 : decode cX10_newTrier 71 = .ok (.areturn, 1) := by decide +kernel
theorem dX10_isOfKind_0 : decode cX10_isOfKind 0 = .ok (.iload_n 1, 1) := by decide +kernel
theorem dX10_isOfKind_1 : decode cX10_isOfKind 1 = .ok (.tableswitch 51 1 4 #[31, 36, 41, 46], 31) := by decide +kernel
theorem dX10_isOfKind_32 : decode cX10_isOfKind 32 = .ok (.aload_n 0, 1) := by decide +kernel
theorem dX10_isOfKind_33 : decode cX10_isOfKind 33 = .ok (.instanceof 318, 3) := by decide +kernel
theorem dX10_isOfKind_36 : decode cX10_isOfKind 36 = .ok (.ireturn, 1) := by decide +kernel
theorem dX10_isOfKind_37 : decode cX10_isOfKind 37 = .ok (.aload_n 0, 1) := by decide +kernel
theorem dX10_isOfKind_38 : decode cX10_isOfKind 38 = .ok (.instanceof 321, 3) := by decide +kernel
theorem dX10_isOfKind_41 : decode cX10_isOfKind 41 = .ok (.ireturn, 1) := by decide +kernel
theorem dX10_isOfKind_42 : decode cX10_isOfKind 42 = .ok (.aload_n 0, 1) := by decide +kernel
theorem dX10_isOfKind_43 : decode cX10_isOfKind 43 = .ok (.instanceof 324, 3) := by decide +kernel
theorem dX10_isOfKind_46 : decode cX10_isOfKind 46 = .ok (.ireturn, 1) := by decide +kernel
theorem dX10_isOfKind_47 : decode cX10_isOfKind 47 = .ok (.aload_n 0, 1) := by decide +kernel
theorem dX10_isOfKind_48 : decode cX10_isOfKind 48 = .ok (.instanceof 327, 3) := by decide +kernel
theorem dX10_isOfKind_51 : decode cX10_isOfKind 51 = .ok (.ireturn, 1) := by decide +kernel
theorem dX10_isOfKind_52 : decode cX10_isOfKind 52 = .ok (.iconst 1, 1) := by decide +kernel
theorem dX10_isOfKind_53 : decode cX10_isOfKind 53 = .ok (.ireturn, 1) := by decide +kernel
end
section
theorem dX11_init_0 : decode cX11_init 0 = .ok (.aload_n 0, 1) := by decide +kernel
theorem dX11_init_1 : decode cX11_init 1 = .ok (.invokespecial 1, 3) := by decide +kernel
theorem dX11_init_4 : decode cX11_init 4 = .ok (.aload_n 0, 1) := by decide +kernel
theorem dX11_init_5 : decode cX11_init 5 = .ok (.bipush 6, 2) := by decide +kernel
theorem dX11_init_7 : decode cX11_init 7 = .ok (.newarray .int, 2) := by decide +kernel
theorem dX11_init_9 : decode cX11_init 9 = .ok (.putfield 7, 3) := by decide +kernel
theorem dX11_init_12 : decode cX11_init 12 = .ok (.aload_n 0, 1) := by decide +kernel
theorem dX11_init_13 : decode cX11_init 13 = .ok (.bipush 6, 2) := by decide +kernel
theorem dX11_init_15 : decode cX11_init 15 = .ok (.newarray .int, 2) := by decide +kernel
theorem dX11_init_17 : decode cX11_init 17 = .ok (.putfield 13, 3) := by decide +kernel
theorem dX11_init_20 : decode cX11_init 20 = .ok (.aload_n 0, 1) := by decide +kernel
theorem dX11_init_21 : decode cX11_init 21 = .ok (.bipush 6, 2) := by decide +kernel
theorem dX11_init_23 : decode cX11_init 23 = .ok (.newarray .int, 2) := by decide +kernel
theorem dX11_init_25 : decode cX11_init 25 = .ok (.putfield 16, 3) := by decide +kernel
theorem dX11_init_28 : decode cX11_init 28 = .ok (.aload_n 0, 1) := by decide +kernel
theorem dX11_init_29 : decode cX11_init 29 = .ok (.bipush 6, 2) := by decide +kernel
theorem dX11_init_31 : decode cX11_init 31 = .ok (.newarray .int, 2) := by decide +kernel
theorem dX11_init_33 : decode cX11_init 33 = .ok (.dup, 1) := by decide +kernel
theorem dX11_init_34 : decode cX11_init 34 = .ok (.iconst 0, 1) := by decide +kernel
theorem dX11_init_35 : decode cX11_init 35 = .ok (.iconst (-1), 1) := by decide +kernel
theorem dX11_init_36 : decode cX11_init 36 = .ok (.iastore, 1) := by decide +kernel
theorem dX11_init_37 : decode cX11_init 37 = .ok (.dup, 1) := by decide +kernel
theorem dX11_init_38 : decode cX11_init 38 = .ok (.iconst 1, 1) := by decide +kernel
theorem dX11_init_39 : decode cX11_init 39 = .ok (.iconst (-1), 1) := by decide +kernel
theorem dX11_init_40 : decode cX11_init 40 = .ok (.iastore, 1) := by decide +kernel
theorem dX11_init_41 : decode cX11_init 41 = .ok (.dup, 1) := by decide +kernel
theorem dX11_init_42 : decode cX11_init 42 = .ok (.iconst 2, 1) := by decide +kernel
theorem dX11_init_43 : decode cX11_init 43 = .ok (.iconst (-1), 1) := by decide +kernel
theorem dX11_init_44 : decode cX11_init 44 = .ok (.iastore, 1) := by decide +kernel
theorem dX11_init_45 : decode cX11_init 45 = .ok (.dup, 1) := by decide +kernel
theorem dX11_init_46 : decode cX11_init 46 = .ok (.iconst 3, 1) := by decide +kernel
theorem dX11_init_47 : decode cX11_init 47 = .ok (.iconst (-1), 1) := by decide +kernel
theorem dX11_init_48 : decode cX11_init 48 = .ok (.iastore, 1) := by decide +kernel
theorem dX11_init_49 : decode cX11_init 49 = .ok (.dup, 1) := by decide +kernel
theorem dX11_init_50 : decode cX11_init 50 = .ok (.iconst 4, 1) := by decide +kernel
theorem dX11_init_51 : decode cX11_init 51 = .ok (.iconst (-1), 1) := by decide +kernel
theorem dX11_init_52 : decode cX11_init 52 = .ok (.iastore, 1) := by decide +kernel
theorem dX11_init_53 : decode cX11_init 53 = .ok (.dup, 1) := by decide +kernel
theorem dX11_init_54 : decode cX11_init 54 = .ok (.iconst 5, 1) := by decide +kernel
theorem dX11_init_55 : decode cX11_init 55 = .ok (.iconst (-1), 1) := by decide +kernel
theorem dX11_init_56 : decode cX11_init 56 = .ok (.iastore, 1) := by decide +kernel
theorem dX11_init_57 : decode cX11_init 57 = .ok (.putfield 19, 3) := by decide +kernel
theorem dX11_init_60 : decode cX11_init 60 = .ok (.aload_n 0, 1) := by decide +kernel
theorem dX11_init_61 : decode cX11_init 61 = .ok (.iconst 4, 1) := by decide +kernel
theorem dX11_init_62 : decode cX11_init 62 = .ok (.newarray .int, 2) := by decide +kernel
theorem dX11_init_64 : decode cX11_init 64 = .ok (.putfield 22, 3) := by decide +kernel
theorem dX11_init_67 : decode cX11_init 67 = .ok (.aload_n 0, 1) := by decide +kernel
theorem dX11_init_68 : decode cX11_init 68 = .ok (.bipush 14, 2) := by decide +kernel
theorem dX11_init_70 : decode cX11_init 70 = .ok (.newarray .byte, 2) := by decide +kernel
theorem dX11_init_72 : decode cX11_init 72 = .ok (.putfield 25, 3) := by decide +kernel
theorem dX11_init_75 : decode cX11_init 75 = .ok (.aload_n 0, 1) := by decide +kernel
theorem dX11_init_76 : decode cX11_init 76 = .ok (.sipush 729, 3) := by decide +kernel
theorem dX11_init_79 : decode cX11_init 79 = .ok (.newarray .long, 2) := by decide +kernel
theorem dX11_init_81 : decode cX11_init 81 = .ok (.putfield 29, 3) := by decide +kernel
theorem dX11_init_84 : decode cX11_init 84 = .ok (.aload_n 0, 1) := by decide +kernel
theorem dX11_init_85 : decode cX11_init 85 = .ok (.sipush 729, 3) := by decide +kernel
theorem dX11_init_88 : decode cX11_init 88 = .ok (.newarray .int, 2) := by decide +kernel
theorem dX11_init_90 : decode cX11_init 90 = .ok (.putfield 33, 3) := by decide +kernel
theorem dX11_init_93 : decode cX11_init 93 = .ok (.aload_n 0, 1) := by decide +kernel
theorem dX11_init_94 : decode cX11_init 94 = .ok (.sipush 729, 3) := by decide +kernel
theorem dX11_init_97 : decode cX11_init 97 = .ok (.newarray .long, 2) := by decide +kernel
theorem dX11_init_99 : decode cX11_init 99 = .ok (.putfield 36, 3) := by decide +kernel
theorem dX11_init_102 : decode cX11_init 102 = .ok (.aload_n 0, 1) := by decide +kernel
theorem dX11_init_103 : decode cX11_init 103 = .ok (.bipush 64, 2) := by decide +kernel
theorem dX11_init_105 : decode cX11_init 105 = .ok (.newarray .long, 2) := by decide +kernel
theorem dX11_init_107 : decode cX11_init 107 = .ok (.putfield 39, 3) := by decide +kernel
theorem dX11_init_110 : decode cX11_init 110 = .ok (.aload_n 0, 1) := by decide +kernel
theorem dX11_init_111 : decode cX11_init 111 = .ok (.bipush 6, 2) := by decide +kernel
theorem dX11_init_113 : decode cX11_init 113 = .ok (.newarray .int, 2) := by decide +kernel
theorem dX11_init_115 : decode cX11_init 115 = .ok (.putfield 42, 3) := by decide +kernel
theorem dX11_init_118 : decode cX11_init 118 = .ok (.aload_n 0, 1) := by decide +kernel
theorem dX11_init_119 : decode cX11_init 119 = .ok (.bipush 6, 2) := by decide +kernel
theorem dX11_init_121 : decode cX11_init 121 = .ok (.newarray .int, 2) := by decide +kernel
theorem dX11_init_123 : decode cX11_init 123 = .ok (.putfield 45, 3) := by decide +kernel
theorem dX11_init_126 : decode cX11_init 126 = .ok (.aload_n 0, 1) := by decide +kernel
theorem dX11_init_127 : decode cX11_init 127 = .ok (.bipush 6, 2) := by decide +kernel
theorem dX11_init_129 : decode cX11_init 129 = .ok (.newarray .int, 2) := by decide +kernel
theorem dX11_init_131 : decode cX11_init 131 = .ok (.putfield 48, 3) := by decide +kernel
theorem dX11_init_134 : decode cX11_init 134 = .ok (.return_, 1) := by decide +kernel
theorem dX11_within_0 : decode cX11_within 0 = .ok (.iload_n 0, 1) := by decide +kernel
theorem dX11_within_1 : decode cX11_within 1 = .ok (.iload_n 1, 1) := by decide +kernel
theorem dX11_within_2 : decode cX11_within 2 = .ok (.if_icmp .lt 12, 3) := by decide +kernel
theorem dX11_within_5 : decode cX11_within 5 = .ok (.iload_n 0, 1) := by decide +kernel
theorem dX11_within_6 : decode cX11_within 6 = .ok (.iload_n 2, 1) := by decide +kernel
theorem dX11_within_7 : decode cX11_within 7 = .ok (.if_icmp .gt 7, 3) := by decide +kernel
theorem dX11_within_10 : decode cX11_within 10 = .ok (.iconst 1, 1) := by decide +kernel
theorem dX11_within_11 : decode cX11_within 11 = .ok (.goto 4, 3) := by decide +kernel
theorem dX11_within_14 : decode cX11_within 14 = .ok (.iconst 0, 1) := by decide +kernel
theorem dX11_within_15 : decode cX11_within 15 = .ok (.ireturn, 1) := by decide +kernel
theorem dX11_has_0 : decode cX11_has 0 = .ok (.iload_n 0, 1) := by decide +kernel
theorem dX11_has_1 : decode cX11_has 1 = .ok (.iload_n 1, 1) := by decide +kernel
theorem dX11_has_2 : decode cX11_has 2 = .ok (.ishr, 1) := by decide +kernel
theorem dX11_has_3 : decode cX11_has 3 = .ok (.iconst 1, 1) := by decide +kernel
theorem dX11_has_4 : decode cX11_has 4 = .ok (.iand, 1) := by decide +kernel
theorem dX11_has_5 : decode cX11_has 5 = .ok (.iconst 1, 1) := by decide +kernel
theorem dX11_has_6 : decode cX11_has 6 = .ok (.if_icmp .ne 7, 3) := by decide +kernel
theorem dX11_has_9 : decode cX11_has 9 = .ok (.iconst 1, 1) := by decide +kernel
theorem dX11_has_10 : decode cX11_has 10 = .ok (.goto 4, 3) := by decide +kernel
theorem dX11_has_13 : decode cX11_has 13 = .ok (.iconst 0, 1) := by decide +kernel
theorem dX11_has_14 : decode cX11_has 14 = .ok (.ireturn, 1) := by decide +kernel
theorem dX11_size_0 : decode cX11_size 0 = .ok (.iconst 0, 1) := by decide +kernel
theorem dX11_size_1 : decode cX11_size 1 = .ok (.istore_n 1, 1) := by decide +kernel
theorem dX11_size_2 : decode cX11_size 2 = .ok (.iconst 0, 1) := by decide +kernel
theorem dX11_size_3 : decode cX11_size 3 = .ok (.istore_n 2, 1) := by decide +kernel
theorem dX11_size_4 : decode cX11_size 4 = .ok (.iload_n 2, 1) := by decide +kernel
theorem dX11_size_5 : decode cX11_size 5 = .ok (.bipush 6, 2) := by decide +kernel
theorem dX11_size_7 : decode cX11_size 7 = .ok (.if_icmp .ge 17, 3) := by decide +kernel
theorem dX11_size_10 : decode cX11_size 10 = .ok (.iload_n 1, 1) := by decide +kernel
theorem dX11_size_11 : decode cX11_size 11 = .ok (.iload_n 0, 1) := by decide +kernel
theorem dX11_size_12 : decode cX11_size 12 = .ok (.iload_n 2, 1) := by decide +kernel
theorem dX11_size_13 : decode cX11_size 13 = .ok (.ishr, 1) := by decide +kernel
theorem dX11_size_14 : decode cX11_size 14 = .ok (.iconst 1, 1) := by decide +kernel
theorem dX11_size_15 : decode cX11_size 15 = .ok (.iand, 1) := by decide +kernel
theorem dX11_size_16 : decode cX11_size 16 = .ok (.iadd, 1) := by decide +kernel
theorem dX11_size_17 : decode cX11_size 17 = .ok (.istore_n 1, 1) := by decide +kernel
theorem dX11_size_18 : decode cX11_size 18 = .ok (.iinc 2 1, 3) := by decide +kernel
theorem dX11_size_21 : decode cX11_size 21 = .ok (.goto (-17), 3) := by decide +kernel
theorem dX11_size_24 : decode cX11_size 24 = .ok (.iload_n 1, 1) := by decide +kernel
theorem dX11_size_25 : decode cX11_size 25 = .ok (.ireturn, 1) := by decide +kernel
theorem dX11_lowest_0 : decode cX11_lowest 0 = .ok (.lload_n 0, 1) := by decide +kernel
theorem dX11_lowest_1 : decode cX11_lowest 1 = .ok (.lstore 5, 2) := by decide +kernel
theorem dX11_lowest_3 : decode cX11_lowest 3 = .ok (.lload_n 2, 1) := by decide +kernel
theorem dX11_lowest_4 : decode cX11_lowest 4 = .ok (.lstore 7, 2) := by decide +kernel
theorem dX11_lowest_6 : decode cX11_lowest 6 = .ok (.lload 7, 2) := by decide +kernel
theorem dX11_lowest_8 : decode cX11_lowest 8 = .ok (.lconst 0, 1) := by decide +kernel
theorem dX11_lowest_9 : decode cX11_lowest 9 = .ok (.lcmp, 1) := by decide +kernel
theorem dX11_lowest_10 : decode cX11_lowest 10 = .ok (.ifCond .eq 21, 3) := by decide +kernel
theorem dX11_lowest_13 : decode cX11_lowest 13 = .ok (.lload 5, 2) := by decide +kernel
theorem dX11_lowest_15 : decode cX11_lowest 15 = .ok (.lload 7, 2) := by decide +kernel
theorem dX11_lowest_17 : decode cX11_lowest 17 = .ok (.lrem, 1) := by decide +kernel
theorem dX11_lowest_18 : decode cX11_lowest 18 = .ok (.lstore 9, 2) := by decide +kernel
theorem dX11_lowest_20 : decode cX11_lowest 20 = .ok (.lload 7, 2) := by decide +kernel
theorem dX11_lowest_22 : decode cX11_lowest 22 = .ok (.lstore 5, 2) := by decide +kernel
theorem dX11_lowest_24 : decode cX11_lowest 24 = .ok (.lload 9, 2) := by decide +kernel
theorem dX11_lowest_26 : decode cX11_lowest 26 = .ok (.lstore 7, 2) := by decide +kernel
theorem dX11_lowest_28 : decode cX11_lowest 28 = .ok (.goto (-22), 3) := by decide +kernel
theorem dX11_lowest_31 : decode cX11_lowest 31 = .ok (.iload 4, 2) := by decide +kernel
theorem dX11_lowest_33 : decode cX11_lowest 33 = .ok (.ifCond .ne 10, 3) := by decide +kernel
theorem dX11_lowest_36 : decode cX11_lowest 36 = .ok (.lload_n 0, 1) := by decide +kernel
theorem dX11_lowest_37 : decode cX11_lowest 37 = .ok (.lload 5, 2) := by decide +kernel
theorem dX11_lowest_39 : decode cX11_lowest 39 = .ok (.ldiv, 1) := by decide +kernel
theorem dX11_lowest_40 : decode cX11_lowest 40 = .ok (.goto 7, 3) := by decide +kernel
theorem dX11_lowest_43 : decode cX11_lowest 43 = .ok (.lload_n 2, 1) := by decide +kernel
theorem dX11_lowest_44 : decode cX11_lowest 44 = .ok (.lload 5, 2) := by decide +kernel
theorem dX11_lowest_46 : decode cX11_lowest 46 = .ok (.ldiv, 1) := by decide +kernel
theorem dX11_lowest_47 : decode cX11_lowest 47 = .ok (.lreturn, 1) := by decide +kernel
set_option maxRecDepth 20000 in
theorem ggX11_letter_X11_within : GoodIn wsX11_letter wsX11_within := goodIn_r _ [6] (by decide +kernel) (by decide +kernel)
set_option maxRecDepth 20000 in
theorem gX11_letter_X11_within : GoodIn wsX11_letter (va_wsS RX11 51 yX11_within wsX11_within) := goodIn_app (goodIn_of _ (by decide +kernel)) ggX11_letter_X11_within
theorem dX11_letter_0 : decode cX11_letter 0 = .ok (.iload_n 1, 1) := by decide +kernel
theorem dX11_letter_1 : decode cX11_letter 1 = .ok (.bipush 32, 2) := by decide +kernel
theorem dX11_letter_3 : decode cX11_letter 3 = .ok (.bipush 126, 2) := by decide +kernel
theorem dX11_letter_5 : decode cX11_letter 5 = .ok (.invokestatic 51, 3) := by decide +kernel
theorem dX11_letter_8 : decode cX11_letter 8 = .ok (.ifCond .ne 6, 3) := by decide +kernel
theorem dX11_letter_11 : decode cX11_letter 11 = .ok (.bipush (-102), 2) := by decide +kernel
theorem dX11_letter_13 : decode cX11_letter 13 = .ok (.ireturn, 1) := by decide +kernel
theorem dX11_letter_14 : decode cX11_letter 14 = .ok (.aload_n 0, 1) := by decide +kernel
theorem dX11_letter_15 : decode cX11_letter 15 = .ok (.getfield 55, 3) := by decide +kernel
theorem dX11_letter_18 : decode cX11_letter 18 = .ok (.bipush 14, 2) := by decide +kernel
theorem dX11_letter_20 : decode cX11_letter 20 = .ok (.if_icmp .ne 6, 3) := by decide +kernel
theorem dX11_letter_23 : decode cX11_letter 23 = .ok (.bipush (-104), 2) := by decide +kernel
theorem dX11_letter_25 : decode cX11_letter 25 = .ok (.ireturn, 1) := by decide +kernel
theorem dX11_letter_26 : decode cX11_letter 26 = .ok (.aload_n 0, 1) := by decide +kernel
theorem dX11_letter_27 : decode cX11_letter 27 = .ok (.getfield 25, 3) := by decide +kernel
theorem dX11_letter_30 : decode cX11_letter 30 = .ok (.aload_n 0, 1) := by decide +kernel
theorem dX11_letter_31 : decode cX11_letter 31 = .ok (.getfield 55, 3) := by decide +kernel
theorem dX11_letter_34 : decode cX11_letter 34 = .ok (.iload_n 1, 1) := by decide +kernel
theorem dX11_letter_35 : decode cX11_letter 35 = .ok (.i2b, 1) := by decide +kernel
theorem dX11_letter_36 : decode cX11_letter 36 = .ok (.bastore, 1) := by decide +kernel
theorem dX11_letter_37 : decode cX11_letter 37 = .ok (.aload_n 0, 1) := by decide +kernel
theorem dX11_letter_38 : decode cX11_letter 38 = .ok (.dup, 1) := by decide +kernel
theorem dX11_letter_39 : decode cX11_letter 39 = .ok (.getfield 55, 3) := by decide +kernel
theorem dX11_letter_42 : decode cX11_letter 42 = .ok (.iconst 1, 1) := by decide +kernel
theorem dX11_letter_43 : decode cX11_letter 43 = .ok (.iadd, 1) := by decide +kernel
theorem dX11_letter_44 : decode cX11_letter 44 = .ok (.putfield 55, 3) := by decide +kernel
theorem dX11_letter_47 : decode cX11_letter 47 = .ok (.aload_n 0, 1) := by decide +kernel
theorem dX11_letter_48 : decode cX11_letter 48 = .ok (.getfield 55, 3) := by decide +kernel
theorem dX11_letter_51 : decode cX11_letter 51 = .ok (.ireturn, 1) := by decide +kernel
theorem dX11_blank_0 : decode cX11_blank 0 = .ok (.aload_n 0, 1) := by decide +kernel
theorem dX11_blank_1 : decode cX11_blank 1 = .ok (.getfield 55, 3) := by decide +kernel
theorem dX11_blank_4 : decode cX11_blank 4 = .ok (.istore_n 1, 1) := by decide +kernel
theorem dX11_blank_5 : decode cX11_blank 5 = .ok (.aload_n 0, 1) := by decide +kernel
theorem dX11_blank_6 : decode cX11_blank 6 = .ok (.iconst 0, 1) := by decide +kernel
theorem dX11_blank_7 : decode cX11_blank 7 = .ok (.putfield 55, 3) := by decide +kernel
theorem dX11_blank_10 : decode cX11_blank 10 = .ok (.iload_n 1, 1) := by decide +kernel
theorem dX11_blank_11 : decode cX11_blank 11 = .ok (.ireturn, 1) := by decide +kernel
theorem dX11_figure_0 : decode cX11_figure 0 = .ok (.aload_n 0, 1) := by decide +kernel
theorem dX11_figure_1 : decode cX11_figure 1 = .ok (.getfield 25, 3) := by decide +kernel
theorem dX11_figure_4 : decode cX11_figure 4 = .ok (.iload_n 1, 1) := by decide +kernel
theorem dX11_figure_5 : decode cX11_figure 5 = .ok (.baload, 1) := by decide +kernel
theorem dX11_figure_6 : decode cX11_figure 6 = .ok (.bipush 48, 2) := by decide +kernel
theorem dX11_figure_8 : decode cX11_figure 8 = .ok (.isub, 1) := by decide +kernel
theorem dX11_figure_9 : decode cX11_figure 9 = .ok (.ireturn, 1) := by decide +kernel
set_option maxRecDepth 20000 in
theorem ggX11_isGood_X11_figure : GoodIn wsX11_isGood wsX11_figure := goodIn_r _ [6, 1, 10, 11, 12, 13, 14, 15, 16, 17, 18, 19, 20, 21, 22, 23, 24, 25, 26, 27, 28, 29, 30, 31, 32, 33, 34, 35, 36, 37, 38, 39, 40, 41] (by decide +kernel) (by decide +kernel)
set_option maxRecDepth 20000 in
theorem gX11_isGood_X11_figure : GoodIn wsX11_isGood (wsV RX11 59 RX11 yX11_figure wsX11_figure) := goodIn_app (goodIn_of _ (by decide +kernel)) ggX11_isGood_X11_figure
set_option maxRecDepth 20000 in
theorem ggX11_isGood_X11_within : GoodIn wsX11_isGood wsX11_within := goodIn_r _ [9] (by decide +kernel) (by decide +kernel)
set_option maxRecDepth 20000 in
theorem gX11_isGood_X11_within : GoodIn wsX11_isGood (va_wsS RX11 51 yX11_within wsX11_within) := goodIn_app (goodIn_of _ (by decide +kernel)) ggX11_isGood_X11_within
theorem dX11_isGood_0 : decode cX11_isGood 0 = .ok (.iload_n 1, 1) := by decide +kernel
theorem dX11_isGood_1 : decode cX11_isGood 1 = .ok (.tableswitch 117 0 6 #[43, 55, 70, 87, 87, 87, 99], 43) := by decide +kernel
theorem dX11_isGood_44 : decode cX11_isGood 44 = .ok (.aload_n 0, 1) := by decide +kernel
theorem dX11_isGood_45 : decode cX11_isGood 45 = .ok (.iconst 0, 1) := by decide +kernel
theorem dX11_isGood_46 : decode cX11_isGood 46 = .ok (.invokevirtual 59, 3) := by decide +kernel
theorem dX11_isGood_49 : decode cX11_isGood 49 = .ok (.iconst 2, 1) := by decide +kernel
theorem dX11_isGood_50 : decode cX11_isGood 50 = .ok (.bipush 6, 2) := by decide +kernel
theorem dX11_isGood_52 : decode cX11_isGood 52 = .ok (.invokestatic 51, 3) := by decide +kernel
theorem dX11_isGood_55 : decode cX11_isGood 55 = .ok (.ireturn, 1) := by decide +kernel
theorem dX11_isGood_56 : decode cX11_isGood 56 = .ok (.aload_n 0, 1) := by decide +kernel
theorem dX11_isGood_57 : decode cX11_isGood 57 = .ok (.iconst 1, 1) := by decide +kernel
theorem dX11_isGood_58 : decode cX11_isGood 58 = .ok (.invokevirtual 59, 3) := by decide +kernel
theorem dX11_isGood_61 : decode cX11_isGood 61 = .ok (.iconst 0, 1) := by decide +kernel
theorem dX11_isGood_62 : decode cX11_isGood 62 = .ok (.aload_n 0, 1) := by decide +kernel
theorem dX11_isGood_63 : decode cX11_isGood 63 = .ok (.iconst 0, 1) := by decide +kernel
theorem dX11_isGood_64 : decode cX11_isGood 64 = .ok (.invokevirtual 59, 3) := by decide +kernel
theorem dX11_isGood_67 : decode cX11_isGood 67 = .ok (.invokestatic 51, 3) := by decide +kernel
theorem dX11_isGood_70 : decode cX11_isGood 70 = .ok (.ireturn, 1) := by decide +kernel
theorem dX11_isGood_71 : decode cX11_isGood 71 = .ok (.aload_n 0, 1) := by decide +kernel
theorem dX11_isGood_72 : decode cX11_isGood 72 = .ok (.getfield 25, 3) := by decide +kernel
theorem dX11_isGood_75 : decode cX11_isGood 75 = .ok (.iconst 2, 1) := by decide +kernel
theorem dX11_isGood_76 : decode cX11_isGood 76 = .ok (.baload, 1) := by decide +kernel
theorem dX11_isGood_77 : decode cX11_isGood 77 = .ok (.bipush 58, 2) := by decide +kernel
theorem dX11_isGood_79 : decode cX11_isGood 79 = .ok (.if_icmp .ne 7, 3) := by decide +kernel
theorem dX11_isGood_82 : decode cX11_isGood 82 = .ok (.iconst 1, 1) := by decide +kernel
theorem dX11_isGood_83 : decode cX11_isGood 83 = .ok (.goto 4, 3) := by decide +kernel
theorem dX11_isGood_86 : decode cX11_isGood 86 = .ok (.iconst 0, 1) := by decide +kernel
theorem dX11_isGood_87 : decode cX11_isGood 87 = .ok (.ireturn, 1) := by decide +kernel
theorem dX11_isGood_88 : decode cX11_isGood 88 = .ok (.aload_n 0, 1) := by decide +kernel
theorem dX11_isGood_89 : decode cX11_isGood 89 = .ok (.iload_n 1, 1) := by decide +kernel
theorem dX11_isGood_90 : decode cX11_isGood 90 = .ok (.invokevirtual 59, 3) := by decide +kernel
theorem dX11_isGood_93 : decode cX11_isGood 93 = .ok (.iconst 0, 1) := by decide +kernel
theorem dX11_isGood_94 : decode cX11_isGood 94 = .ok (.bipush 9, 2) := by decide +kernel
theorem dX11_isGood_96 : decode cX11_isGood 96 = .ok (.invokestatic 51, 3) := by decide +kernel
theorem dX11_isGood_99 : decode cX11_isGood 99 = .ok (.ireturn, 1) := by decide +kernel
theorem dX11_isGood_100 : decode cX11_isGood 100 = .ok (.aload_n 0, 1) := by decide +kernel
theorem dX11_isGood_101 : decode cX11_isGood 101 = .ok (.getfield 25, 3) := by decide +kernel
theorem dX11_isGood_104 : decode cX11_isGood 104 = .ok (.bipush 6, 2) := by decide +kernel
theorem dX11_isGood_106 : decode cX11_isGood 106 = .ok (.baload, 1) := by decide +kernel
theorem dX11_isGood_107 : decode cX11_isGood 107 = .ok (.bipush 59, 2) := by decide +kernel
theorem dX11_isGood_109 : decode cX11_isGood 109 = .ok (.if_icmp .ne 7, 3) := by decide +kernel
theorem dX11_isGood_112 : decode cX11_isGood 112 = .ok (.iconst 1, 1) := by decide +kernel
theorem dX11_isGood_113 : decode cX11_isGood 113 = .ok (.goto 4, 3) := by decide +kernel
theorem dX11_isGood_116 : decode cX11_isGood 116 = .ok (.iconst 0, 1) := by decide +kernel
theorem dX11_isGood_117 : decode cX11_isGood 117 = .ok (.ireturn, 1) := by decide +kernel
theorem dX11_isGood_118 : decode cX11_isGood 118 = .ok (.iload_n 1, 1) := by decide +kernel
theorem dX11_isGood_119 : decode cX11_isGood 119 = .ok (.bipush 7, 2) := by decide +kernel
theorem dX11_isGood_121 : decode cX11_isGood 121 = .ok (.aload_n 0, 1) := by decide +kernel
theorem dX11_isGood_122 : decode cX11_isGood 122 = .ok (.iconst 0, 1) := by decide +kernel
theorem dX11_isGood_123 : decode cX11_isGood 123 = .ok (.invokevirtual 59, 3) := by decide +kernel
theorem dX11_isGood_126 : decode cX11_isGood 126 = .ok (.iadd, 1) := by decide +kernel
theorem dX11_isGood_127 : decode cX11_isGood 127 = .ok (.if_icmp .ge 20, 3) := by decide +kernel
theorem dX11_isGood_130 : decode cX11_isGood 130 = .ok (.aload_n 0, 1) := by decide +kernel
theorem dX11_isGood_131 : decode cX11_isGood 131 = .ok (.iload_n 1, 1) := by decide +kernel
theorem dX11_isGood_132 : decode cX11_isGood 132 = .ok (.invokevirtual 59, 3) := by decide +kernel
theorem dX11_isGood_135 : decode cX11_isGood 135 = .ok (.iconst 1, 1) := by decide +kernel
theorem dX11_isGood_136 : decode cX11_isGood 136 = .ok (.iconst 4, 1) := by decide +kernel
theorem dX11_isGood_137 : decode cX11_isGood 137 = .ok (.invokestatic 51, 3) := by decide +kernel
theorem dX11_isGood_140 : decode cX11_isGood 140 = .ok (.ifCond .eq 7, 3) := by decide +kernel
theorem dX11_isGood_143 : decode cX11_isGood 143 = .ok (.iconst 1, 1) := by decide +kernel
theorem dX11_isGood_144 : decode cX11_isGood 144 = .ok (.goto 4, 3) := by decide +kernel
theorem dX11_isGood_147 : decode cX11_isGood 147 = .ok (.iconst 0, 1) := by decide +kernel
theorem dX11_isGood_148 : decode cX11_isGood 148 = .ok (.ireturn, 1) := by decide +kernel
set_option maxRecDepth 20000 in
theorem ggX11_faultNow_X11_isGood : GoodIn wsX11_faultNow wsX11_isGood := goodIn_r _ [6, 7, 8, 9, 10, 5, 11, 12, 13, 14, 15, 16, 17, 18, 19, 20, 21, 22, 23, 24, 25, 26, 27, 28, 29, 30, 31, 32, 33, 34, 35, 36, 37, 38, 39, 40, 41, 42, 43, 44, 45, 46] (by decide +kernel) (by decide +kernel)
set_option maxRecDepth 20000 in
theorem gX11_faultNow_X11_isGood : GoodIn wsX11_faultNow (wsV RX11 63 RX11 yX11_isGood wsX11_isGood) := goodIn_app (goodIn_of _ (by decide +kernel)) ggX11_faultNow_X11_isGood
theorem dX11_faultNow_0 : decode cX11_faultNow 0 = .ok (.iconst 0, 1) := by decide +kernel
theorem dX11_faultNow_1 : decode cX11_faultNow 1 = .ok (.istore_n 1, 1) := by decide +kernel
theorem dX11_faultNow_2 : decode cX11_faultNow 2 = .ok (.iload_n 1, 1) := by decide +kernel
theorem dX11_faultNow_3 : decode cX11_faultNow 3 = .ok (.aload_n 0, 1) := by decide +kernel
theorem dX11_faultNow_4 : decode cX11_faultNow 4 = .ok (.getfield 55, 3) := by decide +kernel
theorem dX11_faultNow_7 : decode cX11_faultNow 7 = .ok (.if_icmp .ge 17, 3) := by decide +kernel
theorem dX11_faultNow_10 : decode cX11_faultNow 10 = .ok (.aload_n 0, 1) := by decide +kernel
theorem dX11_faultNow_11 : decode cX11_faultNow 11 = .ok (.iload_n 1, 1) := by decide +kernel
theorem dX11_faultNow_12 : decode cX11_faultNow 12 = .ok (.invokevirtual 63, 3) := by decide +kernel
theorem dX11_faultNow_15 : decode cX11_faultNow 15 = .ok (.ifCond .eq 9, 3) := by decide +kernel
theorem dX11_faultNow_18 : decode cX11_faultNow 18 = .ok (.iinc 1 1, 3) := by decide +kernel
theorem dX11_faultNow_21 : decode cX11_faultNow 21 = .ok (.goto (-19), 3) := by decide +kernel
theorem dX11_faultNow_24 : decode cX11_faultNow 24 = .ok (.iload_n 1, 1) := by decide +kernel
theorem dX11_faultNow_25 : decode cX11_faultNow 25 = .ok (.ireturn, 1) := by decide +kernel
set_option maxRecDepth 20000 in
theorem ggX11_fault_X11_faultNow : GoodIn wsX11_fault wsX11_faultNow := goodIn_r _ [5, 6, 7, 8, 9, 4, 10, 11, 12, 13, 14, 15, 16, 17, 18, 19, 20, 21, 22, 23, 24, 25, 26, 27, 28, 29, 30, 31, 32, 33, 34, 35, 36, 37, 38, 39, 40, 41, 42, 43, 44, 45, 46, 47, 48, 49, 50] (by decide +kernel) (by decide +kernel)
set_option maxRecDepth 20000 in
theorem gX11_fault_X11_faultNow : GoodIn wsX11_fault (wsV RX11 67 RX11 yX11_faultNow wsX11_faultNow) := goodIn_app (goodIn_of _ (by decide +kernel)) ggX11_fault_X11_faultNow
theorem dX11_fault_0 : decode cX11_fault 0 = .ok (.aload_n 0, 1) := by decide +kernel
theorem dX11_fault_1 : decode cX11_fault 1 = .ok (.invokevirtual 67, 3) := by decide +kernel
theorem dX11_fault_4 : decode cX11_fault 4 = .ok (.ireturn, 1) := by decide +kernel
set_option maxRecDepth 20000 in
theorem ggX11_kitchen_X11_faultNow : GoodIn wsX11_kitchen wsX11_faultNow := goodIn_r _ [19, 1, 20, 21, 22, 18, 23, 24, 25, 26, 27, 28, 29, 30, 31, 32, 33, 34, 35, 36, 37, 38, 39, 40, 41, 42, 43, 44, 45, 46, 47, 48, 49, 50, 51, 52, 53, 54, 55, 56, 57, 58, 59, 60, 61, 62, 63] (by decide +kernel) (by decide +kernel)
set_option maxRecDepth 20000 in
theorem gX11_kitchen_X11_faultNow : GoodIn wsX11_kitchen (wsV RX11 67 RX11 yX11_faultNow wsX11_faultNow) := goodIn_app (goodIn_of _ (by decide +kernel)) ggX11_kitchen_X11_faultNow
set_option maxRecDepth 20000 in
theorem ggX11_kitchen_X11_figure : GoodIn wsX11_kitchen wsX11_figure := goodIn_r _ [28, 24, 32, 33, 34, 35, 36, 37, 38, 39, 40, 41, 42, 43, 44, 45, 46, 47, 48, 49, 50, 51, 52, 53, 54, 55, 56, 57, 58, 59, 60, 61, 62, 63] (by decide +kernel) (by decide +kernel)
set_option maxRecDepth 20000 in
theorem gX11_kitchen_X11_figure : GoodIn wsX11_kitchen (wsV RX11 59 RX11 yX11_figure wsX11_figure) := goodIn_app (goodIn_of _ (by decide +kernel)) ggX11_kitchen_X11_figure
theorem dX11_kitchen_0 : decode cX11_kitchen 0 = .ok (.aload_n 0, 1) := by decide +kernel
theorem dX11_kitchen_1 : decode cX11_kitchen 1 = .ok (.invokevirtual 67, 3) := by decide +kernel
theorem dX11_kitchen_4 : decode cX11_kitchen 4 = .ok (.aload_n 0, 1) := by decide +kernel
theorem dX11_kitchen_5 : decode cX11_kitchen 5 = .ok (.getfield 55, 3) := by decide +kernel
theorem dX11_kitchen_8 : decode cX11_kitchen 8 = .ok (.if_icmp .ne 27, 3) := by decide +kernel
theorem dX11_kitchen_11 : decode cX11_kitchen 11 = .ok (.aload_n 0, 1) := by decide +kernel
theorem dX11_kitchen_12 : decode cX11_kitchen 12 = .ok (.getfield 55, 3) := by decide +kernel
theorem dX11_kitchen_15 : decode cX11_kitchen 15 = .ok (.bipush 9, 2) := by decide +kernel
theorem dX11_kitchen_17 : decode cX11_kitchen 17 = .ok (.if_icmp .lt 18, 3) := by decide +kernel
theorem dX11_kitchen_20 : decode cX11_kitchen 20 = .ok (.aload_n 0, 1) := by decide +kernel
theorem dX11_kitchen_21 : decode cX11_kitchen 21 = .ok (.getfield 55, 3) := by decide +kernel
theorem dX11_kitchen_24 : decode cX11_kitchen 24 = .ok (.bipush 7, 2) := by decide +kernel
theorem dX11_kitchen_26 : decode cX11_kitchen 26 = .ok (.aload_n 0, 1) := by decide +kernel
theorem dX11_kitchen_27 : decode cX11_kitchen 27 = .ok (.iconst 0, 1) := by decide +kernel
theorem dX11_kitchen_28 : decode cX11_kitchen 28 = .ok (.invokevirtual 59, 3) := by decide +kernel
theorem dX11_kitchen_31 : decode cX11_kitchen 31 = .ok (.iadd, 1) := by decide +kernel
theorem dX11_kitchen_32 : decode cX11_kitchen 32 = .ok (.if_icmp .eq 6, 3) := by decide +kernel
theorem dX11_kitchen_35 : decode cX11_kitchen 35 = .ok (.bipush (-103), 2) := by decide +kernel
theorem dX11_kitchen_37 : decode cX11_kitchen 37 = .ok (.ireturn, 1) := by decide +kernel
theorem dX11_kitchen_38 : decode cX11_kitchen 38 = .ok (.aload_n 0, 1) := by decide +kernel
theorem dX11_kitchen_39 : decode cX11_kitchen 39 = .ok (.aload_n 0, 1) := by decide +kernel
theorem dX11_kitchen_40 : decode cX11_kitchen 40 = .ok (.iconst 0, 1) := by decide +kernel
theorem dX11_kitchen_41 : decode cX11_kitchen 41 = .ok (.invokevirtual 59, 3) := by decide +kernel
theorem dX11_kitchen_44 : decode cX11_kitchen 44 = .ok (.putfield 71, 3) := by decide +kernel
theorem dX11_kitchen_47 : decode cX11_kitchen 47 = .ok (.aload_n 0, 1) := by decide +kernel
theorem dX11_kitchen_48 : decode cX11_kitchen 48 = .ok (.aload_n 0, 1) := by decide +kernel
theorem dX11_kitchen_49 : decode cX11_kitchen 49 = .ok (.iconst 1, 1) := by decide +kernel
theorem dX11_kitchen_50 : decode cX11_kitchen 50 = .ok (.invokevirtual 59, 3) := by decide +kernel
theorem dX11_kitchen_53 : decode cX11_kitchen 53 = .ok (.putfield 74, 3) := by decide +kernel
theorem dX11_kitchen_56 : decode cX11_kitchen 56 = .ok (.aload_n 0, 1) := by decide +kernel
theorem dX11_kitchen_57 : decode cX11_kitchen 57 = .ok (.aload_n 0, 1) := by decide +kernel
theorem dX11_kitchen_58 : decode cX11_kitchen 58 = .ok (.iconst 3, 1) := by decide +kernel
theorem dX11_kitchen_59 : decode cX11_kitchen 59 = .ok (.invokevirtual 59, 3) := by decide +kernel
theorem dX11_kitchen_62 : decode cX11_kitchen 62 = .ok (.putfield 77, 3) := by decide +kernel
theorem dX11_kitchen_65 : decode cX11_kitchen 65 = .ok (.aload_n 0, 1) := by decide +kernel
theorem dX11_kitchen_66 : decode cX11_kitchen 66 = .ok (.aload_n 0, 1) := by decide +kernel
theorem dX11_kitchen_67 : decode cX11_kitchen 67 = .ok (.iconst 4, 1) := by decide +kernel
theorem dX11_kitchen_68 : decode cX11_kitchen 68 = .ok (.invokevirtual 59, 3) := by decide +kernel
theorem dX11_kitchen_71 : decode cX11_kitchen 71 = .ok (.putfield 80, 3) := by decide +kernel
theorem dX11_kitchen_74 : decode cX11_kitchen 74 = .ok (.aload_n 0, 1) := by decide +kernel
theorem dX11_kitchen_75 : decode cX11_kitchen 75 = .ok (.aload_n 0, 1) := by decide +kernel
theorem dX11_kitchen_76 : decode cX11_kitchen 76 = .ok (.iconst 5, 1) := by decide +kernel
theorem dX11_kitchen_77 : decode cX11_kitchen 77 = .ok (.invokevirtual 59, 3) := by decide +kernel
theorem dX11_kitchen_80 : decode cX11_kitchen 80 = .ok (.putfield 83, 3) := by decide +kernel
theorem dX11_kitchen_83 : decode cX11_kitchen 83 = .ok (.iconst 0, 1) := by decide +kernel
theorem dX11_kitchen_84 : decode cX11_kitchen 84 = .ok (.istore_n 1, 1) := by decide +kernel
theorem dX11_kitchen_85 : decode cX11_kitchen 85 = .ok (.iload_n 1, 1) := by decide +kernel
theorem dX11_kitchen_86 : decode cX11_kitchen 86 = .ok (.bipush 6, 2) := by decide +kernel
theorem dX11_kitchen_88 : decode cX11_kitchen 88 = .ok (.if_icmp .ge 56, 3) := by decide +kernel
theorem dX11_kitchen_91 : decode cX11_kitchen 91 = .ok (.aload_n 0, 1) := by decide +kernel
theorem dX11_kitchen_92 : decode cX11_kitchen 92 = .ok (.getfield 7, 3) := by decide +kernel
theorem dX11_kitchen_95 : decode cX11_kitchen 95 = .ok (.iload_n 1, 1) := by decide +kernel
theorem dX11_kitchen_96 : decode cX11_kitchen 96 = .ok (.iload_n 1, 1) := by decide +kernel
theorem dX11_kitchen_97 : decode cX11_kitchen 97 = .ok (.aload_n 0, 1) := by decide +kernel
theorem dX11_kitchen_98 : decode cX11_kitchen 98 = .ok (.getfield 71, 3) := by decide +kernel
theorem dX11_kitchen_101 : decode cX11_kitchen 101 = .ok (.if_icmp .ge 14, 3) := by decide +kernel
theorem dX11_kitchen_104 : decode cX11_kitchen 104 = .ok (.aload_n 0, 1) := by decide +kernel
theorem dX11_kitchen_105 : decode cX11_kitchen 105 = .ok (.bipush 7, 2) := by decide +kernel
theorem dX11_kitchen_107 : decode cX11_kitchen 107 = .ok (.iload_n 1, 1) := by decide +kernel
theorem dX11_kitchen_108 : decode cX11_kitchen 108 = .ok (.iadd, 1) := by decide +kernel
theorem dX11_kitchen_109 : decode cX11_kitchen 109 = .ok (.invokevirtual 59, 3) := by decide +kernel
theorem dX11_kitchen_112 : decode cX11_kitchen 112 = .ok (.goto 4, 3) := by decide +kernel
theorem dX11_kitchen_115 : decode cX11_kitchen 115 = .ok (.iconst 0, 1) := by decide +kernel
theorem dX11_kitchen_116 : decode cX11_kitchen 116 = .ok (.iastore, 1) := by decide +kernel
theorem dX11_kitchen_117 : decode cX11_kitchen 117 = .ok (.aload_n 0, 1) := by decide +kernel
theorem dX11_kitchen_118 : decode cX11_kitchen 118 = .ok (.getfield 13, 3) := by decide +kernel
theorem dX11_kitchen_121 : decode cX11_kitchen 121 = .ok (.iload_n 1, 1) := by decide +kernel
theorem dX11_kitchen_122 : decode cX11_kitchen 122 = .ok (.iconst 0, 1) := by decide +kernel
theorem dX11_kitchen_123 : decode cX11_kitchen 123 = .ok (.iastore, 1) := by decide +kernel
theorem dX11_kitchen_124 : decode cX11_kitchen 124 = .ok (.aload_n 0, 1) := by decide +kernel
theorem dX11_kitchen_125 : decode cX11_kitchen 125 = .ok (.getfield 16, 3) := by decide +kernel
theorem dX11_kitchen_128 : decode cX11_kitchen 128 = .ok (.iload_n 1, 1) := by decide +kernel
theorem dX11_kitchen_129 : decode cX11_kitchen 129 = .ok (.iconst 0, 1) := by decide +kernel
theorem dX11_kitchen_130 : decode cX11_kitchen 130 = .ok (.iastore, 1) := by decide +kernel
theorem dX11_kitchen_131 : decode cX11_kitchen 131 = .ok (.aload_n 0, 1) := by decide +kernel
theorem dX11_kitchen_132 : decode cX11_kitchen 132 = .ok (.getfield 19, 3) := by decide +kernel
theorem dX11_kitchen_135 : decode cX11_kitchen 135 = .ok (.iload_n 1, 1) := by decide +kernel
theorem dX11_kitchen_136 : decode cX11_kitchen 136 = .ok (.iconst (-1), 1) := by decide +kernel
theorem dX11_kitchen_137 : decode cX11_kitchen 137 = .ok (.iastore, 1) := by decide +kernel
theorem dX11_kitchen_138 : decode cX11_kitchen 138 = .ok (.iinc 1 1, 3) := by decide +kernel
theorem dX11_kitchen_141 : decode cX11_kitchen 141 = .ok (.goto (-56), 3) := by decide +kernel
theorem dX11_kitchen_144 : decode cX11_kitchen 144 = .ok (.aload_n 0, 1) := by decide +kernel
theorem dX11_kitchen_145 : decode cX11_kitchen 145 = .ok (.iconst 1, 1) := by decide +kernel
theorem dX11_kitchen_146 : decode cX11_kitchen 146 = .ok (.aload_n 0, 1) := by decide +kernel
theorem dX11_kitchen_147 : decode cX11_kitchen 147 = .ok (.getfield 71, 3) := by decide +kernel
theorem dX11_kitchen_150 : decode cX11_kitchen 150 = .ok (.ishl, 1) := by decide +kernel
theorem dX11_kitchen_151 : decode cX11_kitchen 151 = .ok (.iconst 1, 1) := by decide +kernel
theorem dX11_kitchen_152 : decode cX11_kitchen 152 = .ok (.isub, 1) := by decide +kernel
theorem dX11_kitchen_153 : decode cX11_kitchen 153 = .ok (.putfield 86, 3) := by decide +kernel
theorem dX11_kitchen_156 : decode cX11_kitchen 156 = .ok (.aload_n 0, 1) := by decide +kernel
theorem dX11_kitchen_157 : decode cX11_kitchen 157 = .ok (.iconst 0, 1) := by decide +kernel
theorem dX11_kitchen_158 : decode cX11_kitchen 158 = .ok (.putfield 89, 3) := by decide +kernel
theorem dX11_kitchen_161 : decode cX11_kitchen 161 = .ok (.aload_n 0, 1) := by decide +kernel
theorem dX11_kitchen_162 : decode cX11_kitchen 162 = .ok (.iconst 0, 1) := by decide +kernel
theorem dX11_kitchen_163 : decode cX11_kitchen 163 = .ok (.putfield 92, 3) := by decide +kernel
theorem dX11_kitchen_166 : decode cX11_kitchen 166 = .ok (.aload_n 0, 1) := by decide +kernel
theorem dX11_kitchen_167 : decode cX11_kitchen 167 = .ok (.dup, 1) := by decide +kernel
theorem dX11_kitchen_168 : decode cX11_kitchen 168 = .ok (.getfield 95, 3) := by decide +kernel
theorem dX11_kitchen_171 : decode cX11_kitchen 171 = .ok (.iconst 1, 1) := by decide +kernel
theorem dX11_kitchen_172 : decode cX11_kitchen 172 = .ok (.iadd, 1) := by decide +kernel
theorem dX11_kitchen_173 : decode cX11_kitchen 173 = .ok (.putfield 95, 3) := by decide +kernel
theorem dX11_kitchen_176 : decode cX11_kitchen 176 = .ok (.aload_n 0, 1) := by decide +kernel
theorem dX11_kitchen_177 : decode cX11_kitchen 177 = .ok (.iconst 0, 1) := by decide +kernel
theorem dX11_kitchen_178 : decode cX11_kitchen 178 = .ok (.putfield 55, 3) := by decide +kernel
theorem dX11_kitchen_181 : decode cX11_kitchen 181 = .ok (.aload_n 0, 1) := by decide +kernel
theorem dX11_kitchen_182 : decode cX11_kitchen 182 = .ok (.getfield 71, 3) := by decide +kernel
theorem dX11_kitchen_185 : decode cX11_kitchen 185 = .ok (.ireturn, 1) := by decide +kernel
set_option maxRecDepth 20000 in
theorem ggX11_isEgg_X11_within : GoodIn wsX11_isEgg wsX11_within := goodIn_r _ [5] (by decide +kernel) (by decide +kernel)
set_option maxRecDepth 20000 in
theorem gX11_isEgg_X11_within : GoodIn wsX11_isEgg (va_wsS RX11 51 yX11_within wsX11_within) := goodIn_app (goodIn_of _ (by decide +kernel)) ggX11_isEgg_X11_within
theorem dX11_isEgg_0 : decode cX11_isEgg 0 = .ok (.iload_n 1, 1) := by decide +kernel
theorem dX11_isEgg_1 : decode cX11_isEgg 1 = .ok (.iconst 0, 1) := by decide +kernel
theorem dX11_isEgg_2 : decode cX11_isEgg 2 = .ok (.aload_n 0, 1) := by decide +kernel
theorem dX11_isEgg_3 : decode cX11_isEgg 3 = .ok (.getfield 71, 3) := by decide +kernel
theorem dX11_isEgg_6 : decode cX11_isEgg 6 = .ok (.iconst 1, 1) := by decide +kernel
theorem dX11_isEgg_7 : decode cX11_isEgg 7 = .ok (.isub, 1) := by decide +kernel
theorem dX11_isEgg_8 : decode cX11_isEgg 8 = .ok (.invokestatic 51, 3) := by decide +kernel
theorem dX11_isEgg_11 : decode cX11_isEgg 11 = .ok (.ireturn, 1) := by decide +kernel
theorem dX11_eggNow_0 : decode cX11_eggNow 0 = .ok (.iload_n 2, 1) := by decide +kernel
theorem dX11_eggNow_1 : decode cX11_eggNow 1 = .ok (.tableswitch 61 0 3 #[31, 38, 47, 54], 31) := by decide +kernel
theorem dX11_eggNow_32 : decode cX11_eggNow 32 = .ok (.aload_n 0, 1) := by decide +kernel
theorem dX11_eggNow_33 : decode cX11_eggNow 33 = .ok (.getfield 7, 3) := by decide +kernel
theorem dX11_eggNow_36 : decode cX11_eggNow 36 = .ok (.iload_n 1, 1) := by decide +kernel
theorem dX11_eggNow_37 : decode cX11_eggNow 37 = .ok (.iaload, 1) := by decide +kernel
theorem dX11_eggNow_38 : decode cX11_eggNow 38 = .ok (.ireturn, 1) := by decide +kernel
theorem dX11_eggNow_39 : decode cX11_eggNow 39 = .ok (.aload_n 0, 1) := by decide +kernel
theorem dX11_eggNow_40 : decode cX11_eggNow 40 = .ok (.getfield 86, 3) := by decide +kernel
theorem dX11_eggNow_43 : decode cX11_eggNow 43 = .ok (.iload_n 1, 1) := by decide +kernel
theorem dX11_eggNow_44 : decode cX11_eggNow 44 = .ok (.ishr, 1) := by decide +kernel
theorem dX11_eggNow_45 : decode cX11_eggNow 45 = .ok (.iconst 1, 1) := by decide +kernel
theorem dX11_eggNow_46 : decode cX11_eggNow 46 = .ok (.iand, 1) := by decide +kernel
theorem dX11_eggNow_47 : decode cX11_eggNow 47 = .ok (.ireturn, 1) := by decide +kernel
theorem dX11_eggNow_48 : decode cX11_eggNow 48 = .ok (.aload_n 0, 1) := by decide +kernel
theorem dX11_eggNow_49 : decode cX11_eggNow 49 = .ok (.getfield 13, 3) := by decide +kernel
theorem dX11_eggNow_52 : decode cX11_eggNow 52 = .ok (.iload_n 1, 1) := by decide +kernel
theorem dX11_eggNow_53 : decode cX11_eggNow 53 = .ok (.iaload, 1) := by decide +kernel
theorem dX11_eggNow_54 : decode cX11_eggNow 54 = .ok (.ireturn, 1) := by decide +kernel
theorem dX11_eggNow_55 : decode cX11_eggNow 55 = .ok (.aload_n 0, 1) := by decide +kernel
theorem dX11_eggNow_56 : decode cX11_eggNow 56 = .ok (.getfield 16, 3) := by decide +kernel
theorem dX11_eggNow_59 : decode cX11_eggNow 59 = .ok (.iload_n 1, 1) := by decide +kernel
theorem dX11_eggNow_60 : decode cX11_eggNow 60 = .ok (.iaload, 1) := by decide +kernel
theorem dX11_eggNow_61 : decode cX11_eggNow 61 = .ok (.ireturn, 1) := by decide +kernel
theorem dX11_eggNow_62 : decode cX11_eggNow 62 = .ok (.aload_n 0, 1) := by decide +kernel
theorem dX11_eggNow_63 : decode cX11_eggNow 63 = .ok (.getfield 19, 3) := by decide +kernel
theorem dX11_eggNow_66 : decode cX11_eggNow 66 = .ok (.iload_n 1, 1) := by decide +kernel
theorem dX11_eggNow_67 : decode cX11_eggNow 67 = .ok (.iaload, 1) := by decide +kernel
theorem dX11_eggNow_68 : decode cX11_eggNow 68 = .ok (.ireturn, 1) := by decide +kernel
set_option maxRecDepth 20000 in
theorem ggX11_egg_X11_isEgg : GoodIn wsX11_egg wsX11_isEgg := goodIn_r _ [5, 6, 7, 8, 4, 9, 19, 20, 21, 22, 23, 24, 25, 26, 27, 28, 29, 30, 31, 32, 33, 34, 35, 36, 37, 38, 39, 40, 41, 42, 43, 44, 45, 46, 47, 48, 49, 50] (by decide +kernel) (by decide +kernel)
set_option maxRecDepth 20000 in
theorem gX11_egg_X11_isEgg : GoodIn wsX11_egg (wsV RX11 98 RX11 yX11_isEgg wsX11_isEgg) := goodIn_app (goodIn_of _ (by decide +kernel)) ggX11_egg_X11_isEgg
set_option maxRecDepth 20000 in
theorem ggX11_egg_X11_within : GoodIn wsX11_egg wsX11_within := goodIn_r _ [9] (by decide +kernel) (by decide +kernel)
set_option maxRecDepth 20000 in
theorem gX11_egg_X11_within : GoodIn wsX11_egg (va_wsS RX11 51 yX11_within wsX11_within) := goodIn_app (goodIn_of _ (by decide +kernel)) ggX11_egg_X11_within
set_option maxRecDepth 20000 in
theorem ggX11_egg_X11_eggNow : GoodIn wsX11_egg wsX11_eggNow := goodIn_r _ [13, 14, 15, 16, 17, 18, 19, 20, 21, 22, 23, 24, 25, 26, 27, 28, 29, 30, 31, 32, 33, 34, 35, 36, 37, 38, 39, 40, 41, 42, 43, 44, 45, 46, 47, 48, 49, 50] (by decide +kernel) (by decide +kernel)
set_option maxRecDepth 20000 in
theorem gX11_egg_X11_eggNow : GoodIn wsX11_egg (wsV RX11 101 RX11 yX11_eggNow wsX11_eggNow) := goodIn_app (goodIn_of _ (by decide +kernel)) ggX11_egg_X11_eggNow
theorem dX11_egg_0 : decode cX11_egg 0 = .ok (.aload_n 0, 1) := by decide +kernel
theorem dX11_egg_1 : decode cX11_egg 1 = .ok (.iload_n 1, 1) := by decide +kernel
theorem dX11_egg_2 : decode cX11_egg 2 = .ok (.invokevirtual 98, 3) := by decide +kernel
theorem dX11_egg_5 : decode cX11_egg 5 = .ok (.ifCond .ne 8, 3) := by decide +kernel
theorem dX11_egg_8 : decode cX11_egg 8 = .ok (.bipush (-101), 2) := by decide +kernel
theorem dX11_egg_10 : decode cX11_egg 10 = .ok (.goto 23, 3) := by decide +kernel
theorem dX11_egg_13 : decode cX11_egg 13 = .ok (.iload_n 2, 1) := by decide +kernel
theorem dX11_egg_14 : decode cX11_egg 14 = .ok (.iconst 0, 1) := by decide +kernel
theorem dX11_egg_15 : decode cX11_egg 15 = .ok (.iconst 4, 1) := by decide +kernel
theorem dX11_egg_16 : decode cX11_egg 16 = .ok (.invokestatic 51, 3) := by decide +kernel
theorem dX11_egg_19 : decode cX11_egg 19 = .ok (.ifCond .eq 12, 3) := by decide +kernel
theorem dX11_egg_22 : decode cX11_egg 22 = .ok (.aload_n 0, 1) := by decide +kernel
theorem dX11_egg_23 : decode cX11_egg 23 = .ok (.iload_n 1, 1) := by decide +kernel
theorem dX11_egg_24 : decode cX11_egg 24 = .ok (.iload_n 2, 1) := by decide +kernel
theorem dX11_egg_25 : decode cX11_egg 25 = .ok (.invokevirtual 101, 3) := by decide +kernel
theorem dX11_egg_28 : decode cX11_egg 28 = .ok (.goto 5, 3) := by decide +kernel
theorem dX11_egg_31 : decode cX11_egg 31 = .ok (.bipush (-102), 2) := by decide +kernel
theorem dX11_egg_33 : decode cX11_egg 33 = .ok (.ireturn, 1) := by decide +kernel
theorem dX11_power_0 : decode cX11_power 0 = .ok (.lconst 1, 1) := by decide +kernel
theorem dX11_power_1 : decode cX11_power 1 = .ok (.lstore_n 2, 1) := by decide +kernel
theorem dX11_power_2 : decode cX11_power 2 = .ok (.iconst 0, 1) := by decide +kernel
theorem dX11_power_3 : decode cX11_power 3 = .ok (.istore 4, 2) := by decide +kernel
theorem dX11_power_5 : decode cX11_power 5 = .ok (.iload 4, 2) := by decide +kernel
theorem dX11_power_7 : decode cX11_power 7 = .ok (.iload_n 1, 1) := by decide +kernel
theorem dX11_power_8 : decode cX11_power 8 = .ok (.if_icmp .ge 14, 3) := by decide +kernel
theorem dX11_power_11 : decode cX11_power 11 = .ok (.lload_n 2, 1) := by decide +kernel
theorem dX11_power_12 : decode cX11_power 12 = .ok (.iload_n 0, 1) := by decide +kernel
theorem dX11_power_13 : decode cX11_power 13 = .ok (.i2l, 1) := by decide +kernel
theorem dX11_power_14 : decode cX11_power 14 = .ok (.lmul, 1) := by decide +kernel
theorem dX11_power_15 : decode cX11_power 15 = .ok (.lstore_n 2, 1) := by decide +kernel
theorem dX11_power_16 : decode cX11_power 16 = .ok (.iinc 4 1, 3) := by decide +kernel
theorem dX11_power_19 : decode cX11_power 19 = .ok (.goto (-14), 3) := by decide +kernel
theorem dX11_power_22 : decode cX11_power 22 = .ok (.lload_n 2, 1) := by decide +kernel
theorem dX11_power_23 : decode cX11_power 23 = .ok (.lreturn, 1) := by decide +kernel
set_option maxRecDepth 20000 in
theorem ggX11_spun_X11_power : GoodIn wsX11_spun wsX11_power := goodIn_r _ [6] (by decide +kernel) (by decide +kernel)
set_option maxRecDepth 20000 in
theorem gX11_spun_X11_power : GoodIn wsX11_spun (va_wsS RX11 105 yX11_power wsX11_power) := goodIn_app (goodIn_of _ (by decide +kernel)) ggX11_spun_X11_power
theorem dX11_spun_0 : decode cX11_spun 0 = .ok (.iload_n 2, 1) := by decide +kernel
theorem dX11_spun_1 : decode cX11_spun 1 = .ok (.aload_n 0, 1) := by decide +kernel
theorem dX11_spun_2 : decode cX11_spun 2 = .ok (.getfield 16, 3) := by decide +kernel
theorem dX11_spun_5 : decode cX11_spun 5 = .ok (.iload_n 1, 1) := by decide +kernel
theorem dX11_spun_6 : decode cX11_spun 6 = .ok (.iaload, 1) := by decide +kernel
theorem dX11_spun_7 : decode cX11_spun 7 = .ok (.invokestatic 105, 3) := by decide +kernel
theorem dX11_spun_10 : decode cX11_spun 10 = .ok (.bipush 10, 2) := by decide +kernel
theorem dX11_spun_12 : decode cX11_spun 12 = .ok (.iload_n 2, 1) := by decide +kernel
theorem dX11_spun_13 : decode cX11_spun 13 = .ok (.isub, 1) := by decide +kernel
theorem dX11_spun_14 : decode cX11_spun 14 = .ok (.aload_n 0, 1) := by decide +kernel
theorem dX11_spun_15 : decode cX11_spun 15 = .ok (.getfield 13, 3) := by decide +kernel
theorem dX11_spun_18 : decode cX11_spun 18 = .ok (.iload_n 1, 1) := by decide +kernel
theorem dX11_spun_19 : decode cX11_spun 19 = .ok (.iaload, 1) := by decide +kernel
theorem dX11_spun_20 : decode cX11_spun 20 = .ok (.aload_n 0, 1) := by decide +kernel
theorem dX11_spun_21 : decode cX11_spun 21 = .ok (.getfield 16, 3) := by decide +kernel
theorem dX11_spun_24 : decode cX11_spun 24 = .ok (.iload_n 1, 1) := by decide +kernel
theorem dX11_spun_25 : decode cX11_spun 25 = .ok (.iaload, 1) := by decide +kernel
theorem dX11_spun_26 : decode cX11_spun 26 = .ok (.isub, 1) := by decide +kernel
theorem dX11_spun_27 : decode cX11_spun 27 = .ok (.invokestatic 105, 3) := by decide +kernel
theorem dX11_spun_30 : decode cX11_spun 30 = .ok (.lmul, 1) := by decide +kernel
theorem dX11_spun_31 : decode cX11_spun 31 = .ok (.lreturn, 1) := by decide +kernel
set_option maxRecDepth 20000 in
theorem ggX11_weight_X11_size : GoodIn wsX11_weight wsX11_size := goodIn_r _ [10] (by decide +kernel) (by decide +kernel)
set_option maxRecDepth 20000 in
theorem gX11_weight_X11_size : GoodIn wsX11_weight (va_wsS RX11 109 yX11_size wsX11_size) := goodIn_app (goodIn_of _ (by decide +kernel)) ggX11_weight_X11_size
set_option maxRecDepth 20000 in
theorem ggX11_weight_X11_has : GoodIn wsX11_weight wsX11_has := goodIn_r _ [13] (by decide +kernel) (by decide +kernel)
set_option maxRecDepth 20000 in
theorem gX11_weight_X11_has : GoodIn wsX11_weight (va_wsS RX11 112 yX11_has wsX11_has) := goodIn_app (goodIn_of _ (by decide +kernel)) ggX11_weight_X11_has
set_option maxRecDepth 20000 in
theorem ggX11_weight_X11_spun : GoodIn wsX11_weight wsX11_spun := goodIn_r _ [17, 18, 19, 20, 21, 9, 22, 23, 24, 25, 26, 27, 28, 29, 30, 31, 32, 33, 34, 35, 36, 37, 38, 39, 40, 41, 42, 43, 44, 45, 46, 47, 48, 49, 50, 51, 52, 53, 54] (by decide +kernel) (by decide +kernel)
set_option maxRecDepth 20000 in
theorem gX11_weight_X11_spun : GoodIn wsX11_weight (wsV RX11 116 RX11 yX11_spun wsX11_spun) := goodIn_app (goodIn_of _ (by decide +kernel)) ggX11_weight_X11_spun
set_option maxRecDepth 20000 in
theorem ggX11_weight_X11_power : GoodIn wsX11_weight wsX11_power := goodIn_r _ [22] (by decide +kernel) (by decide +kernel)
set_option maxRecDepth 20000 in
theorem gX11_weight_X11_power : GoodIn wsX11_weight (va_wsS RX11 105 yX11_power wsX11_power) := goodIn_app (goodIn_of _ (by decide +kernel)) ggX11_weight_X11_power
theorem dX11_weight_0 : decode cX11_weight 0 = .ok (.iload_n 1, 1) := by decide +kernel
theorem dX11_weight_1 : decode cX11_weight 1 = .ok (.invokestatic 109, 3) := by decide +kernel
theorem dX11_weight_4 : decode cX11_weight 4 = .ok (.aload_n 0, 1) := by decide +kernel
theorem dX11_weight_5 : decode cX11_weight 5 = .ok (.getfield 74, 3) := by decide +kernel
theorem dX11_weight_8 : decode cX11_weight 8 = .ok (.if_icmp .ne 13, 3) := by decide +kernel
theorem dX11_weight_11 : decode cX11_weight 11 = .ok (.iload_n 1, 1) := by decide +kernel
theorem dX11_weight_12 : decode cX11_weight 12 = .ok (.iconst 1, 1) := by decide +kernel
theorem dX11_weight_13 : decode cX11_weight 13 = .ok (.aload_n 0, 1) := by decide +kernel
theorem dX11_weight_14 : decode cX11_weight 14 = .ok (.getfield 71, 3) := by decide +kernel
theorem dX11_weight_17 : decode cX11_weight 17 = .ok (.ishl, 1) := by decide +kernel
theorem dX11_weight_18 : decode cX11_weight 18 = .ok (.if_icmp .lt 5, 3) := by decide +kernel
theorem dX11_weight_21 : decode cX11_weight 21 = .ok (.lconst 0, 1) := by decide +kernel
theorem dX11_weight_22 : decode cX11_weight 22 = .ok (.lreturn, 1) := by decide +kernel
theorem dX11_weight_23 : decode cX11_weight 23 = .ok (.lconst 1, 1) := by decide +kernel
theorem dX11_weight_24 : decode cX11_weight 24 = .ok (.lstore 4, 2) := by decide +kernel
theorem dX11_weight_26 : decode cX11_weight 26 = .ok (.iconst 0, 1) := by decide +kernel
theorem dX11_weight_27 : decode cX11_weight 27 = .ok (.istore 6, 2) := by decide +kernel
theorem dX11_weight_29 : decode cX11_weight 29 = .ok (.iload 6, 2) := by decide +kernel
theorem dX11_weight_31 : decode cX11_weight 31 = .ok (.aload_n 0, 1) := by decide +kernel
theorem dX11_weight_32 : decode cX11_weight 32 = .ok (.getfield 71, 3) := by decide +kernel
theorem dX11_weight_35 : decode cX11_weight 35 = .ok (.if_icmp .ge 138, 3) := by decide +kernel
theorem dX11_weight_38 : decode cX11_weight 38 = .ok (.iload_n 1, 1) := by decide +kernel
theorem dX11_weight_39 : decode cX11_weight 39 = .ok (.iload 6, 2) := by decide +kernel
theorem dX11_weight_41 : decode cX11_weight 41 = .ok (.invokestatic 112, 3) := by decide +kernel
theorem dX11_weight_44 : decode cX11_weight 44 = .ok (.istore 7, 2) := by decide +kernel
theorem dX11_weight_46 : decode cX11_weight 46 = .ok (.aload_n 0, 1) := by decide +kernel
theorem dX11_weight_47 : decode cX11_weight 47 = .ok (.getfield 19, 3) := by decide +kernel
theorem dX11_weight_50 : decode cX11_weight 50 = .ok (.iload 6, 2) := by decide +kernel
theorem dX11_weight_52 : decode cX11_weight 52 = .ok (.iaload, 1) := by decide +kernel
theorem dX11_weight_53 : decode cX11_weight 53 = .ok (.iconst (-1), 1) := by decide +kernel
theorem dX11_weight_54 : decode cX11_weight 54 = .ok (.if_icmp .eq 23, 3) := by decide +kernel
theorem dX11_weight_57 : decode cX11_weight 57 = .ok (.aload_n 0, 1) := by decide +kernel
theorem dX11_weight_58 : decode cX11_weight 58 = .ok (.getfield 19, 3) := by decide +kernel
theorem dX11_weight_61 : decode cX11_weight 61 = .ok (.iload 6, 2) := by decide +kernel
theorem dX11_weight_63 : decode cX11_weight 63 = .ok (.iaload, 1) := by decide +kernel
theorem dX11_weight_64 : decode cX11_weight 64 = .ok (.iload 7, 2) := by decide +kernel
theorem dX11_weight_66 : decode cX11_weight 66 = .ok (.ifCond .eq 7, 3) := by decide +kernel
theorem dX11_weight_69 : decode cX11_weight 69 = .ok (.iconst 1, 1) := by decide +kernel
theorem dX11_weight_70 : decode cX11_weight 70 = .ok (.goto 4, 3) := by decide +kernel
theorem dX11_weight_73 : decode cX11_weight 73 = .ok (.iconst 0, 1) := by decide +kernel
theorem dX11_weight_74 : decode cX11_weight 74 = .ok (.if_icmp .ne 7, 3) := by decide +kernel
theorem dX11_weight_77 : decode cX11_weight 77 = .ok (.iconst 1, 1) := by decide +kernel
theorem dX11_weight_78 : decode cX11_weight 78 = .ok (.goto 4, 3) := by decide +kernel
theorem dX11_weight_81 : decode cX11_weight 81 = .ok (.iconst 0, 1) := by decide +kernel
theorem dX11_weight_82 : decode cX11_weight 82 = .ok (.istore 8, 2) := by decide +kernel
theorem dX11_weight_84 : decode cX11_weight 84 = .ok (.iload 7, 2) := by decide +kernel
theorem dX11_weight_86 : decode cX11_weight 86 = .ok (.ifCond .eq 10, 3) := by decide +kernel
theorem dX11_weight_89 : decode cX11_weight 89 = .ok (.aload_n 0, 1) := by decide +kernel
theorem dX11_weight_90 : decode cX11_weight 90 = .ok (.getfield 77, 3) := by decide +kernel
theorem dX11_weight_93 : decode cX11_weight 93 = .ok (.goto 7, 3) := by decide +kernel
theorem dX11_weight_96 : decode cX11_weight 96 = .ok (.aload_n 0, 1) := by decide +kernel
theorem dX11_weight_97 : decode cX11_weight 97 = .ok (.getfield 80, 3) := by decide +kernel
theorem dX11_weight_100 : decode cX11_weight 100 = .ok (.istore 9, 2) := by decide +kernel
theorem dX11_weight_102 : decode cX11_weight 102 = .ok (.lload 4, 2) := by decide +kernel
theorem dX11_weight_104 : decode cX11_weight 104 = .ok (.iload 8, 2) := by decide +kernel
theorem dX11_weight_106 : decode cX11_weight 106 = .ok (.ifCond .eq 23, 3) := by decide +kernel
theorem dX11_weight_109 : decode cX11_weight 109 = .ok (.iload 7, 2) := by decide +kernel
theorem dX11_weight_111 : decode cX11_weight 111 = .ok (.ifCond .eq 14, 3) := by decide +kernel
theorem dX11_weight_114 : decode cX11_weight 114 = .ok (.aload_n 0, 1) := by decide +kernel
theorem dX11_weight_115 : decode cX11_weight 115 = .ok (.getfield 7, 3) := by decide +kernel
theorem dX11_weight_118 : decode cX11_weight 118 = .ok (.iload 6, 2) := by decide +kernel
theorem dX11_weight_120 : decode cX11_weight 120 = .ok (.iaload, 1) := by decide +kernel
theorem dX11_weight_121 : decode cX11_weight 121 = .ok (.i2l, 1) := by decide +kernel
theorem dX11_weight_122 : decode cX11_weight 122 = .ok (.goto 8, 3) := by decide +kernel
theorem dX11_weight_125 : decode cX11_weight 125 = .ok (.lconst 1, 1) := by decide +kernel
theorem dX11_weight_126 : decode cX11_weight 126 = .ok (.goto 4, 3) := by decide +kernel
theorem dX11_weight_129 : decode cX11_weight 129 = .ok (.lconst 0, 1) := by decide +kernel
theorem dX11_weight_130 : decode cX11_weight 130 = .ok (.lmul, 1) := by decide +kernel
theorem dX11_weight_131 : decode cX11_weight 131 = .ok (.lstore 4, 2) := by decide +kernel
theorem dX11_weight_133 : decode cX11_weight 133 = .ok (.lload 4, 2) := by decide +kernel
theorem dX11_weight_135 : decode cX11_weight 135 = .ok (.aload_n 0, 1) := by decide +kernel
theorem dX11_weight_136 : decode cX11_weight 136 = .ok (.iload 6, 2) := by decide +kernel
theorem dX11_weight_138 : decode cX11_weight 138 = .ok (.iload 9, 2) := by decide +kernel
theorem dX11_weight_140 : decode cX11_weight 140 = .ok (.invokevirtual 116, 3) := by decide +kernel
theorem dX11_weight_143 : decode cX11_weight 143 = .ok (.lmul, 1) := by decide +kernel
theorem dX11_weight_144 : decode cX11_weight 144 = .ok (.lstore 4, 2) := by decide +kernel
theorem dX11_weight_146 : decode cX11_weight 146 = .ok (.lload 4, 2) := by decide +kernel
theorem dX11_weight_148 : decode cX11_weight 148 = .ok (.iload 6, 2) := by decide +kernel
theorem dX11_weight_150 : decode cX11_weight 150 = .ok (.iload_n 2, 1) := by decide +kernel
theorem dX11_weight_151 : decode cX11_weight 151 = .ok (.if_icmp .ne 12, 3) := by decide +kernel
theorem dX11_weight_154 : decode cX11_weight 154 = .ok (.iload 9, 2) := by decide +kernel
theorem dX11_weight_156 : decode cX11_weight 156 = .ok (.iload_n 3, 1) := by decide +kernel
theorem dX11_weight_157 : decode cX11_weight 157 = .ok (.invokestatic 105, 3) := by decide +kernel
theorem dX11_weight_160 : decode cX11_weight 160 = .ok (.goto 4, 3) := by decide +kernel
theorem dX11_weight_163 : decode cX11_weight 163 = .ok (.lconst 1, 1) := by decide +kernel
theorem dX11_weight_164 : decode cX11_weight 164 = .ok (.lmul, 1) := by decide +kernel
theorem dX11_weight_165 : decode cX11_weight 165 = .ok (.lstore 4, 2) := by decide +kernel
theorem dX11_weight_167 : decode cX11_weight 167 = .ok (.iinc 6 1, 3) := by decide +kernel
theorem dX11_weight_170 : decode cX11_weight 170 = .ok (.goto (-141), 3) := by decide +kernel
theorem dX11_weight_173 : decode cX11_weight 173 = .ok (.lload 4, 2) := by decide +kernel
theorem dX11_weight_175 : decode cX11_weight 175 = .ok (.lreturn, 1) := by decide +kernel
set_option maxRecDepth 20000 in
theorem ggX11_total_X11_weight : GoodIn wsX11_total wsX11_weight := goodIn_r _ [6, 7, 1, 8, 9, 10, 11, 12, 13, 5, 14, 15, 16, 17, 18, 19, 20, 21, 22, 23, 24, 25, 26, 27, 28, 29, 30, 31, 32, 33, 34, 35, 36, 37, 38, 39, 40, 41, 42, 43, 44, 45, 46, 47, 48, 49, 50, 51, 52, 53, 54, 55, 56, 57, 58] (by decide +kernel) (by decide +kernel)
set_option maxRecDepth 20000 in
theorem gX11_total_X11_weight : GoodIn wsX11_total (wsV RX11 119 RX11 yX11_weight wsX11_weight) := goodIn_app (goodIn_of _ (by decide +kernel)) ggX11_total_X11_weight
theorem dX11_total_0 : decode cX11_total 0 = .ok (.lconst 0, 1) := by decide +kernel
theorem dX11_total_1 : decode cX11_total 1 = .ok (.lstore_n 3, 1) := by decide +kernel
theorem dX11_total_2 : decode cX11_total 2 = .ok (.iconst 0, 1) := by decide +kernel
theorem dX11_total_3 : decode cX11_total 3 = .ok (.istore 5, 2) := by decide +kernel
theorem dX11_total_5 : decode cX11_total 5 = .ok (.iload 5, 2) := by decide +kernel
theorem dX11_total_7 : decode cX11_total 7 = .ok (.iconst 1, 1) := by decide +kernel
theorem dX11_total_8 : decode cX11_total 8 = .ok (.aload_n 0, 1) := by decide +kernel
theorem dX11_total_9 : decode cX11_total 9 = .ok (.getfield 71, 3) := by decide +kernel
theorem dX11_total_12 : decode cX11_total 12 = .ok (.ishl, 1) := by decide +kernel
theorem dX11_total_13 : decode cX11_total 13 = .ok (.if_icmp .ge 20, 3) := by decide +kernel
theorem dX11_total_16 : decode cX11_total 16 = .ok (.lload_n 3, 1) := by decide +kernel
theorem dX11_total_17 : decode cX11_total 17 = .ok (.aload_n 0, 1) := by decide +kernel
theorem dX11_total_18 : decode cX11_total 18 = .ok (.iload 5, 2) := by decide +kernel
theorem dX11_total_20 : decode cX11_total 20 = .ok (.iload_n 1, 1) := by decide +kernel
theorem dX11_total_21 : decode cX11_total 21 = .ok (.iload_n 2, 1) := by decide +kernel
theorem dX11_total_22 : decode cX11_total 22 = .ok (.invokevirtual 119, 3) := by decide +kernel
theorem dX11_total_25 : decode cX11_total 25 = .ok (.ladd, 1) := by decide +kernel
theorem dX11_total_26 : decode cX11_total 26 = .ok (.lstore_n 3, 1) := by decide +kernel
theorem dX11_total_27 : decode cX11_total 27 = .ok (.iinc 5 1, 3) := by decide +kernel
theorem dX11_total_30 : decode cX11_total 30 = .ok (.goto (-25), 3) := by decide +kernel
theorem dX11_total_33 : decode cX11_total 33 = .ok (.lload_n 3, 1) := by decide +kernel
theorem dX11_total_34 : decode cX11_total 34 = .ok (.lreturn, 1) := by decide +kernel
set_option maxRecDepth 20000 in
theorem ggX11_boiledWeight_X11_has : GoodIn wsX11_boiledWeight wsX11_has := goodIn_r _ [5] (by decide +kernel) (by decide +kernel)
set_option maxRecDepth 20000 in
theorem gX11_boiledWeight_X11_has : GoodIn wsX11_boiledWeight (va_wsS RX11 112 yX11_has wsX11_has) := goodIn_app (goodIn_of _ (by decide +kernel)) ggX11_boiledWeight_X11_has
set_option maxRecDepth 20000 in
theorem ggX11_boiledWeight_X11_weight : GoodIn wsX11_boiledWeight wsX11_weight := goodIn_r _ [9, 10, 1, 11, 12, 13, 14, 15, 16, 4, 17, 2, 3, 5, 18, 19, 20, 21, 22, 23, 24, 25, 26, 27, 28, 29, 30, 31, 32, 33, 34, 35, 36, 37, 38, 39, 40, 41, 42, 43, 44, 45, 46, 47, 48, 49, 50, 51, 52, 53, 54, 55, 56, 57, 58] (by decide +kernel) (by decide +kernel)
set_option maxRecDepth 20000 in
theorem gX11_boiledWeight_X11_weight : GoodIn wsX11_boiledWeight (wsV RX11 119 RX11 yX11_weight wsX11_weight) := goodIn_app (goodIn_of _ (by decide +kernel)) ggX11_boiledWeight_X11_weight
theorem dX11_boiledWeight_0 : decode cX11_boiledWeight 0 = .ok (.lconst 0, 1) := by decide +kernel
theorem dX11_boiledWeight_1 : decode cX11_boiledWeight 1 = .ok (.lstore_n 3, 1) := by decide +kernel
theorem dX11_boiledWeight_2 : decode cX11_boiledWeight 2 = .ok (.iconst 0, 1) := by decide +kernel
theorem dX11_boiledWeight_3 : decode cX11_boiledWeight 3 = .ok (.istore 5, 2) := by decide +kernel
theorem dX11_boiledWeight_5 : decode cX11_boiledWeight 5 = .ok (.iload 5, 2) := by decide +kernel
theorem dX11_boiledWeight_7 : decode cX11_boiledWeight 7 = .ok (.iconst 1, 1) := by decide +kernel
theorem dX11_boiledWeight_8 : decode cX11_boiledWeight 8 = .ok (.aload_n 0, 1) := by decide +kernel
theorem dX11_boiledWeight_9 : decode cX11_boiledWeight 9 = .ok (.getfield 71, 3) := by decide +kernel
theorem dX11_boiledWeight_12 : decode cX11_boiledWeight 12 = .ok (.ishl, 1) := by decide +kernel
theorem dX11_boiledWeight_13 : decode cX11_boiledWeight 13 = .ok (.if_icmp .ge 33, 3) := by decide +kernel
theorem dX11_boiledWeight_16 : decode cX11_boiledWeight 16 = .ok (.lload_n 3, 1) := by decide +kernel
theorem dX11_boiledWeight_17 : decode cX11_boiledWeight 17 = .ok (.iload 5, 2) := by decide +kernel
theorem dX11_boiledWeight_19 : decode cX11_boiledWeight 19 = .ok (.iload_n 1, 1) := by decide +kernel
theorem dX11_boiledWeight_20 : decode cX11_boiledWeight 20 = .ok (.invokestatic 112, 3) := by decide +kernel
theorem dX11_boiledWeight_23 : decode cX11_boiledWeight 23 = .ok (.ifCond .eq 14, 3) := by decide +kernel
theorem dX11_boiledWeight_26 : decode cX11_boiledWeight 26 = .ok (.aload_n 0, 1) := by decide +kernel
theorem dX11_boiledWeight_27 : decode cX11_boiledWeight 27 = .ok (.iload 5, 2) := by decide +kernel
theorem dX11_boiledWeight_29 : decode cX11_boiledWeight 29 = .ok (.iload_n 1, 1) := by decide +kernel
theorem dX11_boiledWeight_30 : decode cX11_boiledWeight 30 = .ok (.iload_n 2, 1) := by decide +kernel
theorem dX11_boiledWeight_31 : decode cX11_boiledWeight 31 = .ok (.invokevirtual 119, 3) := by decide +kernel
theorem dX11_boiledWeight_34 : decode cX11_boiledWeight 34 = .ok (.goto 4, 3) := by decide +kernel
theorem dX11_boiledWeight_37 : decode cX11_boiledWeight 37 = .ok (.lconst 0, 1) := by decide +kernel
theorem dX11_boiledWeight_38 : decode cX11_boiledWeight 38 = .ok (.ladd, 1) := by decide +kernel
theorem dX11_boiledWeight_39 : decode cX11_boiledWeight 39 = .ok (.lstore_n 3, 1) := by decide +kernel
theorem dX11_boiledWeight_40 : decode cX11_boiledWeight 40 = .ok (.iinc 5 1, 3) := by decide +kernel
theorem dX11_boiledWeight_43 : decode cX11_boiledWeight 43 = .ok (.goto (-38), 3) := by decide +kernel
theorem dX11_boiledWeight_46 : decode cX11_boiledWeight 46 = .ok (.lload_n 3, 1) := by decide +kernel
theorem dX11_boiledWeight_47 : decode cX11_boiledWeight 47 = .ok (.lreturn, 1) := by decide +kernel
set_option maxRecDepth 20000 in
theorem ggX11_isInBox_X11_has : GoodIn wsX11_isInBox wsX11_has := goodIn_r _ [5] (by decide +kernel) (by decide +kernel)
set_option maxRecDepth 20000 in
theorem gX11_isInBox_X11_has : GoodIn wsX11_isInBox (va_wsS RX11 112 yX11_has wsX11_has) := goodIn_app (goodIn_of _ (by decide +kernel)) ggX11_isInBox_X11_has
theorem dX11_isInBox_0 : decode cX11_isInBox 0 = .ok (.aload_n 0, 1) := by decide +kernel
theorem dX11_isInBox_1 : decode cX11_isInBox 1 = .ok (.getfield 86, 3) := by decide +kernel
theorem dX11_isInBox_4 : decode cX11_isInBox 4 = .ok (.iload_n 1, 1) := by decide +kernel
theorem dX11_isInBox_5 : decode cX11_isInBox 5 = .ok (.invokestatic 112, 3) := by decide +kernel
theorem dX11_isInBox_8 : decode cX11_isInBox 8 = .ok (.ireturn, 1) := by decide +kernel
set_option maxRecDepth 20000 in
theorem ggX11_spin_X11_isEgg : GoodIn wsX11_spin wsX11_isEgg := goodIn_r _ [8, 9, 10, 11, 7, 12, 44, 45, 46, 47, 48, 49, 50, 51, 52, 53, 54, 55, 56, 57, 58, 59, 60, 61, 62, 63, 64, 65, 66, 67, 68, 69, 70, 71, 72, 73, 74, 75] (by decide +kernel) (by decide +kernel)
set_option maxRecDepth 20000 in
theorem gX11_spin_X11_isEgg : GoodIn wsX11_spin (wsV RX11 98 RX11 yX11_isEgg wsX11_isEgg) := goodIn_app (goodIn_of _ (by decide +kernel)) ggX11_spin_X11_isEgg
set_option maxRecDepth 20000 in
theorem ggX11_spin_X11_isInBox : GoodIn wsX11_spin wsX11_isInBox := goodIn_r _ [16, 17, 18, 19, 7, 20, 44, 45, 46, 47, 48, 49, 50, 51, 52, 53, 54, 55, 56, 57, 58, 59, 60, 61, 62, 63, 64, 65, 66, 67, 68, 69, 70, 71, 72, 73, 74, 75] (by decide +kernel) (by decide +kernel)
set_option maxRecDepth 20000 in
theorem gX11_spin_X11_isInBox : GoodIn wsX11_spin (wsV RX11 123 RX11 yX11_isInBox wsX11_isInBox) := goodIn_app (goodIn_of _ (by decide +kernel)) ggX11_spin_X11_isInBox
set_option maxRecDepth 20000 in
theorem ggX11_spin_X11_total : GoodIn wsX11_spin wsX11_total := goodIn_r _ [24, 9, 25, 26, 27, 7, 28, 29, 30, 31, 32, 33, 34, 35, 36, 18, 19, 20, 37, 38, 39, 40, 2, 1, 41, 42, 43, 44, 45, 46, 47, 48, 49, 50, 51, 52, 53, 54, 55, 56, 57, 58, 59, 60, 61, 62, 63, 64, 65, 66, 67, 68, 69, 70, 71, 72, 73, 74, 75] (by decide +kernel) (by decide +kernel)
set_option maxRecDepth 20000 in
theorem gX11_spin_X11_total : GoodIn wsX11_spin (wsV RX11 126 RX11 yX11_total wsX11_total) := goodIn_app (goodIn_of _ (by decide +kernel)) ggX11_spin_X11_total
theorem dX11_spin_0 : decode cX11_spin 0 = .ok (.aload_n 0, 1) := by decide +kernel
theorem dX11_spin_1 : decode cX11_spin 1 = .ok (.iload_n 1, 1) := by decide +kernel
theorem dX11_spin_2 : decode cX11_spin 2 = .ok (.invokevirtual 98, 3) := by decide +kernel
theorem dX11_spin_5 : decode cX11_spin 5 = .ok (.ifCond .ne 6, 3) := by decide +kernel
theorem dX11_spin_8 : decode cX11_spin 8 = .ok (.bipush (-101), 2) := by decide +kernel
theorem dX11_spin_10 : decode cX11_spin 10 = .ok (.ireturn, 1) := by decide +kernel
theorem dX11_spin_11 : decode cX11_spin 11 = .ok (.aload_n 0, 1) := by decide +kernel
theorem dX11_spin_12 : decode cX11_spin 12 = .ok (.iload_n 1, 1) := by decide +kernel
theorem dX11_spin_13 : decode cX11_spin 13 = .ok (.invokevirtual 123, 3) := by decide +kernel
theorem dX11_spin_16 : decode cX11_spin 16 = .ok (.ifCond .ne 6, 3) := by decide +kernel
theorem dX11_spin_19 : decode cX11_spin 19 = .ok (.bipush (-103), 2) := by decide +kernel
theorem dX11_spin_21 : decode cX11_spin 21 = .ok (.ireturn, 1) := by decide +kernel
theorem dX11_spin_22 : decode cX11_spin 22 = .ok (.aload_n 0, 1) := by decide +kernel
theorem dX11_spin_23 : decode cX11_spin 23 = .ok (.getfield 13, 3) := by decide +kernel
theorem dX11_spin_26 : decode cX11_spin 26 = .ok (.iload_n 1, 1) := by decide +kernel
theorem dX11_spin_27 : decode cX11_spin 27 = .ok (.dup2, 1) := by decide +kernel
theorem dX11_spin_28 : decode cX11_spin 28 = .ok (.iaload, 1) := by decide +kernel
theorem dX11_spin_29 : decode cX11_spin 29 = .ok (.iconst 1, 1) := by decide +kernel
theorem dX11_spin_30 : decode cX11_spin 30 = .ok (.iadd, 1) := by decide +kernel
theorem dX11_spin_31 : decode cX11_spin 31 = .ok (.iastore, 1) := by decide +kernel
theorem dX11_spin_32 : decode cX11_spin 32 = .ok (.aload_n 0, 1) := by decide +kernel
theorem dX11_spin_33 : decode cX11_spin 33 = .ok (.getfield 16, 3) := by decide +kernel
theorem dX11_spin_36 : decode cX11_spin 36 = .ok (.iload_n 1, 1) := by decide +kernel
theorem dX11_spin_37 : decode cX11_spin 37 = .ok (.dup2, 1) := by decide +kernel
theorem dX11_spin_38 : decode cX11_spin 38 = .ok (.iaload, 1) := by decide +kernel
theorem dX11_spin_39 : decode cX11_spin 39 = .ok (.iload_n 2, 1) := by decide +kernel
theorem dX11_spin_40 : decode cX11_spin 40 = .ok (.ifCond .eq 7, 3) := by decide +kernel
theorem dX11_spin_43 : decode cX11_spin 43 = .ok (.iconst 1, 1) := by decide +kernel
theorem dX11_spin_44 : decode cX11_spin 44 = .ok (.goto 4, 3) := by decide +kernel
theorem dX11_spin_47 : decode cX11_spin 47 = .ok (.iconst 0, 1) := by decide +kernel
theorem dX11_spin_48 : decode cX11_spin 48 = .ok (.iadd, 1) := by decide +kernel
theorem dX11_spin_49 : decode cX11_spin 49 = .ok (.iastore, 1) := by decide +kernel
theorem dX11_spin_50 : decode cX11_spin 50 = .ok (.aload_n 0, 1) := by decide +kernel
theorem dX11_spin_51 : decode cX11_spin 51 = .ok (.iconst (-1), 1) := by decide +kernel
theorem dX11_spin_52 : decode cX11_spin 52 = .ok (.iconst 0, 1) := by decide +kernel
theorem dX11_spin_53 : decode cX11_spin 53 = .ok (.invokevirtual 126, 3) := by decide +kernel
theorem dX11_spin_56 : decode cX11_spin 56 = .ok (.lconst 0, 1) := by decide +kernel
theorem dX11_spin_57 : decode cX11_spin 57 = .ok (.lcmp, 1) := by decide +kernel
theorem dX11_spin_58 : decode cX11_spin 58 = .ok (.ifCond .le 7, 3) := by decide +kernel
theorem dX11_spin_61 : decode cX11_spin 61 = .ok (.iconst 1, 1) := by decide +kernel
theorem dX11_spin_62 : decode cX11_spin 62 = .ok (.goto 4, 3) := by decide +kernel
theorem dX11_spin_65 : decode cX11_spin 65 = .ok (.iconst 0, 1) := by decide +kernel
theorem dX11_spin_66 : decode cX11_spin 66 = .ok (.istore_n 3, 1) := by decide +kernel
theorem dX11_spin_67 : decode cX11_spin 67 = .ok (.iload_n 3, 1) := by decide +kernel
theorem dX11_spin_68 : decode cX11_spin 68 = .ok (.ifCond .eq 12, 3) := by decide +kernel
theorem dX11_spin_71 : decode cX11_spin 71 = .ok (.aload_n 0, 1) := by decide +kernel
theorem dX11_spin_72 : decode cX11_spin 72 = .ok (.getfield 89, 3) := by decide +kernel
theorem dX11_spin_75 : decode cX11_spin 75 = .ok (.bipush 8, 2) := by decide +kernel
theorem dX11_spin_77 : decode cX11_spin 77 = .ok (.if_icmp .ne 43, 3) := by decide +kernel
theorem dX11_spin_80 : decode cX11_spin 80 = .ok (.aload_n 0, 1) := by decide +kernel
theorem dX11_spin_81 : decode cX11_spin 81 = .ok (.getfield 13, 3) := by decide +kernel
theorem dX11_spin_84 : decode cX11_spin 84 = .ok (.iload_n 1, 1) := by decide +kernel
theorem dX11_spin_85 : decode cX11_spin 85 = .ok (.dup2, 1) := by decide +kernel
theorem dX11_spin_86 : decode cX11_spin 86 = .ok (.iaload, 1) := by decide +kernel
theorem dX11_spin_87 : decode cX11_spin 87 = .ok (.iconst 1, 1) := by decide +kernel
theorem dX11_spin_88 : decode cX11_spin 88 = .ok (.isub, 1) := by decide +kernel
theorem dX11_spin_89 : decode cX11_spin 89 = .ok (.iastore, 1) := by decide +kernel
theorem dX11_spin_90 : decode cX11_spin 90 = .ok (.aload_n 0, 1) := by decide +kernel
theorem dX11_spin_91 : decode cX11_spin 91 = .ok (.getfield 16, 3) := by decide +kernel
theorem dX11_spin_94 : decode cX11_spin 94 = .ok (.iload_n 1, 1) := by decide +kernel
theorem dX11_spin_95 : decode cX11_spin 95 = .ok (.dup2, 1) := by decide +kernel
theorem dX11_spin_96 : decode cX11_spin 96 = .ok (.iaload, 1) := by decide +kernel
theorem dX11_spin_97 : decode cX11_spin 97 = .ok (.iload_n 2, 1) := by decide +kernel
theorem dX11_spin_98 : decode cX11_spin 98 = .ok (.ifCond .eq 7, 3) := by decide +kernel
theorem dX11_spin_101 : decode cX11_spin 101 = .ok (.iconst 1, 1) := by decide +kernel
theorem dX11_spin_102 : decode cX11_spin 102 = .ok (.goto 4, 3) := by decide +kernel
theorem dX11_spin_105 : decode cX11_spin 105 = .ok (.iconst 0, 1) := by decide +kernel
theorem dX11_spin_106 : decode cX11_spin 106 = .ok (.isub, 1) := by decide +kernel
theorem dX11_spin_107 : decode cX11_spin 107 = .ok (.iastore, 1) := by decide +kernel
theorem dX11_spin_108 : decode cX11_spin 108 = .ok (.iload_n 3, 1) := by decide +kernel
theorem dX11_spin_109 : decode cX11_spin 109 = .ok (.ifCond .eq 8, 3) := by decide +kernel
theorem dX11_spin_112 : decode cX11_spin 112 = .ok (.bipush (-104), 2) := by decide +kernel
theorem dX11_spin_114 : decode cX11_spin 114 = .ok (.goto 5, 3) := by decide +kernel
theorem dX11_spin_117 : decode cX11_spin 117 = .ok (.bipush (-103), 2) := by decide +kernel
theorem dX11_spin_119 : decode cX11_spin 119 = .ok (.ireturn, 1) := by decide +kernel
theorem dX11_spin_120 : decode cX11_spin 120 = .ok (.aload_n 0, 1) := by decide +kernel
theorem dX11_spin_121 : decode cX11_spin 121 = .ok (.dup, 1) := by decide +kernel
theorem dX11_spin_122 : decode cX11_spin 122 = .ok (.getfield 89, 3) := by decide +kernel
theorem dX11_spin_125 : decode cX11_spin 125 = .ok (.iconst 1, 1) := by decide +kernel
theorem dX11_spin_126 : decode cX11_spin 126 = .ok (.iadd, 1) := by decide +kernel
theorem dX11_spin_127 : decode cX11_spin 127 = .ok (.putfield 89, 3) := by decide +kernel
theorem dX11_spin_130 : decode cX11_spin 130 = .ok (.aload_n 0, 1) := by decide +kernel
theorem dX11_spin_131 : decode cX11_spin 131 = .ok (.getfield 89, 3) := by decide +kernel
theorem dX11_spin_134 : decode cX11_spin 134 = .ok (.ireturn, 1) := by decide +kernel
set_option maxRecDepth 20000 in
theorem ggX11_know_X11_total : GoodIn wsX11_know wsX11_total := goodIn_r _ [6, 7, 8, 9, 10, 5, 11, 12, 1, 13, 14, 15, 16, 17, 18, 19, 20, 21, 22, 23, 24, 25, 26, 27, 28, 29, 30, 31, 32, 33, 34, 35, 36, 37, 38, 39, 40, 41, 42, 43, 44, 45, 46, 47, 48, 49, 50, 51, 52, 53, 54, 55, 56, 57, 58, 59, 60, 61, 62] (by decide +kernel) (by decide +kernel)
set_option maxRecDepth 20000 in
theorem gX11_know_X11_total : GoodIn wsX11_know (wsV RX11 126 RX11 yX11_total wsX11_total) := goodIn_app (goodIn_of _ (by decide +kernel)) ggX11_know_X11_total
theorem dX11_know_0 : decode cX11_know 0 = .ok (.aload_n 0, 1) := by decide +kernel
theorem dX11_know_1 : decode cX11_know 1 = .ok (.getfield 19, 3) := by decide +kernel
theorem dX11_know_4 : decode cX11_know 4 = .ok (.iload_n 1, 1) := by decide +kernel
theorem dX11_know_5 : decode cX11_know 5 = .ok (.iaload, 1) := by decide +kernel
theorem dX11_know_6 : decode cX11_know 6 = .ok (.istore_n 3, 1) := by decide +kernel
theorem dX11_know_7 : decode cX11_know 7 = .ok (.iload_n 3, 1) := by decide +kernel
theorem dX11_know_8 : decode cX11_know 8 = .ok (.iconst (-1), 1) := by decide +kernel
theorem dX11_know_9 : decode cX11_know 9 = .ok (.if_icmp .eq 10, 3) := by decide +kernel
theorem dX11_know_12 : decode cX11_know 12 = .ok (.iload_n 3, 1) := by decide +kernel
theorem dX11_know_13 : decode cX11_know 13 = .ok (.iload_n 2, 1) := by decide +kernel
theorem dX11_know_14 : decode cX11_know 14 = .ok (.if_icmp .eq 5, 3) := by decide +kernel
theorem dX11_know_17 : decode cX11_know 17 = .ok (.iconst 0, 1) := by decide +kernel
theorem dX11_know_18 : decode cX11_know 18 = .ok (.ireturn, 1) := by decide +kernel
theorem dX11_know_19 : decode cX11_know 19 = .ok (.aload_n 0, 1) := by decide +kernel
theorem dX11_know_20 : decode cX11_know 20 = .ok (.getfield 19, 3) := by decide +kernel
theorem dX11_know_23 : decode cX11_know 23 = .ok (.iload_n 1, 1) := by decide +kernel
theorem dX11_know_24 : decode cX11_know 24 = .ok (.iload_n 2, 1) := by decide +kernel
theorem dX11_know_25 : decode cX11_know 25 = .ok (.iastore, 1) := by decide +kernel
theorem dX11_know_26 : decode cX11_know 26 = .ok (.aload_n 0, 1) := by decide +kernel
theorem dX11_know_27 : decode cX11_know 27 = .ok (.iconst (-1), 1) := by decide +kernel
theorem dX11_know_28 : decode cX11_know 28 = .ok (.iconst 0, 1) := by decide +kernel
theorem dX11_know_29 : decode cX11_know 29 = .ok (.invokevirtual 126, 3) := by decide +kernel
theorem dX11_know_32 : decode cX11_know 32 = .ok (.lconst 0, 1) := by decide +kernel
theorem dX11_know_33 : decode cX11_know 33 = .ok (.lcmp, 1) := by decide +kernel
theorem dX11_know_34 : decode cX11_know 34 = .ok (.ifCond .le 7, 3) := by decide +kernel
theorem dX11_know_37 : decode cX11_know 37 = .ok (.iconst 1, 1) := by decide +kernel
theorem dX11_know_38 : decode cX11_know 38 = .ok (.goto 4, 3) := by decide +kernel
theorem dX11_know_41 : decode cX11_know 41 = .ok (.iconst 0, 1) := by decide +kernel
theorem dX11_know_42 : decode cX11_know 42 = .ok (.istore 4, 2) := by decide +kernel
theorem dX11_know_44 : decode cX11_know 44 = .ok (.aload_n 0, 1) := by decide +kernel
theorem dX11_know_45 : decode cX11_know 45 = .ok (.getfield 19, 3) := by decide +kernel
theorem dX11_know_48 : decode cX11_know 48 = .ok (.iload_n 1, 1) := by decide +kernel
theorem dX11_know_49 : decode cX11_know 49 = .ok (.iload 4, 2) := by decide +kernel
theorem dX11_know_51 : decode cX11_know 51 = .ok (.ifCond .eq 7, 3) := by decide +kernel
theorem dX11_know_54 : decode cX11_know 54 = .ok (.iload_n 2, 1) := by decide +kernel
theorem dX11_know_55 : decode cX11_know 55 = .ok (.goto 4, 3) := by decide +kernel
theorem dX11_know_58 : decode cX11_know 58 = .ok (.iload_n 3, 1) := by decide +kernel
theorem dX11_know_59 : decode cX11_know 59 = .ok (.iastore, 1) := by decide +kernel
theorem dX11_know_60 : decode cX11_know 60 = .ok (.iload 4, 2) := by decide +kernel
theorem dX11_know_62 : decode cX11_know 62 = .ok (.ireturn, 1) := by decide +kernel
set_option maxRecDepth 20000 in
theorem ggX11_stop_X11_isEgg : GoodIn wsX11_stop wsX11_isEgg := goodIn_r _ [7, 8, 9, 10, 6, 11, 48, 49, 50, 51, 52, 53, 54, 55, 56, 57, 58, 59, 60, 61, 62, 63, 64, 65, 66, 67, 68, 69, 70, 71, 72, 73, 74, 75, 76, 77, 78, 79] (by decide +kernel) (by decide +kernel)
set_option maxRecDepth 20000 in
theorem gX11_stop_X11_isEgg : GoodIn wsX11_stop (wsV RX11 98 RX11 yX11_isEgg wsX11_isEgg) := goodIn_app (goodIn_of _ (by decide +kernel)) ggX11_stop_X11_isEgg
set_option maxRecDepth 20000 in
theorem ggX11_stop_X11_within : GoodIn wsX11_stop wsX11_within := goodIn_r _ [11] (by decide +kernel) (by decide +kernel)
set_option maxRecDepth 20000 in
theorem gX11_stop_X11_within : GoodIn wsX11_stop (va_wsS RX11 51 yX11_within wsX11_within) := goodIn_app (goodIn_of _ (by decide +kernel)) ggX11_stop_X11_within
set_option maxRecDepth 20000 in
theorem ggX11_stop_X11_isInBox : GoodIn wsX11_stop wsX11_isInBox := goodIn_r _ [15, 2, 16, 17, 6, 18, 48, 49, 50, 51, 52, 53, 54, 55, 56, 57, 58, 59, 60, 61, 62, 63, 64, 65, 66, 67, 68, 69, 70, 71, 72, 73, 74, 75, 76, 77, 78, 79] (by decide +kernel) (by decide +kernel)
set_option maxRecDepth 20000 in
theorem gX11_stop_X11_isInBox : GoodIn wsX11_stop (wsV RX11 123 RX11 yX11_isInBox wsX11_isInBox) := goodIn_app (goodIn_of _ (by decide +kernel)) ggX11_stop_X11_isInBox
set_option maxRecDepth 20000 in
theorem ggX11_stop_X11_know : GoodIn wsX11_stop wsX11_know := goodIn_r _ [22, 23, 24, 25, 26, 6, 27, 8, 28, 29, 30, 31, 32, 33, 34, 35, 36, 37, 38, 16, 17, 18, 39, 40, 41, 42, 43, 44, 45, 46, 47, 48, 49, 50, 51, 52, 53, 54, 55, 56, 57, 58, 59, 60, 61, 62, 63, 64, 65, 66, 67, 68, 69, 70, 71, 72, 73, 74, 75, 76, 77, 78, 79] (by decide +kernel) (by decide +kernel)
set_option maxRecDepth 20000 in
theorem gX11_stop_X11_know : GoodIn wsX11_stop (wsV RX11 129 RX11 yX11_know wsX11_know) := goodIn_app (goodIn_of _ (by decide +kernel)) ggX11_stop_X11_know
set_option maxRecDepth 20000 in
theorem ggX11_stop_X11_size : GoodIn wsX11_stop wsX11_size := goodIn_r _ [38] (by decide +kernel) (by decide +kernel)
set_option maxRecDepth 20000 in
theorem gX11_stop_X11_size : GoodIn wsX11_stop (va_wsS RX11 109 yX11_size wsX11_size) := goodIn_app (goodIn_of _ (by decide +kernel)) ggX11_stop_X11_size
theorem dX11_stop_0 : decode cX11_stop 0 = .ok (.aload_n 0, 1) := by decide +kernel
theorem dX11_stop_1 : decode cX11_stop 1 = .ok (.iload_n 1, 1) := by decide +kernel
theorem dX11_stop_2 : decode cX11_stop 2 = .ok (.invokevirtual 98, 3) := by decide +kernel
theorem dX11_stop_5 : decode cX11_stop 5 = .ok (.ifCond .ne 6, 3) := by decide +kernel
theorem dX11_stop_8 : decode cX11_stop 8 = .ok (.bipush (-101), 2) := by decide +kernel
theorem dX11_stop_10 : decode cX11_stop 10 = .ok (.ireturn, 1) := by decide +kernel
theorem dX11_stop_11 : decode cX11_stop 11 = .ok (.iload_n 2, 1) := by decide +kernel
theorem dX11_stop_12 : decode cX11_stop 12 = .ok (.iconst 0, 1) := by decide +kernel
theorem dX11_stop_13 : decode cX11_stop 13 = .ok (.iconst 2, 1) := by decide +kernel
theorem dX11_stop_14 : decode cX11_stop 14 = .ok (.invokestatic 51, 3) := by decide +kernel
theorem dX11_stop_17 : decode cX11_stop 17 = .ok (.ifCond .ne 6, 3) := by decide +kernel
theorem dX11_stop_20 : decode cX11_stop 20 = .ok (.bipush (-102), 2) := by decide +kernel
theorem dX11_stop_22 : decode cX11_stop 22 = .ok (.ireturn, 1) := by decide +kernel
theorem dX11_stop_23 : decode cX11_stop 23 = .ok (.aload_n 0, 1) := by decide +kernel
theorem dX11_stop_24 : decode cX11_stop 24 = .ok (.iload_n 1, 1) := by decide +kernel
theorem dX11_stop_25 : decode cX11_stop 25 = .ok (.invokevirtual 123, 3) := by decide +kernel
theorem dX11_stop_28 : decode cX11_stop 28 = .ok (.ifCond .eq 27, 3) := by decide +kernel
theorem dX11_stop_31 : decode cX11_stop 31 = .ok (.iload_n 2, 1) := by decide +kernel
theorem dX11_stop_32 : decode cX11_stop 32 = .ok (.iconst 2, 1) := by decide +kernel
theorem dX11_stop_33 : decode cX11_stop 33 = .ok (.if_icmp .ne 13, 3) := by decide +kernel
theorem dX11_stop_36 : decode cX11_stop 36 = .ok (.aload_n 0, 1) := by decide +kernel
theorem dX11_stop_37 : decode cX11_stop 37 = .ok (.getfield 83, 3) := by decide +kernel
theorem dX11_stop_40 : decode cX11_stop 40 = .ok (.ifCond .ne 18, 3) := by decide +kernel
theorem dX11_stop_43 : decode cX11_stop 43 = .ok (.goto 12, 3) := by decide +kernel
theorem dX11_stop_46 : decode cX11_stop 46 = .ok (.aload_n 0, 1) := by decide +kernel
theorem dX11_stop_47 : decode cX11_stop 47 = .ok (.iload_n 1, 1) := by decide +kernel
theorem dX11_stop_48 : decode cX11_stop 48 = .ok (.iload_n 2, 1) := by decide +kernel
theorem dX11_stop_49 : decode cX11_stop 49 = .ok (.invokevirtual 129, 3) := by decide +kernel
theorem dX11_stop_52 : decode cX11_stop 52 = .ok (.ifCond .ne 6, 3) := by decide +kernel
theorem dX11_stop_55 : decode cX11_stop 55 = .ok (.bipush (-103), 2) := by decide +kernel
theorem dX11_stop_57 : decode cX11_stop 57 = .ok (.ireturn, 1) := by decide +kernel
theorem dX11_stop_58 : decode cX11_stop 58 = .ok (.aload_n 0, 1) := by decide +kernel
theorem dX11_stop_59 : decode cX11_stop 59 = .ok (.dup, 1) := by decide +kernel
theorem dX11_stop_60 : decode cX11_stop 60 = .ok (.getfield 86, 3) := by decide +kernel
theorem dX11_stop_63 : decode cX11_stop 63 = .ok (.iload_n 2, 1) := by decide +kernel
theorem dX11_stop_64 : decode cX11_stop 64 = .ok (.iconst 2, 1) := by decide +kernel
theorem dX11_stop_65 : decode cX11_stop 65 = .ok (.if_icmp .ne 11, 3) := by decide +kernel
theorem dX11_stop_68 : decode cX11_stop 68 = .ok (.iconst 1, 1) := by decide +kernel
theorem dX11_stop_69 : decode cX11_stop 69 = .ok (.iload_n 1, 1) := by decide +kernel
theorem dX11_stop_70 : decode cX11_stop 70 = .ok (.ishl, 1) := by decide +kernel
theorem dX11_stop_71 : decode cX11_stop 71 = .ok (.iconst (-1), 1) := by decide +kernel
theorem dX11_stop_72 : decode cX11_stop 72 = .ok (.ixor, 1) := by decide +kernel
theorem dX11_stop_73 : decode cX11_stop 73 = .ok (.goto 4, 3) := by decide +kernel
theorem dX11_stop_76 : decode cX11_stop 76 = .ok (.iconst (-1), 1) := by decide +kernel
theorem dX11_stop_77 : decode cX11_stop 77 = .ok (.iand, 1) := by decide +kernel
theorem dX11_stop_78 : decode cX11_stop 78 = .ok (.putfield 86, 3) := by decide +kernel
theorem dX11_stop_81 : decode cX11_stop 81 = .ok (.aload_n 0, 1) := by decide +kernel
theorem dX11_stop_82 : decode cX11_stop 82 = .ok (.getfield 86, 3) := by decide +kernel
theorem dX11_stop_85 : decode cX11_stop 85 = .ok (.invokestatic 109, 3) := by decide +kernel
theorem dX11_stop_88 : decode cX11_stop 88 = .ok (.ireturn, 1) := by decide +kernel
set_option maxRecDepth 20000 in
theorem ggX11_crack_X11_isEgg : GoodIn wsX11_crack wsX11_isEgg := goodIn_r _ [6, 7, 8, 9, 5, 10, 47, 48, 49, 50, 51, 52, 53, 54, 55, 56, 57, 58, 59, 60, 61, 62, 63, 64, 65, 66, 67, 68, 69, 70, 71, 72, 73, 74, 75, 76, 77, 78] (by decide +kernel) (by decide +kernel)
set_option maxRecDepth 20000 in
theorem gX11_crack_X11_isEgg : GoodIn wsX11_crack (wsV RX11 98 RX11 yX11_isEgg wsX11_isEgg) := goodIn_app (goodIn_of _ (by decide +kernel)) ggX11_crack_X11_isEgg
set_option maxRecDepth 20000 in
theorem ggX11_crack_X11_isInBox : GoodIn wsX11_crack wsX11_isInBox := goodIn_r _ [14, 1, 15, 16, 5, 17, 47, 48, 49, 50, 51, 52, 53, 54, 55, 56, 57, 58, 59, 60, 61, 62, 63, 64, 65, 66, 67, 68, 69, 70, 71, 72, 73, 74, 75, 76, 77, 78] (by decide +kernel) (by decide +kernel)
set_option maxRecDepth 20000 in
theorem gX11_crack_X11_isInBox : GoodIn wsX11_crack (wsV RX11 123 RX11 yX11_isInBox wsX11_isInBox) := goodIn_app (goodIn_of _ (by decide +kernel)) ggX11_crack_X11_isInBox
set_option maxRecDepth 20000 in
theorem ggX11_crack_X11_know : GoodIn wsX11_crack wsX11_know := goodIn_r _ [21, 22, 23, 24, 25, 5, 26, 7, 27, 28, 29, 30, 31, 32, 33, 34, 35, 36, 37, 15, 16, 17, 38, 39, 40, 41, 42, 43, 44, 45, 46, 47, 48, 49, 50, 51, 52, 53, 54, 55, 56, 57, 58, 59, 60, 61, 62, 63, 64, 65, 66, 67, 68, 69, 70, 71, 72, 73, 74, 75, 76, 77, 78] (by decide +kernel) (by decide +kernel)
set_option maxRecDepth 20000 in
theorem gX11_crack_X11_know : GoodIn wsX11_crack (wsV RX11 129 RX11 yX11_know wsX11_know) := goodIn_app (goodIn_of _ (by decide +kernel)) ggX11_crack_X11_know
set_option maxRecDepth 20000 in
theorem ggX11_crack_X11_size : GoodIn wsX11_crack wsX11_size := goodIn_r _ [37] (by decide +kernel) (by decide +kernel)
set_option maxRecDepth 20000 in
theorem gX11_crack_X11_size : GoodIn wsX11_crack (va_wsS RX11 109 yX11_size wsX11_size) := goodIn_app (goodIn_of _ (by decide +kernel)) ggX11_crack_X11_size
theorem dX11_crack_0 : decode cX11_crack 0 = .ok (.aload_n 0, 1) := by decide +kernel
theorem dX11_crack_1 : decode cX11_crack 1 = .ok (.iload_n 1, 1) := by decide +kernel
theorem dX11_crack_2 : decode cX11_crack 2 = .ok (.invokevirtual 98, 3) := by decide +kernel
theorem dX11_crack_5 : decode cX11_crack 5 = .ok (.ifCond .ne 6, 3) := by decide +kernel
theorem dX11_crack_8 : decode cX11_crack 8 = .ok (.bipush (-101), 2) := by decide +kernel
theorem dX11_crack_10 : decode cX11_crack 10 = .ok (.ireturn, 1) := by decide +kernel
theorem dX11_crack_11 : decode cX11_crack 11 = .ok (.aload_n 0, 1) := by decide +kernel
theorem dX11_crack_12 : decode cX11_crack 12 = .ok (.iload_n 1, 1) := by decide +kernel
theorem dX11_crack_13 : decode cX11_crack 13 = .ok (.invokevirtual 123, 3) := by decide +kernel
theorem dX11_crack_16 : decode cX11_crack 16 = .ok (.ifCond .eq 20, 3) := by decide +kernel
theorem dX11_crack_19 : decode cX11_crack 19 = .ok (.aload_n 0, 1) := by decide +kernel
theorem dX11_crack_20 : decode cX11_crack 20 = .ok (.iload_n 1, 1) := by decide +kernel
theorem dX11_crack_21 : decode cX11_crack 21 = .ok (.iload_n 2, 1) := by decide +kernel
theorem dX11_crack_22 : decode cX11_crack 22 = .ok (.ifCond .eq 7, 3) := by decide +kernel
theorem dX11_crack_25 : decode cX11_crack 25 = .ok (.iconst 1, 1) := by decide +kernel
theorem dX11_crack_26 : decode cX11_crack 26 = .ok (.goto 4, 3) := by decide +kernel
theorem dX11_crack_29 : decode cX11_crack 29 = .ok (.iconst 0, 1) := by decide +kernel
theorem dX11_crack_30 : decode cX11_crack 30 = .ok (.invokevirtual 129, 3) := by decide +kernel
theorem dX11_crack_33 : decode cX11_crack 33 = .ok (.ifCond .ne 6, 3) := by decide +kernel
theorem dX11_crack_36 : decode cX11_crack 36 = .ok (.bipush (-103), 2) := by decide +kernel
theorem dX11_crack_38 : decode cX11_crack 38 = .ok (.ireturn, 1) := by decide +kernel
theorem dX11_crack_39 : decode cX11_crack 39 = .ok (.aload_n 0, 1) := by decide +kernel
theorem dX11_crack_40 : decode cX11_crack 40 = .ok (.dup, 1) := by decide +kernel
theorem dX11_crack_41 : decode cX11_crack 41 = .ok (.getfield 86, 3) := by decide +kernel
theorem dX11_crack_44 : decode cX11_crack 44 = .ok (.iconst 1, 1) := by decide +kernel
theorem dX11_crack_45 : decode cX11_crack 45 = .ok (.iload_n 1, 1) := by decide +kernel
theorem dX11_crack_46 : decode cX11_crack 46 = .ok (.ishl, 1) := by decide +kernel
theorem dX11_crack_47 : decode cX11_crack 47 = .ok (.iconst (-1), 1) := by decide +kernel
theorem dX11_crack_48 : decode cX11_crack 48 = .ok (.ixor, 1) := by decide +kernel
theorem dX11_crack_49 : decode cX11_crack 49 = .ok (.iand, 1) := by decide +kernel
theorem dX11_crack_50 : decode cX11_crack 50 = .ok (.putfield 86, 3) := by decide +kernel
theorem dX11_crack_53 : decode cX11_crack 53 = .ok (.aload_n 0, 1) := by decide +kernel
theorem dX11_crack_54 : decode cX11_crack 54 = .ok (.getfield 86, 3) := by decide +kernel
theorem dX11_crack_57 : decode cX11_crack 57 = .ok (.invokestatic 109, 3) := by decide +kernel
theorem dX11_crack_60 : decode cX11_crack 60 = .ok (.ireturn, 1) := by decide +kernel
set_option maxRecDepth 20000 in
theorem ggX11_likelyNow_X11_boiledWeight : GoodIn wsX11_likelyNow wsX11_boiledWeight := goodIn_r _ [5, 6, 7, 8, 4, 9, 10, 11, 12, 13, 14, 15, 16, 17, 18, 19, 20, 21, 22, 23, 24, 25, 26, 27, 28, 29, 30, 38, 39, 40, 41, 42, 43, 44, 45, 46, 47, 48, 49, 50, 51, 52, 53, 54, 55, 56, 57, 58, 59, 60, 61, 62, 63, 64, 65, 66, 67, 68, 69] (by decide +kernel) (by decide +kernel)
set_option maxRecDepth 20000 in
theorem gX11_likelyNow_X11_boiledWeight : GoodIn wsX11_likelyNow (wsV RX11 132 RX11 yX11_boiledWeight wsX11_boiledWeight) := goodIn_app (goodIn_of _ (by decide +kernel)) ggX11_likelyNow_X11_boiledWeight
set_option maxRecDepth 20000 in
theorem ggX11_likelyNow_X11_total : GoodIn wsX11_likelyNow wsX11_total := goodIn_r _ [34, 6, 10, 11, 12, 4, 13, 14, 15, 16, 17, 18, 19, 20, 21, 7, 8, 9, 22, 23, 24, 25, 26, 27, 28, 29, 30, 38, 39, 40, 41, 42, 43, 44, 45, 46, 47, 48, 49, 50, 51, 52, 53, 54, 55, 56, 57, 58, 59, 60, 61, 62, 63, 64, 65, 66, 67, 68, 69] (by decide +kernel) (by decide +kernel)
set_option maxRecDepth 20000 in
theorem gX11_likelyNow_X11_total : GoodIn wsX11_likelyNow (wsV RX11 126 RX11 yX11_total wsX11_total) := goodIn_app (goodIn_of _ (by decide +kernel)) ggX11_likelyNow_X11_total
set_option maxRecDepth 20000 in
theorem ggX11_likelyNow_X11_lowest : GoodIn wsX11_likelyNow wsX11_lowest := goodIn_r _ [37] (by decide +kernel) (by decide +kernel)
set_option maxRecDepth 20000 in
theorem gX11_likelyNow_X11_lowest : GoodIn wsX11_likelyNow (va_wsS RX11 135 yX11_lowest wsX11_lowest) := goodIn_app (goodIn_of _ (by decide +kernel)) ggX11_likelyNow_X11_lowest
theorem dX11_likelyNow_0 : decode cX11_likelyNow 0 = .ok (.aload_n 0, 1) := by decide +kernel
theorem dX11_likelyNow_1 : decode cX11_likelyNow 1 = .ok (.iload_n 1, 1) := by decide +kernel
theorem dX11_likelyNow_2 : decode cX11_likelyNow 2 = .ok (.iconst 0, 1) := by decide +kernel
theorem dX11_likelyNow_3 : decode cX11_likelyNow 3 = .ok (.invokevirtual 132, 3) := by decide +kernel
theorem dX11_likelyNow_6 : decode cX11_likelyNow 6 = .ok (.aload_n 0, 1) := by decide +kernel
theorem dX11_likelyNow_7 : decode cX11_likelyNow 7 = .ok (.iconst (-1), 1) := by decide +kernel
theorem dX11_likelyNow_8 : decode cX11_likelyNow 8 = .ok (.iconst 0, 1) := by decide +kernel
theorem dX11_likelyNow_9 : decode cX11_likelyNow 9 = .ok (.invokevirtual 126, 3) := by decide +kernel
theorem dX11_likelyNow_12 : decode cX11_likelyNow 12 = .ok (.iload_n 2, 1) := by decide +kernel
theorem dX11_likelyNow_13 : decode cX11_likelyNow 13 = .ok (.invokestatic 135, 3) := by decide +kernel
theorem dX11_likelyNow_16 : decode cX11_likelyNow 16 = .ok (.lreturn, 1) := by decide +kernel
set_option maxRecDepth 20000 in
theorem ggX11_likely_X11_isEgg : GoodIn wsX11_likely wsX11_isEgg := goodIn_r _ [7, 8, 9, 10, 6, 11, 51, 52, 53, 54, 55, 56, 57, 58, 59, 60, 61, 62, 63, 64, 65, 66, 67, 68, 69, 70, 71, 72, 73, 74, 75, 76, 77, 78, 79, 80, 81, 82] (by decide +kernel) (by decide +kernel)
set_option maxRecDepth 20000 in
theorem gX11_likely_X11_isEgg : GoodIn wsX11_likely (wsV RX11 98 RX11 yX11_isEgg wsX11_isEgg) := goodIn_app (goodIn_of _ (by decide +kernel)) ggX11_likely_X11_isEgg
set_option maxRecDepth 20000 in
theorem ggX11_likely_X11_within : GoodIn wsX11_likely wsX11_within := goodIn_r _ [11] (by decide +kernel) (by decide +kernel)
set_option maxRecDepth 20000 in
theorem gX11_likely_X11_within : GoodIn wsX11_likely (va_wsS RX11 51 yX11_within wsX11_within) := goodIn_app (goodIn_of _ (by decide +kernel)) ggX11_likely_X11_within
set_option maxRecDepth 20000 in
theorem ggX11_likely_X11_likelyNow : GoodIn wsX11_likely wsX11_likelyNow := goodIn_r _ [15, 16, 17, 18, 6, 19, 8, 20, 21, 22, 23, 24, 25, 26, 27, 28, 29, 30, 31, 32, 33, 34, 35, 36, 37, 38, 39, 40, 41, 42, 43, 44, 45, 46, 47, 48, 49, 50, 51, 52, 53, 54, 55, 56, 57, 58, 59, 60, 61, 62, 63, 64, 65, 66, 67, 68, 69, 70, 71, 72, 73, 74, 75, 76, 77, 78, 79, 80, 81, 82] (by decide +kernel) (by decide +kernel)
set_option maxRecDepth 20000 in
theorem gX11_likely_X11_likelyNow : GoodIn wsX11_likely (wsV RX11 141 RX11 yX11_likelyNow wsX11_likelyNow) := goodIn_app (goodIn_of _ (by decide +kernel)) ggX11_likely_X11_likelyNow
theorem dX11_likely_0 : decode cX11_likely 0 = .ok (.aload_n 0, 1) := by decide +kernel
theorem dX11_likely_1 : decode cX11_likely 1 = .ok (.iload_n 1, 1) := by decide +kernel
theorem dX11_likely_2 : decode cX11_likely 2 = .ok (.invokevirtual 98, 3) := by decide +kernel
theorem dX11_likely_5 : decode cX11_likely 5 = .ok (.ifCond .ne 7, 3) := by decide +kernel
theorem dX11_likely_8 : decode cX11_likely 8 = .ok (.ldc2_w 139, 3) := by decide +kernel
theorem dX11_likely_11 : decode cX11_likely 11 = .ok (.lreturn, 1) := by decide +kernel
theorem dX11_likely_12 : decode cX11_likely 12 = .ok (.iload_n 2, 1) := by decide +kernel
theorem dX11_likely_13 : decode cX11_likely 13 = .ok (.iconst 0, 1) := by decide +kernel
theorem dX11_likely_14 : decode cX11_likely 14 = .ok (.iconst 1, 1) := by decide +kernel
theorem dX11_likely_15 : decode cX11_likely 15 = .ok (.invokestatic 51, 3) := by decide +kernel
theorem dX11_likely_18 : decode cX11_likely 18 = .ok (.ifCond .eq 12, 3) := by decide +kernel
theorem dX11_likely_21 : decode cX11_likely 21 = .ok (.aload_n 0, 1) := by decide +kernel
theorem dX11_likely_22 : decode cX11_likely 22 = .ok (.iload_n 1, 1) := by decide +kernel
theorem dX11_likely_23 : decode cX11_likely 23 = .ok (.iload_n 2, 1) := by decide +kernel
theorem dX11_likely_24 : decode cX11_likely 24 = .ok (.invokevirtual 141, 3) := by decide +kernel
theorem dX11_likely_27 : decode cX11_likely 27 = .ok (.goto 6, 3) := by decide +kernel
theorem dX11_likely_30 : decode cX11_likely 30 = .ok (.ldc2_w 144, 3) := by decide +kernel
theorem dX11_likely_33 : decode cX11_likely 33 = .ok (.lreturn, 1) := by decide +kernel
set_option maxRecDepth 20000 in
theorem ggX11_likeliestNow_X11_weight : GoodIn wsX11_likeliestNow wsX11_weight := goodIn_r _ [6, 7, 1, 8, 9, 10, 11, 12, 13, 5, 14, 15, 16, 17, 18, 19, 20, 21, 22, 23, 24, 25, 26, 27, 28, 29, 30, 31, 32, 33, 34, 35, 36, 37, 38, 39, 40, 41, 42, 43, 44, 45, 46, 47, 48, 49, 50, 51, 52, 53, 54, 55, 56, 57, 58] (by decide +kernel) (by decide +kernel)
set_option maxRecDepth 20000 in
theorem gX11_likeliestNow_X11_weight : GoodIn wsX11_likeliestNow (wsV RX11 119 RX11 yX11_weight wsX11_weight) := goodIn_app (goodIn_of _ (by decide +kernel)) ggX11_likeliestNow_X11_weight
theorem dX11_likeliestNow_0 : decode cX11_likeliestNow 0 = .ok (.iconst (-1), 1) := by decide +kernel
theorem dX11_likeliestNow_1 : decode cX11_likeliestNow 1 = .ok (.istore_n 1, 1) := by decide +kernel
theorem dX11_likeliestNow_2 : decode cX11_likeliestNow 2 = .ok (.lconst 0, 1) := by decide +kernel
theorem dX11_likeliestNow_3 : decode cX11_likeliestNow 3 = .ok (.lstore_n 2, 1) := by decide +kernel
theorem dX11_likeliestNow_4 : decode cX11_likeliestNow 4 = .ok (.iconst 0, 1) := by decide +kernel
theorem dX11_likeliestNow_5 : decode cX11_likeliestNow 5 = .ok (.istore 4, 2) := by decide +kernel
theorem dX11_likeliestNow_7 : decode cX11_likeliestNow 7 = .ok (.iload 4, 2) := by decide +kernel
theorem dX11_likeliestNow_9 : decode cX11_likeliestNow 9 = .ok (.iconst 1, 1) := by decide +kernel
theorem dX11_likeliestNow_10 : decode cX11_likeliestNow 10 = .ok (.aload_n 0, 1) := by decide +kernel
theorem dX11_likeliestNow_11 : decode cX11_likeliestNow 11 = .ok (.getfield 71, 3) := by decide +kernel
theorem dX11_likeliestNow_14 : decode cX11_likeliestNow 14 = .ok (.ishl, 1) := by decide +kernel
theorem dX11_likeliestNow_15 : decode cX11_likeliestNow 15 = .ok (.if_icmp .ge 47, 3) := by decide +kernel
theorem dX11_likeliestNow_18 : decode cX11_likeliestNow 18 = .ok (.aload_n 0, 1) := by decide +kernel
theorem dX11_likeliestNow_19 : decode cX11_likeliestNow 19 = .ok (.iload 4, 2) := by decide +kernel
theorem dX11_likeliestNow_21 : decode cX11_likeliestNow 21 = .ok (.iconst (-1), 1) := by decide +kernel
theorem dX11_likeliestNow_22 : decode cX11_likeliestNow 22 = .ok (.iconst 0, 1) := by decide +kernel
theorem dX11_likeliestNow_23 : decode cX11_likeliestNow 23 = .ok (.invokevirtual 119, 3) := by decide +kernel
theorem dX11_likeliestNow_26 : decode cX11_likeliestNow 26 = .ok (.lstore 5, 2) := by decide +kernel
theorem dX11_likeliestNow_28 : decode cX11_likeliestNow 28 = .ok (.lload 5, 2) := by decide +kernel
theorem dX11_likeliestNow_30 : decode cX11_likeliestNow 30 = .ok (.lload_n 2, 1) := by decide +kernel
theorem dX11_likeliestNow_31 : decode cX11_likeliestNow 31 = .ok (.lcmp, 1) := by decide +kernel
theorem dX11_likeliestNow_32 : decode cX11_likeliestNow 32 = .ok (.ifCond .le 8, 3) := by decide +kernel
theorem dX11_likeliestNow_35 : decode cX11_likeliestNow 35 = .ok (.iload 4, 2) := by decide +kernel
theorem dX11_likeliestNow_37 : decode cX11_likeliestNow 37 = .ok (.goto 4, 3) := by decide +kernel
theorem dX11_likeliestNow_40 : decode cX11_likeliestNow 40 = .ok (.iload_n 1, 1) := by decide +kernel
theorem dX11_likeliestNow_41 : decode cX11_likeliestNow 41 = .ok (.istore_n 1, 1) := by decide +kernel
theorem dX11_likeliestNow_42 : decode cX11_likeliestNow 42 = .ok (.lload 5, 2) := by decide +kernel
theorem dX11_likeliestNow_44 : decode cX11_likeliestNow 44 = .ok (.lload_n 2, 1) := by decide +kernel
theorem dX11_likeliestNow_45 : decode cX11_likeliestNow 45 = .ok (.lcmp, 1) := by decide +kernel
theorem dX11_likeliestNow_46 : decode cX11_likeliestNow 46 = .ok (.ifCond .le 8, 3) := by decide +kernel
theorem dX11_likeliestNow_49 : decode cX11_likeliestNow 49 = .ok (.lload 5, 2) := by decide +kernel
theorem dX11_likeliestNow_51 : decode cX11_likeliestNow 51 = .ok (.goto 4, 3) := by decide +kernel
theorem dX11_likeliestNow_54 : decode cX11_likeliestNow 54 = .ok (.lload_n 2, 1) := by decide +kernel
theorem dX11_likeliestNow_55 : decode cX11_likeliestNow 55 = .ok (.lstore_n 2, 1) := by decide +kernel
theorem dX11_likeliestNow_56 : decode cX11_likeliestNow 56 = .ok (.iinc 4 1, 3) := by decide +kernel
theorem dX11_likeliestNow_59 : decode cX11_likeliestNow 59 = .ok (.goto (-52), 3) := by decide +kernel
theorem dX11_likeliestNow_62 : decode cX11_likeliestNow 62 = .ok (.iload_n 1, 1) := by decide +kernel
theorem dX11_likeliestNow_63 : decode cX11_likeliestNow 63 = .ok (.ireturn, 1) := by decide +kernel
set_option maxRecDepth 20000 in
theorem ggX11_likeliest_X11_likeliestNow : GoodIn wsX11_likeliest wsX11_likeliestNow := goodIn_r _ [6, 1, 7, 8, 9, 5, 10, 11, 12, 13, 14, 15, 16, 17, 18, 19, 20, 21, 22, 23, 24, 25, 26, 27, 28, 29, 30, 31, 32, 33, 34, 35, 36, 37, 38, 39, 40, 41, 42, 43, 44, 45, 46, 47, 48, 49, 50, 51, 52, 53, 54, 55, 56, 57, 58, 59, 60, 61, 62] (by decide +kernel) (by decide +kernel)
set_option maxRecDepth 20000 in
theorem gX11_likeliest_X11_likeliestNow : GoodIn wsX11_likeliest (wsV RX11 146 RX11 yX11_likeliestNow wsX11_likeliestNow) := goodIn_app (goodIn_of _ (by decide +kernel)) ggX11_likeliest_X11_likeliestNow
theorem dX11_likeliest_0 : decode cX11_likeliest 0 = .ok (.aload_n 0, 1) := by decide +kernel
theorem dX11_likeliest_1 : decode cX11_likeliest 1 = .ok (.getfield 71, 3) := by decide +kernel
theorem dX11_likeliest_4 : decode cX11_likeliest 4 = .ok (.ifCond .ne 8, 3) := by decide +kernel
theorem dX11_likeliest_7 : decode cX11_likeliest 7 = .ok (.bipush (-103), 2) := by decide +kernel
theorem dX11_likeliest_9 : decode cX11_likeliest 9 = .ok (.goto 7, 3) := by decide +kernel
theorem dX11_likeliest_12 : decode cX11_likeliest 12 = .ok (.aload_n 0, 1) := by decide +kernel
theorem dX11_likeliest_13 : decode cX11_likeliest 13 = .ok (.invokevirtual 146, 3) := by decide +kernel
theorem dX11_likeliest_16 : decode cX11_likeliest 16 = .ok (.ireturn, 1) := by decide +kernel
set_option maxRecDepth 20000 in
theorem ggX11_turningNow_X11_total : GoodIn wsX11_turningNow wsX11_total := goodIn_r _ [6, 7, 8, 9, 10, 5, 11, 12, 13, 14, 15, 16, 17, 18, 19, 20, 21, 22, 23, 24, 25, 26, 27, 28, 29, 30, 31, 36, 37, 38, 39, 40, 41, 42, 43, 44, 45, 46, 47, 48, 49, 50, 51, 52, 53, 54, 55, 56, 57, 58, 59, 60, 61, 62, 63, 64, 65, 66, 67] (by decide +kernel) (by decide +kernel)
set_option maxRecDepth 20000 in
theorem gX11_turningNow_X11_total : GoodIn wsX11_turningNow (wsV RX11 126 RX11 yX11_total wsX11_total) := goodIn_app (goodIn_of _ (by decide +kernel)) ggX11_turningNow_X11_total
set_option maxRecDepth 20000 in
theorem ggX11_turningNow_X11_boiledWeight : GoodIn wsX11_turningNow wsX11_boiledWeight := goodIn_r _ [35, 7, 20, 21, 5, 22, 8, 9, 10, 11, 12, 13, 14, 15, 16, 17, 18, 19, 23, 24, 25, 26, 27, 28, 29, 30, 31, 36, 37, 38, 39, 40, 41, 42, 43, 44, 45, 46, 47, 48, 49, 50, 51, 52, 53, 54, 55, 56, 57, 58, 59, 60, 61, 62, 63, 64, 65, 66, 67] (by decide +kernel) (by decide +kernel)
set_option maxRecDepth 20000 in
theorem gX11_turningNow_X11_boiledWeight : GoodIn wsX11_turningNow (wsV RX11 132 RX11 yX11_boiledWeight wsX11_boiledWeight) := goodIn_app (goodIn_of _ (by decide +kernel)) ggX11_turningNow_X11_boiledWeight
theorem dX11_turningNow_0 : decode cX11_turningNow 0 = .ok (.iconst 0, 1) := by decide +kernel
theorem dX11_turningNow_1 : decode cX11_turningNow 1 = .ok (.istore_n 3, 1) := by decide +kernel
theorem dX11_turningNow_2 : decode cX11_turningNow 2 = .ok (.iload_n 3, 1) := by decide +kernel
theorem dX11_turningNow_3 : decode cX11_turningNow 3 = .ok (.iconst 5, 1) := by decide +kernel
theorem dX11_turningNow_4 : decode cX11_turningNow 4 = .ok (.if_icmp .gt 45, 3) := by decide +kernel
theorem dX11_turningNow_7 : decode cX11_turningNow 7 = .ok (.aload_n 0, 1) := by decide +kernel
theorem dX11_turningNow_8 : decode cX11_turningNow 8 = .ok (.iload_n 1, 1) := by decide +kernel
theorem dX11_turningNow_9 : decode cX11_turningNow 9 = .ok (.iload_n 3, 1) := by decide +kernel
theorem dX11_turningNow_10 : decode cX11_turningNow 10 = .ok (.invokevirtual 126, 3) := by decide +kernel
theorem dX11_turningNow_13 : decode cX11_turningNow 13 = .ok (.lstore 4, 2) := by decide +kernel
theorem dX11_turningNow_15 : decode cX11_turningNow 15 = .ok (.lload 4, 2) := by decide +kernel
theorem dX11_turningNow_17 : decode cX11_turningNow 17 = .ok (.lconst 0, 1) := by decide +kernel
theorem dX11_turningNow_18 : decode cX11_turningNow 18 = .ok (.lcmp, 1) := by decide +kernel
theorem dX11_turningNow_19 : decode cX11_turningNow 19 = .ok (.ifCond .le 24, 3) := by decide +kernel
theorem dX11_turningNow_22 : decode cX11_turningNow 22 = .ok (.ldc2_w 149, 3) := by decide +kernel
theorem dX11_turningNow_25 : decode cX11_turningNow 25 = .ok (.aload_n 0, 1) := by decide +kernel
theorem dX11_turningNow_26 : decode cX11_turningNow 26 = .ok (.iload_n 1, 1) := by decide +kernel
theorem dX11_turningNow_27 : decode cX11_turningNow 27 = .ok (.iload_n 3, 1) := by decide +kernel
theorem dX11_turningNow_28 : decode cX11_turningNow 28 = .ok (.invokevirtual 132, 3) := by decide +kernel
theorem dX11_turningNow_31 : decode cX11_turningNow 31 = .ok (.lmul, 1) := by decide +kernel
theorem dX11_turningNow_32 : decode cX11_turningNow 32 = .ok (.iload_n 2, 1) := by decide +kernel
theorem dX11_turningNow_33 : decode cX11_turningNow 33 = .ok (.i2l, 1) := by decide +kernel
theorem dX11_turningNow_34 : decode cX11_turningNow 34 = .ok (.lload 4, 2) := by decide +kernel
theorem dX11_turningNow_36 : decode cX11_turningNow 36 = .ok (.lmul, 1) := by decide +kernel
theorem dX11_turningNow_37 : decode cX11_turningNow 37 = .ok (.lcmp, 1) := by decide +kernel
theorem dX11_turningNow_38 : decode cX11_turningNow 38 = .ok (.ifCond .lt 5, 3) := by decide +kernel
theorem dX11_turningNow_41 : decode cX11_turningNow 41 = .ok (.iload_n 3, 1) := by decide +kernel
theorem dX11_turningNow_42 : decode cX11_turningNow 42 = .ok (.ireturn, 1) := by decide +kernel
theorem dX11_turningNow_43 : decode cX11_turningNow 43 = .ok (.iinc 3 1, 3) := by decide +kernel
theorem dX11_turningNow_46 : decode cX11_turningNow 46 = .ok (.goto (-44), 3) := by decide +kernel
theorem dX11_turningNow_49 : decode cX11_turningNow 49 = .ok (.iconst (-1), 1) := by decide +kernel
theorem dX11_turningNow_50 : decode cX11_turningNow 50 = .ok (.ireturn, 1) := by decide +kernel
set_option maxRecDepth 20000 in
theorem ggX11_turning_X11_isEgg : GoodIn wsX11_turning wsX11_isEgg := goodIn_r _ [5, 6, 7, 8, 4, 9, 47, 48, 49, 50, 51, 52, 53, 54, 55, 56, 57, 58, 59, 60, 61, 62, 63, 64, 65, 66, 67, 68, 69, 70, 71, 72, 73, 74, 75, 76, 77, 78] (by decide +kernel) (by decide +kernel)
set_option maxRecDepth 20000 in
theorem gX11_turning_X11_isEgg : GoodIn wsX11_turning (wsV RX11 98 RX11 yX11_isEgg wsX11_isEgg) := goodIn_app (goodIn_of _ (by decide +kernel)) ggX11_turning_X11_isEgg
set_option maxRecDepth 20000 in
theorem ggX11_turning_X11_within : GoodIn wsX11_turning wsX11_within := goodIn_r _ [9] (by decide +kernel) (by decide +kernel)
set_option maxRecDepth 20000 in
theorem gX11_turning_X11_within : GoodIn wsX11_turning (va_wsS RX11 51 yX11_within wsX11_within) := goodIn_app (goodIn_of _ (by decide +kernel)) ggX11_turning_X11_within
set_option maxRecDepth 20000 in
theorem ggX11_turning_X11_turningNow : GoodIn wsX11_turning wsX11_turningNow := goodIn_r _ [13, 14, 15, 16, 17, 4, 18, 6, 19, 20, 21, 22, 23, 24, 25, 26, 27, 28, 29, 30, 31, 32, 33, 34, 35, 36, 37, 38, 39, 40, 41, 42, 43, 44, 45, 46, 47, 48, 49, 50, 51, 52, 53, 54, 55, 56, 57, 58, 59, 60, 61, 62, 63, 64, 65, 66, 67, 68, 69, 70, 71, 72, 73, 74, 75, 76, 77, 78] (by decide +kernel) (by decide +kernel)
set_option maxRecDepth 20000 in
theorem gX11_turning_X11_turningNow : GoodIn wsX11_turning (wsV RX11 151 RX11 yX11_turningNow wsX11_turningNow) := goodIn_app (goodIn_of _ (by decide +kernel)) ggX11_turning_X11_turningNow
theorem dX11_turning_0 : decode cX11_turning 0 = .ok (.aload_n 0, 1) := by decide +kernel
theorem dX11_turning_1 : decode cX11_turning 1 = .ok (.iload_n 1, 1) := by decide +kernel
theorem dX11_turning_2 : decode cX11_turning 2 = .ok (.invokevirtual 98, 3) := by decide +kernel
theorem dX11_turning_5 : decode cX11_turning 5 = .ok (.ifCond .ne 6, 3) := by decide +kernel
theorem dX11_turning_8 : decode cX11_turning 8 = .ok (.bipush (-101), 2) := by decide +kernel
theorem dX11_turning_10 : decode cX11_turning 10 = .ok (.ireturn, 1) := by decide +kernel
theorem dX11_turning_11 : decode cX11_turning 11 = .ok (.iload_n 2, 1) := by decide +kernel
theorem dX11_turning_12 : decode cX11_turning 12 = .ok (.iconst 1, 1) := by decide +kernel
theorem dX11_turning_13 : decode cX11_turning 13 = .ok (.bipush 9, 2) := by decide +kernel
theorem dX11_turning_15 : decode cX11_turning 15 = .ok (.invokestatic 51, 3) := by decide +kernel
theorem dX11_turning_18 : decode cX11_turning 18 = .ok (.ifCond .eq 12, 3) := by decide +kernel
theorem dX11_turning_21 : decode cX11_turning 21 = .ok (.aload_n 0, 1) := by decide +kernel
theorem dX11_turning_22 : decode cX11_turning 22 = .ok (.iload_n 1, 1) := by decide +kernel
theorem dX11_turning_23 : decode cX11_turning 23 = .ok (.iload_n 2, 1) := by decide +kernel
theorem dX11_turning_24 : decode cX11_turning 24 = .ok (.invokevirtual 151, 3) := by decide +kernel
theorem dX11_turning_27 : decode cX11_turning 27 = .ok (.goto 5, 3) := by decide +kernel
theorem dX11_turning_30 : decode cX11_turning 30 = .ok (.bipush (-102), 2) := by decide +kernel
theorem dX11_turning_32 : decode cX11_turning 32 = .ok (.ireturn, 1) := by decide +kernel
theorem dX11_three_0 : decode cX11_three 0 = .ok (.iconst 1, 1) := by decide +kernel
theorem dX11_three_1 : decode cX11_three 1 = .ok (.istore_n 1, 1) := by decide +kernel
theorem dX11_three_2 : decode cX11_three 2 = .ok (.iconst 0, 1) := by decide +kernel
theorem dX11_three_3 : decode cX11_three 3 = .ok (.istore_n 2, 1) := by decide +kernel
theorem dX11_three_4 : decode cX11_three 4 = .ok (.iload_n 2, 1) := by decide +kernel
theorem dX11_three_5 : decode cX11_three 5 = .ok (.iload_n 0, 1) := by decide +kernel
theorem dX11_three_6 : decode cX11_three 6 = .ok (.if_icmp .ge 13, 3) := by decide +kernel
theorem dX11_three_9 : decode cX11_three 9 = .ok (.iload_n 1, 1) := by decide +kernel
theorem dX11_three_10 : decode cX11_three 10 = .ok (.iconst 3, 1) := by decide +kernel
theorem dX11_three_11 : decode cX11_three 11 = .ok (.imul, 1) := by decide +kernel
theorem dX11_three_12 : decode cX11_three 12 = .ok (.istore_n 1, 1) := by decide +kernel
theorem dX11_three_13 : decode cX11_three 13 = .ok (.iinc 2 1, 3) := by decide +kernel
theorem dX11_three_16 : decode cX11_three 16 = .ok (.goto (-12), 3) := by decide +kernel
theorem dX11_three_19 : decode cX11_three 19 = .ok (.iload_n 1, 1) := by decide +kernel
theorem dX11_three_20 : decode cX11_three 20 = .ok (.ireturn, 1) := by decide +kernel
set_option maxRecDepth 20000 in
theorem ggX11_figureOf_X11_three : GoodIn wsX11_figureOf wsX11_three := goodIn_r _ [4] (by decide +kernel) (by decide +kernel)
set_option maxRecDepth 20000 in
theorem gX11_figureOf_X11_three : GoodIn wsX11_figureOf (va_wsS RX11 154 yX11_three wsX11_three) := goodIn_app (goodIn_of _ (by decide +kernel)) ggX11_figureOf_X11_three
theorem dX11_figureOf_0 : decode cX11_figureOf 0 = .ok (.iload_n 0, 1) := by decide +kernel
theorem dX11_figureOf_1 : decode cX11_figureOf 1 = .ok (.iload_n 1, 1) := by decide +kernel
theorem dX11_figureOf_2 : decode cX11_figureOf 2 = .ok (.invokestatic 154, 3) := by decide +kernel
theorem dX11_figureOf_5 : decode cX11_figureOf 5 = .ok (.idiv, 1) := by decide +kernel
theorem dX11_figureOf_6 : decode cX11_figureOf 6 = .ok (.iconst 3, 1) := by decide +kernel
theorem dX11_figureOf_7 : decode cX11_figureOf 7 = .ok (.irem, 1) := by decide +kernel
theorem dX11_figureOf_8 : decode cX11_figureOf 8 = .ok (.ireturn, 1) := by decide +kernel
set_option maxRecDepth 20000 in
theorem ggX11_eggsOf_X11_figureOf : GoodIn wsX11_eggsOf wsX11_figureOf := goodIn_r _ [4, 5, 6, 3, 7] (by decide +kernel) (by decide +kernel)
set_option maxRecDepth 20000 in
theorem gX11_eggsOf_X11_figureOf : GoodIn wsX11_eggsOf (va_wsS RX11 157 yX11_figureOf wsX11_figureOf) := goodIn_app (goodIn_of _ (by decide +kernel)) ggX11_eggsOf_X11_figureOf
theorem dX11_eggsOf_0 : decode cX11_eggsOf 0 = .ok (.iconst 0, 1) := by decide +kernel
theorem dX11_eggsOf_1 : decode cX11_eggsOf 1 = .ok (.istore_n 3, 1) := by decide +kernel
theorem dX11_eggsOf_2 : decode cX11_eggsOf 2 = .ok (.iconst 0, 1) := by decide +kernel
theorem dX11_eggsOf_3 : decode cX11_eggsOf 3 = .ok (.istore 4, 2) := by decide +kernel
theorem dX11_eggsOf_5 : decode cX11_eggsOf 5 = .ok (.iload 4, 2) := by decide +kernel
theorem dX11_eggsOf_7 : decode cX11_eggsOf 7 = .ok (.bipush 6, 2) := by decide +kernel
theorem dX11_eggsOf_9 : decode cX11_eggsOf 9 = .ok (.if_icmp .ge 46, 3) := by decide +kernel
theorem dX11_eggsOf_12 : decode cX11_eggsOf 12 = .ok (.iload_n 1, 1) := by decide +kernel
theorem dX11_eggsOf_13 : decode cX11_eggsOf 13 = .ok (.iload 4, 2) := by decide +kernel
theorem dX11_eggsOf_15 : decode cX11_eggsOf 15 = .ok (.invokestatic 157, 3) := by decide +kernel
theorem dX11_eggsOf_18 : decode cX11_eggsOf 18 = .ok (.istore 5, 2) := by decide +kernel
theorem dX11_eggsOf_20 : decode cX11_eggsOf 20 = .ok (.iload_n 3, 1) := by decide +kernel
theorem dX11_eggsOf_21 : decode cX11_eggsOf 21 = .ok (.iload_n 2, 1) := by decide +kernel
theorem dX11_eggsOf_22 : decode cX11_eggsOf 22 = .ok (.ifCond .ne 11, 3) := by decide +kernel
theorem dX11_eggsOf_25 : decode cX11_eggsOf 25 = .ok (.iload 5, 2) := by decide +kernel
theorem dX11_eggsOf_27 : decode cX11_eggsOf 27 = .ok (.ifCond .le 19, 3) := by decide +kernel
theorem dX11_eggsOf_30 : decode cX11_eggsOf 30 = .ok (.goto 9, 3) := by decide +kernel
theorem dX11_eggsOf_33 : decode cX11_eggsOf 33 = .ok (.iload 5, 2) := by decide +kernel
theorem dX11_eggsOf_35 : decode cX11_eggsOf 35 = .ok (.iload_n 2, 1) := by decide +kernel
theorem dX11_eggsOf_36 : decode cX11_eggsOf 36 = .ok (.if_icmp .ne 10, 3) := by decide +kernel
theorem dX11_eggsOf_39 : decode cX11_eggsOf 39 = .ok (.iconst 1, 1) := by decide +kernel
theorem dX11_eggsOf_40 : decode cX11_eggsOf 40 = .ok (.iload 4, 2) := by decide +kernel
theorem dX11_eggsOf_42 : decode cX11_eggsOf 42 = .ok (.ishl, 1) := by decide +kernel
theorem dX11_eggsOf_43 : decode cX11_eggsOf 43 = .ok (.goto 4, 3) := by decide +kernel
theorem dX11_eggsOf_46 : decode cX11_eggsOf 46 = .ok (.iconst 0, 1) := by decide +kernel
theorem dX11_eggsOf_47 : decode cX11_eggsOf 47 = .ok (.ior, 1) := by decide +kernel
theorem dX11_eggsOf_48 : decode cX11_eggsOf 48 = .ok (.istore_n 3, 1) := by decide +kernel
theorem dX11_eggsOf_49 : decode cX11_eggsOf 49 = .ok (.iinc 4 1, 3) := by decide +kernel
theorem dX11_eggsOf_52 : decode cX11_eggsOf 52 = .ok (.goto (-47), 3) := by decide +kernel
theorem dX11_eggsOf_55 : decode cX11_eggsOf 55 = .ok (.iload_n 3, 1) := by decide +kernel
theorem dX11_eggsOf_56 : decode cX11_eggsOf 56 = .ok (.ireturn, 1) := by decide +kernel
set_option maxRecDepth 20000 in
theorem ggX11_layWeights_X11_eggsOf : GoodIn wsX11_layWeights wsX11_eggsOf := goodIn_r _ [9, 10, 11, 8, 12, 13, 14, 15] (by decide +kernel) (by decide +kernel)
set_option maxRecDepth 20000 in
theorem gX11_layWeights_X11_eggsOf : GoodIn wsX11_layWeights (wsV RX11 160 RX11 yX11_eggsOf wsX11_eggsOf) := goodIn_app (goodIn_of _ (by decide +kernel)) ggX11_layWeights_X11_eggsOf
theorem dX11_layWeights_0 : decode cX11_layWeights 0 = .ok (.iconst 0, 1) := by decide +kernel
theorem dX11_layWeights_1 : decode cX11_layWeights 1 = .ok (.istore_n 1, 1) := by decide +kernel
theorem dX11_layWeights_2 : decode cX11_layWeights 2 = .ok (.iload_n 1, 1) := by decide +kernel
theorem dX11_layWeights_3 : decode cX11_layWeights 3 = .ok (.sipush 729, 3) := by decide +kernel
theorem dX11_layWeights_6 : decode cX11_layWeights 6 = .ok (.if_icmp .ge 89, 3) := by decide +kernel
theorem dX11_layWeights_9 : decode cX11_layWeights 9 = .ok (.aload_n 0, 1) := by decide +kernel
theorem dX11_layWeights_10 : decode cX11_layWeights 10 = .ok (.iload_n 1, 1) := by decide +kernel
theorem dX11_layWeights_11 : decode cX11_layWeights 11 = .ok (.iconst 0, 1) := by decide +kernel
theorem dX11_layWeights_12 : decode cX11_layWeights 12 = .ok (.invokevirtual 160, 3) := by decide +kernel
theorem dX11_layWeights_15 : decode cX11_layWeights 15 = .ok (.istore_n 2, 1) := by decide +kernel
theorem dX11_layWeights_16 : decode cX11_layWeights 16 = .ok (.aload_n 0, 1) := by decide +kernel
theorem dX11_layWeights_17 : decode cX11_layWeights 17 = .ok (.iload_n 1, 1) := by decide +kernel
theorem dX11_layWeights_18 : decode cX11_layWeights 18 = .ok (.iconst 2, 1) := by decide +kernel
theorem dX11_layWeights_19 : decode cX11_layWeights 19 = .ok (.invokevirtual 160, 3) := by decide +kernel
theorem dX11_layWeights_22 : decode cX11_layWeights 22 = .ok (.istore_n 3, 1) := by decide +kernel
theorem dX11_layWeights_23 : decode cX11_layWeights 23 = .ok (.lconst 0, 1) := by decide +kernel
theorem dX11_layWeights_24 : decode cX11_layWeights 24 = .ok (.lstore 4, 2) := by decide +kernel
theorem dX11_layWeights_26 : decode cX11_layWeights 26 = .ok (.iconst 0, 1) := by decide +kernel
theorem dX11_layWeights_27 : decode cX11_layWeights 27 = .ok (.istore 6, 2) := by decide +kernel
theorem dX11_layWeights_29 : decode cX11_layWeights 29 = .ok (.iload 6, 2) := by decide +kernel
theorem dX11_layWeights_31 : decode cX11_layWeights 31 = .ok (.iconst 1, 1) := by decide +kernel
theorem dX11_layWeights_32 : decode cX11_layWeights 32 = .ok (.aload_n 0, 1) := by decide +kernel
theorem dX11_layWeights_33 : decode cX11_layWeights 33 = .ok (.getfield 71, 3) := by decide +kernel
theorem dX11_layWeights_36 : decode cX11_layWeights 36 = .ok (.ishl, 1) := by decide +kernel
theorem dX11_layWeights_37 : decode cX11_layWeights 37 = .ok (.if_icmp .ge 44, 3) := by decide +kernel
theorem dX11_layWeights_40 : decode cX11_layWeights 40 = .ok (.iload_n 2, 1) := by decide +kernel
theorem dX11_layWeights_41 : decode cX11_layWeights 41 = .ok (.aload_n 0, 1) := by decide +kernel
theorem dX11_layWeights_42 : decode cX11_layWeights 42 = .ok (.getfield 86, 3) := by decide +kernel
theorem dX11_layWeights_45 : decode cX11_layWeights 45 = .ok (.iconst (-1), 1) := by decide +kernel
theorem dX11_layWeights_46 : decode cX11_layWeights 46 = .ok (.ixor, 1) := by decide +kernel
theorem dX11_layWeights_47 : decode cX11_layWeights 47 = .ok (.iand, 1) := by decide +kernel
theorem dX11_layWeights_48 : decode cX11_layWeights 48 = .ok (.ifCond .ne 33, 3) := by decide +kernel
theorem dX11_layWeights_51 : decode cX11_layWeights 51 = .ok (.lload 4, 2) := by decide +kernel
theorem dX11_layWeights_53 : decode cX11_layWeights 53 = .ok (.iload 6, 2) := by decide +kernel
theorem dX11_layWeights_55 : decode cX11_layWeights 55 = .ok (.iload_n 2, 1) := by decide +kernel
theorem dX11_layWeights_56 : decode cX11_layWeights 56 = .ok (.iand, 1) := by decide +kernel
theorem dX11_layWeights_57 : decode cX11_layWeights 57 = .ok (.iload_n 3, 1) := by decide +kernel
theorem dX11_layWeights_58 : decode cX11_layWeights 58 = .ok (.if_icmp .ne 13, 3) := by decide +kernel
theorem dX11_layWeights_61 : decode cX11_layWeights 61 = .ok (.aload_n 0, 1) := by decide +kernel
theorem dX11_layWeights_62 : decode cX11_layWeights 62 = .ok (.getfield 39, 3) := by decide +kernel
theorem dX11_layWeights_65 : decode cX11_layWeights 65 = .ok (.iload 6, 2) := by decide +kernel
theorem dX11_layWeights_67 : decode cX11_layWeights 67 = .ok (.laload, 1) := by decide +kernel
theorem dX11_layWeights_68 : decode cX11_layWeights 68 = .ok (.goto 4, 3) := by decide +kernel
theorem dX11_layWeights_71 : decode cX11_layWeights 71 = .ok (.lconst 0, 1) := by decide +kernel
theorem dX11_layWeights_72 : decode cX11_layWeights 72 = .ok (.ladd, 1) := by decide +kernel
theorem dX11_layWeights_73 : decode cX11_layWeights 73 = .ok (.lstore 4, 2) := by decide +kernel
theorem dX11_layWeights_75 : decode cX11_layWeights 75 = .ok (.iinc 6 1, 3) := by decide +kernel
theorem dX11_layWeights_78 : decode cX11_layWeights 78 = .ok (.goto (-49), 3) := by decide +kernel
theorem dX11_layWeights_81 : decode cX11_layWeights 81 = .ok (.aload_n 0, 1) := by decide +kernel
theorem dX11_layWeights_82 : decode cX11_layWeights 82 = .ok (.getfield 29, 3) := by decide +kernel
theorem dX11_layWeights_85 : decode cX11_layWeights 85 = .ok (.iload_n 1, 1) := by decide +kernel
theorem dX11_layWeights_86 : decode cX11_layWeights 86 = .ok (.lload 4, 2) := by decide +kernel
theorem dX11_layWeights_88 : decode cX11_layWeights 88 = .ok (.lastore, 1) := by decide +kernel
theorem dX11_layWeights_89 : decode cX11_layWeights 89 = .ok (.iinc 1 1, 3) := by decide +kernel
theorem dX11_layWeights_92 : decode cX11_layWeights 92 = .ok (.goto (-90), 3) := by decide +kernel
theorem dX11_layWeights_95 : decode cX11_layWeights 95 = .ok (.return_, 1) := by decide +kernel
set_option maxRecDepth 20000 in
theorem ggX11_layState_X11_eggsOf : GoodIn wsX11_layState wsX11_eggsOf := goodIn_r _ [11, 12, 13, 10, 14, 15, 16, 17] (by decide +kernel) (by decide +kernel)
set_option maxRecDepth 20000 in
theorem gX11_layState_X11_eggsOf : GoodIn wsX11_layState (wsV RX11 160 RX11 yX11_eggsOf wsX11_eggsOf) := goodIn_app (goodIn_of _ (by decide +kernel)) ggX11_layState_X11_eggsOf
set_option maxRecDepth 20000 in
theorem ggX11_layState_X11_size : GoodIn wsX11_layState wsX11_size := goodIn_r _ [20] (by decide +kernel) (by decide +kernel)
set_option maxRecDepth 20000 in
theorem gX11_layState_X11_size : GoodIn wsX11_layState (va_wsS RX11 109 yX11_size wsX11_size) := goodIn_app (goodIn_of _ (by decide +kernel)) ggX11_layState_X11_size
set_option maxRecDepth 20000 in
theorem ggX11_layState_X11_isInBox : GoodIn wsX11_layState wsX11_isInBox := goodIn_r _ [24, 25, 26, 27, 10, 28, 33, 34, 35, 36, 37, 38, 39, 40, 41, 42, 43, 44, 45, 46, 47, 48, 49, 50, 51, 52, 53, 54, 55, 56, 57, 58, 59, 60, 61, 62, 63, 64] (by decide +kernel) (by decide +kernel)
set_option maxRecDepth 20000 in
theorem gX11_layState_X11_isInBox : GoodIn wsX11_layState (wsV RX11 123 RX11 yX11_isInBox wsX11_isInBox) := goodIn_app (goodIn_of _ (by decide +kernel)) ggX11_layState_X11_isInBox
set_option maxRecDepth 20000 in
theorem ggX11_layState_X11_figureOf : GoodIn wsX11_layState wsX11_figureOf := goodIn_r _ [14, 15, 16, 10, 17] (by decide +kernel) (by decide +kernel)
set_option maxRecDepth 20000 in
theorem gX11_layState_X11_figureOf : GoodIn wsX11_layState (va_wsS RX11 157 yX11_figureOf wsX11_figureOf) := goodIn_app (goodIn_of _ (by decide +kernel)) ggX11_layState_X11_figureOf
set_option maxRecDepth 20000 in
theorem ggX11_layState_X11_three : GoodIn wsX11_layState wsX11_three := goodIn_r _ [17] (by decide +kernel) (by decide +kernel)
set_option maxRecDepth 20000 in
theorem gX11_layState_X11_three : GoodIn wsX11_layState (va_wsS RX11 154 yX11_three wsX11_three) := goodIn_app (goodIn_of _ (by decide +kernel)) ggX11_layState_X11_three
set_option maxRecDepth 20000 in
theorem ggX11_layState_X11_larger : GoodIn wsX11_layState wsX11_larger := goodIn_r _ [32, 4, 1, 33, 34, 35, 36, 37, 38, 39, 40, 41, 42, 43, 44, 45, 46, 47, 48, 49, 50, 51, 52, 53, 54, 55, 56, 57, 58, 59, 60, 61, 62, 63, 64] (by decide +kernel) (by decide +kernel)
set_option maxRecDepth 20000 in
theorem gX11_layState_X11_larger : GoodIn wsX11_layState (wsV RX11 168 RX11 yX11_larger wsX11_larger) := goodIn_app (goodIn_of _ (by decide +kernel)) ggX11_layState_X11_larger
theorem dX11_layState_0 : decode cX11_layState 0 = .ok (.aload_n 0, 1) := by decide +kernel
theorem dX11_layState_1 : decode cX11_layState 1 = .ok (.getfield 33, 3) := by decide +kernel
theorem dX11_layState_4 : decode cX11_layState 4 = .ok (.iload_n 1, 1) := by decide +kernel
theorem dX11_layState_5 : decode cX11_layState 5 = .ok (.iconst 0, 1) := by decide +kernel
theorem dX11_layState_6 : decode cX11_layState 6 = .ok (.iastore, 1) := by decide +kernel
theorem dX11_layState_7 : decode cX11_layState 7 = .ok (.aload_n 0, 1) := by decide +kernel
theorem dX11_layState_8 : decode cX11_layState 8 = .ok (.getfield 36, 3) := by decide +kernel
theorem dX11_layState_11 : decode cX11_layState 11 = .ok (.iload_n 1, 1) := by decide +kernel
theorem dX11_layState_12 : decode cX11_layState 12 = .ok (.lconst 0, 1) := by decide +kernel
theorem dX11_layState_13 : decode cX11_layState 13 = .ok (.lastore, 1) := by decide +kernel
theorem dX11_layState_14 : decode cX11_layState 14 = .ok (.aload_n 0, 1) := by decide +kernel
theorem dX11_layState_15 : decode cX11_layState 15 = .ok (.iconst (-1), 1) := by decide +kernel
theorem dX11_layState_16 : decode cX11_layState 16 = .ok (.putfield 163, 3) := by decide +kernel
theorem dX11_layState_19 : decode cX11_layState 19 = .ok (.aload_n 0, 1) := by decide +kernel
theorem dX11_layState_20 : decode cX11_layState 20 = .ok (.getfield 29, 3) := by decide +kernel
theorem dX11_layState_23 : decode cX11_layState 23 = .ok (.iload_n 1, 1) := by decide +kernel
theorem dX11_layState_24 : decode cX11_layState 24 = .ok (.laload, 1) := by decide +kernel
theorem dX11_layState_25 : decode cX11_layState 25 = .ok (.lconst 0, 1) := by decide +kernel
theorem dX11_layState_26 : decode cX11_layState 26 = .ok (.lcmp, 1) := by decide +kernel
theorem dX11_layState_27 : decode cX11_layState 27 = .ok (.ifCond .eq 16, 3) := by decide +kernel
theorem dX11_layState_30 : decode cX11_layState 30 = .ok (.aload_n 0, 1) := by decide +kernel
theorem dX11_layState_31 : decode cX11_layState 31 = .ok (.iload_n 1, 1) := by decide +kernel
theorem dX11_layState_32 : decode cX11_layState 32 = .ok (.iconst 1, 1) := by decide +kernel
theorem dX11_layState_33 : decode cX11_layState 33 = .ok (.invokevirtual 160, 3) := by decide +kernel
theorem dX11_layState_36 : decode cX11_layState 36 = .ok (.invokestatic 109, 3) := by decide +kernel
theorem dX11_layState_39 : decode cX11_layState 39 = .ok (.iload_n 2, 1) := by decide +kernel
theorem dX11_layState_40 : decode cX11_layState 40 = .ok (.if_icmp .lt 4, 3) := by decide +kernel
theorem dX11_layState_43 : decode cX11_layState 43 = .ok (.return_, 1) := by decide +kernel
theorem dX11_layState_44 : decode cX11_layState 44 = .ok (.bipush 7, 2) := by decide +kernel
theorem dX11_layState_46 : decode cX11_layState 46 = .ok (.istore_n 3, 1) := by decide +kernel
theorem dX11_layState_47 : decode cX11_layState 47 = .ok (.ldc2_w 166, 3) := by decide +kernel
theorem dX11_layState_50 : decode cX11_layState 50 = .ok (.lstore 4, 2) := by decide +kernel
theorem dX11_layState_52 : decode cX11_layState 52 = .ok (.iconst 0, 1) := by decide +kernel
theorem dX11_layState_53 : decode cX11_layState 53 = .ok (.istore 6, 2) := by decide +kernel
theorem dX11_layState_55 : decode cX11_layState 55 = .ok (.iload 6, 2) := by decide +kernel
theorem dX11_layState_57 : decode cX11_layState 57 = .ok (.aload_n 0, 1) := by decide +kernel
theorem dX11_layState_58 : decode cX11_layState 58 = .ok (.getfield 71, 3) := by decide +kernel
theorem dX11_layState_61 : decode cX11_layState 61 = .ok (.if_icmp .ge 148, 3) := by decide +kernel
theorem dX11_layState_64 : decode cX11_layState 64 = .ok (.aload_n 0, 1) := by decide +kernel
theorem dX11_layState_65 : decode cX11_layState 65 = .ok (.iload 6, 2) := by decide +kernel
theorem dX11_layState_67 : decode cX11_layState 67 = .ok (.invokevirtual 123, 3) := by decide +kernel
theorem dX11_layState_70 : decode cX11_layState 70 = .ok (.ifCond .eq 133, 3) := by decide +kernel
theorem dX11_layState_73 : decode cX11_layState 73 = .ok (.iload_n 1, 1) := by decide +kernel
theorem dX11_layState_74 : decode cX11_layState 74 = .ok (.iload 6, 2) := by decide +kernel
theorem dX11_layState_76 : decode cX11_layState 76 = .ok (.invokestatic 157, 3) := by decide +kernel
theorem dX11_layState_79 : decode cX11_layState 79 = .ok (.ifCond .ne 124, 3) := by decide +kernel
theorem dX11_layState_82 : decode cX11_layState 82 = .ok (.iload_n 1, 1) := by decide +kernel
theorem dX11_layState_83 : decode cX11_layState 83 = .ok (.iload 6, 2) := by decide +kernel
theorem dX11_layState_85 : decode cX11_layState 85 = .ok (.invokestatic 154, 3) := by decide +kernel
theorem dX11_layState_88 : decode cX11_layState 88 = .ok (.iadd, 1) := by decide +kernel
theorem dX11_layState_89 : decode cX11_layState 89 = .ok (.istore 7, 2) := by decide +kernel
theorem dX11_layState_91 : decode cX11_layState 91 = .ok (.iload_n 1, 1) := by decide +kernel
theorem dX11_layState_92 : decode cX11_layState 92 = .ok (.iconst 2, 1) := by decide +kernel
theorem dX11_layState_93 : decode cX11_layState 93 = .ok (.iload 6, 2) := by decide +kernel
theorem dX11_layState_95 : decode cX11_layState 95 = .ok (.invokestatic 154, 3) := by decide +kernel
theorem dX11_layState_98 : decode cX11_layState 98 = .ok (.imul, 1) := by decide +kernel
theorem dX11_layState_99 : decode cX11_layState 99 = .ok (.iadd, 1) := by decide +kernel
theorem dX11_layState_100 : decode cX11_layState 100 = .ok (.istore 8, 2) := by decide +kernel
theorem dX11_layState_102 : decode cX11_layState 102 = .ok (.iconst 1, 1) := by decide +kernel
theorem dX11_layState_103 : decode cX11_layState 103 = .ok (.aload_n 0, 1) := by decide +kernel
theorem dX11_layState_104 : decode cX11_layState 104 = .ok (.iload 7, 2) := by decide +kernel
theorem dX11_layState_106 : decode cX11_layState 106 = .ok (.iload 8, 2) := by decide +kernel
theorem dX11_layState_108 : decode cX11_layState 108 = .ok (.invokevirtual 168, 3) := by decide +kernel
theorem dX11_layState_111 : decode cX11_layState 111 = .ok (.iadd, 1) := by decide +kernel
theorem dX11_layState_112 : decode cX11_layState 112 = .ok (.istore 9, 2) := by decide +kernel
theorem dX11_layState_114 : decode cX11_layState 114 = .ok (.aload_n 0, 1) := by decide +kernel
theorem dX11_layState_115 : decode cX11_layState 115 = .ok (.getfield 29, 3) := by decide +kernel
theorem dX11_layState_118 : decode cX11_layState 118 = .ok (.iload_n 1, 1) := by decide +kernel
theorem dX11_layState_119 : decode cX11_layState 119 = .ok (.laload, 1) := by decide +kernel
theorem dX11_layState_120 : decode cX11_layState 120 = .ok (.aload_n 0, 1) := by decide +kernel
theorem dX11_layState_121 : decode cX11_layState 121 = .ok (.getfield 36, 3) := by decide +kernel
theorem dX11_layState_124 : decode cX11_layState 124 = .ok (.iload 7, 2) := by decide +kernel
theorem dX11_layState_126 : decode cX11_layState 126 = .ok (.laload, 1) := by decide +kernel
theorem dX11_layState_127 : decode cX11_layState 127 = .ok (.ladd, 1) := by decide +kernel
theorem dX11_layState_128 : decode cX11_layState 128 = .ok (.aload_n 0, 1) := by decide +kernel
theorem dX11_layState_129 : decode cX11_layState 129 = .ok (.getfield 36, 3) := by decide +kernel
theorem dX11_layState_132 : decode cX11_layState 132 = .ok (.iload 8, 2) := by decide +kernel
theorem dX11_layState_134 : decode cX11_layState 134 = .ok (.laload, 1) := by decide +kernel
theorem dX11_layState_135 : decode cX11_layState 135 = .ok (.ladd, 1) := by decide +kernel
theorem dX11_layState_136 : decode cX11_layState 136 = .ok (.lstore 10, 2) := by decide +kernel
theorem dX11_layState_138 : decode cX11_layState 138 = .ok (.iload 9, 2) := by decide +kernel
theorem dX11_layState_140 : decode cX11_layState 140 = .ok (.iload_n 3, 1) := by decide +kernel
theorem dX11_layState_141 : decode cX11_layState 141 = .ok (.if_icmp .ge 8, 3) := by decide +kernel
theorem dX11_layState_144 : decode cX11_layState 144 = .ok (.iload 9, 2) := by decide +kernel
theorem dX11_layState_146 : decode cX11_layState 146 = .ok (.goto 4, 3) := by decide +kernel
theorem dX11_layState_149 : decode cX11_layState 149 = .ok (.iload_n 3, 1) := by decide +kernel
theorem dX11_layState_150 : decode cX11_layState 150 = .ok (.istore_n 3, 1) := by decide +kernel
theorem dX11_layState_151 : decode cX11_layState 151 = .ok (.aload_n 0, 1) := by decide +kernel
theorem dX11_layState_152 : decode cX11_layState 152 = .ok (.lload 4, 2) := by decide +kernel
theorem dX11_layState_154 : decode cX11_layState 154 = .ok (.lconst 0, 1) := by decide +kernel
theorem dX11_layState_155 : decode cX11_layState 155 = .ok (.lcmp, 1) := by decide +kernel
theorem dX11_layState_156 : decode cX11_layState 156 = .ok (.ifCond .lt 11, 3) := by decide +kernel
theorem dX11_layState_159 : decode cX11_layState 159 = .ok (.lload 10, 2) := by decide +kernel
theorem dX11_layState_161 : decode cX11_layState 161 = .ok (.lload 4, 2) := by decide +kernel
theorem dX11_layState_163 : decode cX11_layState 163 = .ok (.lcmp, 1) := by decide +kernel
theorem dX11_layState_164 : decode cX11_layState 164 = .ok (.ifCond .ge 8, 3) := by decide +kernel
theorem dX11_layState_167 : decode cX11_layState 167 = .ok (.iload 6, 2) := by decide +kernel
theorem dX11_layState_169 : decode cX11_layState 169 = .ok (.goto 7, 3) := by decide +kernel
theorem dX11_layState_172 : decode cX11_layState 172 = .ok (.aload_n 0, 1) := by decide +kernel
theorem dX11_layState_173 : decode cX11_layState 173 = .ok (.getfield 163, 3) := by decide +kernel
theorem dX11_layState_176 : decode cX11_layState 176 = .ok (.putfield 163, 3) := by decide +kernel
theorem dX11_layState_179 : decode cX11_layState 179 = .ok (.lload 4, 2) := by decide +kernel
theorem dX11_layState_181 : decode cX11_layState 181 = .ok (.lconst 0, 1) := by decide +kernel
theorem dX11_layState_182 : decode cX11_layState 182 = .ok (.lcmp, 1) := by decide +kernel
theorem dX11_layState_183 : decode cX11_layState 183 = .ok (.ifCond .lt 11, 3) := by decide +kernel
theorem dX11_layState_186 : decode cX11_layState 186 = .ok (.lload 10, 2) := by decide +kernel
theorem dX11_layState_188 : decode cX11_layState 188 = .ok (.lload 4, 2) := by decide +kernel
theorem dX11_layState_190 : decode cX11_layState 190 = .ok (.lcmp, 1) := by decide +kernel
theorem dX11_layState_191 : decode cX11_layState 191 = .ok (.ifCond .ge 8, 3) := by decide +kernel
theorem dX11_layState_194 : decode cX11_layState 194 = .ok (.lload 10, 2) := by decide +kernel
theorem dX11_layState_196 : decode cX11_layState 196 = .ok (.goto 5, 3) := by decide +kernel
theorem dX11_layState_199 : decode cX11_layState 199 = .ok (.lload 4, 2) := by decide +kernel
theorem dX11_layState_201 : decode cX11_layState 201 = .ok (.lstore 4, 2) := by decide +kernel
theorem dX11_layState_203 : decode cX11_layState 203 = .ok (.iinc 6 1, 3) := by decide +kernel
theorem dX11_layState_206 : decode cX11_layState 206 = .ok (.goto (-151), 3) := by decide +kernel
theorem dX11_layState_209 : decode cX11_layState 209 = .ok (.aload_n 0, 1) := by decide +kernel
theorem dX11_layState_210 : decode cX11_layState 210 = .ok (.getfield 33, 3) := by decide +kernel
theorem dX11_layState_213 : decode cX11_layState 213 = .ok (.iload_n 1, 1) := by decide +kernel
theorem dX11_layState_214 : decode cX11_layState 214 = .ok (.iload_n 3, 1) := by decide +kernel
theorem dX11_layState_215 : decode cX11_layState 215 = .ok (.iastore, 1) := by decide +kernel
theorem dX11_layState_216 : decode cX11_layState 216 = .ok (.aload_n 0, 1) := by decide +kernel
theorem dX11_layState_217 : decode cX11_layState 217 = .ok (.getfield 36, 3) := by decide +kernel
theorem dX11_layState_220 : decode cX11_layState 220 = .ok (.iload_n 1, 1) := by decide +kernel
theorem dX11_layState_221 : decode cX11_layState 221 = .ok (.lload 4, 2) := by decide +kernel
theorem dX11_layState_223 : decode cX11_layState 223 = .ok (.lconst 0, 1) := by decide +kernel
theorem dX11_layState_224 : decode cX11_layState 224 = .ok (.lcmp, 1) := by decide +kernel
theorem dX11_layState_225 : decode cX11_layState 225 = .ok (.ifCond .ge 7, 3) := by decide +kernel
theorem dX11_layState_228 : decode cX11_layState 228 = .ok (.lconst 0, 1) := by decide +kernel
theorem dX11_layState_229 : decode cX11_layState 229 = .ok (.goto 5, 3) := by decide +kernel
theorem dX11_layState_232 : decode cX11_layState 232 = .ok (.lload 4, 2) := by decide +kernel
theorem dX11_layState_234 : decode cX11_layState 234 = .ok (.lastore, 1) := by decide +kernel
theorem dX11_layState_235 : decode cX11_layState 235 = .ok (.return_, 1) := by decide +kernel
theorem dX11_larger_0 : decode cX11_larger 0 = .ok (.aload_n 0, 1) := by decide +kernel
theorem dX11_larger_1 : decode cX11_larger 1 = .ok (.getfield 29, 3) := by decide +kernel
theorem dX11_larger_4 : decode cX11_larger 4 = .ok (.iload_n 1, 1) := by decide +kernel
theorem dX11_larger_5 : decode cX11_larger 5 = .ok (.laload, 1) := by decide +kernel
theorem dX11_larger_6 : decode cX11_larger 6 = .ok (.lconst 0, 1) := by decide +kernel
theorem dX11_larger_7 : decode cX11_larger 7 = .ok (.lcmp, 1) := by decide +kernel
theorem dX11_larger_8 : decode cX11_larger 8 = .ok (.ifCond .le 12, 3) := by decide +kernel
theorem dX11_larger_11 : decode cX11_larger 11 = .ok (.aload_n 0, 1) := by decide +kernel
theorem dX11_larger_12 : decode cX11_larger 12 = .ok (.getfield 33, 3) := by decide +kernel
theorem dX11_larger_15 : decode cX11_larger 15 = .ok (.iload_n 1, 1) := by decide +kernel
theorem dX11_larger_16 : decode cX11_larger 16 = .ok (.iaload, 1) := by decide +kernel
theorem dX11_larger_17 : decode cX11_larger 17 = .ok (.goto 4, 3) := by decide +kernel
theorem dX11_larger_20 : decode cX11_larger 20 = .ok (.iconst 0, 1) := by decide +kernel
theorem dX11_larger_21 : decode cX11_larger 21 = .ok (.istore_n 3, 1) := by decide +kernel
theorem dX11_larger_22 : decode cX11_larger 22 = .ok (.aload_n 0, 1) := by decide +kernel
theorem dX11_larger_23 : decode cX11_larger 23 = .ok (.getfield 29, 3) := by decide +kernel
theorem dX11_larger_26 : decode cX11_larger 26 = .ok (.iload_n 2, 1) := by decide +kernel
theorem dX11_larger_27 : decode cX11_larger 27 = .ok (.laload, 1) := by decide +kernel
theorem dX11_larger_28 : decode cX11_larger 28 = .ok (.lconst 0, 1) := by decide +kernel
theorem dX11_larger_29 : decode cX11_larger 29 = .ok (.lcmp, 1) := by decide +kernel
theorem dX11_larger_30 : decode cX11_larger 30 = .ok (.ifCond .le 12, 3) := by decide +kernel
theorem dX11_larger_33 : decode cX11_larger 33 = .ok (.aload_n 0, 1) := by decide +kernel
theorem dX11_larger_34 : decode cX11_larger 34 = .ok (.getfield 33, 3) := by decide +kernel
theorem dX11_larger_37 : decode cX11_larger 37 = .ok (.iload_n 2, 1) := by decide +kernel
theorem dX11_larger_38 : decode cX11_larger 38 = .ok (.iaload, 1) := by decide +kernel
theorem dX11_larger_39 : decode cX11_larger 39 = .ok (.goto 4, 3) := by decide +kernel
theorem dX11_larger_42 : decode cX11_larger 42 = .ok (.iconst 0, 1) := by decide +kernel
theorem dX11_larger_43 : decode cX11_larger 43 = .ok (.istore 4, 2) := by decide +kernel
theorem dX11_larger_45 : decode cX11_larger 45 = .ok (.iload_n 3, 1) := by decide +kernel
theorem dX11_larger_46 : decode cX11_larger 46 = .ok (.iload 4, 2) := by decide +kernel
theorem dX11_larger_48 : decode cX11_larger 48 = .ok (.if_icmp .le 7, 3) := by decide +kernel
theorem dX11_larger_51 : decode cX11_larger 51 = .ok (.iload_n 3, 1) := by decide +kernel
theorem dX11_larger_52 : decode cX11_larger 52 = .ok (.goto 5, 3) := by decide +kernel
theorem dX11_larger_55 : decode cX11_larger 55 = .ok (.iload 4, 2) := by decide +kernel
theorem dX11_larger_57 : decode cX11_larger 57 = .ok (.ireturn, 1) := by decide +kernel
set_option maxRecDepth 20000 in
theorem ggX11_layBreaking_X11_weight : GoodIn wsX11_layBreaking wsX11_weight := goodIn_r _ [8, 9, 2, 10, 11, 12, 13, 14, 15, 7, 16, 17, 18, 19, 20, 21, 22, 23, 24, 25, 26, 27, 28, 60, 61, 62, 63, 64, 65, 66, 67, 68, 69, 70, 71, 72, 73, 74, 75, 76, 77, 78, 79, 80, 81, 82, 83, 84, 85, 86, 87, 88, 89, 90, 91] (by decide +kernel) (by decide +kernel)
set_option maxRecDepth 20000 in
theorem gX11_layBreaking_X11_weight : GoodIn wsX11_layBreaking (wsV RX11 119 RX11 yX11_weight wsX11_weight) := goodIn_app (goodIn_of _ (by decide +kernel)) ggX11_layBreaking_X11_weight
set_option maxRecDepth 20000 in
theorem ggX11_layBreaking_X11_size : GoodIn wsX11_layBreaking wsX11_size := goodIn_r _ [16] (by decide +kernel) (by decide +kernel)
set_option maxRecDepth 20000 in
theorem gX11_layBreaking_X11_size : GoodIn wsX11_layBreaking (va_wsS RX11 109 yX11_size wsX11_size) := goodIn_app (goodIn_of _ (by decide +kernel)) ggX11_layBreaking_X11_size
set_option maxRecDepth 20000 in
theorem ggX11_layBreaking_X11_layWeights : GoodIn wsX11_layBreaking wsX11_layWeights := goodIn_r _ [32, 2, 3, 1, 33, 34, 35, 36, 7, 37, 38, 39, 40, 41, 42, 43, 60, 61, 62, 63, 64, 65, 66, 67, 68, 69, 70, 71, 72, 73, 74, 75, 76, 77, 78, 79, 80, 81, 82, 83, 84, 85, 86, 87, 88, 89, 90, 91] (by decide +kernel) (by decide +kernel)
set_option maxRecDepth 20000 in
theorem gX11_layBreaking_X11_layWeights : GoodIn wsX11_layBreaking (wsV RX11 171 RX11 yX11_layWeights wsX11_layWeights) := goodIn_app (goodIn_of _ (by decide +kernel)) ggX11_layBreaking_X11_layWeights
set_option maxRecDepth 20000 in
theorem ggX11_layBreaking_X11_layState : GoodIn wsX11_layBreaking wsX11_layState := goodIn_r _ [47, 48, 49, 50, 33, 51, 2, 34, 35, 36, 7, 37, 38, 39, 40, 41, 42, 43, 14, 15, 16, 52, 53, 54, 55, 3, 17, 18, 19, 56, 57, 58, 59, 60, 61, 62, 63, 64, 65, 66, 67, 68, 69, 70, 71, 72, 73, 74, 75, 76, 77, 78, 79, 80, 81, 82, 83, 84, 85, 86, 87, 88, 89, 90, 91] (by decide +kernel) (by decide +kernel)
set_option maxRecDepth 20000 in
theorem gX11_layBreaking_X11_layState : GoodIn wsX11_layBreaking (wsV RX11 174 RX11 yX11_layState wsX11_layState) := goodIn_app (goodIn_of _ (by decide +kernel)) ggX11_layBreaking_X11_layState
theorem dX11_layBreaking_0 : decode cX11_layBreaking 0 = .ok (.iconst 1, 1) := by decide +kernel
theorem dX11_layBreaking_1 : decode cX11_layBreaking 1 = .ok (.istore_n 2, 1) := by decide +kernel
theorem dX11_layBreaking_2 : decode cX11_layBreaking 2 = .ok (.iconst 0, 1) := by decide +kernel
theorem dX11_layBreaking_3 : decode cX11_layBreaking 3 = .ok (.istore_n 3, 1) := by decide +kernel
theorem dX11_layBreaking_4 : decode cX11_layBreaking 4 = .ok (.iload_n 3, 1) := by decide +kernel
theorem dX11_layBreaking_5 : decode cX11_layBreaking 5 = .ok (.bipush 64, 2) := by decide +kernel
theorem dX11_layBreaking_7 : decode cX11_layBreaking 7 = .ok (.if_icmp .ge 72, 3) := by decide +kernel
theorem dX11_layBreaking_10 : decode cX11_layBreaking 10 = .ok (.aload_n 0, 1) := by decide +kernel
theorem dX11_layBreaking_11 : decode cX11_layBreaking 11 = .ok (.getfield 39, 3) := by decide +kernel
theorem dX11_layBreaking_14 : decode cX11_layBreaking 14 = .ok (.iload_n 3, 1) := by decide +kernel
theorem dX11_layBreaking_15 : decode cX11_layBreaking 15 = .ok (.iload_n 3, 1) := by decide +kernel
theorem dX11_layBreaking_16 : decode cX11_layBreaking 16 = .ok (.iconst 1, 1) := by decide +kernel
theorem dX11_layBreaking_17 : decode cX11_layBreaking 17 = .ok (.aload_n 0, 1) := by decide +kernel
theorem dX11_layBreaking_18 : decode cX11_layBreaking 18 = .ok (.getfield 71, 3) := by decide +kernel
theorem dX11_layBreaking_21 : decode cX11_layBreaking 21 = .ok (.ishl, 1) := by decide +kernel
theorem dX11_layBreaking_22 : decode cX11_layBreaking 22 = .ok (.if_icmp .ge 13, 3) := by decide +kernel
theorem dX11_layBreaking_25 : decode cX11_layBreaking 25 = .ok (.aload_n 0, 1) := by decide +kernel
theorem dX11_layBreaking_26 : decode cX11_layBreaking 26 = .ok (.iload_n 3, 1) := by decide +kernel
theorem dX11_layBreaking_27 : decode cX11_layBreaking 27 = .ok (.iconst (-1), 1) := by decide +kernel
theorem dX11_layBreaking_28 : decode cX11_layBreaking 28 = .ok (.iconst 0, 1) := by decide +kernel
theorem dX11_layBreaking_29 : decode cX11_layBreaking 29 = .ok (.invokevirtual 119, 3) := by decide +kernel
theorem dX11_layBreaking_32 : decode cX11_layBreaking 32 = .ok (.goto 4, 3) := by decide +kernel
theorem dX11_layBreaking_35 : decode cX11_layBreaking 35 = .ok (.lconst 0, 1) := by decide +kernel
theorem dX11_layBreaking_36 : decode cX11_layBreaking 36 = .ok (.lastore, 1) := by decide +kernel
theorem dX11_layBreaking_37 : decode cX11_layBreaking 37 = .ok (.iload_n 2, 1) := by decide +kernel
theorem dX11_layBreaking_38 : decode cX11_layBreaking 38 = .ok (.ifCond .eq 33, 3) := by decide +kernel
theorem dX11_layBreaking_41 : decode cX11_layBreaking 41 = .ok (.aload_n 0, 1) := by decide +kernel
theorem dX11_layBreaking_42 : decode cX11_layBreaking 42 = .ok (.getfield 39, 3) := by decide +kernel
theorem dX11_layBreaking_45 : decode cX11_layBreaking 45 = .ok (.iload_n 3, 1) := by decide +kernel
theorem dX11_layBreaking_46 : decode cX11_layBreaking 46 = .ok (.laload, 1) := by decide +kernel
theorem dX11_layBreaking_47 : decode cX11_layBreaking 47 = .ok (.lconst 0, 1) := by decide +kernel
theorem dX11_layBreaking_48 : decode cX11_layBreaking 48 = .ok (.lcmp, 1) := by decide +kernel
theorem dX11_layBreaking_49 : decode cX11_layBreaking 49 = .ok (.ifCond .eq 18, 3) := by decide +kernel
theorem dX11_layBreaking_52 : decode cX11_layBreaking 52 = .ok (.aload_n 0, 1) := by decide +kernel
theorem dX11_layBreaking_53 : decode cX11_layBreaking 53 = .ok (.getfield 86, 3) := by decide +kernel
theorem dX11_layBreaking_56 : decode cX11_layBreaking 56 = .ok (.iload_n 3, 1) := by decide +kernel
theorem dX11_layBreaking_57 : decode cX11_layBreaking 57 = .ok (.iconst (-1), 1) := by decide +kernel
theorem dX11_layBreaking_58 : decode cX11_layBreaking 58 = .ok (.ixor, 1) := by decide +kernel
theorem dX11_layBreaking_59 : decode cX11_layBreaking 59 = .ok (.iand, 1) := by decide +kernel
theorem dX11_layBreaking_60 : decode cX11_layBreaking 60 = .ok (.invokestatic 109, 3) := by decide +kernel
theorem dX11_layBreaking_63 : decode cX11_layBreaking 63 = .ok (.iload_n 1, 1) := by decide +kernel
theorem dX11_layBreaking_64 : decode cX11_layBreaking 64 = .ok (.if_icmp .lt 7, 3) := by decide +kernel
theorem dX11_layBreaking_67 : decode cX11_layBreaking 67 = .ok (.iconst 1, 1) := by decide +kernel
theorem dX11_layBreaking_68 : decode cX11_layBreaking 68 = .ok (.goto 4, 3) := by decide +kernel
theorem dX11_layBreaking_71 : decode cX11_layBreaking 71 = .ok (.iconst 0, 1) := by decide +kernel
theorem dX11_layBreaking_72 : decode cX11_layBreaking 72 = .ok (.istore_n 2, 1) := by decide +kernel
theorem dX11_layBreaking_73 : decode cX11_layBreaking 73 = .ok (.iinc 3 1, 3) := by decide +kernel
theorem dX11_layBreaking_76 : decode cX11_layBreaking 76 = .ok (.goto (-72), 3) := by decide +kernel
theorem dX11_layBreaking_79 : decode cX11_layBreaking 79 = .ok (.iload_n 2, 1) := by decide +kernel
theorem dX11_layBreaking_80 : decode cX11_layBreaking 80 = .ok (.ifCond .eq 27, 3) := by decide +kernel
theorem dX11_layBreaking_83 : decode cX11_layBreaking 83 = .ok (.aload_n 0, 1) := by decide +kernel
theorem dX11_layBreaking_84 : decode cX11_layBreaking 84 = .ok (.invokevirtual 171, 3) := by decide +kernel
theorem dX11_layBreaking_87 : decode cX11_layBreaking 87 = .ok (.sipush 728, 3) := by decide +kernel
theorem dX11_layBreaking_90 : decode cX11_layBreaking 90 = .ok (.istore_n 3, 1) := by decide +kernel
theorem dX11_layBreaking_91 : decode cX11_layBreaking 91 = .ok (.iload_n 3, 1) := by decide +kernel
theorem dX11_layBreaking_92 : decode cX11_layBreaking 92 = .ok (.ifCond .lt 15, 3) := by decide +kernel
theorem dX11_layBreaking_95 : decode cX11_layBreaking 95 = .ok (.aload_n 0, 1) := by decide +kernel
theorem dX11_layBreaking_96 : decode cX11_layBreaking 96 = .ok (.iload_n 3, 1) := by decide +kernel
theorem dX11_layBreaking_97 : decode cX11_layBreaking 97 = .ok (.iload_n 1, 1) := by decide +kernel
theorem dX11_layBreaking_98 : decode cX11_layBreaking 98 = .ok (.invokevirtual 174, 3) := by decide +kernel
theorem dX11_layBreaking_101 : decode cX11_layBreaking 101 = .ok (.iinc 3 (-1), 3) := by decide +kernel
theorem dX11_layBreaking_104 : decode cX11_layBreaking 104 = .ok (.goto (-13), 3) := by decide +kernel
theorem dX11_layBreaking_107 : decode cX11_layBreaking 107 = .ok (.iload_n 2, 1) := by decide +kernel
theorem dX11_layBreaking_108 : decode cX11_layBreaking 108 = .ok (.ireturn, 1) := by decide +kernel
theorem dX11_mayAsk_0 : decode cX11_mayAsk 0 = .ok (.aload_n 0, 1) := by decide +kernel
theorem dX11_mayAsk_1 : decode cX11_mayAsk 1 = .ok (.getfield 71, 3) := by decide +kernel
theorem dX11_mayAsk_4 : decode cX11_mayAsk 4 = .ok (.ifCond .le 16, 3) := by decide +kernel
theorem dX11_mayAsk_7 : decode cX11_mayAsk 7 = .ok (.aload_n 0, 1) := by decide +kernel
theorem dX11_mayAsk_8 : decode cX11_mayAsk 8 = .ok (.getfield 178, 3) := by decide +kernel
theorem dX11_mayAsk_11 : decode cX11_mayAsk 11 = .ok (.bipush 60, 2) := by decide +kernel
theorem dX11_mayAsk_13 : decode cX11_mayAsk 13 = .ok (.if_icmp .ge 7, 3) := by decide +kernel
theorem dX11_mayAsk_16 : decode cX11_mayAsk 16 = .ok (.iconst 1, 1) := by decide +kernel
theorem dX11_mayAsk_17 : decode cX11_mayAsk 17 = .ok (.goto 4, 3) := by decide +kernel
theorem dX11_mayAsk_20 : decode cX11_mayAsk 20 = .ok (.iconst 0, 1) := by decide +kernel
theorem dX11_mayAsk_21 : decode cX11_mayAsk 21 = .ok (.ireturn, 1) := by decide +kernel
set_option maxRecDepth 20000 in
theorem ggX11_worst_X11_within : GoodIn wsX11_worst wsX11_within := goodIn_r _ [7] (by decide +kernel) (by decide +kernel)
set_option maxRecDepth 20000 in
theorem gX11_worst_X11_within : GoodIn wsX11_worst (va_wsS RX11 51 yX11_within wsX11_within) := goodIn_app (goodIn_of _ (by decide +kernel)) ggX11_worst_X11_within
set_option maxRecDepth 20000 in
theorem ggX11_worst_X11_mayAsk : GoodIn wsX11_worst wsX11_mayAsk := goodIn_r _ [11, 12, 1, 72, 73, 74, 75, 76, 77, 78, 79, 80, 81, 82, 83, 84, 85, 86, 87, 88, 89, 90, 91, 92, 93, 94, 95, 96, 97, 98, 99, 100, 101, 102, 103] (by decide +kernel) (by decide +kernel)
set_option maxRecDepth 20000 in
theorem gX11_worst_X11_mayAsk : GoodIn wsX11_worst (wsV RX11 181 RX11 yX11_mayAsk wsX11_mayAsk) := goodIn_app (goodIn_of _ (by decide +kernel)) ggX11_worst_X11_mayAsk
set_option maxRecDepth 20000 in
theorem ggX11_worst_X11_layBreaking : GoodIn wsX11_worst wsX11_layBreaking := goodIn_r _ [16, 17, 12, 18, 19, 20, 21, 6, 22, 23, 24, 25, 26, 27, 28, 29, 30, 31, 32, 33, 34, 35, 36, 37, 38, 39, 40, 41, 42, 43, 44, 45, 46, 47, 48, 49, 50, 51, 52, 53, 54, 55, 56, 57, 58, 59, 60, 61, 2, 62, 3, 63, 64, 65, 66, 67, 68, 69, 70, 71, 72, 73, 74, 75, 76, 77, 78, 79, 80, 81, 82, 83, 84, 85, 86, 87, 88, 89, 90, 91, 92, 93, 94, 95, 96, 97, 98, 99, 100, 101, 102, 103] (by decide +kernel) (by decide +kernel)
set_option maxRecDepth 20000 in
theorem gX11_worst_X11_layBreaking : GoodIn wsX11_worst (wsV RX11 185 RX11 yX11_layBreaking wsX11_layBreaking) := goodIn_app (goodIn_of _ (by decide +kernel)) ggX11_worst_X11_layBreaking
theorem dX11_worst_0 : decode cX11_worst 0 = .ok (.iload_n 1, 1) := by decide +kernel
theorem dX11_worst_1 : decode cX11_worst 1 = .ok (.iconst 1, 1) := by decide +kernel
theorem dX11_worst_2 : decode cX11_worst 2 = .ok (.bipush 6, 2) := by decide +kernel
theorem dX11_worst_4 : decode cX11_worst 4 = .ok (.invokestatic 51, 3) := by decide +kernel
theorem dX11_worst_7 : decode cX11_worst 7 = .ok (.ifCond .eq 12, 3) := by decide +kernel
theorem dX11_worst_10 : decode cX11_worst 10 = .ok (.iload_n 2, 1) := by decide +kernel
theorem dX11_worst_11 : decode cX11_worst 11 = .ok (.iconst 0, 1) := by decide +kernel
theorem dX11_worst_12 : decode cX11_worst 12 = .ok (.iconst 1, 1) := by decide +kernel
theorem dX11_worst_13 : decode cX11_worst 13 = .ok (.invokestatic 51, 3) := by decide +kernel
theorem dX11_worst_16 : decode cX11_worst 16 = .ok (.ifCond .ne 6, 3) := by decide +kernel
theorem dX11_worst_19 : decode cX11_worst 19 = .ok (.bipush (-102), 2) := by decide +kernel
theorem dX11_worst_21 : decode cX11_worst 21 = .ok (.ireturn, 1) := by decide +kernel
theorem dX11_worst_22 : decode cX11_worst 22 = .ok (.aload_n 0, 1) := by decide +kernel
theorem dX11_worst_23 : decode cX11_worst 23 = .ok (.invokevirtual 181, 3) := by decide +kernel
theorem dX11_worst_26 : decode cX11_worst 26 = .ok (.ifCond .ne 6, 3) := by decide +kernel
theorem dX11_worst_29 : decode cX11_worst 29 = .ok (.bipush (-103), 2) := by decide +kernel
theorem dX11_worst_31 : decode cX11_worst 31 = .ok (.ireturn, 1) := by decide +kernel
theorem dX11_worst_32 : decode cX11_worst 32 = .ok (.aload_n 0, 1) := by decide +kernel
theorem dX11_worst_33 : decode cX11_worst 33 = .ok (.dup, 1) := by decide +kernel
theorem dX11_worst_34 : decode cX11_worst 34 = .ok (.getfield 178, 3) := by decide +kernel
theorem dX11_worst_37 : decode cX11_worst 37 = .ok (.iconst 1, 1) := by decide +kernel
theorem dX11_worst_38 : decode cX11_worst 38 = .ok (.iadd, 1) := by decide +kernel
theorem dX11_worst_39 : decode cX11_worst 39 = .ok (.putfield 178, 3) := by decide +kernel
theorem dX11_worst_42 : decode cX11_worst 42 = .ok (.aload_n 0, 1) := by decide +kernel
theorem dX11_worst_43 : decode cX11_worst 43 = .ok (.iload_n 1, 1) := by decide +kernel
theorem dX11_worst_44 : decode cX11_worst 44 = .ok (.invokevirtual 185, 3) := by decide +kernel
theorem dX11_worst_47 : decode cX11_worst 47 = .ok (.ifCond .ne 7, 3) := by decide +kernel
theorem dX11_worst_50 : decode cX11_worst 50 = .ok (.iconst (-1), 1) := by decide +kernel
theorem dX11_worst_51 : decode cX11_worst 51 = .ok (.goto 20, 3) := by decide +kernel
theorem dX11_worst_54 : decode cX11_worst 54 = .ok (.iload_n 2, 1) := by decide +kernel
theorem dX11_worst_55 : decode cX11_worst 55 = .ok (.ifCond .ne 12, 3) := by decide +kernel
theorem dX11_worst_58 : decode cX11_worst 58 = .ok (.aload_n 0, 1) := by decide +kernel
theorem dX11_worst_59 : decode cX11_worst 59 = .ok (.getfield 33, 3) := by decide +kernel
theorem dX11_worst_62 : decode cX11_worst 62 = .ok (.iconst 0, 1) := by decide +kernel
theorem dX11_worst_63 : decode cX11_worst 63 = .ok (.iaload, 1) := by decide +kernel
theorem dX11_worst_64 : decode cX11_worst 64 = .ok (.goto 7, 3) := by decide +kernel
theorem dX11_worst_67 : decode cX11_worst 67 = .ok (.aload_n 0, 1) := by decide +kernel
theorem dX11_worst_68 : decode cX11_worst 68 = .ok (.getfield 163, 3) := by decide +kernel
theorem dX11_worst_71 : decode cX11_worst 71 = .ok (.ireturn, 1) := by decide +kernel
set_option maxRecDepth 20000 in
theorem ggX11_mean_X11_within : GoodIn wsX11_mean wsX11_within := goodIn_r _ [10] (by decide +kernel) (by decide +kernel)
set_option maxRecDepth 20000 in
theorem gX11_mean_X11_within : GoodIn wsX11_mean (va_wsS RX11 51 yX11_within wsX11_within) := goodIn_app (goodIn_of _ (by decide +kernel)) ggX11_mean_X11_within
set_option maxRecDepth 20000 in
theorem ggX11_mean_X11_mayAsk : GoodIn wsX11_mean wsX11_mayAsk := goodIn_r _ [14, 15, 3, 77, 78, 79, 80, 81, 82, 83, 84, 85, 86, 87, 88, 89, 90, 91, 92, 93, 94, 95, 96, 97, 98, 99, 100, 101, 102, 103, 104, 105, 106, 107, 108] (by decide +kernel) (by decide +kernel)
set_option maxRecDepth 20000 in
theorem gX11_mean_X11_mayAsk : GoodIn wsX11_mean (wsV RX11 181 RX11 yX11_mayAsk wsX11_mayAsk) := goodIn_app (goodIn_of _ (by decide +kernel)) ggX11_mean_X11_mayAsk
set_option maxRecDepth 20000 in
theorem ggX11_mean_X11_layBreaking : GoodIn wsX11_mean wsX11_layBreaking := goodIn_r _ [19, 20, 15, 21, 22, 23, 24, 9, 25, 26, 27, 28, 29, 30, 31, 32, 33, 34, 35, 36, 37, 38, 39, 40, 41, 42, 43, 44, 45, 46, 47, 48, 49, 5, 50, 51, 52, 53, 54, 55, 56, 57, 58, 59, 60, 61, 62, 63, 64, 4, 65, 6, 66, 67, 68, 69, 70, 71, 72, 73, 77, 78, 79, 80, 81, 82, 83, 84, 85, 86, 87, 88, 89, 90, 91, 92, 93, 94, 95, 96, 97, 98, 99, 100, 101, 102, 103, 104, 105, 106, 107, 108] (by decide +kernel) (by decide +kernel)
set_option maxRecDepth 20000 in
theorem gX11_mean_X11_layBreaking : GoodIn wsX11_mean (wsV RX11 185 RX11 yX11_layBreaking wsX11_layBreaking) := goodIn_app (goodIn_of _ (by decide +kernel)) ggX11_mean_X11_layBreaking
set_option maxRecDepth 20000 in
theorem ggX11_mean_X11_lowest : GoodIn wsX11_mean wsX11_lowest := goodIn_r _ [76] (by decide +kernel) (by decide +kernel)
set_option maxRecDepth 20000 in
theorem gX11_mean_X11_lowest : GoodIn wsX11_mean (va_wsS RX11 135 yX11_lowest wsX11_lowest) := goodIn_app (goodIn_of _ (by decide +kernel)) ggX11_mean_X11_lowest
theorem dX11_mean_0 : decode cX11_mean 0 = .ok (.iload_n 1, 1) := by decide +kernel
theorem dX11_mean_1 : decode cX11_mean 1 = .ok (.iconst 1, 1) := by decide +kernel
theorem dX11_mean_2 : decode cX11_mean 2 = .ok (.bipush 6, 2) := by decide +kernel
theorem dX11_mean_4 : decode cX11_mean 4 = .ok (.invokestatic 51, 3) := by decide +kernel
theorem dX11_mean_7 : decode cX11_mean 7 = .ok (.ifCond .eq 12, 3) := by decide +kernel
theorem dX11_mean_10 : decode cX11_mean 10 = .ok (.iload_n 2, 1) := by decide +kernel
theorem dX11_mean_11 : decode cX11_mean 11 = .ok (.iconst 0, 1) := by decide +kernel
theorem dX11_mean_12 : decode cX11_mean 12 = .ok (.iconst 1, 1) := by decide +kernel
theorem dX11_mean_13 : decode cX11_mean 13 = .ok (.invokestatic 51, 3) := by decide +kernel
theorem dX11_mean_16 : decode cX11_mean 16 = .ok (.ifCond .ne 7, 3) := by decide +kernel
theorem dX11_mean_19 : decode cX11_mean 19 = .ok (.ldc2_w 144, 3) := by decide +kernel
theorem dX11_mean_22 : decode cX11_mean 22 = .ok (.lreturn, 1) := by decide +kernel
theorem dX11_mean_23 : decode cX11_mean 23 = .ok (.aload_n 0, 1) := by decide +kernel
theorem dX11_mean_24 : decode cX11_mean 24 = .ok (.invokevirtual 181, 3) := by decide +kernel
theorem dX11_mean_27 : decode cX11_mean 27 = .ok (.ifCond .ne 7, 3) := by decide +kernel
theorem dX11_mean_30 : decode cX11_mean 30 = .ok (.ldc2_w 188, 3) := by decide +kernel
theorem dX11_mean_33 : decode cX11_mean 33 = .ok (.lreturn, 1) := by decide +kernel
theorem dX11_mean_34 : decode cX11_mean 34 = .ok (.aload_n 0, 1) := by decide +kernel
theorem dX11_mean_35 : decode cX11_mean 35 = .ok (.dup, 1) := by decide +kernel
theorem dX11_mean_36 : decode cX11_mean 36 = .ok (.getfield 178, 3) := by decide +kernel
theorem dX11_mean_39 : decode cX11_mean 39 = .ok (.iconst 1, 1) := by decide +kernel
theorem dX11_mean_40 : decode cX11_mean 40 = .ok (.iadd, 1) := by decide +kernel
theorem dX11_mean_41 : decode cX11_mean 41 = .ok (.putfield 178, 3) := by decide +kernel
theorem dX11_mean_44 : decode cX11_mean 44 = .ok (.aload_n 0, 1) := by decide +kernel
theorem dX11_mean_45 : decode cX11_mean 45 = .ok (.iload_n 1, 1) := by decide +kernel
theorem dX11_mean_46 : decode cX11_mean 46 = .ok (.invokevirtual 185, 3) := by decide +kernel
theorem dX11_mean_49 : decode cX11_mean 49 = .ok (.ifCond .eq 22, 3) := by decide +kernel
theorem dX11_mean_52 : decode cX11_mean 52 = .ok (.aload_n 0, 1) := by decide +kernel
theorem dX11_mean_53 : decode cX11_mean 53 = .ok (.getfield 36, 3) := by decide +kernel
theorem dX11_mean_56 : decode cX11_mean 56 = .ok (.iconst 0, 1) := by decide +kernel
theorem dX11_mean_57 : decode cX11_mean 57 = .ok (.laload, 1) := by decide +kernel
theorem dX11_mean_58 : decode cX11_mean 58 = .ok (.aload_n 0, 1) := by decide +kernel
theorem dX11_mean_59 : decode cX11_mean 59 = .ok (.getfield 29, 3) := by decide +kernel
theorem dX11_mean_62 : decode cX11_mean 62 = .ok (.iconst 0, 1) := by decide +kernel
theorem dX11_mean_63 : decode cX11_mean 63 = .ok (.laload, 1) := by decide +kernel
theorem dX11_mean_64 : decode cX11_mean 64 = .ok (.iload_n 2, 1) := by decide +kernel
theorem dX11_mean_65 : decode cX11_mean 65 = .ok (.invokestatic 135, 3) := by decide +kernel
theorem dX11_mean_68 : decode cX11_mean 68 = .ok (.goto 14, 3) := by decide +kernel
theorem dX11_mean_71 : decode cX11_mean 71 = .ok (.iload_n 2, 1) := by decide +kernel
theorem dX11_mean_72 : decode cX11_mean 72 = .ok (.ifCond .ne 9, 3) := by decide +kernel
theorem dX11_mean_75 : decode cX11_mean 75 = .ok (.ldc2_w 166, 3) := by decide +kernel
theorem dX11_mean_78 : decode cX11_mean 78 = .ok (.goto 4, 3) := by decide +kernel
theorem dX11_mean_81 : decode cX11_mean 81 = .ok (.lconst 0, 1) := by decide +kernel
theorem dX11_mean_82 : decode cX11_mean 82 = .ok (.lreturn, 1) := by decide +kernel
set_option maxRecDepth 20000 in
theorem ggX11_riskNow_X11_total : GoodIn wsX11_riskNow wsX11_total := goodIn_r _ [7, 8, 9, 10, 11, 6, 12, 13, 14, 15, 16, 17, 18, 19, 20, 21, 22, 23, 24, 25, 26, 27, 28, 29, 30, 31, 32, 40, 41, 42, 43, 44, 45, 46, 47, 48, 49, 50, 51, 52, 53, 54, 55, 56, 57, 58, 59, 60, 61, 62, 63, 64, 65, 66, 67, 68, 69, 70, 71] (by decide +kernel) (by decide +kernel)
set_option maxRecDepth 20000 in
theorem gX11_riskNow_X11_total : GoodIn wsX11_riskNow (wsV RX11 126 RX11 yX11_total wsX11_total) := goodIn_app (goodIn_of _ (by decide +kernel)) ggX11_riskNow_X11_total
set_option maxRecDepth 20000 in
theorem ggX11_riskNow_X11_boiledWeight : GoodIn wsX11_riskNow wsX11_boiledWeight := goodIn_r _ [36, 8, 21, 22, 6, 23, 9, 10, 11, 12, 13, 14, 15, 16, 17, 18, 19, 20, 24, 25, 26, 27, 28, 29, 30, 31, 32, 40, 41, 42, 43, 44, 45, 46, 47, 48, 49, 50, 51, 52, 53, 54, 55, 56, 57, 58, 59, 60, 61, 62, 63, 64, 65, 66, 67, 68, 69, 70, 71] (by decide +kernel) (by decide +kernel)
set_option maxRecDepth 20000 in
theorem gX11_riskNow_X11_boiledWeight : GoodIn wsX11_riskNow (wsV RX11 132 RX11 yX11_boiledWeight wsX11_boiledWeight) := goodIn_app (goodIn_of _ (by decide +kernel)) ggX11_riskNow_X11_boiledWeight
set_option maxRecDepth 20000 in
theorem ggX11_riskNow_X11_lowest : GoodIn wsX11_riskNow wsX11_lowest := goodIn_r _ [39] (by decide +kernel) (by decide +kernel)
set_option maxRecDepth 20000 in
theorem gX11_riskNow_X11_lowest : GoodIn wsX11_riskNow (va_wsS RX11 135 yX11_lowest wsX11_lowest) := goodIn_app (goodIn_of _ (by decide +kernel)) ggX11_riskNow_X11_lowest
theorem dX11_riskNow_0 : decode cX11_riskNow 0 = .ok (.aload_n 0, 1) := by decide +kernel
theorem dX11_riskNow_1 : decode cX11_riskNow 1 = .ok (.iconst (-1), 1) := by decide +kernel
theorem dX11_riskNow_2 : decode cX11_riskNow 2 = .ok (.iconst 0, 1) := by decide +kernel
theorem dX11_riskNow_3 : decode cX11_riskNow 3 = .ok (.invokevirtual 126, 3) := by decide +kernel
theorem dX11_riskNow_6 : decode cX11_riskNow 6 = .ok (.lstore_n 3, 1) := by decide +kernel
theorem dX11_riskNow_7 : decode cX11_riskNow 7 = .ok (.aload_n 0, 1) := by decide +kernel
theorem dX11_riskNow_8 : decode cX11_riskNow 8 = .ok (.getfield 83, 3) := by decide +kernel
theorem dX11_riskNow_11 : decode cX11_riskNow 11 = .ok (.i2l, 1) := by decide +kernel
theorem dX11_riskNow_12 : decode cX11_riskNow 12 = .ok (.lload_n 3, 1) := by decide +kernel
theorem dX11_riskNow_13 : decode cX11_riskNow 13 = .ok (.aload_n 0, 1) := by decide +kernel
theorem dX11_riskNow_14 : decode cX11_riskNow 14 = .ok (.iload_n 1, 1) := by decide +kernel
theorem dX11_riskNow_15 : decode cX11_riskNow 15 = .ok (.iconst 0, 1) := by decide +kernel
theorem dX11_riskNow_16 : decode cX11_riskNow 16 = .ok (.invokevirtual 132, 3) := by decide +kernel
theorem dX11_riskNow_19 : decode cX11_riskNow 19 = .ok (.lsub, 1) := by decide +kernel
theorem dX11_riskNow_20 : decode cX11_riskNow 20 = .ok (.lmul, 1) := by decide +kernel
theorem dX11_riskNow_21 : decode cX11_riskNow 21 = .ok (.ldc2_w 149, 3) := by decide +kernel
theorem dX11_riskNow_24 : decode cX11_riskNow 24 = .ok (.lload_n 3, 1) := by decide +kernel
theorem dX11_riskNow_25 : decode cX11_riskNow 25 = .ok (.lmul, 1) := by decide +kernel
theorem dX11_riskNow_26 : decode cX11_riskNow 26 = .ok (.iload_n 2, 1) := by decide +kernel
theorem dX11_riskNow_27 : decode cX11_riskNow 27 = .ok (.invokestatic 135, 3) := by decide +kernel
theorem dX11_riskNow_30 : decode cX11_riskNow 30 = .ok (.lreturn, 1) := by decide +kernel
set_option maxRecDepth 20000 in
theorem ggX11_risk_X11_isEgg : GoodIn wsX11_risk wsX11_isEgg := goodIn_r _ [8, 9, 10, 11, 7, 12, 59, 60, 61, 62, 63, 64, 65, 66, 67, 68, 69, 70, 71, 72, 73, 74, 75, 76, 77, 78, 79, 80, 81, 82, 83, 84, 85, 86, 87, 88, 89, 90] (by decide +kernel) (by decide +kernel)
set_option maxRecDepth 20000 in
theorem gX11_risk_X11_isEgg : GoodIn wsX11_risk (wsV RX11 98 RX11 yX11_isEgg wsX11_isEgg) := goodIn_app (goodIn_of _ (by decide +kernel)) ggX11_risk_X11_isEgg
set_option maxRecDepth 20000 in
theorem ggX11_risk_X11_within : GoodIn wsX11_risk wsX11_within := goodIn_r _ [12] (by decide +kernel) (by decide +kernel)
set_option maxRecDepth 20000 in
theorem gX11_risk_X11_within : GoodIn wsX11_risk (va_wsS RX11 51 yX11_within wsX11_within) := goodIn_app (goodIn_of _ (by decide +kernel)) ggX11_risk_X11_within
set_option maxRecDepth 20000 in
theorem ggX11_risk_X11_isInBox : GoodIn wsX11_risk wsX11_isInBox := goodIn_r _ [16, 17, 18, 19, 7, 20, 59, 60, 61, 62, 63, 64, 65, 66, 67, 68, 69, 70, 71, 72, 73, 74, 75, 76, 77, 78, 79, 80, 81, 82, 83, 84, 85, 86, 87, 88, 89, 90] (by decide +kernel) (by decide +kernel)
set_option maxRecDepth 20000 in
theorem gX11_risk_X11_isInBox : GoodIn wsX11_risk (wsV RX11 123 RX11 yX11_isInBox wsX11_isInBox) := goodIn_app (goodIn_of _ (by decide +kernel)) ggX11_risk_X11_isInBox
set_option maxRecDepth 20000 in
theorem ggX11_risk_X11_riskNow : GoodIn wsX11_risk wsX11_riskNow := goodIn_r _ [24, 25, 26, 27, 28, 29, 7, 30, 9, 31, 32, 33, 34, 35, 36, 37, 38, 39, 40, 41, 42, 18, 19, 20, 43, 44, 45, 46, 47, 48, 49, 50, 51, 52, 53, 54, 55, 56, 57, 58, 59, 60, 61, 62, 63, 64, 65, 66, 67, 68, 69, 70, 71, 72, 73, 74, 75, 76, 77, 78, 79, 80, 81, 82, 83, 84, 85, 86, 87, 88, 89, 90] (by decide +kernel) (by decide +kernel)
set_option maxRecDepth 20000 in
theorem gX11_risk_X11_riskNow : GoodIn wsX11_risk (wsV RX11 190 RX11 yX11_riskNow wsX11_riskNow) := goodIn_app (goodIn_of _ (by decide +kernel)) ggX11_risk_X11_riskNow
theorem dX11_risk_0 : decode cX11_risk 0 = .ok (.aload_n 0, 1) := by decide +kernel
theorem dX11_risk_1 : decode cX11_risk 1 = .ok (.iload_n 1, 1) := by decide +kernel
theorem dX11_risk_2 : decode cX11_risk 2 = .ok (.invokevirtual 98, 3) := by decide +kernel
theorem dX11_risk_5 : decode cX11_risk 5 = .ok (.ifCond .ne 7, 3) := by decide +kernel
theorem dX11_risk_8 : decode cX11_risk 8 = .ok (.ldc2_w 139, 3) := by decide +kernel
theorem dX11_risk_11 : decode cX11_risk 11 = .ok (.lreturn, 1) := by decide +kernel
theorem dX11_risk_12 : decode cX11_risk 12 = .ok (.iload_n 2, 1) := by decide +kernel
theorem dX11_risk_13 : decode cX11_risk 13 = .ok (.iconst 0, 1) := by decide +kernel
theorem dX11_risk_14 : decode cX11_risk 14 = .ok (.iconst 1, 1) := by decide +kernel
theorem dX11_risk_15 : decode cX11_risk 15 = .ok (.invokestatic 51, 3) := by decide +kernel
theorem dX11_risk_18 : decode cX11_risk 18 = .ok (.ifCond .ne 7, 3) := by decide +kernel
theorem dX11_risk_21 : decode cX11_risk 21 = .ok (.ldc2_w 144, 3) := by decide +kernel
theorem dX11_risk_24 : decode cX11_risk 24 = .ok (.lreturn, 1) := by decide +kernel
theorem dX11_risk_25 : decode cX11_risk 25 = .ok (.aload_n 0, 1) := by decide +kernel
theorem dX11_risk_26 : decode cX11_risk 26 = .ok (.iload_n 1, 1) := by decide +kernel
theorem dX11_risk_27 : decode cX11_risk 27 = .ok (.invokevirtual 123, 3) := by decide +kernel
theorem dX11_risk_30 : decode cX11_risk 30 = .ok (.ifCond .eq 12, 3) := by decide +kernel
theorem dX11_risk_33 : decode cX11_risk 33 = .ok (.aload_n 0, 1) := by decide +kernel
theorem dX11_risk_34 : decode cX11_risk 34 = .ok (.iload_n 1, 1) := by decide +kernel
theorem dX11_risk_35 : decode cX11_risk 35 = .ok (.iload_n 2, 1) := by decide +kernel
theorem dX11_risk_36 : decode cX11_risk 36 = .ok (.invokevirtual 190, 3) := by decide +kernel
theorem dX11_risk_39 : decode cX11_risk 39 = .ok (.goto 6, 3) := by decide +kernel
theorem dX11_risk_42 : decode cX11_risk 42 = .ok (.ldc2_w 188, 3) := by decide +kernel
theorem dX11_risk_45 : decode cX11_risk 45 = .ok (.lreturn, 1) := by decide +kernel
set_option maxRecDepth 20000 in
theorem ggX11_trier_X11_within : GoodIn wsX11_trier wsX11_within := goodIn_r _ [7] (by decide +kernel) (by decide +kernel)
set_option maxRecDepth 20000 in
theorem gX11_trier_X11_within : GoodIn wsX11_trier (va_wsS RX11 51 yX11_within wsX11_within) := goodIn_app (goodIn_of _ (by decide +kernel)) ggX11_trier_X11_within
theorem dX11_trier_0 : decode cX11_trier 0 = .ok (.iload_n 1, 1) := by decide +kernel
theorem dX11_trier_1 : decode cX11_trier 1 = .ok (.iconst 0, 1) := by decide +kernel
theorem dX11_trier_2 : decode cX11_trier 2 = .ok (.iconst 4, 1) := by decide +kernel
theorem dX11_trier_3 : decode cX11_trier 3 = .ok (.invokestatic 51, 3) := by decide +kernel
theorem dX11_trier_6 : decode cX11_trier 6 = .ok (.ifCond .ne 6, 3) := by decide +kernel
theorem dX11_trier_9 : decode cX11_trier 9 = .ok (.bipush (-102), 2) := by decide +kernel
theorem dX11_trier_11 : decode cX11_trier 11 = .ok (.ireturn, 1) := by decide +kernel
theorem dX11_trier_12 : decode cX11_trier 12 = .ok (.aload_n 0, 1) := by decide +kernel
theorem dX11_trier_13 : decode cX11_trier 13 = .ok (.getfield 71, 3) := by decide +kernel
theorem dX11_trier_16 : decode cX11_trier 16 = .ok (.ifCond .ne 6, 3) := by decide +kernel
theorem dX11_trier_19 : decode cX11_trier 19 = .ok (.bipush (-103), 2) := by decide +kernel
theorem dX11_trier_21 : decode cX11_trier 21 = .ok (.ireturn, 1) := by decide +kernel
theorem dX11_trier_22 : decode cX11_trier 22 = .ok (.aload_n 0, 1) := by decide +kernel
theorem dX11_trier_23 : decode cX11_trier 23 = .ok (.getfield 92, 3) := by decide +kernel
theorem dX11_trier_26 : decode cX11_trier 26 = .ok (.iconst 4, 1) := by decide +kernel
theorem dX11_trier_27 : decode cX11_trier 27 = .ok (.if_icmp .ne 6, 3) := by decide +kernel
theorem dX11_trier_30 : decode cX11_trier 30 = .ok (.bipush (-104), 2) := by decide +kernel
theorem dX11_trier_32 : decode cX11_trier 32 = .ok (.ireturn, 1) := by decide +kernel
theorem dX11_trier_33 : decode cX11_trier 33 = .ok (.aload_n 0, 1) := by decide +kernel
theorem dX11_trier_34 : decode cX11_trier 34 = .ok (.getfield 22, 3) := by decide +kernel
theorem dX11_trier_37 : decode cX11_trier 37 = .ok (.aload_n 0, 1) := by decide +kernel
theorem dX11_trier_38 : decode cX11_trier 38 = .ok (.getfield 92, 3) := by decide +kernel
theorem dX11_trier_41 : decode cX11_trier 41 = .ok (.iload_n 1, 1) := by decide +kernel
theorem dX11_trier_42 : decode cX11_trier 42 = .ok (.iastore, 1) := by decide +kernel
theorem dX11_trier_43 : decode cX11_trier 43 = .ok (.aload_n 0, 1) := by decide +kernel
theorem dX11_trier_44 : decode cX11_trier 44 = .ok (.dup, 1) := by decide +kernel
theorem dX11_trier_45 : decode cX11_trier 45 = .ok (.getfield 92, 3) := by decide +kernel
theorem dX11_trier_48 : decode cX11_trier 48 = .ok (.iconst 1, 1) := by decide +kernel
theorem dX11_trier_49 : decode cX11_trier 49 = .ok (.iadd, 1) := by decide +kernel
theorem dX11_trier_50 : decode cX11_trier 50 = .ok (.putfield 92, 3) := by decide +kernel
theorem dX11_trier_53 : decode cX11_trier 53 = .ok (.aload_n 0, 1) := by decide +kernel
theorem dX11_trier_54 : decode cX11_trier 54 = .ok (.getfield 92, 3) := by decide +kernel
theorem dX11_trier_57 : decode cX11_trier 57 = .ok (.iconst 1, 1) := by decide +kernel
theorem dX11_trier_58 : decode cX11_trier 58 = .ok (.isub, 1) := by decide +kernel
theorem dX11_trier_59 : decode cX11_trier 59 = .ok (.ireturn, 1) := by decide +kernel
set_option maxRecDepth 20000 in
theorem ggX11_isTrier_X11_within : GoodIn wsX11_isTrier wsX11_within := goodIn_r _ [5] (by decide +kernel) (by decide +kernel)
set_option maxRecDepth 20000 in
theorem gX11_isTrier_X11_within : GoodIn wsX11_isTrier (va_wsS RX11 51 yX11_within wsX11_within) := goodIn_app (goodIn_of _ (by decide +kernel)) ggX11_isTrier_X11_within
theorem dX11_isTrier_0 : decode cX11_isTrier 0 = .ok (.iload_n 1, 1) := by decide +kernel
theorem dX11_isTrier_1 : decode cX11_isTrier 1 = .ok (.iconst 0, 1) := by decide +kernel
theorem dX11_isTrier_2 : decode cX11_isTrier 2 = .ok (.aload_n 0, 1) := by decide +kernel
theorem dX11_isTrier_3 : decode cX11_isTrier 3 = .ok (.getfield 92, 3) := by decide +kernel
theorem dX11_isTrier_6 : decode cX11_isTrier 6 = .ok (.iconst 1, 1) := by decide +kernel
theorem dX11_isTrier_7 : decode cX11_isTrier 7 = .ok (.isub, 1) := by decide +kernel
theorem dX11_isTrier_8 : decode cX11_isTrier 8 = .ok (.invokestatic 51, 3) := by decide +kernel
theorem dX11_isTrier_11 : decode cX11_isTrier 11 = .ok (.ireturn, 1) := by decide +kernel
set_option maxRecDepth 20000 in
theorem ggX11_badness_X11_total : GoodIn wsX11_badness wsX11_total := goodIn_r _ [6, 7, 8, 9, 10, 5, 11, 12, 13, 14, 15, 16, 17, 18, 19, 20, 21, 22, 23, 24, 25, 26, 27, 28, 29, 30, 31, 36, 37, 38, 39, 40, 41, 42, 43, 44, 45, 46, 47, 48, 49, 50, 51, 52, 53, 54, 55, 56, 57, 58, 59, 60, 61, 62, 63, 64, 65, 66, 67] (by decide +kernel) (by decide +kernel)
set_option maxRecDepth 20000 in
theorem gX11_badness_X11_total : GoodIn wsX11_badness (wsV RX11 126 RX11 yX11_total wsX11_total) := goodIn_app (goodIn_of _ (by decide +kernel)) ggX11_badness_X11_total
set_option maxRecDepth 20000 in
theorem ggX11_badness_X11_boiledWeight : GoodIn wsX11_badness wsX11_boiledWeight := goodIn_r _ [35, 7, 20, 21, 5, 22, 8, 9, 10, 11, 12, 13, 14, 15, 16, 17, 18, 19, 23, 24, 25, 26, 27, 28, 29, 30, 31, 36, 37, 38, 39, 40, 41, 42, 43, 44, 45, 46, 47, 48, 49, 50, 51, 52, 53, 54, 55, 56, 57, 58, 59, 60, 61, 62, 63, 64, 65, 66, 67] (by decide +kernel) (by decide +kernel)
set_option maxRecDepth 20000 in
theorem gX11_badness_X11_boiledWeight : GoodIn wsX11_badness (wsV RX11 132 RX11 yX11_boiledWeight wsX11_boiledWeight) := goodIn_app (goodIn_of _ (by decide +kernel)) ggX11_badness_X11_boiledWeight
theorem dX11_badness_0 : decode cX11_badness 0 = .ok (.aload_n 0, 1) := by decide +kernel
theorem dX11_badness_1 : decode cX11_badness 1 = .ok (.iconst (-1), 1) := by decide +kernel
theorem dX11_badness_2 : decode cX11_badness 2 = .ok (.iconst 0, 1) := by decide +kernel
theorem dX11_badness_3 : decode cX11_badness 3 = .ok (.invokevirtual 126, 3) := by decide +kernel
theorem dX11_badness_6 : decode cX11_badness 6 = .ok (.lstore_n 3, 1) := by decide +kernel
theorem dX11_badness_7 : decode cX11_badness 7 = .ok (.aload_n 0, 1) := by decide +kernel
theorem dX11_badness_8 : decode cX11_badness 8 = .ok (.iload_n 2, 1) := by decide +kernel
theorem dX11_badness_9 : decode cX11_badness 9 = .ok (.iconst 0, 1) := by decide +kernel
theorem dX11_badness_10 : decode cX11_badness 10 = .ok (.invokevirtual 132, 3) := by decide +kernel
theorem dX11_badness_13 : decode cX11_badness 13 = .ok (.lstore 5, 2) := by decide +kernel
theorem dX11_badness_15 : decode cX11_badness 15 = .ok (.ldc2_w 193, 3) := by decide +kernel
theorem dX11_badness_18 : decode cX11_badness 18 = .ok (.lload 5, 2) := by decide +kernel
theorem dX11_badness_20 : decode cX11_badness 20 = .ok (.lmul, 1) := by decide +kernel
theorem dX11_badness_21 : decode cX11_badness 21 = .ok (.lload_n 3, 1) := by decide +kernel
theorem dX11_badness_22 : decode cX11_badness 22 = .ok (.lsub, 1) := by decide +kernel
theorem dX11_badness_23 : decode cX11_badness 23 = .ok (.lstore 7, 2) := by decide +kernel
theorem dX11_badness_25 : decode cX11_badness 25 = .ok (.iload_n 1, 1) := by decide +kernel
theorem dX11_badness_26 : decode cX11_badness 26 = .ok (.ifCond .ne 7, 3) := by decide +kernel
theorem dX11_badness_29 : decode cX11_badness 29 = .ok (.lconst 0, 1) := by decide +kernel
theorem dX11_badness_30 : decode cX11_badness 30 = .ok (.goto 39, 3) := by decide +kernel
theorem dX11_badness_33 : decode cX11_badness 33 = .ok (.iload_n 1, 1) := by decide +kernel
theorem dX11_badness_34 : decode cX11_badness 34 = .ok (.iconst 1, 1) := by decide +kernel
theorem dX11_badness_35 : decode cX11_badness 35 = .ok (.if_icmp .ne 21, 3) := by decide +kernel
theorem dX11_badness_38 : decode cX11_badness 38 = .ok (.lload 7, 2) := by decide +kernel
theorem dX11_badness_40 : decode cX11_badness 40 = .ok (.lconst 0, 1) := by decide +kernel
theorem dX11_badness_41 : decode cX11_badness 41 = .ok (.lcmp, 1) := by decide +kernel
theorem dX11_badness_42 : decode cX11_badness 42 = .ok (.ifCond .ge 9, 3) := by decide +kernel
theorem dX11_badness_45 : decode cX11_badness 45 = .ok (.lload 7, 2) := by decide +kernel
theorem dX11_badness_47 : decode cX11_badness 47 = .ok (.lneg, 1) := by decide +kernel
theorem dX11_badness_48 : decode cX11_badness 48 = .ok (.goto 21, 3) := by decide +kernel
theorem dX11_badness_51 : decode cX11_badness 51 = .ok (.lload 7, 2) := by decide +kernel
theorem dX11_badness_53 : decode cX11_badness 53 = .ok (.goto 16, 3) := by decide +kernel
theorem dX11_badness_56 : decode cX11_badness 56 = .ok (.iload_n 1, 1) := by decide +kernel
theorem dX11_badness_57 : decode cX11_badness 57 = .ok (.iconst 2, 1) := by decide +kernel
theorem dX11_badness_58 : decode cX11_badness 58 = .ok (.if_icmp .ne 8, 3) := by decide +kernel
theorem dX11_badness_61 : decode cX11_badness 61 = .ok (.lload 5, 2) := by decide +kernel
theorem dX11_badness_63 : decode cX11_badness 63 = .ok (.goto 6, 3) := by decide +kernel
theorem dX11_badness_66 : decode cX11_badness 66 = .ok (.lload 5, 2) := by decide +kernel
theorem dX11_badness_68 : decode cX11_badness 68 = .ok (.lneg, 1) := by decide +kernel
theorem dX11_badness_69 : decode cX11_badness 69 = .ok (.lreturn, 1) := by decide +kernel
set_option maxRecDepth 20000 in
theorem ggX11_nextOf_X11_isInBox : GoodIn wsX11_nextOf wsX11_isInBox := goodIn_r _ [6, 7, 8, 9, 5, 10, 45, 46, 47, 48, 49, 50, 51, 52, 53, 54, 55, 56, 57, 58, 59, 60, 61, 62, 63, 64, 65, 66, 67, 68, 69, 70, 71, 72, 73, 74, 75, 76] (by decide +kernel) (by decide +kernel)
set_option maxRecDepth 20000 in
theorem gX11_nextOf_X11_isInBox : GoodIn wsX11_nextOf (wsV RX11 123 RX11 yX11_isInBox wsX11_isInBox) := goodIn_app (goodIn_of _ (by decide +kernel)) ggX11_nextOf_X11_isInBox
set_option maxRecDepth 20000 in
theorem ggX11_nextOf_X11_badness : GoodIn wsX11_nextOf wsX11_badness := goodIn_r _ [14, 15, 16, 17, 18, 5, 19, 1, 20, 21, 22, 23, 24, 25, 26, 27, 28, 29, 30, 31, 8, 9, 10, 32, 33, 34, 35, 36, 37, 38, 39, 40, 41, 42, 43, 44, 45, 46, 47, 48, 49, 50, 51, 52, 53, 54, 55, 56, 57, 58, 59, 60, 61, 62, 63, 64, 65, 66, 67, 68, 69, 70, 71, 72, 73, 74, 75, 76] (by decide +kernel) (by decide +kernel)
set_option maxRecDepth 20000 in
theorem gX11_nextOf_X11_badness : GoodIn wsX11_nextOf (wsV RX11 195 RX11 yX11_badness wsX11_badness) := goodIn_app (goodIn_of _ (by decide +kernel)) ggX11_nextOf_X11_badness
theorem dX11_nextOf_0 : decode cX11_nextOf 0 = .ok (.iconst (-1), 1) := by decide +kernel
theorem dX11_nextOf_1 : decode cX11_nextOf 1 = .ok (.istore_n 2, 1) := by decide +kernel
theorem dX11_nextOf_2 : decode cX11_nextOf 2 = .ok (.iconst 0, 1) := by decide +kernel
theorem dX11_nextOf_3 : decode cX11_nextOf 3 = .ok (.istore_n 3, 1) := by decide +kernel
theorem dX11_nextOf_4 : decode cX11_nextOf 4 = .ok (.iload_n 3, 1) := by decide +kernel
theorem dX11_nextOf_5 : decode cX11_nextOf 5 = .ok (.aload_n 0, 1) := by decide +kernel
theorem dX11_nextOf_6 : decode cX11_nextOf 6 = .ok (.getfield 71, 3) := by decide +kernel
theorem dX11_nextOf_9 : decode cX11_nextOf 9 = .ok (.if_icmp .ge 75, 3) := by decide +kernel
theorem dX11_nextOf_12 : decode cX11_nextOf 12 = .ok (.aload_n 0, 1) := by decide +kernel
theorem dX11_nextOf_13 : decode cX11_nextOf 13 = .ok (.iload_n 3, 1) := by decide +kernel
theorem dX11_nextOf_14 : decode cX11_nextOf 14 = .ok (.invokevirtual 123, 3) := by decide +kernel
theorem dX11_nextOf_17 : decode cX11_nextOf 17 = .ok (.ifCond .eq 61, 3) := by decide +kernel
theorem dX11_nextOf_20 : decode cX11_nextOf 20 = .ok (.aload_n 0, 1) := by decide +kernel
theorem dX11_nextOf_21 : decode cX11_nextOf 21 = .ok (.iload_n 1, 1) := by decide +kernel
theorem dX11_nextOf_22 : decode cX11_nextOf 22 = .ok (.iload_n 3, 1) := by decide +kernel
theorem dX11_nextOf_23 : decode cX11_nextOf 23 = .ok (.invokevirtual 195, 3) := by decide +kernel
theorem dX11_nextOf_26 : decode cX11_nextOf 26 = .ok (.lstore 4, 2) := by decide +kernel
theorem dX11_nextOf_28 : decode cX11_nextOf 28 = .ok (.iload_n 2, 1) := by decide +kernel
theorem dX11_nextOf_29 : decode cX11_nextOf 29 = .ok (.iconst (-1), 1) := by decide +kernel
theorem dX11_nextOf_30 : decode cX11_nextOf 30 = .ok (.if_icmp .ne 8, 3) := by decide +kernel
theorem dX11_nextOf_33 : decode cX11_nextOf 33 = .ok (.lload 4, 2) := by decide +kernel
theorem dX11_nextOf_35 : decode cX11_nextOf 35 = .ok (.goto 9, 3) := by decide +kernel
theorem dX11_nextOf_38 : decode cX11_nextOf 38 = .ok (.aload_n 0, 1) := by decide +kernel
theorem dX11_nextOf_39 : decode cX11_nextOf 39 = .ok (.iload_n 1, 1) := by decide +kernel
theorem dX11_nextOf_40 : decode cX11_nextOf 40 = .ok (.iload_n 2, 1) := by decide +kernel
theorem dX11_nextOf_41 : decode cX11_nextOf 41 = .ok (.invokevirtual 195, 3) := by decide +kernel
theorem dX11_nextOf_44 : decode cX11_nextOf 44 = .ok (.lstore 6, 2) := by decide +kernel
theorem dX11_nextOf_46 : decode cX11_nextOf 46 = .ok (.iload_n 2, 1) := by decide +kernel
theorem dX11_nextOf_47 : decode cX11_nextOf 47 = .ok (.iconst (-1), 1) := by decide +kernel
theorem dX11_nextOf_48 : decode cX11_nextOf 48 = .ok (.if_icmp .eq 24, 3) := by decide +kernel
theorem dX11_nextOf_51 : decode cX11_nextOf 51 = .ok (.lload 4, 2) := by decide +kernel
theorem dX11_nextOf_53 : decode cX11_nextOf 53 = .ok (.lload 6, 2) := by decide +kernel
theorem dX11_nextOf_55 : decode cX11_nextOf 55 = .ok (.lcmp, 1) := by decide +kernel
theorem dX11_nextOf_56 : decode cX11_nextOf 56 = .ok (.ifCond .lt 16, 3) := by decide +kernel
theorem dX11_nextOf_59 : decode cX11_nextOf 59 = .ok (.iload_n 1, 1) := by decide +kernel
theorem dX11_nextOf_60 : decode cX11_nextOf 60 = .ok (.iconst 4, 1) := by decide +kernel
theorem dX11_nextOf_61 : decode cX11_nextOf 61 = .ok (.if_icmp .ne 15, 3) := by decide +kernel
theorem dX11_nextOf_64 : decode cX11_nextOf 64 = .ok (.lload 4, 2) := by decide +kernel
theorem dX11_nextOf_66 : decode cX11_nextOf 66 = .ok (.lload 6, 2) := by decide +kernel
theorem dX11_nextOf_68 : decode cX11_nextOf 68 = .ok (.lcmp, 1) := by decide +kernel
theorem dX11_nextOf_69 : decode cX11_nextOf 69 = .ok (.ifCond .ne 7, 3) := by decide +kernel
theorem dX11_nextOf_72 : decode cX11_nextOf 72 = .ok (.iload_n 3, 1) := by decide +kernel
theorem dX11_nextOf_73 : decode cX11_nextOf 73 = .ok (.goto 4, 3) := by decide +kernel
theorem dX11_nextOf_76 : decode cX11_nextOf 76 = .ok (.iload_n 2, 1) := by decide +kernel
theorem dX11_nextOf_77 : decode cX11_nextOf 77 = .ok (.istore_n 2, 1) := by decide +kernel
theorem dX11_nextOf_78 : decode cX11_nextOf 78 = .ok (.iinc 3 1, 3) := by decide +kernel
theorem dX11_nextOf_81 : decode cX11_nextOf 81 = .ok (.goto (-77), 3) := by decide +kernel
theorem dX11_nextOf_84 : decode cX11_nextOf 84 = .ok (.iload_n 2, 1) := by decide +kernel
theorem dX11_nextOf_85 : decode cX11_nextOf 85 = .ok (.ireturn, 1) := by decide +kernel
set_option maxRecDepth 20000 in
theorem ggX11_trierNow_X11_nextOf : GoodIn wsX11_trierNow wsX11_nextOf := goodIn_r _ [6, 7, 8, 9, 10, 5, 11, 12, 13, 14, 15, 16, 17, 18, 19, 20, 21, 22, 23, 24, 25, 26, 27, 28, 29, 30, 31, 32, 33, 34, 35, 36, 37, 38, 39, 40, 41, 42, 43, 44, 45, 46, 47, 48, 49, 50, 51, 52, 53, 54, 55, 56, 57, 58, 59, 60, 61, 62, 63, 64, 65, 66, 67, 68, 69, 70, 71, 72, 73, 74, 75, 76, 77, 78, 79, 80, 81] (by decide +kernel) (by decide +kernel)
set_option maxRecDepth 20000 in
theorem gX11_trierNow_X11_nextOf : GoodIn wsX11_trierNow (wsV RX11 198 RX11 yX11_nextOf wsX11_nextOf) := goodIn_app (goodIn_of _ (by decide +kernel)) ggX11_trierNow_X11_nextOf
theorem dX11_trierNow_0 : decode cX11_trierNow 0 = .ok (.iload_n 2, 1) := by decide +kernel
theorem dX11_trierNow_1 : decode cX11_trierNow 1 = .ok (.ifCond .ne 12, 3) := by decide +kernel
theorem dX11_trierNow_4 : decode cX11_trierNow 4 = .ok (.aload_n 0, 1) := by decide +kernel
theorem dX11_trierNow_5 : decode cX11_trierNow 5 = .ok (.getfield 22, 3) := by decide +kernel
theorem dX11_trierNow_8 : decode cX11_trierNow 8 = .ok (.iload_n 1, 1) := by decide +kernel
theorem dX11_trierNow_9 : decode cX11_trierNow 9 = .ok (.iaload, 1) := by decide +kernel
theorem dX11_trierNow_10 : decode cX11_trierNow 10 = .ok (.goto 13, 3) := by decide +kernel
theorem dX11_trierNow_13 : decode cX11_trierNow 13 = .ok (.aload_n 0, 1) := by decide +kernel
theorem dX11_trierNow_14 : decode cX11_trierNow 14 = .ok (.aload_n 0, 1) := by decide +kernel
theorem dX11_trierNow_15 : decode cX11_trierNow 15 = .ok (.getfield 22, 3) := by decide +kernel
theorem dX11_trierNow_18 : decode cX11_trierNow 18 = .ok (.iload_n 1, 1) := by decide +kernel
theorem dX11_trierNow_19 : decode cX11_trierNow 19 = .ok (.iaload, 1) := by decide +kernel
theorem dX11_trierNow_20 : decode cX11_trierNow 20 = .ok (.invokevirtual 198, 3) := by decide +kernel
theorem dX11_trierNow_23 : decode cX11_trierNow 23 = .ok (.ireturn, 1) := by decide +kernel
set_option maxRecDepth 20000 in
theorem ggX11_about_X11_isTrier : GoodIn wsX11_about wsX11_isTrier := goodIn_r _ [5, 6, 7, 8, 4, 9, 62, 63, 64, 65, 66, 67, 68, 69, 70, 71, 72, 73, 74, 75, 76, 77, 78, 79, 80, 81, 82, 83, 84, 85, 86, 87, 88, 89, 90, 91, 92, 93] (by decide +kernel) (by decide +kernel)
set_option maxRecDepth 20000 in
theorem gX11_about_X11_isTrier : GoodIn wsX11_about (wsV RX11 201 RX11 yX11_isTrier wsX11_isTrier) := goodIn_app (goodIn_of _ (by decide +kernel)) ggX11_about_X11_isTrier
set_option maxRecDepth 20000 in
theorem ggX11_about_X11_within : GoodIn wsX11_about wsX11_within := goodIn_r _ [9] (by decide +kernel) (by decide +kernel)
set_option maxRecDepth 20000 in
theorem gX11_about_X11_within : GoodIn wsX11_about (va_wsS RX11 51 yX11_within wsX11_within) := goodIn_app (goodIn_of _ (by decide +kernel)) ggX11_about_X11_within
set_option maxRecDepth 20000 in
theorem ggX11_about_X11_trierNow : GoodIn wsX11_about wsX11_trierNow := goodIn_r _ [13, 14, 15, 16, 17, 4, 18, 19, 20, 21, 22, 23, 24, 25, 26, 27, 28, 29, 30, 31, 32, 33, 34, 35, 36, 37, 38, 39, 40, 41, 42, 43, 44, 45, 46, 47, 48, 49, 50, 51, 52, 53, 54, 55, 56, 57, 58, 59, 60, 61, 62, 63, 64, 65, 66, 67, 68, 69, 70, 71, 72, 73, 74, 75, 76, 77, 78, 79, 80, 81, 82, 83, 84, 85, 86, 87, 88, 89, 90, 91, 92, 93] (by decide +kernel) (by decide +kernel)
set_option maxRecDepth 20000 in
theorem gX11_about_X11_trierNow : GoodIn wsX11_about (wsV RX11 204 RX11 yX11_trierNow wsX11_trierNow) := goodIn_app (goodIn_of _ (by decide +kernel)) ggX11_about_X11_trierNow
theorem dX11_about_0 : decode cX11_about 0 = .ok (.aload_n 0, 1) := by decide +kernel
theorem dX11_about_1 : decode cX11_about 1 = .ok (.iload_n 1, 1) := by decide +kernel
theorem dX11_about_2 : decode cX11_about 2 = .ok (.invokevirtual 201, 3) := by decide +kernel
theorem dX11_about_5 : decode cX11_about 5 = .ok (.ifCond .ne 8, 3) := by decide +kernel
theorem dX11_about_8 : decode cX11_about 8 = .ok (.bipush (-101), 2) := by decide +kernel
theorem dX11_about_10 : decode cX11_about 10 = .ok (.goto 23, 3) := by decide +kernel
theorem dX11_about_13 : decode cX11_about 13 = .ok (.iload_n 2, 1) := by decide +kernel
theorem dX11_about_14 : decode cX11_about 14 = .ok (.iconst 0, 1) := by decide +kernel
theorem dX11_about_15 : decode cX11_about 15 = .ok (.iconst 1, 1) := by decide +kernel
theorem dX11_about_16 : decode cX11_about 16 = .ok (.invokestatic 51, 3) := by decide +kernel
theorem dX11_about_19 : decode cX11_about 19 = .ok (.ifCond .eq 12, 3) := by decide +kernel
theorem dX11_about_22 : decode cX11_about 22 = .ok (.aload_n 0, 1) := by decide +kernel
theorem dX11_about_23 : decode cX11_about 23 = .ok (.iload_n 1, 1) := by decide +kernel
theorem dX11_about_24 : decode cX11_about 24 = .ok (.iload_n 2, 1) := by decide +kernel
theorem dX11_about_25 : decode cX11_about 25 = .ok (.invokevirtual 204, 3) := by decide +kernel
theorem dX11_about_28 : decode cX11_about 28 = .ok (.goto 5, 3) := by decide +kernel
theorem dX11_about_31 : decode cX11_about 31 = .ok (.bipush (-102), 2) := by decide +kernel
theorem dX11_about_33 : decode cX11_about 33 = .ok (.ireturn, 1) := by decide +kernel
set_option maxRecDepth 20000 in
theorem ggX11_as_X11_isTrier : GoodIn wsX11_as wsX11_isTrier := goodIn_r _ [6, 7, 8, 9, 5, 10, 11, 12, 13, 14, 15, 16, 17, 18, 19, 20, 21, 22, 23, 24, 25, 26, 27, 28, 29, 30, 31, 32, 33, 34, 35, 36, 37, 38, 39, 40, 41, 42] (by decide +kernel) (by decide +kernel)
set_option maxRecDepth 20000 in
theorem gX11_as_X11_isTrier : GoodIn wsX11_as (wsV RX11 201 RX11 yX11_isTrier wsX11_isTrier) := goodIn_app (goodIn_of _ (by decide +kernel)) ggX11_as_X11_isTrier
set_option maxRecDepth 20000 in
theorem ggX11_as_X11_within : GoodIn wsX11_as wsX11_within := goodIn_r _ [10] (by decide +kernel) (by decide +kernel)
set_option maxRecDepth 20000 in
theorem gX11_as_X11_within : GoodIn wsX11_as (va_wsS RX11 51 yX11_within wsX11_within) := goodIn_app (goodIn_of _ (by decide +kernel)) ggX11_as_X11_within
theorem dX11_as_0 : decode cX11_as 0 = .ok (.aload_n 0, 1) := by decide +kernel
theorem dX11_as_1 : decode cX11_as 1 = .ok (.iload_n 1, 1) := by decide +kernel
theorem dX11_as_2 : decode cX11_as 2 = .ok (.invokevirtual 201, 3) := by decide +kernel
theorem dX11_as_5 : decode cX11_as 5 = .ok (.ifCond .ne 6, 3) := by decide +kernel
theorem dX11_as_8 : decode cX11_as 8 = .ok (.bipush (-101), 2) := by decide +kernel
theorem dX11_as_10 : decode cX11_as 10 = .ok (.ireturn, 1) := by decide +kernel
theorem dX11_as_11 : decode cX11_as 11 = .ok (.iload_n 2, 1) := by decide +kernel
theorem dX11_as_12 : decode cX11_as 12 = .ok (.iconst 0, 1) := by decide +kernel
theorem dX11_as_13 : decode cX11_as 13 = .ok (.iconst 4, 1) := by decide +kernel
theorem dX11_as_14 : decode cX11_as 14 = .ok (.invokestatic 51, 3) := by decide +kernel
theorem dX11_as_17 : decode cX11_as 17 = .ok (.ifCond .ne 6, 3) := by decide +kernel
theorem dX11_as_20 : decode cX11_as 20 = .ok (.bipush (-102), 2) := by decide +kernel
theorem dX11_as_22 : decode cX11_as 22 = .ok (.ireturn, 1) := by decide +kernel
theorem dX11_as_23 : decode cX11_as 23 = .ok (.aload_n 0, 1) := by decide +kernel
theorem dX11_as_24 : decode cX11_as 24 = .ok (.getfield 22, 3) := by decide +kernel
theorem dX11_as_27 : decode cX11_as 27 = .ok (.iload_n 1, 1) := by decide +kernel
theorem dX11_as_28 : decode cX11_as 28 = .ok (.iaload, 1) := by decide +kernel
theorem dX11_as_29 : decode cX11_as 29 = .ok (.istore_n 3, 1) := by decide +kernel
theorem dX11_as_30 : decode cX11_as 30 = .ok (.iload_n 2, 1) := by decide +kernel
theorem dX11_as_31 : decode cX11_as 31 = .ok (.ifCond .eq 18, 3) := by decide +kernel
theorem dX11_as_34 : decode cX11_as 34 = .ok (.iload_n 3, 1) := by decide +kernel
theorem dX11_as_35 : decode cX11_as 35 = .ok (.iload_n 2, 1) := by decide +kernel
theorem dX11_as_36 : decode cX11_as 36 = .ok (.if_icmp .eq 13, 3) := by decide +kernel
theorem dX11_as_39 : decode cX11_as 39 = .ok (.iload_n 2, 1) := by decide +kernel
theorem dX11_as_40 : decode cX11_as 40 = .ok (.iconst 3, 1) := by decide +kernel
theorem dX11_as_41 : decode cX11_as 41 = .ok (.if_icmp .ne 12, 3) := by decide +kernel
theorem dX11_as_44 : decode cX11_as 44 = .ok (.iload_n 3, 1) := by decide +kernel
theorem dX11_as_45 : decode cX11_as 45 = .ok (.iconst 4, 1) := by decide +kernel
theorem dX11_as_46 : decode cX11_as 46 = .ok (.if_icmp .ne 7, 3) := by decide +kernel
theorem dX11_as_49 : decode cX11_as 49 = .ok (.iload_n 1, 1) := by decide +kernel
theorem dX11_as_50 : decode cX11_as 50 = .ok (.goto 4, 3) := by decide +kernel
theorem dX11_as_53 : decode cX11_as 53 = .ok (.iconst (-1), 1) := by decide +kernel
theorem dX11_as_54 : decode cX11_as 54 = .ok (.ireturn, 1) := by decide +kernel
set_option maxRecDepth 20000 in
theorem ggX11_fitsNow_X11_weight : GoodIn wsX11_fitsNow wsX11_weight := goodIn_r _ [6, 7, 1, 8, 9, 10, 11, 12, 13, 5, 14, 15, 16, 17, 18, 19, 20, 21, 22, 23, 24, 25, 26, 27, 28, 29, 30, 31, 32, 33, 34, 35, 36, 37, 38, 39, 40, 41, 42, 43, 44, 45, 46, 47, 48, 49, 50, 51, 52, 53, 54, 55, 56, 57, 58] (by decide +kernel) (by decide +kernel)
set_option maxRecDepth 20000 in
theorem gX11_fitsNow_X11_weight : GoodIn wsX11_fitsNow (wsV RX11 119 RX11 yX11_weight wsX11_weight) := goodIn_app (goodIn_of _ (by decide +kernel)) ggX11_fitsNow_X11_weight
theorem dX11_fitsNow_0 : decode cX11_fitsNow 0 = .ok (.iconst 0, 1) := by decide +kernel
theorem dX11_fitsNow_1 : decode cX11_fitsNow 1 = .ok (.istore_n 2, 1) := by decide +kernel
theorem dX11_fitsNow_2 : decode cX11_fitsNow 2 = .ok (.iconst 1, 1) := by decide +kernel
theorem dX11_fitsNow_3 : decode cX11_fitsNow 3 = .ok (.aload_n 0, 1) := by decide +kernel
theorem dX11_fitsNow_4 : decode cX11_fitsNow 4 = .ok (.getfield 71, 3) := by decide +kernel
theorem dX11_fitsNow_7 : decode cX11_fitsNow 7 = .ok (.ishl, 1) := by decide +kernel
theorem dX11_fitsNow_8 : decode cX11_fitsNow 8 = .ok (.iconst 1, 1) := by decide +kernel
theorem dX11_fitsNow_9 : decode cX11_fitsNow 9 = .ok (.isub, 1) := by decide +kernel
theorem dX11_fitsNow_10 : decode cX11_fitsNow 10 = .ok (.istore_n 3, 1) := by decide +kernel
theorem dX11_fitsNow_11 : decode cX11_fitsNow 11 = .ok (.iload_n 3, 1) := by decide +kernel
theorem dX11_fitsNow_12 : decode cX11_fitsNow 12 = .ok (.istore 4, 2) := by decide +kernel
theorem dX11_fitsNow_14 : decode cX11_fitsNow 14 = .ok (.iconst 0, 1) := by decide +kernel
theorem dX11_fitsNow_15 : decode cX11_fitsNow 15 = .ok (.istore 5, 2) := by decide +kernel
theorem dX11_fitsNow_17 : decode cX11_fitsNow 17 = .ok (.iload 5, 2) := by decide +kernel
theorem dX11_fitsNow_19 : decode cX11_fitsNow 19 = .ok (.iconst 1, 1) := by decide +kernel
theorem dX11_fitsNow_20 : decode cX11_fitsNow 20 = .ok (.aload_n 0, 1) := by decide +kernel
theorem dX11_fitsNow_21 : decode cX11_fitsNow 21 = .ok (.getfield 71, 3) := by decide +kernel
theorem dX11_fitsNow_24 : decode cX11_fitsNow 24 = .ok (.ishl, 1) := by decide +kernel
theorem dX11_fitsNow_25 : decode cX11_fitsNow 25 = .ok (.if_icmp .ge 39, 3) := by decide +kernel
theorem dX11_fitsNow_28 : decode cX11_fitsNow 28 = .ok (.aload_n 0, 1) := by decide +kernel
theorem dX11_fitsNow_29 : decode cX11_fitsNow 29 = .ok (.iload 5, 2) := by decide +kernel
theorem dX11_fitsNow_31 : decode cX11_fitsNow 31 = .ok (.iconst (-1), 1) := by decide +kernel
theorem dX11_fitsNow_32 : decode cX11_fitsNow 32 = .ok (.iconst 0, 1) := by decide +kernel
theorem dX11_fitsNow_33 : decode cX11_fitsNow 33 = .ok (.invokevirtual 119, 3) := by decide +kernel
theorem dX11_fitsNow_36 : decode cX11_fitsNow 36 = .ok (.lconst 0, 1) := by decide +kernel
theorem dX11_fitsNow_37 : decode cX11_fitsNow 37 = .ok (.lcmp, 1) := by decide +kernel
theorem dX11_fitsNow_38 : decode cX11_fitsNow 38 = .ok (.ifCond .le 20, 3) := by decide +kernel
theorem dX11_fitsNow_41 : decode cX11_fitsNow 41 = .ok (.iinc 2 1, 3) := by decide +kernel
theorem dX11_fitsNow_44 : decode cX11_fitsNow 44 = .ok (.iload_n 3, 1) := by decide +kernel
theorem dX11_fitsNow_45 : decode cX11_fitsNow 45 = .ok (.iload 5, 2) := by decide +kernel
theorem dX11_fitsNow_47 : decode cX11_fitsNow 47 = .ok (.iand, 1) := by decide +kernel
theorem dX11_fitsNow_48 : decode cX11_fitsNow 48 = .ok (.istore_n 3, 1) := by decide +kernel
theorem dX11_fitsNow_49 : decode cX11_fitsNow 49 = .ok (.iload 4, 2) := by decide +kernel
theorem dX11_fitsNow_51 : decode cX11_fitsNow 51 = .ok (.iload 5, 2) := by decide +kernel
theorem dX11_fitsNow_53 : decode cX11_fitsNow 53 = .ok (.iconst (-1), 1) := by decide +kernel
theorem dX11_fitsNow_54 : decode cX11_fitsNow 54 = .ok (.ixor, 1) := by decide +kernel
theorem dX11_fitsNow_55 : decode cX11_fitsNow 55 = .ok (.iand, 1) := by decide +kernel
theorem dX11_fitsNow_56 : decode cX11_fitsNow 56 = .ok (.istore 4, 2) := by decide +kernel
theorem dX11_fitsNow_58 : decode cX11_fitsNow 58 = .ok (.iinc 5 1, 3) := by decide +kernel
theorem dX11_fitsNow_61 : decode cX11_fitsNow 61 = .ok (.goto (-44), 3) := by decide +kernel
theorem dX11_fitsNow_64 : decode cX11_fitsNow 64 = .ok (.iload_n 1, 1) := by decide +kernel
theorem dX11_fitsNow_65 : decode cX11_fitsNow 65 = .ok (.ifCond .ne 7, 3) := by decide +kernel
theorem dX11_fitsNow_68 : decode cX11_fitsNow 68 = .ok (.iload_n 2, 1) := by decide +kernel
theorem dX11_fitsNow_69 : decode cX11_fitsNow 69 = .ok (.goto 14, 3) := by decide +kernel
theorem dX11_fitsNow_72 : decode cX11_fitsNow 72 = .ok (.iload_n 1, 1) := by decide +kernel
theorem dX11_fitsNow_73 : decode cX11_fitsNow 73 = .ok (.iconst 1, 1) := by decide +kernel
theorem dX11_fitsNow_74 : decode cX11_fitsNow 74 = .ok (.if_icmp .ne 7, 3) := by decide +kernel
theorem dX11_fitsNow_77 : decode cX11_fitsNow 77 = .ok (.iload_n 3, 1) := by decide +kernel
theorem dX11_fitsNow_78 : decode cX11_fitsNow 78 = .ok (.goto 5, 3) := by decide +kernel
theorem dX11_fitsNow_81 : decode cX11_fitsNow 81 = .ok (.iload 4, 2) := by decide +kernel
theorem dX11_fitsNow_83 : decode cX11_fitsNow 83 = .ok (.ireturn, 1) := by decide +kernel
set_option maxRecDepth 20000 in
theorem ggX11_fits_X11_within : GoodIn wsX11_fits wsX11_within := goodIn_r _ [5] (by decide +kernel) (by decide +kernel)
set_option maxRecDepth 20000 in
theorem gX11_fits_X11_within : GoodIn wsX11_fits (va_wsS RX11 51 yX11_within wsX11_within) := goodIn_app (goodIn_of _ (by decide +kernel)) ggX11_fits_X11_within
set_option maxRecDepth 20000 in
theorem ggX11_fits_X11_fitsNow : GoodIn wsX11_fits wsX11_fitsNow := goodIn_r _ [9, 1, 10, 11, 12, 4, 13, 14, 15, 16, 17, 18, 19, 20, 21, 22, 23, 24, 25, 26, 27, 28, 29, 30, 31, 32, 33, 34, 35, 36, 37, 38, 39, 40, 41, 42, 43, 44, 45, 46, 47, 48, 49, 50, 51, 52, 53, 54, 55, 56, 57, 58, 59, 60, 61, 62, 63, 64, 65] (by decide +kernel) (by decide +kernel)
set_option maxRecDepth 20000 in
theorem gX11_fits_X11_fitsNow : GoodIn wsX11_fits (wsV RX11 207 RX11 yX11_fitsNow wsX11_fitsNow) := goodIn_app (goodIn_of _ (by decide +kernel)) ggX11_fits_X11_fitsNow
theorem dX11_fits_0 : decode cX11_fits 0 = .ok (.iload_n 1, 1) := by decide +kernel
theorem dX11_fits_1 : decode cX11_fits 1 = .ok (.iconst 0, 1) := by decide +kernel
theorem dX11_fits_2 : decode cX11_fits 2 = .ok (.iconst 2, 1) := by decide +kernel
theorem dX11_fits_3 : decode cX11_fits 3 = .ok (.invokestatic 51, 3) := by decide +kernel
theorem dX11_fits_6 : decode cX11_fits 6 = .ok (.ifCond .ne 6, 3) := by decide +kernel
theorem dX11_fits_9 : decode cX11_fits 9 = .ok (.bipush (-102), 2) := by decide +kernel
theorem dX11_fits_11 : decode cX11_fits 11 = .ok (.ireturn, 1) := by decide +kernel
theorem dX11_fits_12 : decode cX11_fits 12 = .ok (.aload_n 0, 1) := by decide +kernel
theorem dX11_fits_13 : decode cX11_fits 13 = .ok (.getfield 71, 3) := by decide +kernel
theorem dX11_fits_16 : decode cX11_fits 16 = .ok (.ifCond .ne 8, 3) := by decide +kernel
theorem dX11_fits_19 : decode cX11_fits 19 = .ok (.bipush (-103), 2) := by decide +kernel
theorem dX11_fits_21 : decode cX11_fits 21 = .ok (.goto 8, 3) := by decide +kernel
theorem dX11_fits_24 : decode cX11_fits 24 = .ok (.aload_n 0, 1) := by decide +kernel
theorem dX11_fits_25 : decode cX11_fits 25 = .ok (.iload_n 1, 1) := by decide +kernel
theorem dX11_fits_26 : decode cX11_fits 26 = .ok (.invokevirtual 207, 3) := by decide +kernel
theorem dX11_fits_29 : decode cX11_fits 29 = .ok (.ireturn, 1) := by decide +kernel
theorem dX11_draw_0 : decode cX11_draw 0 = .ok (.aload_n 0, 1) := by decide +kernel
theorem dX11_draw_1 : decode cX11_draw 1 = .ok (.ldc2_w 210, 3) := by decide +kernel
theorem dX11_draw_4 : decode cX11_draw 4 = .ok (.aload_n 0, 1) := by decide +kernel
theorem dX11_draw_5 : decode cX11_draw 5 = .ok (.getfield 212, 3) := by decide +kernel
theorem dX11_draw_8 : decode cX11_draw 8 = .ok (.lmul, 1) := by decide +kernel
theorem dX11_draw_9 : decode cX11_draw 9 = .ok (.ldc2_w 216, 3) := by decide +kernel
theorem dX11_draw_12 : decode cX11_draw 12 = .ok (.ladd, 1) := by decide +kernel
theorem dX11_draw_13 : decode cX11_draw 13 = .ok (.ldc2_w 218, 3) := by decide +kernel
theorem dX11_draw_16 : decode cX11_draw 16 = .ok (.land, 1) := by decide +kernel
theorem dX11_draw_17 : decode cX11_draw 17 = .ok (.putfield 212, 3) := by decide +kernel
theorem dX11_draw_20 : decode cX11_draw 20 = .ok (.aload_n 0, 1) := by decide +kernel
theorem dX11_draw_21 : decode cX11_draw 21 = .ok (.getfield 212, 3) := by decide +kernel
theorem dX11_draw_24 : decode cX11_draw 24 = .ok (.ldc2_w 220, 3) := by decide +kernel
theorem dX11_draw_27 : decode cX11_draw 27 = .ok (.ldiv, 1) := by decide +kernel
theorem dX11_draw_28 : decode cX11_draw 28 = .ok (.iload_n 1, 1) := by decide +kernel
theorem dX11_draw_29 : decode cX11_draw 29 = .ok (.i2l, 1) := by decide +kernel
theorem dX11_draw_30 : decode cX11_draw 30 = .ok (.lrem, 1) := by decide +kernel
theorem dX11_draw_31 : decode cX11_draw 31 = .ok (.l2i, 1) := by decide +kernel
theorem dX11_draw_32 : decode cX11_draw 32 = .ok (.ireturn, 1) := by decide +kernel
set_option maxRecDepth 20000 in
theorem ggX11_boxBy_X11_weight : GoodIn wsX11_boxBy wsX11_weight := goodIn_r _ [6, 7, 1, 8, 9, 10, 11, 12, 13, 5, 14, 15, 16, 17, 18, 19, 20, 21, 22, 23, 24, 25, 26, 27, 28, 29, 30, 31, 32, 33, 34, 35, 36, 37, 38, 39, 40, 41, 42, 43, 44, 45, 46, 47, 48, 49, 50, 51, 52, 53, 54, 55, 56, 57, 58] (by decide +kernel) (by decide +kernel)
set_option maxRecDepth 20000 in
theorem gX11_boxBy_X11_weight : GoodIn wsX11_boxBy (wsV RX11 119 RX11 yX11_weight wsX11_weight) := goodIn_app (goodIn_of _ (by decide +kernel)) ggX11_boxBy_X11_weight
theorem dX11_boxBy_0 : decode cX11_boxBy 0 = .ok (.iload_n 1, 1) := by decide +kernel
theorem dX11_boxBy_1 : decode cX11_boxBy 1 = .ok (.istore_n 2, 1) := by decide +kernel
theorem dX11_boxBy_2 : decode cX11_boxBy 2 = .ok (.iconst 0, 1) := by decide +kernel
theorem dX11_boxBy_3 : decode cX11_boxBy 3 = .ok (.istore_n 3, 1) := by decide +kernel
theorem dX11_boxBy_4 : decode cX11_boxBy 4 = .ok (.iload_n 3, 1) := by decide +kernel
theorem dX11_boxBy_5 : decode cX11_boxBy 5 = .ok (.iconst 1, 1) := by decide +kernel
theorem dX11_boxBy_6 : decode cX11_boxBy 6 = .ok (.aload_n 0, 1) := by decide +kernel
theorem dX11_boxBy_7 : decode cX11_boxBy 7 = .ok (.getfield 71, 3) := by decide +kernel
theorem dX11_boxBy_10 : decode cX11_boxBy 10 = .ok (.ishl, 1) := by decide +kernel
theorem dX11_boxBy_11 : decode cX11_boxBy 11 = .ok (.if_icmp .ge 30, 3) := by decide +kernel
theorem dX11_boxBy_14 : decode cX11_boxBy 14 = .ok (.aload_n 0, 1) := by decide +kernel
theorem dX11_boxBy_15 : decode cX11_boxBy 15 = .ok (.iload_n 3, 1) := by decide +kernel
theorem dX11_boxBy_16 : decode cX11_boxBy 16 = .ok (.iconst (-1), 1) := by decide +kernel
theorem dX11_boxBy_17 : decode cX11_boxBy 17 = .ok (.iconst 0, 1) := by decide +kernel
theorem dX11_boxBy_18 : decode cX11_boxBy 18 = .ok (.invokevirtual 119, 3) := by decide +kernel
theorem dX11_boxBy_21 : decode cX11_boxBy 21 = .ok (.lconst 0, 1) := by decide +kernel
theorem dX11_boxBy_22 : decode cX11_boxBy 22 = .ok (.lcmp, 1) := by decide +kernel
theorem dX11_boxBy_23 : decode cX11_boxBy 23 = .ok (.ifCond .le 12, 3) := by decide +kernel
theorem dX11_boxBy_26 : decode cX11_boxBy 26 = .ok (.iload_n 2, 1) := by decide +kernel
theorem dX11_boxBy_27 : decode cX11_boxBy 27 = .ok (.ifCond .ne 5, 3) := by decide +kernel
theorem dX11_boxBy_30 : decode cX11_boxBy 30 = .ok (.iload_n 3, 1) := by decide +kernel
theorem dX11_boxBy_31 : decode cX11_boxBy 31 = .ok (.ireturn, 1) := by decide +kernel
theorem dX11_boxBy_32 : decode cX11_boxBy 32 = .ok (.iinc 2 (-1), 3) := by decide +kernel
theorem dX11_boxBy_35 : decode cX11_boxBy 35 = .ok (.iinc 3 1, 3) := by decide +kernel
theorem dX11_boxBy_38 : decode cX11_boxBy 38 = .ok (.goto (-34), 3) := by decide +kernel
theorem dX11_boxBy_41 : decode cX11_boxBy 41 = .ok (.iconst (-1), 1) := by decide +kernel
theorem dX11_boxBy_42 : decode cX11_boxBy 42 = .ok (.ireturn, 1) := by decide +kernel
set_option maxRecDepth 20000 in
theorem ggX11_morningsNow_X11_fitsNow : GoodIn wsX11_morningsNow wsX11_fitsNow := goodIn_r _ [9, 2, 10, 11, 12, 8, 13, 14, 15, 3, 4, 16, 17, 18, 19, 20, 21, 22, 23, 24, 25, 26, 27, 28, 29, 30, 31, 44, 45, 46, 47, 48, 49, 50, 51, 52, 53, 54, 55, 56, 57, 58, 59, 60, 61, 62, 63, 64, 65, 66, 67, 68, 69, 70, 71, 72, 73, 74, 75] (by decide +kernel) (by decide +kernel)
set_option maxRecDepth 20000 in
theorem gX11_morningsNow_X11_fitsNow : GoodIn wsX11_morningsNow (wsV RX11 207 RX11 yX11_fitsNow wsX11_fitsNow) := goodIn_app (goodIn_of _ (by decide +kernel)) ggX11_morningsNow_X11_fitsNow
set_option maxRecDepth 20000 in
theorem ggX11_morningsNow_X11_draw : GoodIn wsX11_morningsNow wsX11_draw := goodIn_r _ [35, 36, 1, 37, 38, 39, 44, 45, 46, 47, 48, 49, 50, 51, 52, 53, 54, 55, 56, 57, 58, 59, 60, 61, 62, 63, 64, 65, 66, 67, 68, 69, 70, 71, 72, 73, 74, 75] (by decide +kernel) (by decide +kernel)
set_option maxRecDepth 20000 in
theorem gX11_morningsNow_X11_draw : GoodIn wsX11_morningsNow (wsV RX11 222 RX11 yX11_draw wsX11_draw) := goodIn_app (goodIn_of _ (by decide +kernel)) ggX11_morningsNow_X11_draw
set_option maxRecDepth 20000 in
theorem ggX11_morningsNow_X11_boxBy : GoodIn wsX11_morningsNow wsX11_boxBy := goodIn_r _ [43, 2, 10, 11, 12, 8, 13, 14, 15, 3, 4, 16, 17, 18, 19, 20, 21, 22, 23, 24, 25, 26, 27, 28, 29, 30, 31, 44, 45, 46, 47, 48, 49, 50, 51, 52, 53, 54, 55, 56, 57, 58, 59, 60, 61, 62, 63, 64, 65, 66, 67, 68, 69, 70, 71, 72, 73, 74, 75] (by decide +kernel) (by decide +kernel)
set_option maxRecDepth 20000 in
theorem gX11_morningsNow_X11_boxBy : GoodIn wsX11_morningsNow (wsV RX11 225 RX11 yX11_boxBy wsX11_boxBy) := goodIn_app (goodIn_of _ (by decide +kernel)) ggX11_morningsNow_X11_boxBy
set_option maxRecDepth 20000 in
theorem ggX11_morningsNow_X11_has : GoodIn wsX11_morningsNow wsX11_has := goodIn_r _ [22] (by decide +kernel) (by decide +kernel)
set_option maxRecDepth 20000 in
theorem gX11_morningsNow_X11_has : GoodIn wsX11_morningsNow (va_wsS RX11 112 yX11_has wsX11_has) := goodIn_app (goodIn_of _ (by decide +kernel)) ggX11_morningsNow_X11_has
theorem dX11_morningsNow_0 : decode cX11_morningsNow 0 = .ok (.aload_n 0, 1) := by decide +kernel
theorem dX11_morningsNow_1 : decode cX11_morningsNow 1 = .ok (.iload_n 2, 1) := by decide +kernel
theorem dX11_morningsNow_2 : decode cX11_morningsNow 2 = .ok (.i2l, 1) := by decide +kernel
theorem dX11_morningsNow_3 : decode cX11_morningsNow 3 = .ok (.putfield 212, 3) := by decide +kernel
theorem dX11_morningsNow_6 : decode cX11_morningsNow 6 = .ok (.aload_n 0, 1) := by decide +kernel
theorem dX11_morningsNow_7 : decode cX11_morningsNow 7 = .ok (.iconst 0, 1) := by decide +kernel
theorem dX11_morningsNow_8 : decode cX11_morningsNow 8 = .ok (.invokevirtual 207, 3) := by decide +kernel
theorem dX11_morningsNow_11 : decode cX11_morningsNow 11 = .ok (.istore 4, 2) := by decide +kernel
theorem dX11_morningsNow_13 : decode cX11_morningsNow 13 = .ok (.iconst 0, 1) := by decide +kernel
theorem dX11_morningsNow_14 : decode cX11_morningsNow 14 = .ok (.istore 5, 2) := by decide +kernel
theorem dX11_morningsNow_16 : decode cX11_morningsNow 16 = .ok (.iconst 0, 1) := by decide +kernel
theorem dX11_morningsNow_17 : decode cX11_morningsNow 17 = .ok (.istore 6, 2) := by decide +kernel
theorem dX11_morningsNow_19 : decode cX11_morningsNow 19 = .ok (.iload 6, 2) := by decide +kernel
theorem dX11_morningsNow_21 : decode cX11_morningsNow 21 = .ok (.iload_n 1, 1) := by decide +kernel
theorem dX11_morningsNow_22 : decode cX11_morningsNow 22 = .ok (.if_icmp .ge 97, 3) := by decide +kernel
theorem dX11_morningsNow_25 : decode cX11_morningsNow 25 = .ok (.aload_n 0, 1) := by decide +kernel
theorem dX11_morningsNow_26 : decode cX11_morningsNow 26 = .ok (.aload_n 0, 1) := by decide +kernel
theorem dX11_morningsNow_27 : decode cX11_morningsNow 27 = .ok (.iload 4, 2) := by decide +kernel
theorem dX11_morningsNow_29 : decode cX11_morningsNow 29 = .ok (.invokevirtual 222, 3) := by decide +kernel
theorem dX11_morningsNow_32 : decode cX11_morningsNow 32 = .ok (.invokevirtual 225, 3) := by decide +kernel
theorem dX11_morningsNow_35 : decode cX11_morningsNow 35 = .ok (.istore 7, 2) := by decide +kernel
theorem dX11_morningsNow_37 : decode cX11_morningsNow 37 = .ok (.iconst 0, 1) := by decide +kernel
theorem dX11_morningsNow_38 : decode cX11_morningsNow 38 = .ok (.istore 8, 2) := by decide +kernel
theorem dX11_morningsNow_40 : decode cX11_morningsNow 40 = .ok (.iload 8, 2) := by decide +kernel
theorem dX11_morningsNow_42 : decode cX11_morningsNow 42 = .ok (.aload_n 0, 1) := by decide +kernel
theorem dX11_morningsNow_43 : decode cX11_morningsNow 43 = .ok (.getfield 71, 3) := by decide +kernel
theorem dX11_morningsNow_46 : decode cX11_morningsNow 46 = .ok (.if_icmp .ge 67, 3) := by decide +kernel
theorem dX11_morningsNow_49 : decode cX11_morningsNow 49 = .ok (.iload 7, 2) := by decide +kernel
theorem dX11_morningsNow_51 : decode cX11_morningsNow 51 = .ok (.iload 8, 2) := by decide +kernel
theorem dX11_morningsNow_53 : decode cX11_morningsNow 53 = .ok (.invokestatic 112, 3) := by decide +kernel
theorem dX11_morningsNow_56 : decode cX11_morningsNow 56 = .ok (.istore 9, 2) := by decide +kernel
theorem dX11_morningsNow_58 : decode cX11_morningsNow 58 = .ok (.aload_n 0, 1) := by decide +kernel
theorem dX11_morningsNow_59 : decode cX11_morningsNow 59 = .ok (.bipush 10, 2) := by decide +kernel
theorem dX11_morningsNow_61 : decode cX11_morningsNow 61 = .ok (.invokevirtual 222, 3) := by decide +kernel
theorem dX11_morningsNow_64 : decode cX11_morningsNow 64 = .ok (.iload 9, 2) := by decide +kernel
theorem dX11_morningsNow_66 : decode cX11_morningsNow 66 = .ok (.ifCond .eq 10, 3) := by decide +kernel
theorem dX11_morningsNow_69 : decode cX11_morningsNow 69 = .ok (.aload_n 0, 1) := by decide +kernel
theorem dX11_morningsNow_70 : decode cX11_morningsNow 70 = .ok (.getfield 77, 3) := by decide +kernel
theorem dX11_morningsNow_73 : decode cX11_morningsNow 73 = .ok (.goto 7, 3) := by decide +kernel
theorem dX11_morningsNow_76 : decode cX11_morningsNow 76 = .ok (.aload_n 0, 1) := by decide +kernel
theorem dX11_morningsNow_77 : decode cX11_morningsNow 77 = .ok (.getfield 80, 3) := by decide +kernel
theorem dX11_morningsNow_80 : decode cX11_morningsNow 80 = .ok (.if_icmp .ge 7, 3) := by decide +kernel
theorem dX11_morningsNow_83 : decode cX11_morningsNow 83 = .ok (.iconst 1, 1) := by decide +kernel
theorem dX11_morningsNow_84 : decode cX11_morningsNow 84 = .ok (.goto 4, 3) := by decide +kernel
theorem dX11_morningsNow_87 : decode cX11_morningsNow 87 = .ok (.iconst 0, 1) := by decide +kernel
theorem dX11_morningsNow_88 : decode cX11_morningsNow 88 = .ok (.istore 10, 2) := by decide +kernel
theorem dX11_morningsNow_90 : decode cX11_morningsNow 90 = .ok (.iload 5, 2) := by decide +kernel
theorem dX11_morningsNow_92 : decode cX11_morningsNow 92 = .ok (.iload 10, 2) := by decide +kernel
theorem dX11_morningsNow_94 : decode cX11_morningsNow 94 = .ok (.iload 9, 2) := by decide +kernel
theorem dX11_morningsNow_96 : decode cX11_morningsNow 96 = .ok (.if_icmp .ne 7, 3) := by decide +kernel
theorem dX11_morningsNow_99 : decode cX11_morningsNow 99 = .ok (.iconst 1, 1) := by decide +kernel
theorem dX11_morningsNow_100 : decode cX11_morningsNow 100 = .ok (.goto 4, 3) := by decide +kernel
theorem dX11_morningsNow_103 : decode cX11_morningsNow 103 = .ok (.iconst 0, 1) := by decide +kernel
theorem dX11_morningsNow_104 : decode cX11_morningsNow 104 = .ok (.iadd, 1) := by decide +kernel
theorem dX11_morningsNow_105 : decode cX11_morningsNow 105 = .ok (.istore 5, 2) := by decide +kernel
theorem dX11_morningsNow_107 : decode cX11_morningsNow 107 = .ok (.iinc 8 1, 3) := by decide +kernel
theorem dX11_morningsNow_110 : decode cX11_morningsNow 110 = .ok (.goto (-70), 3) := by decide +kernel
theorem dX11_morningsNow_113 : decode cX11_morningsNow 113 = .ok (.iinc 6 1, 3) := by decide +kernel
theorem dX11_morningsNow_116 : decode cX11_morningsNow 116 = .ok (.goto (-97), 3) := by decide +kernel
theorem dX11_morningsNow_119 : decode cX11_morningsNow 119 = .ok (.iload_n 3, 1) := by decide +kernel
theorem dX11_morningsNow_120 : decode cX11_morningsNow 120 = .ok (.ifCond .ne 8, 3) := by decide +kernel
theorem dX11_morningsNow_123 : decode cX11_morningsNow 123 = .ok (.iload 5, 2) := by decide +kernel
theorem dX11_morningsNow_125 : decode cX11_morningsNow 125 = .ok (.goto 8, 3) := by decide +kernel
theorem dX11_morningsNow_128 : decode cX11_morningsNow 128 = .ok (.aload_n 0, 1) := by decide +kernel
theorem dX11_morningsNow_129 : decode cX11_morningsNow 129 = .ok (.getfield 212, 3) := by decide +kernel
theorem dX11_morningsNow_132 : decode cX11_morningsNow 132 = .ok (.l2i, 1) := by decide +kernel
theorem dX11_morningsNow_133 : decode cX11_morningsNow 133 = .ok (.ireturn, 1) := by decide +kernel
set_option maxRecDepth 20000 in
theorem ggX11_mornings_X11_within : GoodIn wsX11_mornings wsX11_within := goodIn_r _ [5] (by decide +kernel) (by decide +kernel)
set_option maxRecDepth 20000 in
theorem gX11_mornings_X11_within : GoodIn wsX11_mornings (va_wsS RX11 51 yX11_within wsX11_within) := goodIn_app (goodIn_of _ (by decide +kernel)) ggX11_mornings_X11_within
set_option maxRecDepth 20000 in
theorem ggX11_mornings_X11_morningsNow : GoodIn wsX11_mornings wsX11_morningsNow := goodIn_r _ [9, 10, 1, 11, 12, 13, 14, 15, 4, 16, 17, 18, 19, 20, 21, 22, 23, 24, 25, 26, 27, 28, 29, 30, 31, 32, 33, 34, 35, 36, 37, 38, 39, 40, 41, 42, 43, 44, 45, 46, 47, 48, 49, 50, 51, 52, 53, 54, 55, 56, 57, 58, 59, 60, 61, 62, 63, 64, 65, 66, 67, 68, 69, 70, 71, 72, 73, 74, 75, 76, 77, 78, 79, 80, 81, 82] (by decide +kernel) (by decide +kernel)
set_option maxRecDepth 20000 in
theorem gX11_mornings_X11_morningsNow : GoodIn wsX11_mornings (wsV RX11 228 RX11 yX11_morningsNow wsX11_morningsNow) := goodIn_app (goodIn_of _ (by decide +kernel)) ggX11_mornings_X11_morningsNow
theorem dX11_mornings_0 : decode cX11_mornings 0 = .ok (.iload_n 1, 1) := by decide +kernel
theorem dX11_mornings_1 : decode cX11_mornings 1 = .ok (.iconst 1, 1) := by decide +kernel
theorem dX11_mornings_2 : decode cX11_mornings 2 = .ok (.bipush 40, 2) := by decide +kernel
theorem dX11_mornings_4 : decode cX11_mornings 4 = .ok (.invokestatic 51, 3) := by decide +kernel
theorem dX11_mornings_7 : decode cX11_mornings 7 = .ok (.ifCond .eq 16, 3) := by decide +kernel
theorem dX11_mornings_10 : decode cX11_mornings 10 = .ok (.iload_n 2, 1) := by decide +kernel
theorem dX11_mornings_11 : decode cX11_mornings 11 = .ok (.ifCond .lt 12, 3) := by decide +kernel
theorem dX11_mornings_14 : decode cX11_mornings 14 = .ok (.iload_n 3, 1) := by decide +kernel
theorem dX11_mornings_15 : decode cX11_mornings 15 = .ok (.iconst 0, 1) := by decide +kernel
theorem dX11_mornings_16 : decode cX11_mornings 16 = .ok (.iconst 1, 1) := by decide +kernel
theorem dX11_mornings_17 : decode cX11_mornings 17 = .ok (.invokestatic 51, 3) := by decide +kernel
theorem dX11_mornings_20 : decode cX11_mornings 20 = .ok (.ifCond .ne 6, 3) := by decide +kernel
theorem dX11_mornings_23 : decode cX11_mornings 23 = .ok (.bipush (-102), 2) := by decide +kernel
theorem dX11_mornings_25 : decode cX11_mornings 25 = .ok (.ireturn, 1) := by decide +kernel
theorem dX11_mornings_26 : decode cX11_mornings 26 = .ok (.aload_n 0, 1) := by decide +kernel
theorem dX11_mornings_27 : decode cX11_mornings 27 = .ok (.getfield 71, 3) := by decide +kernel
theorem dX11_mornings_30 : decode cX11_mornings 30 = .ok (.ifCond .ne 8, 3) := by decide +kernel
theorem dX11_mornings_33 : decode cX11_mornings 33 = .ok (.bipush (-103), 2) := by decide +kernel
theorem dX11_mornings_35 : decode cX11_mornings 35 = .ok (.goto 10, 3) := by decide +kernel
theorem dX11_mornings_38 : decode cX11_mornings 38 = .ok (.aload_n 0, 1) := by decide +kernel
theorem dX11_mornings_39 : decode cX11_mornings 39 = .ok (.iload_n 1, 1) := by decide +kernel
theorem dX11_mornings_40 : decode cX11_mornings 40 = .ok (.iload_n 2, 1) := by decide +kernel
theorem dX11_mornings_41 : decode cX11_mornings 41 = .ok (.iload_n 3, 1) := by decide +kernel
theorem dX11_mornings_42 : decode cX11_mornings 42 = .ok (.invokevirtual 228, 3) := by decide +kernel
theorem dX11_mornings_45 : decode cX11_mornings 45 = .ok (.ireturn, 1) := by decide +kernel
set_option maxRecDepth 20000 in
theorem ggX11_image_X11_size : GoodIn wsX11_image wsX11_size := goodIn_r _ [20] (by decide +kernel) (by decide +kernel)
set_option maxRecDepth 20000 in
theorem gX11_image_X11_size : GoodIn wsX11_image (va_wsS RX11 109 yX11_size wsX11_size) := goodIn_app (goodIn_of _ (by decide +kernel)) ggX11_image_X11_size
theorem dX11_image_0 : decode cX11_image 0 = .ok (.aload_n 0, 1) := by decide +kernel
theorem dX11_image_1 : decode cX11_image 1 = .ok (.getfield 71, 3) := by decide +kernel
theorem dX11_image_4 : decode cX11_image 4 = .ok (.ifCond .ne 6, 3) := by decide +kernel
theorem dX11_image_7 : decode cX11_image 7 = .ok (.bipush (-103), 2) := by decide +kernel
theorem dX11_image_9 : decode cX11_image 9 = .ok (.ireturn, 1) := by decide +kernel
theorem dX11_image_10 : decode cX11_image 10 = .ok (.aload_n 0, 1) := by decide +kernel
theorem dX11_image_11 : decode cX11_image 11 = .ok (.iconst 1, 1) := by decide +kernel
theorem dX11_image_12 : decode cX11_image 12 = .ok (.putfield 232, 3) := by decide +kernel
theorem dX11_image_15 : decode cX11_image 15 = .ok (.aload_n 0, 1) := by decide +kernel
theorem dX11_image_16 : decode cX11_image 16 = .ok (.aload_n 0, 1) := by decide +kernel
theorem dX11_image_17 : decode cX11_image 17 = .ok (.getfield 95, 3) := by decide +kernel
theorem dX11_image_20 : decode cX11_image 20 = .ok (.putfield 236, 3) := by decide +kernel
theorem dX11_image_23 : decode cX11_image 23 = .ok (.aload_n 0, 1) := by decide +kernel
theorem dX11_image_24 : decode cX11_image 24 = .ok (.aload_n 0, 1) := by decide +kernel
theorem dX11_image_25 : decode cX11_image 25 = .ok (.getfield 86, 3) := by decide +kernel
theorem dX11_image_28 : decode cX11_image 28 = .ok (.putfield 239, 3) := by decide +kernel
theorem dX11_image_31 : decode cX11_image 31 = .ok (.aload_n 0, 1) := by decide +kernel
theorem dX11_image_32 : decode cX11_image 32 = .ok (.aload_n 0, 1) := by decide +kernel
theorem dX11_image_33 : decode cX11_image 33 = .ok (.getfield 89, 3) := by decide +kernel
theorem dX11_image_36 : decode cX11_image 36 = .ok (.putfield 242, 3) := by decide +kernel
theorem dX11_image_39 : decode cX11_image 39 = .ok (.aload_n 0, 1) := by decide +kernel
theorem dX11_image_40 : decode cX11_image 40 = .ok (.aload_n 0, 1) := by decide +kernel
theorem dX11_image_41 : decode cX11_image 41 = .ok (.getfield 92, 3) := by decide +kernel
theorem dX11_image_44 : decode cX11_image 44 = .ok (.putfield 245, 3) := by decide +kernel
theorem dX11_image_47 : decode cX11_image 47 = .ok (.iconst 0, 1) := by decide +kernel
theorem dX11_image_48 : decode cX11_image 48 = .ok (.istore_n 1, 1) := by decide +kernel
theorem dX11_image_49 : decode cX11_image 49 = .ok (.iload_n 1, 1) := by decide +kernel
theorem dX11_image_50 : decode cX11_image 50 = .ok (.bipush 6, 2) := by decide +kernel
theorem dX11_image_52 : decode cX11_image 52 = .ok (.if_icmp .ge 45, 3) := by decide +kernel
theorem dX11_image_55 : decode cX11_image 55 = .ok (.aload_n 0, 1) := by decide +kernel
theorem dX11_image_56 : decode cX11_image 56 = .ok (.getfield 42, 3) := by decide +kernel
theorem dX11_image_59 : decode cX11_image 59 = .ok (.iload_n 1, 1) := by decide +kernel
theorem dX11_image_60 : decode cX11_image 60 = .ok (.aload_n 0, 1) := by decide +kernel
theorem dX11_image_61 : decode cX11_image 61 = .ok (.getfield 13, 3) := by decide +kernel
theorem dX11_image_64 : decode cX11_image 64 = .ok (.iload_n 1, 1) := by decide +kernel
theorem dX11_image_65 : decode cX11_image 65 = .ok (.iaload, 1) := by decide +kernel
theorem dX11_image_66 : decode cX11_image 66 = .ok (.iastore, 1) := by decide +kernel
theorem dX11_image_67 : decode cX11_image 67 = .ok (.aload_n 0, 1) := by decide +kernel
theorem dX11_image_68 : decode cX11_image 68 = .ok (.getfield 45, 3) := by decide +kernel
theorem dX11_image_71 : decode cX11_image 71 = .ok (.iload_n 1, 1) := by decide +kernel
theorem dX11_image_72 : decode cX11_image 72 = .ok (.aload_n 0, 1) := by decide +kernel
theorem dX11_image_73 : decode cX11_image 73 = .ok (.getfield 16, 3) := by decide +kernel
theorem dX11_image_76 : decode cX11_image 76 = .ok (.iload_n 1, 1) := by decide +kernel
theorem dX11_image_77 : decode cX11_image 77 = .ok (.iaload, 1) := by decide +kernel
theorem dX11_image_78 : decode cX11_image 78 = .ok (.iastore, 1) := by decide +kernel
theorem dX11_image_79 : decode cX11_image 79 = .ok (.aload_n 0, 1) := by decide +kernel
theorem dX11_image_80 : decode cX11_image 80 = .ok (.getfield 48, 3) := by decide +kernel
theorem dX11_image_83 : decode cX11_image 83 = .ok (.iload_n 1, 1) := by decide +kernel
theorem dX11_image_84 : decode cX11_image 84 = .ok (.aload_n 0, 1) := by decide +kernel
theorem dX11_image_85 : decode cX11_image 85 = .ok (.getfield 19, 3) := by decide +kernel
theorem dX11_image_88 : decode cX11_image 88 = .ok (.iload_n 1, 1) := by decide +kernel
theorem dX11_image_89 : decode cX11_image 89 = .ok (.iaload, 1) := by decide +kernel
theorem dX11_image_90 : decode cX11_image 90 = .ok (.iastore, 1) := by decide +kernel
theorem dX11_image_91 : decode cX11_image 91 = .ok (.iinc 1 1, 3) := by decide +kernel
theorem dX11_image_94 : decode cX11_image 94 = .ok (.goto (-45), 3) := by decide +kernel
theorem dX11_image_97 : decode cX11_image 97 = .ok (.aload_n 0, 1) := by decide +kernel
theorem dX11_image_98 : decode cX11_image 98 = .ok (.getfield 86, 3) := by decide +kernel
theorem dX11_image_101 : decode cX11_image 101 = .ok (.invokestatic 109, 3) := by decide +kernel
theorem dX11_image_104 : decode cX11_image 104 = .ok (.ireturn, 1) := by decide +kernel
set_option maxRecDepth 20000 in
theorem ggX11_restore_X11_size : GoodIn wsX11_restore wsX11_size := goodIn_r _ [19] (by decide +kernel) (by decide +kernel)
set_option maxRecDepth 20000 in
theorem gX11_restore_X11_size : GoodIn wsX11_restore (va_wsS RX11 109 yX11_size wsX11_size) := goodIn_app (goodIn_of _ (by decide +kernel)) ggX11_restore_X11_size
theorem dX11_restore_0 : decode cX11_restore 0 = .ok (.aload_n 0, 1) := by decide +kernel
theorem dX11_restore_1 : decode cX11_restore 1 = .ok (.getfield 232, 3) := by decide +kernel
theorem dX11_restore_4 : decode cX11_restore 4 = .ok (.ifCond .eq 14, 3) := by decide +kernel
theorem dX11_restore_7 : decode cX11_restore 7 = .ok (.aload_n 0, 1) := by decide +kernel
theorem dX11_restore_8 : decode cX11_restore 8 = .ok (.getfield 236, 3) := by decide +kernel
theorem dX11_restore_11 : decode cX11_restore 11 = .ok (.aload_n 0, 1) := by decide +kernel
theorem dX11_restore_12 : decode cX11_restore 12 = .ok (.getfield 95, 3) := by decide +kernel
theorem dX11_restore_15 : decode cX11_restore 15 = .ok (.if_icmp .eq 6, 3) := by decide +kernel
theorem dX11_restore_18 : decode cX11_restore 18 = .ok (.bipush (-103), 2) := by decide +kernel
theorem dX11_restore_20 : decode cX11_restore 20 = .ok (.ireturn, 1) := by decide +kernel
theorem dX11_restore_21 : decode cX11_restore 21 = .ok (.aload_n 0, 1) := by decide +kernel
theorem dX11_restore_22 : decode cX11_restore 22 = .ok (.aload_n 0, 1) := by decide +kernel
theorem dX11_restore_23 : decode cX11_restore 23 = .ok (.getfield 239, 3) := by decide +kernel
theorem dX11_restore_26 : decode cX11_restore 26 = .ok (.putfield 86, 3) := by decide +kernel
theorem dX11_restore_29 : decode cX11_restore 29 = .ok (.aload_n 0, 1) := by decide +kernel
theorem dX11_restore_30 : decode cX11_restore 30 = .ok (.aload_n 0, 1) := by decide +kernel
theorem dX11_restore_31 : decode cX11_restore 31 = .ok (.getfield 242, 3) := by decide +kernel
theorem dX11_restore_34 : decode cX11_restore 34 = .ok (.putfield 89, 3) := by decide +kernel
theorem dX11_restore_37 : decode cX11_restore 37 = .ok (.aload_n 0, 1) := by decide +kernel
theorem dX11_restore_38 : decode cX11_restore 38 = .ok (.aload_n 0, 1) := by decide +kernel
theorem dX11_restore_39 : decode cX11_restore 39 = .ok (.getfield 245, 3) := by decide +kernel
theorem dX11_restore_42 : decode cX11_restore 42 = .ok (.putfield 92, 3) := by decide +kernel
theorem dX11_restore_45 : decode cX11_restore 45 = .ok (.iconst 0, 1) := by decide +kernel
theorem dX11_restore_46 : decode cX11_restore 46 = .ok (.istore_n 1, 1) := by decide +kernel
theorem dX11_restore_47 : decode cX11_restore 47 = .ok (.iload_n 1, 1) := by decide +kernel
theorem dX11_restore_48 : decode cX11_restore 48 = .ok (.bipush 6, 2) := by decide +kernel
theorem dX11_restore_50 : decode cX11_restore 50 = .ok (.if_icmp .ge 45, 3) := by decide +kernel
theorem dX11_restore_53 : decode cX11_restore 53 = .ok (.aload_n 0, 1) := by decide +kernel
theorem dX11_restore_54 : decode cX11_restore 54 = .ok (.getfield 13, 3) := by decide +kernel
theorem dX11_restore_57 : decode cX11_restore 57 = .ok (.iload_n 1, 1) := by decide +kernel
theorem dX11_restore_58 : decode cX11_restore 58 = .ok (.aload_n 0, 1) := by decide +kernel
theorem dX11_restore_59 : decode cX11_restore 59 = .ok (.getfield 42, 3) := by decide +kernel
theorem dX11_restore_62 : decode cX11_restore 62 = .ok (.iload_n 1, 1) := by decide +kernel
theorem dX11_restore_63 : decode cX11_restore 63 = .ok (.iaload, 1) := by decide +kernel
theorem dX11_restore_64 : decode cX11_restore 64 = .ok (.iastore, 1) := by decide +kernel
theorem dX11_restore_65 : decode cX11_restore 65 = .ok (.aload_n 0, 1) := by decide +kernel
theorem dX11_restore_66 : decode cX11_restore 66 = .ok (.getfield 16, 3) := by decide +kernel
theorem dX11_restore_69 : decode cX11_restore 69 = .ok (.iload_n 1, 1) := by decide +kernel
theorem dX11_restore_70 : decode cX11_restore 70 = .ok (.aload_n 0, 1) := by decide +kernel
theorem dX11_restore_71 : decode cX11_restore 71 = .ok (.getfield 45, 3) := by decide +kernel
theorem dX11_restore_74 : decode cX11_restore 74 = .ok (.iload_n 1, 1) := by decide +kernel
theorem dX11_restore_75 : decode cX11_restore 75 = .ok (.iaload, 1) := by decide +kernel
theorem dX11_restore_76 : decode cX11_restore 76 = .ok (.iastore, 1) := by decide +kernel
theorem dX11_restore_77 : decode cX11_restore 77 = .ok (.aload_n 0, 1) := by decide +kernel
theorem dX11_restore_78 : decode cX11_restore 78 = .ok (.getfield 19, 3) := by decide +kernel
theorem dX11_restore_81 : decode cX11_restore 81 = .ok (.iload_n 1, 1) := by decide +kernel
theorem dX11_restore_82 : decode cX11_restore 82 = .ok (.aload_n 0, 1) := by decide +kernel
theorem dX11_restore_83 : decode cX11_restore 83 = .ok (.getfield 48, 3) := by decide +kernel
theorem dX11_restore_86 : decode cX11_restore 86 = .ok (.iload_n 1, 1) := by decide +kernel
theorem dX11_restore_87 : decode cX11_restore 87 = .ok (.iaload, 1) := by decide +kernel
theorem dX11_restore_88 : decode cX11_restore 88 = .ok (.iastore, 1) := by decide +kernel
theorem dX11_restore_89 : decode cX11_restore 89 = .ok (.iinc 1 1, 3) := by decide +kernel
theorem dX11_restore_92 : decode cX11_restore 92 = .ok (.goto (-45), 3) := by decide +kernel
theorem dX11_restore_95 : decode cX11_restore 95 = .ok (.aload_n 0, 1) := by decide +kernel
theorem dX11_restore_96 : decode cX11_restore 96 = .ok (.getfield 86, 3) := by decide +kernel
theorem dX11_restore_99 : decode cX11_restore 99 = .ok (.invokestatic 109, 3) := by decide +kernel
theorem dX11_restore_102 : decode cX11_restore 102 = .ok (.ireturn, 1) := by decide +kernel
set_option maxRecDepth 20000 in
theorem ggX11_howMany_X11_size : GoodIn wsX11_howMany wsX11_size := goodIn_r _ [15] (by decide +kernel) (by decide +kernel)
set_option maxRecDepth 20000 in
theorem gX11_howMany_X11_size : GoodIn wsX11_howMany (va_wsS RX11 109 yX11_size wsX11_size) := goodIn_app (goodIn_of _ (by decide +kernel)) ggX11_howMany_X11_size
theorem dX11_howMany_0 : decode cX11_howMany 0 = .ok (.iload_n 1, 1) := by decide +kernel
theorem dX11_howMany_1 : decode cX11_howMany 1 = .ok (.tableswitch 117 0 10 #[59, 64, 69, 74, 79, 84, 92, 97, 102, 107, 112], 59) := by decide +kernel
theorem dX11_howMany_60 : decode cX11_howMany 60 = .ok (.aload_n 0, 1) := by decide +kernel
theorem dX11_howMany_61 : decode cX11_howMany 61 = .ok (.getfield 71, 3) := by decide +kernel
theorem dX11_howMany_64 : decode cX11_howMany 64 = .ok (.ireturn, 1) := by decide +kernel
theorem dX11_howMany_65 : decode cX11_howMany 65 = .ok (.aload_n 0, 1) := by decide +kernel
theorem dX11_howMany_66 : decode cX11_howMany 66 = .ok (.getfield 74, 3) := by decide +kernel
theorem dX11_howMany_69 : decode cX11_howMany 69 = .ok (.ireturn, 1) := by decide +kernel
theorem dX11_howMany_70 : decode cX11_howMany 70 = .ok (.aload_n 0, 1) := by decide +kernel
theorem dX11_howMany_71 : decode cX11_howMany 71 = .ok (.getfield 77, 3) := by decide +kernel
theorem dX11_howMany_74 : decode cX11_howMany 74 = .ok (.ireturn, 1) := by decide +kernel
theorem dX11_howMany_75 : decode cX11_howMany 75 = .ok (.aload_n 0, 1) := by decide +kernel
theorem dX11_howMany_76 : decode cX11_howMany 76 = .ok (.getfield 80, 3) := by decide +kernel
theorem dX11_howMany_79 : decode cX11_howMany 79 = .ok (.ireturn, 1) := by decide +kernel
theorem dX11_howMany_80 : decode cX11_howMany 80 = .ok (.aload_n 0, 1) := by decide +kernel
theorem dX11_howMany_81 : decode cX11_howMany 81 = .ok (.getfield 83, 3) := by decide +kernel
theorem dX11_howMany_84 : decode cX11_howMany 84 = .ok (.ireturn, 1) := by decide +kernel
theorem dX11_howMany_85 : decode cX11_howMany 85 = .ok (.aload_n 0, 1) := by decide +kernel
theorem dX11_howMany_86 : decode cX11_howMany 86 = .ok (.getfield 86, 3) := by decide +kernel
theorem dX11_howMany_89 : decode cX11_howMany 89 = .ok (.invokestatic 109, 3) := by decide +kernel
theorem dX11_howMany_92 : decode cX11_howMany 92 = .ok (.ireturn, 1) := by decide +kernel
theorem dX11_howMany_93 : decode cX11_howMany 93 = .ok (.aload_n 0, 1) := by decide +kernel
theorem dX11_howMany_94 : decode cX11_howMany 94 = .ok (.getfield 89, 3) := by decide +kernel
theorem dX11_howMany_97 : decode cX11_howMany 97 = .ok (.ireturn, 1) := by decide +kernel
theorem dX11_howMany_98 : decode cX11_howMany 98 = .ok (.aload_n 0, 1) := by decide +kernel
theorem dX11_howMany_99 : decode cX11_howMany 99 = .ok (.getfield 92, 3) := by decide +kernel
theorem dX11_howMany_102 : decode cX11_howMany 102 = .ok (.ireturn, 1) := by decide +kernel
theorem dX11_howMany_103 : decode cX11_howMany 103 = .ok (.aload_n 0, 1) := by decide +kernel
theorem dX11_howMany_104 : decode cX11_howMany 104 = .ok (.getfield 55, 3) := by decide +kernel
theorem dX11_howMany_107 : decode cX11_howMany 107 = .ok (.ireturn, 1) := by decide +kernel
theorem dX11_howMany_108 : decode cX11_howMany 108 = .ok (.aload_n 0, 1) := by decide +kernel
theorem dX11_howMany_109 : decode cX11_howMany 109 = .ok (.getfield 95, 3) := by decide +kernel
theorem dX11_howMany_112 : decode cX11_howMany 112 = .ok (.ireturn, 1) := by decide +kernel
theorem dX11_howMany_113 : decode cX11_howMany 113 = .ok (.aload_n 0, 1) := by decide +kernel
theorem dX11_howMany_114 : decode cX11_howMany 114 = .ok (.getfield 178, 3) := by decide +kernel
theorem dX11_howMany_117 : decode cX11_howMany 117 = .ok (.ireturn, 1) := by decide +kernel
theorem dX11_howMany_118 : decode cX11_howMany 118 = .ok (.bipush (-102), 2) := by decide +kernel
theorem dX11_howMany_120 : decode cX11_howMany 120 = .ok (.ireturn, 1) := by decide +kernel
set_option maxRecDepth 20000 in
theorem ggX11_count_X11_howMany : GoodIn wsX11_count wsX11_howMany := goodIn_r _ [5, 6, 7, 8, 9, 10, 11, 12, 13, 14, 15, 16, 17, 18, 4, 19, 20, 21, 22, 23, 24, 25, 26, 27, 28, 29, 30, 31, 32, 33, 34, 35, 36, 37, 38, 39, 40, 41, 42, 43, 44, 45, 46, 47, 48, 49, 50, 51] (by decide +kernel) (by decide +kernel)
set_option maxRecDepth 20000 in
theorem gX11_count_X11_howMany : GoodIn wsX11_count (wsV RX11 248 RX11 yX11_howMany wsX11_howMany) := goodIn_app (goodIn_of _ (by decide +kernel)) ggX11_count_X11_howMany
theorem dX11_count_0 : decode cX11_count 0 = .ok (.aload_n 0, 1) := by decide +kernel
theorem dX11_count_1 : decode cX11_count 1 = .ok (.iload_n 1, 1) := by decide +kernel
theorem dX11_count_2 : decode cX11_count 2 = .ok (.invokevirtual 248, 3) := by decide +kernel
theorem dX11_count_5 : decode cX11_count 5 = .ok (.ireturn, 1) := by decide +kernel
theorem dX11_mix_0 : decode cX11_mix 0 = .ok (.aload_n 0, 1) := by decide +kernel
theorem dX11_mix_1 : decode cX11_mix 1 = .ok (.ldc2_w 251, 3) := by decide +kernel
theorem dX11_mix_4 : decode cX11_mix 4 = .ok (.aload_n 0, 1) := by decide +kernel
theorem dX11_mix_5 : decode cX11_mix 5 = .ok (.getfield 253, 3) := by decide +kernel
theorem dX11_mix_8 : decode cX11_mix 8 = .ok (.lmul, 1) := by decide +kernel
theorem dX11_mix_9 : decode cX11_mix 9 = .ok (.lload_n 1, 1) := by decide +kernel
theorem dX11_mix_10 : decode cX11_mix 10 = .ok (.ladd, 1) := by decide +kernel
theorem dX11_mix_11 : decode cX11_mix 11 = .ok (.putfield 253, 3) := by decide +kernel
theorem dX11_mix_14 : decode cX11_mix 14 = .ok (.return_, 1) := by decide +kernel
set_option maxRecDepth 20000 in
theorem ggX11_digest_X11_eggNow : GoodIn wsX11_digest wsX11_eggNow := goodIn_r _ [11, 12, 13, 14, 15, 16, 91, 92, 93, 94, 95, 96, 97, 98, 99, 100, 101, 102, 103, 104, 105, 106, 107, 108, 109, 110, 111, 112, 113, 114, 115, 116, 117, 118, 119, 120, 121, 122] (by decide +kernel) (by decide +kernel)
set_option maxRecDepth 20000 in
theorem gX11_digest_X11_eggNow : GoodIn wsX11_digest (wsV RX11 101 RX11 yX11_eggNow wsX11_eggNow) := goodIn_app (goodIn_of _ (by decide +kernel)) ggX11_digest_X11_eggNow
set_option maxRecDepth 20000 in
theorem ggX11_digest_X11_mix : GoodIn wsX11_digest wsX11_mix := goodIn_r _ [20, 21, 2, 91, 92, 93, 94, 95, 96, 97, 98, 99, 100, 101, 102, 103, 104, 105, 106, 107, 108, 109, 110, 111, 112, 113, 114, 115, 116, 117, 118, 119, 120, 121, 122] (by decide +kernel) (by decide +kernel)
set_option maxRecDepth 20000 in
theorem gX11_digest_X11_mix : GoodIn wsX11_digest (wsV RX11 258 RX11 yX11_mix wsX11_mix) := goodIn_app (goodIn_of _ (by decide +kernel)) ggX11_digest_X11_mix
set_option maxRecDepth 20000 in
theorem ggX11_digest_X11_likelyNow : GoodIn wsX11_digest wsX11_likelyNow := goodIn_r _ [25, 26, 27, 28, 10, 29, 3, 30, 31, 32, 33, 34, 35, 36, 37, 16, 38, 39, 12, 40, 41, 42, 43, 44, 45, 46, 15, 14, 47, 48, 49, 50, 51, 52, 53, 54, 55, 56, 91, 92, 93, 94, 95, 96, 97, 98, 99, 100, 101, 102, 103, 104, 105, 106, 107, 108, 109, 110, 111, 112, 113, 114, 115, 116, 117, 118, 119, 120, 121, 122] (by decide +kernel) (by decide +kernel)
set_option maxRecDepth 20000 in
theorem gX11_digest_X11_likelyNow : GoodIn wsX11_digest (wsV RX11 141 RX11 yX11_likelyNow wsX11_likelyNow) := goodIn_app (goodIn_of _ (by decide +kernel)) ggX11_digest_X11_likelyNow
set_option maxRecDepth 20000 in
theorem ggX11_digest_X11_trierNow : GoodIn wsX11_digest wsX11_trierNow := goodIn_r _ [60, 61, 62, 63, 64, 10, 65, 3, 66, 67, 68, 69, 13, 30, 31, 32, 70, 71, 72, 73, 74, 50, 51, 52, 53, 33, 34, 35, 36, 37, 16, 38, 39, 12, 40, 41, 42, 43, 44, 45, 46, 15, 14, 47, 48, 49, 26, 27, 28, 29, 91, 92, 93, 94, 95, 96, 97, 98, 99, 100, 101, 102, 103, 104, 105, 106, 107, 108, 109, 110, 111, 112, 113, 114, 115, 116, 117, 118, 119, 120, 121, 122] (by decide +kernel) (by decide +kernel)
set_option maxRecDepth 20000 in
theorem gX11_digest_X11_trierNow : GoodIn wsX11_digest (wsV RX11 204 RX11 yX11_trierNow wsX11_trierNow) := goodIn_app (goodIn_of _ (by decide +kernel)) ggX11_digest_X11_trierNow
set_option maxRecDepth 20000 in
theorem ggX11_digest_X11_likeliestNow : GoodIn wsX11_digest wsX11_likeliestNow := goodIn_r _ [78, 3, 33, 34, 35, 10, 36, 37, 16, 38, 39, 12, 40, 41, 42, 30, 31, 32, 43, 44, 45, 46, 15, 14, 47, 48, 49, 91, 92, 93, 94, 95, 96, 97, 98, 99, 100, 101, 102, 103, 104, 105, 106, 107, 108, 109, 110, 111, 112, 113, 114, 115, 116, 117, 118, 119, 120, 121, 122] (by decide +kernel) (by decide +kernel)
set_option maxRecDepth 20000 in
theorem gX11_digest_X11_likeliestNow : GoodIn wsX11_digest (wsV RX11 146 RX11 yX11_likeliestNow wsX11_likeliestNow) := goodIn_app (goodIn_of _ (by decide +kernel)) ggX11_digest_X11_likeliestNow
set_option maxRecDepth 20000 in
theorem ggX11_digest_X11_fitsNow : GoodIn wsX11_digest wsX11_fitsNow := goodIn_r _ [82, 3, 33, 34, 35, 10, 36, 37, 16, 38, 39, 12, 40, 41, 42, 30, 31, 32, 43, 44, 45, 46, 15, 14, 47, 48, 49, 91, 92, 93, 94, 95, 96, 97, 98, 99, 100, 101, 102, 103, 104, 105, 106, 107, 108, 109, 110, 111, 112, 113, 114, 115, 116, 117, 118, 119, 120, 121, 122] (by decide +kernel) (by decide +kernel)
set_option maxRecDepth 20000 in
theorem gX11_digest_X11_fitsNow : GoodIn wsX11_digest (wsV RX11 207 RX11 yX11_fitsNow wsX11_fitsNow) := goodIn_app (goodIn_of _ (by decide +kernel)) ggX11_digest_X11_fitsNow
set_option maxRecDepth 20000 in
theorem ggX11_digest_X11_howMany : GoodIn wsX11_digest wsX11_howMany := goodIn_r _ [86, 3, 37, 38, 39, 87, 13, 88, 4, 5, 89, 90, 40, 41, 10, 42, 91, 92, 93, 94, 95, 96, 97, 98, 99, 100, 101, 102, 103, 104, 105, 106, 107, 108, 109, 110, 111, 112, 113, 114, 115, 116, 117, 118, 119, 120, 121, 122] (by decide +kernel) (by decide +kernel)
set_option maxRecDepth 20000 in
theorem gX11_digest_X11_howMany : GoodIn wsX11_digest (wsV RX11 248 RX11 yX11_howMany wsX11_howMany) := goodIn_app (goodIn_of _ (by decide +kernel)) ggX11_digest_X11_howMany
theorem dX11_digest_0 : decode cX11_digest 0 = .ok (.aload_n 0, 1) := by decide +kernel
theorem dX11_digest_1 : decode cX11_digest 1 = .ok (.ldc2_w 256, 3) := by decide +kernel
theorem dX11_digest_4 : decode cX11_digest 4 = .ok (.putfield 253, 3) := by decide +kernel
theorem dX11_digest_7 : decode cX11_digest 7 = .ok (.iconst 0, 1) := by decide +kernel
theorem dX11_digest_8 : decode cX11_digest 8 = .ok (.istore_n 1, 1) := by decide +kernel
theorem dX11_digest_9 : decode cX11_digest 9 = .ok (.iload_n 1, 1) := by decide +kernel
theorem dX11_digest_10 : decode cX11_digest 10 = .ok (.aload_n 0, 1) := by decide +kernel
theorem dX11_digest_11 : decode cX11_digest 11 = .ok (.getfield 71, 3) := by decide +kernel
theorem dX11_digest_14 : decode cX11_digest 14 = .ok (.if_icmp .ge 53, 3) := by decide +kernel
theorem dX11_digest_17 : decode cX11_digest 17 = .ok (.iconst 0, 1) := by decide +kernel
theorem dX11_digest_18 : decode cX11_digest 18 = .ok (.istore_n 2, 1) := by decide +kernel
theorem dX11_digest_19 : decode cX11_digest 19 = .ok (.iload_n 2, 1) := by decide +kernel
theorem dX11_digest_20 : decode cX11_digest 20 = .ok (.iconst 5, 1) := by decide +kernel
theorem dX11_digest_21 : decode cX11_digest 21 = .ok (.if_icmp .ge 20, 3) := by decide +kernel
theorem dX11_digest_24 : decode cX11_digest 24 = .ok (.aload_n 0, 1) := by decide +kernel
theorem dX11_digest_25 : decode cX11_digest 25 = .ok (.aload_n 0, 1) := by decide +kernel
theorem dX11_digest_26 : decode cX11_digest 26 = .ok (.iload_n 1, 1) := by decide +kernel
theorem dX11_digest_27 : decode cX11_digest 27 = .ok (.iload_n 2, 1) := by decide +kernel
theorem dX11_digest_28 : decode cX11_digest 28 = .ok (.invokevirtual 101, 3) := by decide +kernel
theorem dX11_digest_31 : decode cX11_digest 31 = .ok (.i2l, 1) := by decide +kernel
theorem dX11_digest_32 : decode cX11_digest 32 = .ok (.invokevirtual 258, 3) := by decide +kernel
theorem dX11_digest_35 : decode cX11_digest 35 = .ok (.iinc 2 1, 3) := by decide +kernel
theorem dX11_digest_38 : decode cX11_digest 38 = .ok (.goto (-19), 3) := by decide +kernel
theorem dX11_digest_41 : decode cX11_digest 41 = .ok (.aload_n 0, 1) := by decide +kernel
theorem dX11_digest_42 : decode cX11_digest 42 = .ok (.aload_n 0, 1) := by decide +kernel
theorem dX11_digest_43 : decode cX11_digest 43 = .ok (.iload_n 1, 1) := by decide +kernel
theorem dX11_digest_44 : decode cX11_digest 44 = .ok (.iconst 0, 1) := by decide +kernel
theorem dX11_digest_45 : decode cX11_digest 45 = .ok (.invokevirtual 141, 3) := by decide +kernel
theorem dX11_digest_48 : decode cX11_digest 48 = .ok (.invokevirtual 258, 3) := by decide +kernel
theorem dX11_digest_51 : decode cX11_digest 51 = .ok (.aload_n 0, 1) := by decide +kernel
theorem dX11_digest_52 : decode cX11_digest 52 = .ok (.aload_n 0, 1) := by decide +kernel
theorem dX11_digest_53 : decode cX11_digest 53 = .ok (.iload_n 1, 1) := by decide +kernel
theorem dX11_digest_54 : decode cX11_digest 54 = .ok (.iconst 1, 1) := by decide +kernel
theorem dX11_digest_55 : decode cX11_digest 55 = .ok (.invokevirtual 141, 3) := by decide +kernel
theorem dX11_digest_58 : decode cX11_digest 58 = .ok (.invokevirtual 258, 3) := by decide +kernel
theorem dX11_digest_61 : decode cX11_digest 61 = .ok (.iinc 1 1, 3) := by decide +kernel
theorem dX11_digest_64 : decode cX11_digest 64 = .ok (.goto (-55), 3) := by decide +kernel
theorem dX11_digest_67 : decode cX11_digest 67 = .ok (.iconst 0, 1) := by decide +kernel
theorem dX11_digest_68 : decode cX11_digest 68 = .ok (.istore_n 1, 1) := by decide +kernel
theorem dX11_digest_69 : decode cX11_digest 69 = .ok (.iload_n 1, 1) := by decide +kernel
theorem dX11_digest_70 : decode cX11_digest 70 = .ok (.aload_n 0, 1) := by decide +kernel
theorem dX11_digest_71 : decode cX11_digest 71 = .ok (.getfield 92, 3) := by decide +kernel
theorem dX11_digest_74 : decode cX11_digest 74 = .ok (.if_icmp .ge 31, 3) := by decide +kernel
theorem dX11_digest_77 : decode cX11_digest 77 = .ok (.aload_n 0, 1) := by decide +kernel
theorem dX11_digest_78 : decode cX11_digest 78 = .ok (.aload_n 0, 1) := by decide +kernel
theorem dX11_digest_79 : decode cX11_digest 79 = .ok (.iload_n 1, 1) := by decide +kernel
theorem dX11_digest_80 : decode cX11_digest 80 = .ok (.iconst 0, 1) := by decide +kernel
theorem dX11_digest_81 : decode cX11_digest 81 = .ok (.invokevirtual 204, 3) := by decide +kernel
theorem dX11_digest_84 : decode cX11_digest 84 = .ok (.i2l, 1) := by decide +kernel
theorem dX11_digest_85 : decode cX11_digest 85 = .ok (.invokevirtual 258, 3) := by decide +kernel
theorem dX11_digest_88 : decode cX11_digest 88 = .ok (.aload_n 0, 1) := by decide +kernel
theorem dX11_digest_89 : decode cX11_digest 89 = .ok (.aload_n 0, 1) := by decide +kernel
theorem dX11_digest_90 : decode cX11_digest 90 = .ok (.iload_n 1, 1) := by decide +kernel
theorem dX11_digest_91 : decode cX11_digest 91 = .ok (.iconst 1, 1) := by decide +kernel
theorem dX11_digest_92 : decode cX11_digest 92 = .ok (.invokevirtual 204, 3) := by decide +kernel
theorem dX11_digest_95 : decode cX11_digest 95 = .ok (.i2l, 1) := by decide +kernel
theorem dX11_digest_96 : decode cX11_digest 96 = .ok (.invokevirtual 258, 3) := by decide +kernel
theorem dX11_digest_99 : decode cX11_digest 99 = .ok (.iinc 1 1, 3) := by decide +kernel
theorem dX11_digest_102 : decode cX11_digest 102 = .ok (.goto (-33), 3) := by decide +kernel
theorem dX11_digest_105 : decode cX11_digest 105 = .ok (.aload_n 0, 1) := by decide +kernel
theorem dX11_digest_106 : decode cX11_digest 106 = .ok (.getfield 71, 3) := by decide +kernel
theorem dX11_digest_109 : decode cX11_digest 109 = .ok (.ifCond .le 42, 3) := by decide +kernel
theorem dX11_digest_112 : decode cX11_digest 112 = .ok (.aload_n 0, 1) := by decide +kernel
theorem dX11_digest_113 : decode cX11_digest 113 = .ok (.aload_n 0, 1) := by decide +kernel
theorem dX11_digest_114 : decode cX11_digest 114 = .ok (.invokevirtual 146, 3) := by decide +kernel
theorem dX11_digest_117 : decode cX11_digest 117 = .ok (.i2l, 1) := by decide +kernel
theorem dX11_digest_118 : decode cX11_digest 118 = .ok (.invokevirtual 258, 3) := by decide +kernel
theorem dX11_digest_121 : decode cX11_digest 121 = .ok (.aload_n 0, 1) := by decide +kernel
theorem dX11_digest_122 : decode cX11_digest 122 = .ok (.aload_n 0, 1) := by decide +kernel
theorem dX11_digest_123 : decode cX11_digest 123 = .ok (.iconst 0, 1) := by decide +kernel
theorem dX11_digest_124 : decode cX11_digest 124 = .ok (.invokevirtual 207, 3) := by decide +kernel
theorem dX11_digest_127 : decode cX11_digest 127 = .ok (.i2l, 1) := by decide +kernel
theorem dX11_digest_128 : decode cX11_digest 128 = .ok (.invokevirtual 258, 3) := by decide +kernel
theorem dX11_digest_131 : decode cX11_digest 131 = .ok (.aload_n 0, 1) := by decide +kernel
theorem dX11_digest_132 : decode cX11_digest 132 = .ok (.aload_n 0, 1) := by decide +kernel
theorem dX11_digest_133 : decode cX11_digest 133 = .ok (.iconst 1, 1) := by decide +kernel
theorem dX11_digest_134 : decode cX11_digest 134 = .ok (.invokevirtual 207, 3) := by decide +kernel
theorem dX11_digest_137 : decode cX11_digest 137 = .ok (.i2l, 1) := by decide +kernel
theorem dX11_digest_138 : decode cX11_digest 138 = .ok (.invokevirtual 258, 3) := by decide +kernel
theorem dX11_digest_141 : decode cX11_digest 141 = .ok (.aload_n 0, 1) := by decide +kernel
theorem dX11_digest_142 : decode cX11_digest 142 = .ok (.aload_n 0, 1) := by decide +kernel
theorem dX11_digest_143 : decode cX11_digest 143 = .ok (.iconst 2, 1) := by decide +kernel
theorem dX11_digest_144 : decode cX11_digest 144 = .ok (.invokevirtual 207, 3) := by decide +kernel
theorem dX11_digest_147 : decode cX11_digest 147 = .ok (.i2l, 1) := by decide +kernel
theorem dX11_digest_148 : decode cX11_digest 148 = .ok (.invokevirtual 258, 3) := by decide +kernel
theorem dX11_digest_151 : decode cX11_digest 151 = .ok (.iconst 0, 1) := by decide +kernel
theorem dX11_digest_152 : decode cX11_digest 152 = .ok (.istore_n 1, 1) := by decide +kernel
theorem dX11_digest_153 : decode cX11_digest 153 = .ok (.iload_n 1, 1) := by decide +kernel
theorem dX11_digest_154 : decode cX11_digest 154 = .ok (.aload_n 0, 1) := by decide +kernel
theorem dX11_digest_155 : decode cX11_digest 155 = .ok (.getfield 55, 3) := by decide +kernel
theorem dX11_digest_158 : decode cX11_digest 158 = .ok (.if_icmp .ge 20, 3) := by decide +kernel
theorem dX11_digest_161 : decode cX11_digest 161 = .ok (.aload_n 0, 1) := by decide +kernel
theorem dX11_digest_162 : decode cX11_digest 162 = .ok (.aload_n 0, 1) := by decide +kernel
theorem dX11_digest_163 : decode cX11_digest 163 = .ok (.getfield 25, 3) := by decide +kernel
theorem dX11_digest_166 : decode cX11_digest 166 = .ok (.iload_n 1, 1) := by decide +kernel
theorem dX11_digest_167 : decode cX11_digest 167 = .ok (.baload, 1) := by decide +kernel
theorem dX11_digest_168 : decode cX11_digest 168 = .ok (.i2l, 1) := by decide +kernel
theorem dX11_digest_169 : decode cX11_digest 169 = .ok (.invokevirtual 258, 3) := by decide +kernel
theorem dX11_digest_172 : decode cX11_digest 172 = .ok (.iinc 1 1, 3) := by decide +kernel
theorem dX11_digest_175 : decode cX11_digest 175 = .ok (.goto (-22), 3) := by decide +kernel
theorem dX11_digest_178 : decode cX11_digest 178 = .ok (.iconst 0, 1) := by decide +kernel
theorem dX11_digest_179 : decode cX11_digest 179 = .ok (.istore_n 1, 1) := by decide +kernel
theorem dX11_digest_180 : decode cX11_digest 180 = .ok (.iload_n 1, 1) := by decide +kernel
theorem dX11_digest_181 : decode cX11_digest 181 = .ok (.bipush 11, 2) := by decide +kernel
theorem dX11_digest_183 : decode cX11_digest 183 = .ok (.if_icmp .ge 19, 3) := by decide +kernel
theorem dX11_digest_186 : decode cX11_digest 186 = .ok (.aload_n 0, 1) := by decide +kernel
theorem dX11_digest_187 : decode cX11_digest 187 = .ok (.aload_n 0, 1) := by decide +kernel
theorem dX11_digest_188 : decode cX11_digest 188 = .ok (.iload_n 1, 1) := by decide +kernel
theorem dX11_digest_189 : decode cX11_digest 189 = .ok (.invokevirtual 248, 3) := by decide +kernel
theorem dX11_digest_192 : decode cX11_digest 192 = .ok (.i2l, 1) := by decide +kernel
theorem dX11_digest_193 : decode cX11_digest 193 = .ok (.invokevirtual 258, 3) := by decide +kernel
theorem dX11_digest_196 : decode cX11_digest 196 = .ok (.iinc 1 1, 3) := by decide +kernel
theorem dX11_digest_199 : decode cX11_digest 199 = .ok (.goto (-19), 3) := by decide +kernel
theorem dX11_digest_202 : decode cX11_digest 202 = .ok (.aload_n 0, 1) := by decide +kernel
theorem dX11_digest_203 : decode cX11_digest 203 = .ok (.getfield 253, 3) := by decide +kernel
theorem dX11_digest_206 : decode cX11_digest 206 = .ok (.lreturn, 1) := by decide +kernel
theorem dJ6_bitCount_0f7a4_0 : decode cJ6_bitCount_0f7a4 0 = .ok (.iload_n 0, 1) := by decide +kernel
theorem dJ6_bitCount_0f7a4_1 : decode cJ6_bitCount_0f7a4 1 = .ok (.iload_n 0, 1) := by decide +kernel
theorem dJ6_bitCount_0f7a4_2 : decode cJ6_bitCount_0f7a4 2 = .ok (.iconst 1, 1) := by decide +kernel
theorem dJ6_bitCount_0f7a4_3 : decode cJ6_bitCount_0f7a4 3 = .ok (.iushr, 1) := by decide +kernel
theorem dJ6_bitCount_0f7a4_4 : decode cJ6_bitCount_0f7a4 4 = .ok (.ldc_w 265, 3) := by decide +kernel
theorem dJ6_bitCount_0f7a4_7 : decode cJ6_bitCount_0f7a4 7 = .ok (.iand, 1) := by decide +kernel
theorem dJ6_bitCount_0f7a4_8 : decode cJ6_bitCount_0f7a4 8 = .ok (.isub, 1) := by decide +kernel
theorem dJ6_bitCount_0f7a4_9 : decode cJ6_bitCount_0f7a4 9 = .ok (.istore_n 0, 1) := by decide +kernel
theorem dJ6_bitCount_0f7a4_10 : decode cJ6_bitCount_0f7a4 10 = .ok (.iload_n 0, 1) := by decide +kernel
theorem dJ6_bitCount_0f7a4_11 : decode cJ6_bitCount_0f7a4 11 = .ok (.ldc_w 266, 3) := by decide +kernel
theorem dJ6_bitCount_0f7a4_14 : decode cJ6_bitCount_0f7a4 14 = .ok (.iand, 1) := by decide +kernel
theorem dJ6_bitCount_0f7a4_15 : decode cJ6_bitCount_0f7a4 15 = .ok (.iload_n 0, 1) := by decide +kernel
theorem dJ6_bitCount_0f7a4_16 : decode cJ6_bitCount_0f7a4 16 = .ok (.iconst 2, 1) := by decide +kernel
theorem dJ6_bitCount_0f7a4_17 : decode cJ6_bitCount_0f7a4 17 = .ok (.iushr, 1) := by decide +kernel
theorem dJ6_bitCount_0f7a4_18 : decode cJ6_bitCount_0f7a4 18 = .ok (.ldc_w 266, 3) := by decide +kernel
theorem dJ6_bitCount_0f7a4_21 : decode cJ6_bitCount_0f7a4 21 = .ok (.iand, 1) := by decide +kernel
theorem dJ6_bitCount_0f7a4_22 : decode cJ6_bitCount_0f7a4 22 = .ok (.iadd, 1) := by decide +kernel
theorem dJ6_bitCount_0f7a4_23 : decode cJ6_bitCount_0f7a4 23 = .ok (.istore_n 0, 1) := by decide +kernel
theorem dJ6_bitCount_0f7a4_24 : decode cJ6_bitCount_0f7a4 24 = .ok (.iload_n 0, 1) := by decide +kernel
theorem dJ6_bitCount_0f7a4_25 : decode cJ6_bitCount_0f7a4 25 = .ok (.iload_n 0, 1) := by decide +kernel
theorem dJ6_bitCount_0f7a4_26 : decode cJ6_bitCount_0f7a4 26 = .ok (.iconst 4, 1) := by decide +kernel
theorem dJ6_bitCount_0f7a4_27 : decode cJ6_bitCount_0f7a4 27 = .ok (.iushr, 1) := by decide +kernel
theorem dJ6_bitCount_0f7a4_28 : decode cJ6_bitCount_0f7a4 28 = .ok (.iadd, 1) := by decide +kernel
theorem dJ6_bitCount_0f7a4_29 : decode cJ6_bitCount_0f7a4 29 = .ok (.ldc_w 267, 3) := by decide +kernel
theorem dJ6_bitCount_0f7a4_32 : decode cJ6_bitCount_0f7a4 32 = .ok (.iand, 1) := by decide +kernel
theorem dJ6_bitCount_0f7a4_33 : decode cJ6_bitCount_0f7a4 33 = .ok (.istore_n 0, 1) := by decide +kernel
theorem dJ6_bitCount_0f7a4_34 : decode cJ6_bitCount_0f7a4 34 = .ok (.iload_n 0, 1) := by decide +kernel
theorem dJ6_bitCount_0f7a4_35 : decode cJ6_bitCount_0f7a4 35 = .ok (.iload_n 0, 1) := by decide +kernel
theorem dJ6_bitCount_0f7a4_36 : decode cJ6_bitCount_0f7a4 36 = .ok (.bipush 8, 2) := by decide +kernel
theorem dJ6_bitCount_0f7a4_38 : decode cJ6_bitCount_0f7a4 38 = .ok (.iushr, 1) := by decide +kernel
theorem dJ6_bitCount_0f7a4_39 : decode cJ6_bitCount_0f7a4 39 = .ok (.iadd, 1) := by decide +kernel
theorem dJ6_bitCount_0f7a4_40 : decode cJ6_bitCount_0f7a4 40 = .ok (.istore_n 0, 1) := by decide +kernel
theorem dJ6_bitCount_0f7a4_41 : decode cJ6_bitCount_0f7a4 41 = .ok (.iload_n 0, 1) := by decide +kernel
theorem dJ6_bitCount_0f7a4_42 : decode cJ6_bitCount_0f7a4 42 = .ok (.iload_n 0, 1) := by decide +kernel
theorem dJ6_bitCount_0f7a4_43 : decode cJ6_bitCount_0f7a4 43 = .ok (.bipush 16, 2) := by decide +kernel
theorem dJ6_bitCount_0f7a4_45 : decode cJ6_bitCount_0f7a4 45 = .ok (.iushr, 1) := by decide +kernel
theorem dJ6_bitCount_0f7a4_46 : decode cJ6_bitCount_0f7a4 46 = .ok (.iadd, 1) := by decide +kernel
theorem dJ6_bitCount_0f7a4_47 : decode cJ6_bitCount_0f7a4 47 = .ok (.istore_n 0, 1) := by decide +kernel
theorem dJ6_bitCount_0f7a4_48 : decode cJ6_bitCount_0f7a4 48 = .ok (.iload_n 0, 1) := by decide +kernel
theorem dJ6_bitCount_0f7a4_49 : decode cJ6_bitCount_0f7a4 49 = .ok (.bipush 63, 2) := by decide +kernel
theorem dJ6_bitCount_0f7a4_51 : decode cJ6_bitCount_0f7a4 51 = .ok (.iand, 1) := by decide +kernel
theorem dJ6_bitCount_0f7a4_52 : decode cJ6_bitCount_0f7a4 52 = .ok (.ireturn, 1) := by decide +kernel
theorem dJ9_abs_067f4_0 : decode cJ9_abs_067f4 0 = .ok (.lload_n 0, 1) := by decide +kernel
theorem dJ9_abs_067f4_1 : decode cJ9_abs_067f4 1 = .ok (.lconst 0, 1) := by decide +kernel
theorem dJ9_abs_067f4_2 : decode cJ9_abs_067f4 2 = .ok (.lcmp, 1) := by decide +kernel
theorem dJ9_abs_067f4_3 : decode cJ9_abs_067f4 3 = .ok (.ifCond .ge 8, 3) := by decide +kernel
theorem dJ9_abs_067f4_6 : decode cJ9_abs_067f4 6 = .ok (.lload_n 0, 1) := by decide +kernel
theorem dJ9_abs_067f4_7 : decode cJ9_abs_067f4 7 = .ok (.lneg, 1) := by decide +kernel
theorem dJ9_abs_067f4_8 : decode cJ9_abs_067f4 8 = .ok (.goto 4, 3) := by decide +kernel
theorem dJ9_abs_067f4_11 : decode cJ9_abs_067f4 11 = .ok (.lload_n 0, 1) := by decide +kernel
theorem dJ9_abs_067f4_12 : decode cJ9_abs_067f4 12 = .ok (.lreturn, 1) := by decide +kernel
theorem dJ9_max_7cf53_0 : decode cJ9_max_7cf53 0 = .ok (.iload_n 0, 1) := by decide +kernel
theorem dJ9_max_7cf53_1 : decode cJ9_max_7cf53 1 = .ok (.iload_n 1, 1) := by decide +kernel
theorem dJ9_max_7cf53_2 : decode cJ9_max_7cf53 2 = .ok (.if_icmp .lt 7, 3) := by decide +kernel
theorem dJ9_max_7cf53_5 : decode cJ9_max_7cf53 5 = .ok (.iload_n 0, 1) := by decide +kernel
theorem dJ9_max_7cf53_6 : decode cJ9_max_7cf53 6 = .ok (.goto 4, 3) := by decide +kernel
theorem dJ9_max_7cf53_9 : decode cJ9_max_7cf53 9 = .ok (.iload_n 1, 1) := by decide +kernel
theorem dJ9_max_7cf53_10 : decode cJ9_max_7cf53 10 = .ok (.ireturn, 1) := by decide +kernel
theorem dJ9_min_7cf53_0 : decode cJ9_min_7cf53 0 = .ok (.iload_n 0, 1) := by decide +kernel
theorem dJ9_min_7cf53_1 : decode cJ9_min_7cf53 1 = .ok (.iload_n 1, 1) := by decide +kernel
theorem dJ9_min_7cf53_2 : decode cJ9_min_7cf53 2 = .ok (.if_icmp .gt 7, 3) := by decide +kernel
theorem dJ9_min_7cf53_5 : decode cJ9_min_7cf53 5 = .ok (.iload_n 0, 1) := by decide +kernel
theorem dJ9_min_7cf53_6 : decode cJ9_min_7cf53 6 = .ok (.goto 4, 3) := by decide +kernel
theorem dJ9_min_7cf53_9 : decode cJ9_min_7cf53 9 = .ok (.iload_n 1, 1) := by decide +kernel
theorem dJ9_min_7cf53_10 : decode cJ9_min_7cf53 10 = .ok (.ireturn, 1) := by decide +kernel
end
section
def nwl : List Cond := [.fieldLinkNest RX10 296 "BoiledEggs$Page" "codes" "[I" "BoiledEggs",
  .fieldLinkNest RX10 273 "BoiledEggs$Page" "size" "I" "BoiledEggs",
  .fieldLinkNest RX10 97 "BoiledEggs$Kitchen" "habits" "[I" "BoiledEggs",
  .fieldLinkNest RX10 90 "BoiledEggs$Kitchen" "eggs" "I" "BoiledEggs",
  .fieldLinkNest RX8 44 "BoiledEggs$Kitchen" "boiled" "I" "BoiledEggs",
  .fieldLinkNest RX10 270 "BoiledEggs$Kitchen" "boiled" "I" "BoiledEggs",
  .fieldLinkNest RX10 176 "BoiledEggs$Kitchen" "turnsBoiled" "I" "BoiledEggs",
  .fieldLinkNest RX10 179 "BoiledEggs$Kitchen" "turnsRaw" "I" "BoiledEggs",
  .fieldLinkNest RX10 132 "BoiledEggs$Kitchen" "falls" "I" "BoiledEggs",
  .fieldLinkNest RX1 49 "BoiledEggs$Told" "boxes" "[I" "BoiledEggs",
  .fieldLinkNest RX1 56 "BoiledEggs$Told" "weights" "[J" "BoiledEggs",
  .fieldLinkNest RX10 104 "BoiledEggs$Told" "spins" "[I" "BoiledEggs",
  .fieldLinkNest RX10 107 "BoiledEggs$Told" "turned" "[I" "BoiledEggs",
  .fieldLinkNest RX10 110 "BoiledEggs$Told" "known" "[I" "BoiledEggs",
  .fieldLinkNest RX1 46 "BoiledEggs$Told" "fitting" "I" "BoiledEggs",
  .fieldLinkNest RX10 235 "BoiledEggs$Told" "fitting" "I" "BoiledEggs",
  .fieldLinkNest RX10 121 "BoiledEggs$Told" "allSpins" "I" "BoiledEggs",
  .fieldLinkNest RX10 259 "BoiledEggs$Draws" "seed" "J" "BoiledEggs",
  .methodLinkNest RX10 9 yX7_init "BoiledEggs",
  .methodLinkNest RX10 18 yX6_init "BoiledEggs",
  .methodLinkNest RX10 25 yX8_init "BoiledEggs",
  .methodLinkNest RX10 35 yX1_init "BoiledEggs",
  .methodLinkNest RX10 42 yX3_init "BoiledEggs",
  .methodLinkNest RX6 43 yX10_has "BoiledEggs",
  .methodLinkNest RX8 78 yX10_has "BoiledEggs",
  .methodLinkNest RX1 61 yX10_has "BoiledEggs",
  .methodLinkNest RX10 320 yX2_init "BoiledEggs",
  .methodLinkNest RX2 1 yX9_init "BoiledEggs",
  .methodLinkNest RX10 323 yX0_init "BoiledEggs",
  .methodLinkNest RX0 1 yX9_init "BoiledEggs",
  .methodLinkNest RX10 326 yX5_init "BoiledEggs",
  .methodLinkNest RX5 1 yX9_init "BoiledEggs",
  .methodLinkNest RX10 329 yX4_init "BoiledEggs",
  .methodLinkNest RX4 1 yX5_init "BoiledEggs",
  .methodLinkNest RX10 330 yX9_init "BoiledEggs",
  .castable "BoiledEggs$Greedy" "BoiledEggs$Hungry",
  .castable "BoiledEggs$Doubter" "BoiledEggs$Trier",
  .castable "BoiledEggs$Bold" "BoiledEggs$Trier",
  .castable "BoiledEggs$Hungry" "BoiledEggs$Trier",
  .castable "BoiledEggs$Greedy" "BoiledEggs$Trier"]
def ncl : List (String × String) := [("BoiledEggs$Bold", "BoiledEggs$Doubter"), ("BoiledEggs$Hungry", "BoiledEggs$Doubter"), ("BoiledEggs$Greedy", "BoiledEggs$Doubter"), ("BoiledEggs$Trier", "BoiledEggs$Doubter"), ("BoiledEggs$Doubter", "BoiledEggs$Bold"), ("BoiledEggs$Hungry", "BoiledEggs$Bold"), ("BoiledEggs$Greedy", "BoiledEggs$Bold"), ("BoiledEggs$Trier", "BoiledEggs$Bold"), ("BoiledEggs$Doubter", "BoiledEggs$Hungry"), ("BoiledEggs$Bold", "BoiledEggs$Hungry"), ("BoiledEggs$Trier", "BoiledEggs$Hungry"), ("BoiledEggs$Doubter", "BoiledEggs$Greedy"), ("BoiledEggs$Bold", "BoiledEggs$Greedy"), ("BoiledEggs$Hungry", "BoiledEggs$Greedy"), ("BoiledEggs$Trier", "BoiledEggs$Greedy")]
/-- what is the same for the whole proof: the table of addresses of classes and slots, the ids of int[], long[], byte[], Trier[] -/
abbrev GG : Type := va_G × ClassId × ClassId × ClassId × ClassId
def tyl (g : GG) : List (ClassId × FieldType) := [(g.2.1, .int), (g.2.2.1, .long), (g.2.2.2.1, .byte), (g.2.2.2.2, .object "BoiledEggs$Trier")]
def nwk : Cond → Bool
  | .fieldLinkNest _ _ _ _ _ _ => true
  | .methodLinkNest _ _ _ _ => true
  | .castable _ _ => true
  | _ => false
theorem nwk_warm {s U : State} (hW : s.WarmedH U.vm) : ∀ w : Cond, nwk w = true → va_Nw w s → va_Nw w U
  | .fieldLinkNest _ _ _ _ _ _, _, h => va_Nw.warmF hW h
  | .methodLinkNest _ _ _ _, _, h => va_Nw.warmM hW h
  | .castable _ _, _, h => va_Nw.warmC hW h
theorem nwk_same {u U : State} (hv : u.vm = U.vm) : ∀ w : Cond, nwk w = true → va_Nw w u → va_Nw w U
  | .fieldLinkNest _ _ _ _ _ _, _, h => va_Nw.same rfl hv h
  | .methodLinkNest _ _ _ _, _, h => va_Nw.same rfl hv h
  | .castable _ _, _, h => va_Nw.same rfl hv h
theorem nwl_ok : ∀ w ∈ nwl, nwk w = true := by decide +kernel
def NW (U : State) : Prop := ∀ w ∈ nwl, va_Nw w U
def NC (U : State) : Prop := ∀ q ∈ ncl, va_Nc q.1 q.2 U
def CK (g : GG) (U : State) : Prop := va_K g.1 vwCl (tyl g) U ∧ NW U ∧ NC U ∧ va_AO "BoiledEggs$Trier" U
theorem CK.warm {g : GG} {s U : State} (hW : s.WarmedH U.vm) (h : CK g s) : CK g U := ⟨va_K.moved hW.alike h.1, fun w hw => nwk_warm hW w (nwl_ok w hw) (h.2.1 w hw), fun q hq => (h.2.2.1 q hq).moved hW.alike, h.2.2.2.moved hW.alike⟩
theorem CK.calling {g : GG} {U : State} {a : Array Value} {f : JFrame} {mk : MethodId} (h : CK g U) : CK g (U.calling f mk a) := ⟨va_K.moved (u := U) (U := U.calling f mk a) (Vm.Alike.refl U.vm) h.1, fun w hw => nwk_same (u := U) (U := U.calling f mk a) rfl w (nwl_ok w hw) (h.2.1 w hw), fun q hq => (h.2.2.1 q hq).moved (u := U) (U := U.calling f mk a) (Vm.Alike.refl U.vm), h.2.2.2.moved (u := U) (U := U.calling f mk a) (Vm.Alike.refl U.vm)⟩
/-! contracts: pS only reads; pM may change the cells of its world -/
def pS (g : GG) (av : List Value) (w : va_W) : Array Value → State → Prop := va_Pc av (fun U => CK g U ∧ va_P g.1 vwCl w U.heap)
def pM (g : GG) (sz : Nat) (av : List Value) (w : va_W) : Array Value → State → Prop := va_Pc av (fun U => U.heap.size = sz ∧ CK g U ∧ va_P g.1 vwCl w U.heap ∧ va_D (fun _ => True) w)
def qMi (g : GG) {S : Type} (post : Int32 → S → Prop) (w1 : S → va_W) (A : Nat → Prop) : Array Value → State → Outcome → State → Prop := va_Qi post (fun u t => va_P g.1 vwCl (w1 u) t.heap ∧ va_D A (w1 u)) A
def qMl (g : GG) {S : Type} (post : Int64 → S → Prop) (w1 : S → va_W) (A : Nat → Prop) : Array Value → State → Outcome → State → Prop := va_Ql post (fun u t => va_P g.1 vwCl (w1 u) t.heap ∧ va_D A (w1 u)) A
def qMv (g : GG) {S : Type} (post : S → Prop) (w1 : S → va_W) (A : Nat → Prop) : Array Value → State → Outcome → State → Prop := va_Qv post (fun u t => va_P g.1 vwCl (w1 u) t.heap ∧ va_D A (w1 u)) A
def qMr (g : GG) {S : Type} (post : S → Prop) (w1 : S → Nat → va_W) (A : Nat → Prop) : Array Value → State → Outcome → State → Prop := va_Qr post (fun u a t => va_P g.1 vwCl (w1 u a) t.heap ∧ va_D A (w1 u a)) A
abbrev noF : Addr → Prop := fun _ => False
theorem metS {l : Launch} {y : MethodName} {ws ws' : List Cond} {rm : Room} {g : GG} {av : List Value} {w : va_W} {Qc : Array Value → State → Outcome → State → Prop} {free : Addr → Prop} {cc : ByteArray} {maxL : Nat} {ret : Option FieldType}
    (hy : plainName y.cls = true) (hw : ws = Cond.code y cc maxL ret :: ws') (hlen : (lg_sl av).length ≤ maxL)
    (body : ∀ (p : Program) (e : Env) (s : State) (m : MethodId) (below : List Frame) (meth : Method) (c : Code), p.tables.exec = Jvm.exec → c.code = cc → meth.sig.returnType = ret → (∀ w ∈ ws, w.before av.toArray s = true) → s.vm.findClass y.cls = some m.cls → meth.locks = false → c.maxLocals = maxL → CK g s → va_P g.1 vwCl w s.heap → ∀ ls : Array Slot, lv_has ls maxL (lv_args 0 av) →
      W p l e rm s m av.toArray below meth c s.heap [] 0 0 (MQ below Qc av.toArray s 0 0 free) (F0 m 0 ls [])) : Met l y ws rm (pS g av w) Qc 0 0 free := by
  refine Met.ofW (cc := cc) (maxL := maxL) (ret := ret) hy hw ?_
  intro p e s m args below meth c s₁ B hml hv
  obtain ⟨rfl, hC, hP⟩ := hv
  rw [lg_entry_eq]
  exact body p e s m below meth c B.exec B.bytes B.returns (atoms_spec (ws := ws) B.pre) (findClass_of_methodNamed B.named) B.notSynchronized hml hC hP _ (lv_entry av hlen)
theorem metM {l : Launch} {y : MethodName} {ws ws' : List Cond} {rm : Room} {g : GG} {sz : Nat} {av : List Value} {w : va_W} {Qf : (Nat → Prop) → Array Value → State → Outcome → State → Prop} {mc ms : Nat} {cc : ByteArray} {maxL : Nat} {ret : Option FieldType}
    (hy : plainName y.cls = true) (hw : ws = Cond.code y cc maxL ret :: ws') (hlen : (lg_sl av).length ≤ maxL)
    (body : ∀ (p : Program) (e : Env) (s : State) (m : MethodId) (below : List Frame) (meth : Method) (c : Code), p.tables.exec = Jvm.exec → c.code = cc → meth.sig.returnType = ret → (∀ w ∈ ws, w.before av.toArray s = true) → s.vm.findClass y.cls = some m.cls → meth.locks = false → c.maxLocals = maxL → meth.name = y.name → CK g s → ∀ A : Nat → Prop, (∀ q : Nat, s.heap.size ≤ q → A q) → va_P g.1 vwCl w s.heap → va_D A w → va_S A s.heap s.heap [] → ∀ ls : Array Slot, lv_has ls maxL (lv_args 0 av) →
      W p l e rm s m av.toArray below meth c s.heap [] 0 0 (MQ below (Qf A) av.toArray s mc ms A) (F0 m 0 ls [])) : Met l y ws rm (pM g sz av w) (Qf (va_A w sz)) mc ms (va_A w sz) := by
  refine Met.ofW (cc := cc) (maxL := maxL) (ret := ret) hy hw ?_
  intro p e s m args below meth c s₁ B hml hv
  obtain ⟨rfl, rfl, hC, hP, hD⟩ := hv
  rw [lg_entry_eq]
  exact body p e s m below meth c B.exec B.bytes B.returns (atoms_spec (ws := ws) B.pre) (findClass_of_methodNamed B.named) B.notSynchronized hml (name_of_methodNamed B.named B.method).1 hC _ (fun q h => Or.inr h) hP hD.self va_S.rf _ (lv_entry av hlen)
section KX
variable {p : Program} {l : Launch} {e : Env} {R : Room} {s : State} {m : MethodId} {args : Array Value} {below : List Frame} {meth : Method} {c : Code} {H : Heap} {locs : List Loc} {cells slots : Nat} {Q : State → Prop}
variable {cc : ByteArray} {pc : Nat} {ls : Array Slot} {rest : List Value} {g : GG} {A : Nat → Prop} {w wc wr : va_W}
/-! ends -/
theorem retSi {post : Int32 → Prop} {v : Int32} (hx : p.tables.exec = Jvm.exec) (hb : c.code = cc) (hr : meth.sig.returnType = some .int) (hlocks : meth.locks = false) (hp : post v) (hd : decode cc pc = .ok (.ireturn, 1)) : W p l e R s m args below meth c s.heap [] 0 0 (MQ below (vp_Si post) args s 0 0 noF) (F0 m pc ls [.int v]) :=
  W.iret hx hb hr (fun t ht _ => ⟨v, rfl, hp, ht⟩) (fun _ h => by cases h) hd hlocks
theorem retSz {post : Int32 → Prop} {v : Int32} (hx : p.tables.exec = Jvm.exec) (hb : c.code = cc) (hr : meth.sig.returnType = some .boolean) (hlocks : meth.locks = false) (hn : v = 0 ∨ v = 1) (hp : post v) (hd : decode cc pc = .ok (.ireturn, 1)) : W p l e R s m args below meth c s.heap [] 0 0 (MQ below (vp_Si post) args s 0 0 noF) (F0 m pc ls [.int v]) :=
  W.zret hx hb hr (by rcases hn with rfl | rfl <;> rfl) (fun t ht _ => ⟨v, rfl, hp, ht⟩) (fun _ h => by cases h) hd hlocks
theorem retSl {post : Int64 → Prop} {v : Int64} (hx : p.tables.exec = Jvm.exec) (hb : c.code = cc) (hr : meth.sig.returnType = some .long) (hlocks : meth.locks = false) (hp : post v) (hd : decode cc pc = .ok (.lreturn, 1)) : W p l e R s m args below meth c s.heap [] 0 0 (MQ below (vp_Sl post) args s 0 0 noF) (F0 m pc ls [.long v]) :=
  W.lret hx hb hr (fun t ht _ => ⟨v, rfl, hp, ht⟩) (fun _ h => by cases h) hd hlocks
theorem retSq {post : Option Nat → Prop} {v : Option Nat} {n : String} (hx : p.tables.exec = Jvm.exec) (hb : c.code = cc) (hr : meth.sig.returnType = some (.object n)) (hlocks : meth.locks = false) (hp : post v) (hd : decode cc pc = .ok (.areturn, 1)) : W p l e R s m args below meth c s.heap [] 0 0 (MQ below (va_Sq post) args s 0 0 noF) (F0 m pc ls [va_rf v]) :=
  W.aret hx hb hr (Or.inl ⟨n, rfl⟩) (va_rf_or v) (fun t ht _ => ⟨v, rfl, hp, ht⟩) (fun _ h => by cases h) hd hlocks
theorem retMi {S : Type} {post : Int32 → S → Prop} {w1 : S → va_W} {v : Int32} (hx : p.tables.exec = Jvm.exec) (hb : c.code = cc) (hr : meth.sig.returnType = some .int) (hlocks : meth.locks = false) (hP : va_P g.1 vwCl w H) (hD : va_D A w) (hS : va_S A s.heap H locs) (u : S) (hw : w1 u = w) (hp : post v u) (hd : decode cc pc = .ok (.ireturn, 1)) : W p l e R s m args below meth c H locs cells slots (MQ below (qMi g post w1 A) args s cells slots A) (F0 m pc ls [.int v]) :=
  W.iret hx hb hr (fun t ht _ => ⟨⟨v, u, rfl, hp, by rw [hw, ht]; exact hP, by rw [hw]; exact hD⟩, hS.F ht⟩) hS.2.2 hd hlocks
theorem retMz {S : Type} {post : Int32 → S → Prop} {w1 : S → va_W} {v : Int32} (hx : p.tables.exec = Jvm.exec) (hb : c.code = cc) (hr : meth.sig.returnType = some .boolean) (hlocks : meth.locks = false) (hn : v = 0 ∨ v = 1) (hP : va_P g.1 vwCl w H) (hD : va_D A w) (hS : va_S A s.heap H locs) (u : S) (hw : w1 u = w) (hp : post v u) (hd : decode cc pc = .ok (.ireturn, 1)) : W p l e R s m args below meth c H locs cells slots (MQ below (qMi g post w1 A) args s cells slots A) (F0 m pc ls [.int v]) :=
  W.zret hx hb hr (by rcases hn with rfl | rfl <;> rfl) (fun t ht _ => ⟨⟨v, u, rfl, hp, by rw [hw, ht]; exact hP, by rw [hw]; exact hD⟩, hS.F ht⟩) hS.2.2 hd hlocks
theorem retMl {S : Type} {post : Int64 → S → Prop} {w1 : S → va_W} {v : Int64} (hx : p.tables.exec = Jvm.exec) (hb : c.code = cc) (hr : meth.sig.returnType = some .long) (hlocks : meth.locks = false) (hP : va_P g.1 vwCl w H) (hD : va_D A w) (hS : va_S A s.heap H locs) (u : S) (hw : w1 u = w) (hp : post v u) (hd : decode cc pc = .ok (.lreturn, 1)) : W p l e R s m args below meth c H locs cells slots (MQ below (qMl g post w1 A) args s cells slots A) (F0 m pc ls [.long v]) :=
  W.lret hx hb hr (fun t ht _ => ⟨⟨v, u, rfl, hp, by rw [hw, ht]; exact hP, by rw [hw]; exact hD⟩, hS.F ht⟩) hS.2.2 hd hlocks
theorem retMv {S : Type} {post : S → Prop} {w1 : S → va_W} (hx : p.tables.exec = Jvm.exec) (hb : c.code = cc) (hr : meth.sig.returnType = none) (hlocks : meth.locks = false) (hP : va_P g.1 vwCl w H) (hD : va_D A w) (hS : va_S A s.heap H locs) (u : S) (hw : w1 u = w) (hp : post u) (hd : decode cc pc = .ok (.return_, 1)) : W p l e R s m args below meth c H locs cells slots (MQ below (qMv g post w1 A) args s cells slots A) (F0 m pc ls []) :=
  W.vret hx hb hr (fun t ht _ => ⟨⟨u, rfl, hp, by rw [hw, ht]; exact hP, by rw [hw]; exact hD⟩, hS.F ht⟩) hS.2.2 hd hlocks
theorem retMr {S : Type} {post : S → Prop} {w1 : S → Nat → va_W} {a : Nat} {n : String} (hx : p.tables.exec = Jvm.exec) (hb : c.code = cc) (hr : meth.sig.returnType = some (.object n)) (hlocks : meth.locks = false) (hP : va_P g.1 vwCl w H) (hD : va_D A w) (hS : va_S A s.heap H locs) (u : S) (hw : w1 u a = w) (hp : post u) (hd : decode cc pc = .ok (.areturn, 1)) : W p l e R s m args below meth c H locs cells slots (MQ below (qMr g post w1 A) args s cells slots A) (F0 m pc ls [.ref a]) :=
  W.aret hx hb hr (Or.inl ⟨n, rfl⟩) (Or.inr ⟨a, rfl⟩) (fun t ht _ => ⟨⟨u, a, rfl, hp, by rw [hw, ht]; exact hP, by rw [hw]; exact hD⟩, hS.F ht⟩) hS.2.2 hd hlocks
/-! what a call needs at its start -/
theorem pS_blind {av : List Value} : FrameBlind (pS g av w) := fun _ _ _ _ q => ⟨q.1, q.2.1.calling, q.2.2⟩
theorem pM_blind {sz : Nat} {av : List Value} : FrameBlind (pM g sz av w) := fun _ _ _ _ q => ⟨q.1, q.2.1, q.2.2.1.calling, q.2.2.2⟩
theorem preVS {C : String} {b : Nat} {As : List Value} (hC : CK g s) (hP : va_P g.1 vwCl w H) (hr : ∃ cellB : Cell, H[b]? = some cellB ∧ cellB.vm.isStatics = false ∧ s.vm.findClass C = some cellB.cls) : PreV s H C b (pS g (.ref b :: As) w) As :=
  ⟨pS_blind, hr, fun U hU hW => ⟨rfl, hC.warm hW, by rw [hU]; exact hP⟩⟩
theorem preSS {As : List Value} (hC : CK g s) (hP : va_P g.1 vwCl w H) : PreS s H (pS g As w) As :=
  ⟨pS_blind, fun U hU hW => ⟨rfl, hC.warm hW, by rw [hU]; exact hP⟩⟩
theorem preVM {C : String} {b : Nat} {As : List Value} (hC : CK g s) (hP : va_P g.1 vwCl w H) (hD : va_D A w) (hr : ∃ cellB : Cell, H[b]? = some cellB ∧ cellB.vm.isStatics = false ∧ s.vm.findClass C = some cellB.cls) : PreV s H C b (pM g H.size (.ref b :: As) w) As :=
  ⟨pM_blind, hr, fun U hU hW => ⟨rfl, by rw [hU], hC.warm hW, by rw [hU]; exact hP, hD.weaken (fun _ _ _ _ => trivial)⟩⟩
theorem preSM {As : List Value} (hC : CK g s) (hP : va_P g.1 vwCl w H) (hD : va_D A w) : PreS s H (pM g H.size As w) As :=
  ⟨pM_blind, fun U hU hW => ⟨rfl, by rw [hU], hC.warm hW, by rw [hU]; exact hP, hD.weaken (fun _ _ _ _ => trivial)⟩⟩
/-! behind a call -/
variable {st0 : List Value} {a : Array Value}
theorem goSi {T : Int32} (hr : va_Run p l e R s m args below meth c H locs cells slots 0 0 (F0 m pc ls st0) rest (vp_Si (fun r => r = T) a) noF) (kk : W p l e R s m args below meth c H locs cells slots Q (F0 m (pc + 3) ls (.int T :: rest))) : W p l e R s m args below meth c H locs cells slots Q (F0 m pc ls st0) :=
  vp_callSi hr.run (fun r h => by subst h; exact kk)
theorem goSl {T : Int64} (hr : va_Run p l e R s m args below meth c H locs cells slots 0 0 (F0 m pc ls st0) rest (vp_Sl (fun r => r = T) a) noF) (kk : W p l e R s m args below meth c H locs cells slots Q (F0 m (pc + 3) ls (.long T :: rest))) : W p l e R s m args below meth c H locs cells slots Q (F0 m pc ls st0) :=
  vp_callSl hr.run (fun r h => by subst h; exact kk)
theorem goSq {T : Option Nat} (hr : va_Run p l e R s m args below meth c H locs cells slots 0 0 (F0 m pc ls st0) rest (va_Sq (fun r => r = T) a) noF) (kk : W p l e R s m args below meth c H locs cells slots Q (F0 m (pc + 3) ls (va_rf T :: rest))) : W p l e R s m args below meth c H locs cells slots Q (F0 m pc ls st0) :=
  va_csq hr.run (fun r h => by subst h; exact kk)
variable {mc ms : Nat} {S : Type}
theorem goMi {post : Int32 → S → Prop} {w1 : S → va_W} (hr : va_Run p l e R s m args below meth c H locs cells slots mc ms (F0 m pc ls st0) rest (qMi g post w1 (va_A wc H.size) a) (va_A wc H.size)) (hP : va_P g.1 vwCl w H) (hD : va_D A w) (hS : va_S A s.heap H locs) (hA : ∀ q : Nat, s.heap.size ≤ q → A q) (isC isR : List Nat) (hc : isC.map (fun i => w[i]?) = wc.map some) (hrr : isR.map (fun i => w[i]?) = wr.map some) (hn : va_nd isR = true) (hdis : ∀ i ∈ isR, i ∉ isC)
    (kk : ∀ (r : Int32) (u : S) (H1 : Heap) (locs1 : List Loc), post r u → va_P g.1 vwCl (wr ++ w1 u) H1 → va_D A (wr ++ w1 u) → va_S A s.heap H1 locs1 → W p l e R s m args below meth c H1 locs1 (cells + mc) (slots + ms) Q (F0 m (pc + 3) ls (.int r :: rest))) : W p l e R s m args below meth c H locs cells slots Q (F0 m pc ls st0) := by
  have hF := va_free hD hS hA isC hc
  refine va_calli hr hS (fun q _ h => hF q h) hF (fun r u t H1 locs1 ht _ hp hB _ hk hS1 => ?_)
  obtain ⟨hP1, hD1⟩ := hB
  rw [ht] at hP1
  obtain ⟨h1, h2⟩ := va_join hP hD isC isR hc hrr hn hdis hk hF hP1 hD1
  exact kk r u H1 locs1 hp h1 h2 hS1
theorem goMl {post : Int64 → S → Prop} {w1 : S → va_W} (hr : va_Run p l e R s m args below meth c H locs cells slots mc ms (F0 m pc ls st0) rest (qMl g post w1 (va_A wc H.size) a) (va_A wc H.size)) (hP : va_P g.1 vwCl w H) (hD : va_D A w) (hS : va_S A s.heap H locs) (hA : ∀ q : Nat, s.heap.size ≤ q → A q) (isC isR : List Nat) (hc : isC.map (fun i => w[i]?) = wc.map some) (hrr : isR.map (fun i => w[i]?) = wr.map some) (hn : va_nd isR = true) (hdis : ∀ i ∈ isR, i ∉ isC)
    (kk : ∀ (r : Int64) (u : S) (H1 : Heap) (locs1 : List Loc), post r u → va_P g.1 vwCl (wr ++ w1 u) H1 → va_D A (wr ++ w1 u) → va_S A s.heap H1 locs1 → W p l e R s m args below meth c H1 locs1 (cells + mc) (slots + ms) Q (F0 m (pc + 3) ls (.long r :: rest))) : W p l e R s m args below meth c H locs cells slots Q (F0 m pc ls st0) := by
  have hF := va_free hD hS hA isC hc
  refine va_calll hr hS (fun q _ h => hF q h) hF (fun r u t H1 locs1 ht _ hp hB _ hk hS1 => ?_)
  obtain ⟨hP1, hD1⟩ := hB
  rw [ht] at hP1
  obtain ⟨h1, h2⟩ := va_join hP hD isC isR hc hrr hn hdis hk hF hP1 hD1
  exact kk r u H1 locs1 hp h1 h2 hS1
theorem goMv {post : S → Prop} {w1 : S → va_W} (hr : va_Run p l e R s m args below meth c H locs cells slots mc ms (F0 m pc ls st0) rest (qMv g post w1 (va_A wc H.size) a) (va_A wc H.size)) (hP : va_P g.1 vwCl w H) (hD : va_D A w) (hS : va_S A s.heap H locs) (hA : ∀ q : Nat, s.heap.size ≤ q → A q) (isC isR : List Nat) (hc : isC.map (fun i => w[i]?) = wc.map some) (hrr : isR.map (fun i => w[i]?) = wr.map some) (hn : va_nd isR = true) (hdis : ∀ i ∈ isR, i ∉ isC)
    (kk : ∀ (u : S) (H1 : Heap) (locs1 : List Loc), post u → va_P g.1 vwCl (wr ++ w1 u) H1 → va_D A (wr ++ w1 u) → va_S A s.heap H1 locs1 → W p l e R s m args below meth c H1 locs1 (cells + mc) (slots + ms) Q (F0 m (pc + 3) ls rest)) : W p l e R s m args below meth c H locs cells slots Q (F0 m pc ls st0) := by
  have hF := va_free hD hS hA isC hc
  refine va_callv hr hS (fun q _ h => hF q h) hF (fun u t H1 locs1 ht _ hp hB _ hk hS1 => ?_)
  obtain ⟨hP1, hD1⟩ := hB
  rw [ht] at hP1
  obtain ⟨h1, h2⟩ := va_join hP hD isC isR hc hrr hn hdis hk hF hP1 hD1
  exact kk u H1 locs1 hp h1 h2 hS1
theorem goMr {post : S → Prop} {w1 : S → Nat → va_W} (hr : va_Run p l e R s m args below meth c H locs cells slots mc ms (F0 m pc ls st0) rest (qMr g post w1 (va_A wc H.size) a) (va_A wc H.size)) (hP : va_P g.1 vwCl w H) (hD : va_D A w) (hS : va_S A s.heap H locs) (hA : ∀ q : Nat, s.heap.size ≤ q → A q) (isC isR : List Nat) (hc : isC.map (fun i => w[i]?) = wc.map some) (hrr : isR.map (fun i => w[i]?) = wr.map some) (hn : va_nd isR = true) (hdis : ∀ i ∈ isR, i ∉ isC)
    (kk : ∀ (u : S) (ra : Nat) (H1 : Heap) (locs1 : List Loc), post u → va_P g.1 vwCl (wr ++ w1 u ra) H1 → va_D A (wr ++ w1 u ra) → va_S A s.heap H1 locs1 → W p l e R s m args below meth c H1 locs1 (cells + mc) (slots + ms) Q (F0 m (pc + 3) ls (.ref ra :: rest))) : W p l e R s m args below meth c H locs cells slots Q (F0 m pc ls st0) := by
  have hF := va_free hD hS hA isC hc
  refine va_callr hr hS (fun q _ h => hF q h) hF (fun u ra t H1 locs1 ht _ hp hB _ hk hS1 => ?_)
  obtain ⟨hP1, hD1⟩ := hB
  rw [ht] at hP1
  obtain ⟨h1, h2⟩ := va_join hP hD isC isR hc hrr hn hdis hk hF hP1 hD1
  exact kk u ra H1 locs1 hp h1 h2 hS1
/-! values -/
theorem top_i {x y : Int32} (h : x = y) (k : W p l e R s m args below meth c H locs cells slots Q (F0 m pc ls (.int y :: rest))) : W p l e R s m args below meth c H locs cells slots Q (F0 m pc ls (.int x :: rest)) := h ▸ k
theorem top_l {x y : Int64} (h : x = y) (k : W p l e R s m args below meth c H locs cells slots Q (F0 m pc ls (.long y :: rest))) : W p l e R s m args below meth c H locs cells slots Q (F0 m pc ls (.long x :: rest)) := h ▸ k
theorem top_r {x y : Option Nat} (h : x = y) (k : W p l e R s m args below meth c H locs cells slots Q (F0 m pc ls (va_rf y :: rest))) : W p l e R s m args below meth c H locs cells slots Q (F0 m pc ls (va_rf x :: rest)) := h ▸ k
/-! arrays at a place that is a number -/
variable {a0 : Nat} {q0 n j : Nat} {cA : ClassId}
theorem ald_i {f : Nat → Int32} (hx : p.tables.exec = Jvm.exec) (hb : c.code = cc) (hC : CK g s) (hP : va_P g.1 vwCl w H) (q0 : Nat) (ha : w[q0]? = some (a0, .inl (g.2.1, n, .inl f))) (hj : j < n) (hn : n < 2 ^ 31) (hd : decode cc pc = .ok (.iaload, 1))
    (kk : W p l e R s m args below meth c H locs cells slots Q (F0 m (pc + 1) ls (.int (f j) :: rest))) : W p l e R s m args below meth c H locs cells slots Q (F0 m pc ls (.int (nI j) :: .ref a0 :: rest)) :=
  va_iald hx hb hC.1 hP q0 0 ha rfl (vp_in_nI hj hn) hd (by rw [nI_clamp (Nat.lt_trans hj hn)]; exact kk)
theorem ald_l {f : Nat → Int64} (hx : p.tables.exec = Jvm.exec) (hb : c.code = cc) (hC : CK g s) (hP : va_P g.1 vwCl w H) (q0 : Nat) (ha : w[q0]? = some (a0, .inl (g.2.2.1, n, .inr (.inl f)))) (hj : j < n) (hn : n < 2 ^ 31) (hd : decode cc pc = .ok (.laload, 1))
    (kk : W p l e R s m args below meth c H locs cells slots Q (F0 m (pc + 1) ls (.long (f j) :: rest))) : W p l e R s m args below meth c H locs cells slots Q (F0 m pc ls (.int (nI j) :: .ref a0 :: rest)) :=
  va_lald hx hb hC.1 hP q0 1 ha rfl (vp_in_nI hj hn) hd (by rw [nI_clamp (Nat.lt_trans hj hn)]; exact kk)
theorem ald_b {f : Nat → Int32} (hx : p.tables.exec = Jvm.exec) (hb : c.code = cc) (hC : CK g s) (hP : va_P g.1 vwCl w H) (q0 : Nat) (ha : w[q0]? = some (a0, .inl (g.2.2.2.1, n, .inl f))) (hj : j < n) (hn : n < 2 ^ 31) (hd : decode cc pc = .ok (.baload, 1))
    (kk : W p l e R s m args below meth c H locs cells slots Q (F0 m (pc + 1) ls (.int (f j) :: rest))) : W p l e R s m args below meth c H locs cells slots Q (F0 m pc ls (.int (nI j) :: .ref a0 :: rest)) :=
  va_bald hx hb hC.1 hP q0 2 ha rfl (vp_in_nI hj hn) hd (by rw [nI_clamp (Nat.lt_trans hj hn)]; exact kk)
theorem ald_q {f : Nat → Option Nat} (hx : p.tables.exec = Jvm.exec) (hb : c.code = cc) (hC : CK g s) (hP : va_P g.1 vwCl w H) (q0 : Nat) (ha : w[q0]? = some (a0, .inl (g.2.2.2.2, n, .inr (.inr (.inr (.inr f)))))) (hj : j < n) (hn : n < 2 ^ 31) (hd : decode cc pc = .ok (.aaload, 1))
    (kk : W p l e R s m args below meth c H locs cells slots Q (F0 m (pc + 1) ls (va_rf (f j) :: rest))) : W p l e R s m args below meth c H locs cells slots Q (F0 m pc ls (.int (nI j) :: .ref a0 :: rest)) :=
  va_aldq hx hb hC.1 hP q0 3 ha rfl (vp_in_nI hj hn) hd (by rw [nI_clamp (Nat.lt_trans hj hn)]; exact kk)
theorem ast_i {f : Nat → Int32} {x : Int32} (hx : p.tables.exec = Jvm.exec) (hb : c.code = cc) (hC : CK g s) (hP : va_P g.1 vwCl w H) (hD : va_D A w) (hS : va_S A s.heap H locs) (q0 : Nat) (ha : w[q0]? = some (a0, .inl (g.2.1, n, .inl f))) (hj : j < n) (hn : n < 2 ^ 31) (hd : decode cc pc = .ok (.iastore, 1))
    (kk : ∀ (H1 : Heap) (locs1 : List Loc), va_P g.1 vwCl (w.set q0 (a0, .inl (g.2.1, n, .inl (upd f j x)))) H1 → va_D A (w.set q0 (a0, .inl (g.2.1, n, .inl (upd f j x)))) → va_S A s.heap H1 locs1 → W p l e R s m args below meth c H1 locs1 cells slots Q (F0 m (pc + 1) ls rest)) : W p l e R s m args below meth c H locs cells slots Q (F0 m pc ls (.int x :: .int (nI j) :: .ref a0 :: rest)) :=
  va_iast hx hb hC.1 hP hD hS q0 0 ha rfl (vp_in_nI hj hn) hd (by rw [nI_clamp (Nat.lt_trans hj hn)]; exact kk)
theorem ast_l {f : Nat → Int64} {x : Int64} (hx : p.tables.exec = Jvm.exec) (hb : c.code = cc) (hC : CK g s) (hP : va_P g.1 vwCl w H) (hD : va_D A w) (hS : va_S A s.heap H locs) (q0 : Nat) (ha : w[q0]? = some (a0, .inl (g.2.2.1, n, .inr (.inl f)))) (hj : j < n) (hn : n < 2 ^ 31) (hd : decode cc pc = .ok (.lastore, 1))
    (kk : ∀ (H1 : Heap) (locs1 : List Loc), va_P g.1 vwCl (w.set q0 (a0, .inl (g.2.2.1, n, .inr (.inl (vp_updL f j x))))) H1 → va_D A (w.set q0 (a0, .inl (g.2.2.1, n, .inr (.inl (vp_updL f j x))))) → va_S A s.heap H1 locs1 → W p l e R s m args below meth c H1 locs1 cells slots Q (F0 m (pc + 1) ls rest)) : W p l e R s m args below meth c H locs cells slots Q (F0 m pc ls (.long x :: .int (nI j) :: .ref a0 :: rest)) :=
  va_last hx hb hC.1 hP hD hS q0 1 ha rfl (vp_in_nI hj hn) hd (by rw [nI_clamp (Nat.lt_trans hj hn)]; exact kk)
/-! a comparison of longs and the branch behind it -/
variable {x y : Int64} {off : Int} {tgt : Nat}
theorem lc_eq (hx : p.tables.exec = Jvm.exec) (hb : c.code = cc) (hd : decode cc pc = .ok (.lcmp, 1)) (hd2 : decode cc (pc + 1) = .ok (.ifCond .eq off, 3)) (ht : ((pc + 1 : Nat) : Int) + off = (tgt : Int)) (kt : x = y → W p l e R s m args below meth c H locs cells slots Q (F0 m tgt ls rest)) (kf : ¬ x = y → W p l e R s m args below meth c H locs cells slots Q (F0 m (pc + 4) ls rest)) : W p l e R s m args below meth c H locs cells slots Q (F0 m pc ls (.long y :: .long x :: rest)) :=
  W.lcmp hx hb hd (lv_if_eq hx hb hd2 ht (fun h => kt ((lg_cmp_eq x y).mp h)) (fun h => kf (fun z => h ((lg_cmp_eq x y).mpr z))))
theorem lc_ne (hx : p.tables.exec = Jvm.exec) (hb : c.code = cc) (hd : decode cc pc = .ok (.lcmp, 1)) (hd2 : decode cc (pc + 1) = .ok (.ifCond .ne off, 3)) (ht : ((pc + 1 : Nat) : Int) + off = (tgt : Int)) (kt : ¬ x = y → W p l e R s m args below meth c H locs cells slots Q (F0 m tgt ls rest)) (kf : x = y → W p l e R s m args below meth c H locs cells slots Q (F0 m (pc + 4) ls rest)) : W p l e R s m args below meth c H locs cells slots Q (F0 m pc ls (.long y :: .long x :: rest)) :=
  W.lcmp hx hb hd (lv_if_ne hx hb hd2 ht (fun h => kt (fun z => h ((lg_cmp_eq x y).mpr z))) (fun h => kf ((lg_cmp_eq x y).mp h)))
theorem lc_lt (hx : p.tables.exec = Jvm.exec) (hb : c.code = cc) (hd : decode cc pc = .ok (.lcmp, 1)) (hd2 : decode cc (pc + 1) = .ok (.ifCond .lt off, 3)) (ht : ((pc + 1 : Nat) : Int) + off = (tgt : Int)) (kt : x < y → W p l e R s m args below meth c H locs cells slots Q (F0 m tgt ls rest)) (kf : ¬ x < y → W p l e R s m args below meth c H locs cells slots Q (F0 m (pc + 4) ls rest)) : W p l e R s m args below meth c H locs cells slots Q (F0 m pc ls (.long y :: .long x :: rest)) :=
  W.lcmp hx hb hd (lv_if_lt hx hb hd2 ht (fun h => kt ((lg_cmp_lt x y).mp h)) (fun h => kf (fun z => h ((lg_cmp_lt x y).mpr z))))
theorem lc_ge (hx : p.tables.exec = Jvm.exec) (hb : c.code = cc) (hd : decode cc pc = .ok (.lcmp, 1)) (hd2 : decode cc (pc + 1) = .ok (.ifCond .ge off, 3)) (ht : ((pc + 1 : Nat) : Int) + off = (tgt : Int)) (kt : y ≤ x → W p l e R s m args below meth c H locs cells slots Q (F0 m tgt ls rest)) (kf : ¬ y ≤ x → W p l e R s m args below meth c H locs cells slots Q (F0 m (pc + 4) ls rest)) : W p l e R s m args below meth c H locs cells slots Q (F0 m pc ls (.long y :: .long x :: rest)) :=
  W.lcmp hx hb hd (lv_if_ge hx hb hd2 ht (fun h => kt ((lg_cmp_ge x y).mp h)) (fun h => kf (fun z => h ((lg_cmp_ge x y).mpr z))))
theorem lc_gt (hx : p.tables.exec = Jvm.exec) (hb : c.code = cc) (hd : decode cc pc = .ok (.lcmp, 1)) (hd2 : decode cc (pc + 1) = .ok (.ifCond .gt off, 3)) (ht : ((pc + 1 : Nat) : Int) + off = (tgt : Int)) (kt : y < x → W p l e R s m args below meth c H locs cells slots Q (F0 m tgt ls rest)) (kf : ¬ y < x → W p l e R s m args below meth c H locs cells slots Q (F0 m (pc + 4) ls rest)) : W p l e R s m args below meth c H locs cells slots Q (F0 m pc ls (.long y :: .long x :: rest)) :=
  W.lcmp hx hb hd (lv_if_gt hx hb hd2 ht (fun h => kt ((lg_cmp_gt x y).mp h)) (fun h => kf (fun z => h ((lg_cmp_gt x y).mpr z))))
theorem lc_le (hx : p.tables.exec = Jvm.exec) (hb : c.code = cc) (hd : decode cc pc = .ok (.lcmp, 1)) (hd2 : decode cc (pc + 1) = .ok (.ifCond .le off, 3)) (ht : ((pc + 1 : Nat) : Int) + off = (tgt : Int)) (kt : x ≤ y → W p l e R s m args below meth c H locs cells slots Q (F0 m tgt ls rest)) (kf : ¬ x ≤ y → W p l e R s m args below meth c H locs cells slots Q (F0 m (pc + 4) ls rest)) : W p l e R s m args below meth c H locs cells slots Q (F0 m pc ls (.long y :: .long x :: rest)) :=
  W.lcmp hx hb hd (lv_if_le hx hb hd2 ht (fun h => kt ((lg_cmp_le x y).mp h)) (fun h => kf (fun z => h ((lg_cmp_le x y).mpr z))))
end KX
theorem hdJ6_bitCount_0f7a4 : yJ6_bitCount_0f7a4.cls ≠ "java/lang/invoke/MethodHandle" ∧ yJ6_bitCount_0f7a4.cls ≠ "java/lang/invoke/VarHandle" ∧ (parseMethodDescriptor yJ6_bitCount_0f7a4.desc).map (fun d => d.parameters.length) = some 1 := by decide +kernel
theorem hdX0_init : yX0_init.cls ≠ "java/lang/invoke/MethodHandle" ∧ yX0_init.cls ≠ "java/lang/invoke/VarHandle" ∧ (parseMethodDescriptor yX0_init.desc).map (fun d => d.parameters.length) = some 0 := by decide +kernel
theorem hdX0_kind : yX0_kind.cls ≠ "java/lang/invoke/MethodHandle" ∧ yX0_kind.cls ≠ "java/lang/invoke/VarHandle" ∧ (parseMethodDescriptor yX0_kind.desc).map (fun d => d.parameters.length) = some 0 := by decide +kernel
theorem hdX0_score : yX0_score.cls ≠ "java/lang/invoke/MethodHandle" ∧ yX0_score.cls ≠ "java/lang/invoke/VarHandle" ∧ (parseMethodDescriptor yX0_score.desc).map (fun d => d.parameters.length) = some 2 := by decide +kernel
theorem hdX1_breakNext : yX1_breakNext.cls ≠ "java/lang/invoke/MethodHandle" ∧ yX1_breakNext.cls ≠ "java/lang/invoke/VarHandle" ∧ (parseMethodDescriptor yX1_breakNext.desc).map (fun d => d.parameters.length) = some 1 := by decide +kernel
theorem hdX1_fewestAtWorst : yX1_fewestAtWorst.cls ≠ "java/lang/invoke/MethodHandle" ∧ yX1_fewestAtWorst.cls ≠ "java/lang/invoke/VarHandle" ∧ (parseMethodDescriptor yX1_fewestAtWorst.desc).map (fun d => d.parameters.length) = some 0 := by decide +kernel
theorem hdX1_fewestByWeight : yX1_fewestByWeight.cls ≠ "java/lang/invoke/MethodHandle" ∧ yX1_fewestByWeight.cls ≠ "java/lang/invoke/VarHandle" ∧ (parseMethodDescriptor yX1_fewestByWeight.desc).map (fun d => d.parameters.length) = some 0 := by decide +kernel
theorem hdX1_firstPlace : yX1_firstPlace.cls ≠ "java/lang/invoke/MethodHandle" ∧ yX1_firstPlace.cls ≠ "java/lang/invoke/VarHandle" ∧ (parseMethodDescriptor yX1_firstPlace.desc).map (fun d => d.parameters.length) = some 0 := by decide +kernel
theorem hdX1_init : yX1_init.cls ≠ "java/lang/invoke/MethodHandle" ∧ yX1_init.cls ≠ "java/lang/invoke/VarHandle" ∧ (parseMethodDescriptor yX1_init.desc).map (fun d => d.parameters.length) = some 0 := by decide +kernel
theorem hdX1_lastState : yX1_lastState.cls ≠ "java/lang/invoke/MethodHandle" ∧ yX1_lastState.cls ≠ "java/lang/invoke/VarHandle" ∧ (parseMethodDescriptor yX1_lastState.desc).map (fun d => d.parameters.length) = some 2 := by decide +kernel
theorem hdX1_solve : yX1_solve.cls ≠ "java/lang/invoke/MethodHandle" ∧ yX1_solve.cls ≠ "java/lang/invoke/VarHandle" ∧ (parseMethodDescriptor yX1_solve.desc).map (fun d => d.parameters.length) = some 2 := by decide +kernel
theorem hdX1_solveState : yX1_solveState.cls ≠ "java/lang/invoke/MethodHandle" ∧ yX1_solveState.cls ≠ "java/lang/invoke/VarHandle" ∧ (parseMethodDescriptor yX1_solveState.desc).map (fun d => d.parameters.length) = some 1 := by decide +kernel
theorem hdX1_spread : yX1_spread.cls ≠ "java/lang/invoke/MethodHandle" ∧ yX1_spread.cls ≠ "java/lang/invoke/VarHandle" ∧ (parseMethodDescriptor yX1_spread.desc).map (fun d => d.parameters.length) = some 2 := by decide +kernel
theorem hdX10_about : yX10_about.cls ≠ "java/lang/invoke/MethodHandle" ∧ yX10_about.cls ≠ "java/lang/invoke/VarHandle" ∧ (parseMethodDescriptor yX10_about.desc).map (fun d => d.parameters.length) = some 2 := by decide +kernel
theorem hdX10_as : yX10_as.cls ≠ "java/lang/invoke/MethodHandle" ∧ yX10_as.cls ≠ "java/lang/invoke/VarHandle" ∧ (parseMethodDescriptor yX10_as.desc).map (fun d => d.parameters.length) = some 2 := by decide +kernel
theorem hdX10_blank : yX10_blank.cls ≠ "java/lang/invoke/MethodHandle" ∧ yX10_blank.cls ≠ "java/lang/invoke/VarHandle" ∧ (parseMethodDescriptor yX10_blank.desc).map (fun d => d.parameters.length) = some 0 := by decide +kernel
theorem hdX10_commonDivisor : yX10_commonDivisor.cls ≠ "java/lang/invoke/MethodHandle" ∧ yX10_commonDivisor.cls ≠ "java/lang/invoke/VarHandle" ∧ (parseMethodDescriptor yX10_commonDivisor.desc).map (fun d => d.parameters.length) = some 2 := by decide +kernel
theorem hdX10_count : yX10_count.cls ≠ "java/lang/invoke/MethodHandle" ∧ yX10_count.cls ≠ "java/lang/invoke/VarHandle" ∧ (parseMethodDescriptor yX10_count.desc).map (fun d => d.parameters.length) = some 1 := by decide +kernel
theorem hdX10_crack : yX10_crack.cls ≠ "java/lang/invoke/MethodHandle" ∧ yX10_crack.cls ≠ "java/lang/invoke/VarHandle" ∧ (parseMethodDescriptor yX10_crack.desc).map (fun d => d.parameters.length) = some 2 := by decide +kernel
theorem hdX10_digest : yX10_digest.cls ≠ "java/lang/invoke/MethodHandle" ∧ yX10_digest.cls ≠ "java/lang/invoke/VarHandle" ∧ (parseMethodDescriptor yX10_digest.desc).map (fun d => d.parameters.length) = some 0 := by decide +kernel
theorem hdX10_egg : yX10_egg.cls ≠ "java/lang/invoke/MethodHandle" ∧ yX10_egg.cls ≠ "java/lang/invoke/VarHandle" ∧ (parseMethodDescriptor yX10_egg.desc).map (fun d => d.parameters.length) = some 2 := by decide +kernel
theorem hdX10_eggsAsMeant : yX10_eggsAsMeant.cls ≠ "java/lang/invoke/MethodHandle" ∧ yX10_eggsAsMeant.cls ≠ "java/lang/invoke/VarHandle" ∧ (parseMethodDescriptor yX10_eggsAsMeant.desc).map (fun d => d.parameters.length) = some 1 := by decide +kernel
theorem hdX10_fault : yX10_fault.cls ≠ "java/lang/invoke/MethodHandle" ∧ yX10_fault.cls ≠ "java/lang/invoke/VarHandle" ∧ (parseMethodDescriptor yX10_fault.desc).map (fun d => d.parameters.length) = some 0 := by decide +kernel
theorem hdX10_fits : yX10_fits.cls ≠ "java/lang/invoke/MethodHandle" ∧ yX10_fits.cls ≠ "java/lang/invoke/VarHandle" ∧ (parseMethodDescriptor yX10_fits.desc).map (fun d => d.parameters.length) = some 1 := by decide +kernel
theorem hdX10_has : yX10_has.cls ≠ "java/lang/invoke/MethodHandle" ∧ yX10_has.cls ≠ "java/lang/invoke/VarHandle" ∧ (parseMethodDescriptor yX10_has.desc).map (fun d => d.parameters.length) = some 2 := by decide +kernel
theorem hdX10_hasKitchen : yX10_hasKitchen.cls ≠ "java/lang/invoke/MethodHandle" ∧ yX10_hasKitchen.cls ≠ "java/lang/invoke/VarHandle" ∧ (parseMethodDescriptor yX10_hasKitchen.desc).map (fun d => d.parameters.length) = some 0 := by decide +kernel
theorem hdX10_image : yX10_image.cls ≠ "java/lang/invoke/MethodHandle" ∧ yX10_image.cls ≠ "java/lang/invoke/VarHandle" ∧ (parseMethodDescriptor yX10_image.desc).map (fun d => d.parameters.length) = some 0 := by decide +kernel
theorem hdX10_inLowestTerms : yX10_inLowestTerms.cls ≠ "java/lang/invoke/MethodHandle" ∧ yX10_inLowestTerms.cls ≠ "java/lang/invoke/VarHandle" ∧ (parseMethodDescriptor yX10_inLowestTerms.desc).map (fun d => d.parameters.length) = some 3 := by decide +kernel
theorem hdX10_init : yX10_init.cls ≠ "java/lang/invoke/MethodHandle" ∧ yX10_init.cls ≠ "java/lang/invoke/VarHandle" ∧ (parseMethodDescriptor yX10_init.desc).map (fun d => d.parameters.length) = some 0 := by decide +kernel
theorem hdX10_isEgg : yX10_isEgg.cls ≠ "java/lang/invoke/MethodHandle" ∧ yX10_isEgg.cls ≠ "java/lang/invoke/VarHandle" ∧ (parseMethodDescriptor yX10_isEgg.desc).map (fun d => d.parameters.length) = some 1 := by decide +kernel
theorem hdX10_isKind : yX10_isKind.cls ≠ "java/lang/invoke/MethodHandle" ∧ yX10_isKind.cls ≠ "java/lang/invoke/VarHandle" ∧ (parseMethodDescriptor yX10_isKind.desc).map (fun d => d.parameters.length) = some 1 := by decide +kernel
theorem hdX10_isOfKind : yX10_isOfKind.cls ≠ "java/lang/invoke/MethodHandle" ∧ yX10_isOfKind.cls ≠ "java/lang/invoke/VarHandle" ∧ (parseMethodDescriptor yX10_isOfKind.desc).map (fun d => d.parameters.length) = some 2 := by decide +kernel
theorem hdX10_isPart : yX10_isPart.cls ≠ "java/lang/invoke/MethodHandle" ∧ yX10_isPart.cls ≠ "java/lang/invoke/VarHandle" ∧ (parseMethodDescriptor yX10_isPart.desc).map (fun d => d.parameters.length) = some 1 := by decide +kernel
theorem hdX10_isRawNumber : yX10_isRawNumber.cls ≠ "java/lang/invoke/MethodHandle" ∧ yX10_isRawNumber.cls ≠ "java/lang/invoke/VarHandle" ∧ (parseMethodDescriptor yX10_isRawNumber.desc).map (fun d => d.parameters.length) = some 1 := by decide +kernel
theorem hdX10_kitchen : yX10_kitchen.cls ≠ "java/lang/invoke/MethodHandle" ∧ yX10_kitchen.cls ≠ "java/lang/invoke/VarHandle" ∧ (parseMethodDescriptor yX10_kitchen.desc).map (fun d => d.parameters.length) = some 0 := by decide +kernel
theorem hdX10_letter : yX10_letter.cls ≠ "java/lang/invoke/MethodHandle" ∧ yX10_letter.cls ≠ "java/lang/invoke/VarHandle" ∧ (parseMethodDescriptor yX10_letter.desc).map (fun d => d.parameters.length) = some 1 := by decide +kernel
theorem hdX10_likeliest : yX10_likeliest.cls ≠ "java/lang/invoke/MethodHandle" ∧ yX10_likeliest.cls ≠ "java/lang/invoke/VarHandle" ∧ (parseMethodDescriptor yX10_likeliest.desc).map (fun d => d.parameters.length) = some 0 := by decide +kernel
theorem hdX10_likely : yX10_likely.cls ≠ "java/lang/invoke/MethodHandle" ∧ yX10_likely.cls ≠ "java/lang/invoke/VarHandle" ∧ (parseMethodDescriptor yX10_likely.desc).map (fun d => d.parameters.length) = some 2 := by decide +kernel
theorem hdX10_mayBreak : yX10_mayBreak.cls ≠ "java/lang/invoke/MethodHandle" ∧ yX10_mayBreak.cls ≠ "java/lang/invoke/VarHandle" ∧ (parseMethodDescriptor yX10_mayBreak.desc).map (fun d => d.parameters.length) = some 0 := by decide +kernel
theorem hdX10_mean : yX10_mean.cls ≠ "java/lang/invoke/MethodHandle" ∧ yX10_mean.cls ≠ "java/lang/invoke/VarHandle" ∧ (parseMethodDescriptor yX10_mean.desc).map (fun d => d.parameters.length) = some 2 := by decide +kernel
theorem hdX10_mornings : yX10_mornings.cls ≠ "java/lang/invoke/MethodHandle" ∧ yX10_mornings.cls ≠ "java/lang/invoke/VarHandle" ∧ (parseMethodDescriptor yX10_mornings.desc).map (fun d => d.parameters.length) = some 3 := by decide +kernel
theorem hdX10_newTrier : yX10_newTrier.cls ≠ "java/lang/invoke/MethodHandle" ∧ yX10_newTrier.cls ≠ "java/lang/invoke/VarHandle" ∧ (parseMethodDescriptor yX10_newTrier.desc).map (fun d => d.parameters.length) = some 1 := by decide +kernel
theorem hdX10_restore : yX10_restore.cls ≠ "java/lang/invoke/MethodHandle" ∧ yX10_restore.cls ≠ "java/lang/invoke/VarHandle" ∧ (parseMethodDescriptor yX10_restore.desc).map (fun d => d.parameters.length) = some 0 := by decide +kernel
theorem hdX10_risk : yX10_risk.cls ≠ "java/lang/invoke/MethodHandle" ∧ yX10_risk.cls ≠ "java/lang/invoke/VarHandle" ∧ (parseMethodDescriptor yX10_risk.desc).map (fun d => d.parameters.length) = some 2 := by decide +kernel
theorem hdX10_spin : yX10_spin.cls ≠ "java/lang/invoke/MethodHandle" ∧ yX10_spin.cls ≠ "java/lang/invoke/VarHandle" ∧ (parseMethodDescriptor yX10_spin.desc).map (fun d => d.parameters.length) = some 2 := by decide +kernel
theorem hdX10_stop : yX10_stop.cls ≠ "java/lang/invoke/MethodHandle" ∧ yX10_stop.cls ≠ "java/lang/invoke/VarHandle" ∧ (parseMethodDescriptor yX10_stop.desc).map (fun d => d.parameters.length) = some 2 := by decide +kernel
theorem hdX10_trier : yX10_trier.cls ≠ "java/lang/invoke/MethodHandle" ∧ yX10_trier.cls ≠ "java/lang/invoke/VarHandle" ∧ (parseMethodDescriptor yX10_trier.desc).map (fun d => d.parameters.length) = some 1 := by decide +kernel
theorem hdX10_trierOf : yX10_trierOf.cls ≠ "java/lang/invoke/MethodHandle" ∧ yX10_trierOf.cls ≠ "java/lang/invoke/VarHandle" ∧ (parseMethodDescriptor yX10_trierOf.desc).map (fun d => d.parameters.length) = some 1 := by decide +kernel
theorem hdX10_turning : yX10_turning.cls ≠ "java/lang/invoke/MethodHandle" ∧ yX10_turning.cls ≠ "java/lang/invoke/VarHandle" ∧ (parseMethodDescriptor yX10_turning.desc).map (fun d => d.parameters.length) = some 2 := by decide +kernel
theorem hdX10_with : yX10_with.cls ≠ "java/lang/invoke/MethodHandle" ∧ yX10_with.cls ≠ "java/lang/invoke/VarHandle" ∧ (parseMethodDescriptor yX10_with.desc).map (fun d => d.parameters.length) = some 2 := by decide +kernel
theorem hdX10_withEgg : yX10_withEgg.cls ≠ "java/lang/invoke/MethodHandle" ∧ yX10_withEgg.cls ≠ "java/lang/invoke/VarHandle" ∧ (parseMethodDescriptor yX10_withEgg.desc).map (fun d => d.parameters.length) = some 2 := by decide +kernel
theorem hdX10_worst : yX10_worst.cls ≠ "java/lang/invoke/MethodHandle" ∧ yX10_worst.cls ≠ "java/lang/invoke/VarHandle" ∧ (parseMethodDescriptor yX10_worst.desc).map (fun d => d.parameters.length) = some 2 := by decide +kernel
theorem hdX11_about : yX11_about.cls ≠ "java/lang/invoke/MethodHandle" ∧ yX11_about.cls ≠ "java/lang/invoke/VarHandle" ∧ (parseMethodDescriptor yX11_about.desc).map (fun d => d.parameters.length) = some 2 := by decide +kernel
theorem hdX11_as : yX11_as.cls ≠ "java/lang/invoke/MethodHandle" ∧ yX11_as.cls ≠ "java/lang/invoke/VarHandle" ∧ (parseMethodDescriptor yX11_as.desc).map (fun d => d.parameters.length) = some 2 := by decide +kernel
theorem hdX11_badness : yX11_badness.cls ≠ "java/lang/invoke/MethodHandle" ∧ yX11_badness.cls ≠ "java/lang/invoke/VarHandle" ∧ (parseMethodDescriptor yX11_badness.desc).map (fun d => d.parameters.length) = some 2 := by decide +kernel
theorem hdX11_blank : yX11_blank.cls ≠ "java/lang/invoke/MethodHandle" ∧ yX11_blank.cls ≠ "java/lang/invoke/VarHandle" ∧ (parseMethodDescriptor yX11_blank.desc).map (fun d => d.parameters.length) = some 0 := by decide +kernel
theorem hdX11_boiledWeight : yX11_boiledWeight.cls ≠ "java/lang/invoke/MethodHandle" ∧ yX11_boiledWeight.cls ≠ "java/lang/invoke/VarHandle" ∧ (parseMethodDescriptor yX11_boiledWeight.desc).map (fun d => d.parameters.length) = some 2 := by decide +kernel
theorem hdX11_boxBy : yX11_boxBy.cls ≠ "java/lang/invoke/MethodHandle" ∧ yX11_boxBy.cls ≠ "java/lang/invoke/VarHandle" ∧ (parseMethodDescriptor yX11_boxBy.desc).map (fun d => d.parameters.length) = some 1 := by decide +kernel
theorem hdX11_count : yX11_count.cls ≠ "java/lang/invoke/MethodHandle" ∧ yX11_count.cls ≠ "java/lang/invoke/VarHandle" ∧ (parseMethodDescriptor yX11_count.desc).map (fun d => d.parameters.length) = some 1 := by decide +kernel
theorem hdX11_crack : yX11_crack.cls ≠ "java/lang/invoke/MethodHandle" ∧ yX11_crack.cls ≠ "java/lang/invoke/VarHandle" ∧ (parseMethodDescriptor yX11_crack.desc).map (fun d => d.parameters.length) = some 2 := by decide +kernel
theorem hdX11_digest : yX11_digest.cls ≠ "java/lang/invoke/MethodHandle" ∧ yX11_digest.cls ≠ "java/lang/invoke/VarHandle" ∧ (parseMethodDescriptor yX11_digest.desc).map (fun d => d.parameters.length) = some 0 := by decide +kernel
theorem hdX11_draw : yX11_draw.cls ≠ "java/lang/invoke/MethodHandle" ∧ yX11_draw.cls ≠ "java/lang/invoke/VarHandle" ∧ (parseMethodDescriptor yX11_draw.desc).map (fun d => d.parameters.length) = some 1 := by decide +kernel
theorem hdX11_egg : yX11_egg.cls ≠ "java/lang/invoke/MethodHandle" ∧ yX11_egg.cls ≠ "java/lang/invoke/VarHandle" ∧ (parseMethodDescriptor yX11_egg.desc).map (fun d => d.parameters.length) = some 2 := by decide +kernel
theorem hdX11_eggNow : yX11_eggNow.cls ≠ "java/lang/invoke/MethodHandle" ∧ yX11_eggNow.cls ≠ "java/lang/invoke/VarHandle" ∧ (parseMethodDescriptor yX11_eggNow.desc).map (fun d => d.parameters.length) = some 2 := by decide +kernel
theorem hdX11_eggsOf : yX11_eggsOf.cls ≠ "java/lang/invoke/MethodHandle" ∧ yX11_eggsOf.cls ≠ "java/lang/invoke/VarHandle" ∧ (parseMethodDescriptor yX11_eggsOf.desc).map (fun d => d.parameters.length) = some 2 := by decide +kernel
theorem hdX11_fault : yX11_fault.cls ≠ "java/lang/invoke/MethodHandle" ∧ yX11_fault.cls ≠ "java/lang/invoke/VarHandle" ∧ (parseMethodDescriptor yX11_fault.desc).map (fun d => d.parameters.length) = some 0 := by decide +kernel
theorem hdX11_faultNow : yX11_faultNow.cls ≠ "java/lang/invoke/MethodHandle" ∧ yX11_faultNow.cls ≠ "java/lang/invoke/VarHandle" ∧ (parseMethodDescriptor yX11_faultNow.desc).map (fun d => d.parameters.length) = some 0 := by decide +kernel
theorem hdX11_figure : yX11_figure.cls ≠ "java/lang/invoke/MethodHandle" ∧ yX11_figure.cls ≠ "java/lang/invoke/VarHandle" ∧ (parseMethodDescriptor yX11_figure.desc).map (fun d => d.parameters.length) = some 1 := by decide +kernel
theorem hdX11_figureOf : yX11_figureOf.cls ≠ "java/lang/invoke/MethodHandle" ∧ yX11_figureOf.cls ≠ "java/lang/invoke/VarHandle" ∧ (parseMethodDescriptor yX11_figureOf.desc).map (fun d => d.parameters.length) = some 2 := by decide +kernel
theorem hdX11_fits : yX11_fits.cls ≠ "java/lang/invoke/MethodHandle" ∧ yX11_fits.cls ≠ "java/lang/invoke/VarHandle" ∧ (parseMethodDescriptor yX11_fits.desc).map (fun d => d.parameters.length) = some 1 := by decide +kernel
theorem hdX11_fitsNow : yX11_fitsNow.cls ≠ "java/lang/invoke/MethodHandle" ∧ yX11_fitsNow.cls ≠ "java/lang/invoke/VarHandle" ∧ (parseMethodDescriptor yX11_fitsNow.desc).map (fun d => d.parameters.length) = some 1 := by decide +kernel
theorem hdX11_has : yX11_has.cls ≠ "java/lang/invoke/MethodHandle" ∧ yX11_has.cls ≠ "java/lang/invoke/VarHandle" ∧ (parseMethodDescriptor yX11_has.desc).map (fun d => d.parameters.length) = some 2 := by decide +kernel
theorem hdX11_howMany : yX11_howMany.cls ≠ "java/lang/invoke/MethodHandle" ∧ yX11_howMany.cls ≠ "java/lang/invoke/VarHandle" ∧ (parseMethodDescriptor yX11_howMany.desc).map (fun d => d.parameters.length) = some 1 := by decide +kernel
theorem hdX11_image : yX11_image.cls ≠ "java/lang/invoke/MethodHandle" ∧ yX11_image.cls ≠ "java/lang/invoke/VarHandle" ∧ (parseMethodDescriptor yX11_image.desc).map (fun d => d.parameters.length) = some 0 := by decide +kernel
theorem hdX11_init : yX11_init.cls ≠ "java/lang/invoke/MethodHandle" ∧ yX11_init.cls ≠ "java/lang/invoke/VarHandle" ∧ (parseMethodDescriptor yX11_init.desc).map (fun d => d.parameters.length) = some 0 := by decide +kernel
theorem hdX11_isEgg : yX11_isEgg.cls ≠ "java/lang/invoke/MethodHandle" ∧ yX11_isEgg.cls ≠ "java/lang/invoke/VarHandle" ∧ (parseMethodDescriptor yX11_isEgg.desc).map (fun d => d.parameters.length) = some 1 := by decide +kernel
theorem hdX11_isGood : yX11_isGood.cls ≠ "java/lang/invoke/MethodHandle" ∧ yX11_isGood.cls ≠ "java/lang/invoke/VarHandle" ∧ (parseMethodDescriptor yX11_isGood.desc).map (fun d => d.parameters.length) = some 1 := by decide +kernel
theorem hdX11_isInBox : yX11_isInBox.cls ≠ "java/lang/invoke/MethodHandle" ∧ yX11_isInBox.cls ≠ "java/lang/invoke/VarHandle" ∧ (parseMethodDescriptor yX11_isInBox.desc).map (fun d => d.parameters.length) = some 1 := by decide +kernel
theorem hdX11_isTrier : yX11_isTrier.cls ≠ "java/lang/invoke/MethodHandle" ∧ yX11_isTrier.cls ≠ "java/lang/invoke/VarHandle" ∧ (parseMethodDescriptor yX11_isTrier.desc).map (fun d => d.parameters.length) = some 1 := by decide +kernel
theorem hdX11_kitchen : yX11_kitchen.cls ≠ "java/lang/invoke/MethodHandle" ∧ yX11_kitchen.cls ≠ "java/lang/invoke/VarHandle" ∧ (parseMethodDescriptor yX11_kitchen.desc).map (fun d => d.parameters.length) = some 0 := by decide +kernel
theorem hdX11_know : yX11_know.cls ≠ "java/lang/invoke/MethodHandle" ∧ yX11_know.cls ≠ "java/lang/invoke/VarHandle" ∧ (parseMethodDescriptor yX11_know.desc).map (fun d => d.parameters.length) = some 2 := by decide +kernel
theorem hdX11_larger : yX11_larger.cls ≠ "java/lang/invoke/MethodHandle" ∧ yX11_larger.cls ≠ "java/lang/invoke/VarHandle" ∧ (parseMethodDescriptor yX11_larger.desc).map (fun d => d.parameters.length) = some 2 := by decide +kernel
theorem hdX11_layBreaking : yX11_layBreaking.cls ≠ "java/lang/invoke/MethodHandle" ∧ yX11_layBreaking.cls ≠ "java/lang/invoke/VarHandle" ∧ (parseMethodDescriptor yX11_layBreaking.desc).map (fun d => d.parameters.length) = some 1 := by decide +kernel
theorem hdX11_layState : yX11_layState.cls ≠ "java/lang/invoke/MethodHandle" ∧ yX11_layState.cls ≠ "java/lang/invoke/VarHandle" ∧ (parseMethodDescriptor yX11_layState.desc).map (fun d => d.parameters.length) = some 2 := by decide +kernel
theorem hdX11_layWeights : yX11_layWeights.cls ≠ "java/lang/invoke/MethodHandle" ∧ yX11_layWeights.cls ≠ "java/lang/invoke/VarHandle" ∧ (parseMethodDescriptor yX11_layWeights.desc).map (fun d => d.parameters.length) = some 0 := by decide +kernel
theorem hdX11_letter : yX11_letter.cls ≠ "java/lang/invoke/MethodHandle" ∧ yX11_letter.cls ≠ "java/lang/invoke/VarHandle" ∧ (parseMethodDescriptor yX11_letter.desc).map (fun d => d.parameters.length) = some 1 := by decide +kernel
theorem hdX11_likeliest : yX11_likeliest.cls ≠ "java/lang/invoke/MethodHandle" ∧ yX11_likeliest.cls ≠ "java/lang/invoke/VarHandle" ∧ (parseMethodDescriptor yX11_likeliest.desc).map (fun d => d.parameters.length) = some 0 := by decide +kernel
theorem hdX11_likeliestNow : yX11_likeliestNow.cls ≠ "java/lang/invoke/MethodHandle" ∧ yX11_likeliestNow.cls ≠ "java/lang/invoke/VarHandle" ∧ (parseMethodDescriptor yX11_likeliestNow.desc).map (fun d => d.parameters.length) = some 0 := by decide +kernel
theorem hdX11_likely : yX11_likely.cls ≠ "java/lang/invoke/MethodHandle" ∧ yX11_likely.cls ≠ "java/lang/invoke/VarHandle" ∧ (parseMethodDescriptor yX11_likely.desc).map (fun d => d.parameters.length) = some 2 := by decide +kernel
theorem hdX11_likelyNow : yX11_likelyNow.cls ≠ "java/lang/invoke/MethodHandle" ∧ yX11_likelyNow.cls ≠ "java/lang/invoke/VarHandle" ∧ (parseMethodDescriptor yX11_likelyNow.desc).map (fun d => d.parameters.length) = some 2 := by decide +kernel
theorem hdX11_lowest : yX11_lowest.cls ≠ "java/lang/invoke/MethodHandle" ∧ yX11_lowest.cls ≠ "java/lang/invoke/VarHandle" ∧ (parseMethodDescriptor yX11_lowest.desc).map (fun d => d.parameters.length) = some 3 := by decide +kernel
theorem hdX11_mayAsk : yX11_mayAsk.cls ≠ "java/lang/invoke/MethodHandle" ∧ yX11_mayAsk.cls ≠ "java/lang/invoke/VarHandle" ∧ (parseMethodDescriptor yX11_mayAsk.desc).map (fun d => d.parameters.length) = some 0 := by decide +kernel
theorem hdX11_mean : yX11_mean.cls ≠ "java/lang/invoke/MethodHandle" ∧ yX11_mean.cls ≠ "java/lang/invoke/VarHandle" ∧ (parseMethodDescriptor yX11_mean.desc).map (fun d => d.parameters.length) = some 2 := by decide +kernel
theorem hdX11_mix : yX11_mix.cls ≠ "java/lang/invoke/MethodHandle" ∧ yX11_mix.cls ≠ "java/lang/invoke/VarHandle" ∧ (parseMethodDescriptor yX11_mix.desc).map (fun d => d.parameters.length) = some 1 := by decide +kernel
theorem hdX11_mornings : yX11_mornings.cls ≠ "java/lang/invoke/MethodHandle" ∧ yX11_mornings.cls ≠ "java/lang/invoke/VarHandle" ∧ (parseMethodDescriptor yX11_mornings.desc).map (fun d => d.parameters.length) = some 3 := by decide +kernel
theorem hdX11_morningsNow : yX11_morningsNow.cls ≠ "java/lang/invoke/MethodHandle" ∧ yX11_morningsNow.cls ≠ "java/lang/invoke/VarHandle" ∧ (parseMethodDescriptor yX11_morningsNow.desc).map (fun d => d.parameters.length) = some 3 := by decide +kernel
theorem hdX11_nextOf : yX11_nextOf.cls ≠ "java/lang/invoke/MethodHandle" ∧ yX11_nextOf.cls ≠ "java/lang/invoke/VarHandle" ∧ (parseMethodDescriptor yX11_nextOf.desc).map (fun d => d.parameters.length) = some 1 := by decide +kernel
theorem hdX11_power : yX11_power.cls ≠ "java/lang/invoke/MethodHandle" ∧ yX11_power.cls ≠ "java/lang/invoke/VarHandle" ∧ (parseMethodDescriptor yX11_power.desc).map (fun d => d.parameters.length) = some 2 := by decide +kernel
theorem hdX11_restore : yX11_restore.cls ≠ "java/lang/invoke/MethodHandle" ∧ yX11_restore.cls ≠ "java/lang/invoke/VarHandle" ∧ (parseMethodDescriptor yX11_restore.desc).map (fun d => d.parameters.length) = some 0 := by decide +kernel
theorem hdX11_risk : yX11_risk.cls ≠ "java/lang/invoke/MethodHandle" ∧ yX11_risk.cls ≠ "java/lang/invoke/VarHandle" ∧ (parseMethodDescriptor yX11_risk.desc).map (fun d => d.parameters.length) = some 2 := by decide +kernel
theorem hdX11_riskNow : yX11_riskNow.cls ≠ "java/lang/invoke/MethodHandle" ∧ yX11_riskNow.cls ≠ "java/lang/invoke/VarHandle" ∧ (parseMethodDescriptor yX11_riskNow.desc).map (fun d => d.parameters.length) = some 2 := by decide +kernel
theorem hdX11_size : yX11_size.cls ≠ "java/lang/invoke/MethodHandle" ∧ yX11_size.cls ≠ "java/lang/invoke/VarHandle" ∧ (parseMethodDescriptor yX11_size.desc).map (fun d => d.parameters.length) = some 1 := by decide +kernel
theorem hdX11_spin : yX11_spin.cls ≠ "java/lang/invoke/MethodHandle" ∧ yX11_spin.cls ≠ "java/lang/invoke/VarHandle" ∧ (parseMethodDescriptor yX11_spin.desc).map (fun d => d.parameters.length) = some 2 := by decide +kernel
theorem hdX11_spun : yX11_spun.cls ≠ "java/lang/invoke/MethodHandle" ∧ yX11_spun.cls ≠ "java/lang/invoke/VarHandle" ∧ (parseMethodDescriptor yX11_spun.desc).map (fun d => d.parameters.length) = some 2 := by decide +kernel
theorem hdX11_stop : yX11_stop.cls ≠ "java/lang/invoke/MethodHandle" ∧ yX11_stop.cls ≠ "java/lang/invoke/VarHandle" ∧ (parseMethodDescriptor yX11_stop.desc).map (fun d => d.parameters.length) = some 2 := by decide +kernel
theorem hdX11_three : yX11_three.cls ≠ "java/lang/invoke/MethodHandle" ∧ yX11_three.cls ≠ "java/lang/invoke/VarHandle" ∧ (parseMethodDescriptor yX11_three.desc).map (fun d => d.parameters.length) = some 1 := by decide +kernel
theorem hdX11_total : yX11_total.cls ≠ "java/lang/invoke/MethodHandle" ∧ yX11_total.cls ≠ "java/lang/invoke/VarHandle" ∧ (parseMethodDescriptor yX11_total.desc).map (fun d => d.parameters.length) = some 2 := by decide +kernel
theorem hdX11_trier : yX11_trier.cls ≠ "java/lang/invoke/MethodHandle" ∧ yX11_trier.cls ≠ "java/lang/invoke/VarHandle" ∧ (parseMethodDescriptor yX11_trier.desc).map (fun d => d.parameters.length) = some 1 := by decide +kernel
theorem hdX11_trierNow : yX11_trierNow.cls ≠ "java/lang/invoke/MethodHandle" ∧ yX11_trierNow.cls ≠ "java/lang/invoke/VarHandle" ∧ (parseMethodDescriptor yX11_trierNow.desc).map (fun d => d.parameters.length) = some 2 := by decide +kernel
theorem hdX11_turning : yX11_turning.cls ≠ "java/lang/invoke/MethodHandle" ∧ yX11_turning.cls ≠ "java/lang/invoke/VarHandle" ∧ (parseMethodDescriptor yX11_turning.desc).map (fun d => d.parameters.length) = some 2 := by decide +kernel
theorem hdX11_turningNow : yX11_turningNow.cls ≠ "java/lang/invoke/MethodHandle" ∧ yX11_turningNow.cls ≠ "java/lang/invoke/VarHandle" ∧ (parseMethodDescriptor yX11_turningNow.desc).map (fun d => d.parameters.length) = some 2 := by decide +kernel
theorem hdX11_weight : yX11_weight.cls ≠ "java/lang/invoke/MethodHandle" ∧ yX11_weight.cls ≠ "java/lang/invoke/VarHandle" ∧ (parseMethodDescriptor yX11_weight.desc).map (fun d => d.parameters.length) = some 3 := by decide +kernel
theorem hdX11_within : yX11_within.cls ≠ "java/lang/invoke/MethodHandle" ∧ yX11_within.cls ≠ "java/lang/invoke/VarHandle" ∧ (parseMethodDescriptor yX11_within.desc).map (fun d => d.parameters.length) = some 3 := by decide +kernel
theorem hdX11_worst : yX11_worst.cls ≠ "java/lang/invoke/MethodHandle" ∧ yX11_worst.cls ≠ "java/lang/invoke/VarHandle" ∧ (parseMethodDescriptor yX11_worst.desc).map (fun d => d.parameters.length) = some 2 := by decide +kernel
theorem hdX2_init : yX2_init.cls ≠ "java/lang/invoke/MethodHandle" ∧ yX2_init.cls ≠ "java/lang/invoke/VarHandle" ∧ (parseMethodDescriptor yX2_init.desc).map (fun d => d.parameters.length) = some 0 := by decide +kernel
theorem hdX2_kind : yX2_kind.cls ≠ "java/lang/invoke/MethodHandle" ∧ yX2_kind.cls ≠ "java/lang/invoke/VarHandle" ∧ (parseMethodDescriptor yX2_kind.desc).map (fun d => d.parameters.length) = some 0 := by decide +kernel
theorem hdX2_score : yX2_score.cls ≠ "java/lang/invoke/MethodHandle" ∧ yX2_score.cls ≠ "java/lang/invoke/VarHandle" ∧ (parseMethodDescriptor yX2_score.desc).map (fun d => d.parameters.length) = some 2 := by decide +kernel
theorem hdX3_init : yX3_init.cls ≠ "java/lang/invoke/MethodHandle" ∧ yX3_init.cls ≠ "java/lang/invoke/VarHandle" ∧ (parseMethodDescriptor yX3_init.desc).map (fun d => d.parameters.length) = some 0 := by decide +kernel
theorem hdX3_next : yX3_next.cls ≠ "java/lang/invoke/MethodHandle" ∧ yX3_next.cls ≠ "java/lang/invoke/VarHandle" ∧ (parseMethodDescriptor yX3_next.desc).map (fun d => d.parameters.length) = some 1 := by decide +kernel
theorem hdX3_startFrom : yX3_startFrom.cls ≠ "java/lang/invoke/MethodHandle" ∧ yX3_startFrom.cls ≠ "java/lang/invoke/VarHandle" ∧ (parseMethodDescriptor yX3_startFrom.desc).map (fun d => d.parameters.length) = some 1 := by decide +kernel
theorem hdX4_init : yX4_init.cls ≠ "java/lang/invoke/MethodHandle" ∧ yX4_init.cls ≠ "java/lang/invoke/VarHandle" ∧ (parseMethodDescriptor yX4_init.desc).map (fun d => d.parameters.length) = some 0 := by decide +kernel
theorem hdX4_kind : yX4_kind.cls ≠ "java/lang/invoke/MethodHandle" ∧ yX4_kind.cls ≠ "java/lang/invoke/VarHandle" ∧ (parseMethodDescriptor yX4_kind.desc).map (fun d => d.parameters.length) = some 0 := by decide +kernel
theorem hdX4_takesLast : yX4_takesLast.cls ≠ "java/lang/invoke/MethodHandle" ∧ yX4_takesLast.cls ≠ "java/lang/invoke/VarHandle" ∧ (parseMethodDescriptor yX4_takesLast.desc).map (fun d => d.parameters.length) = some 0 := by decide +kernel
theorem hdX5_init : yX5_init.cls ≠ "java/lang/invoke/MethodHandle" ∧ yX5_init.cls ≠ "java/lang/invoke/VarHandle" ∧ (parseMethodDescriptor yX5_init.desc).map (fun d => d.parameters.length) = some 0 := by decide +kernel
theorem hdX5_kind : yX5_kind.cls ≠ "java/lang/invoke/MethodHandle" ∧ yX5_kind.cls ≠ "java/lang/invoke/VarHandle" ∧ (parseMethodDescriptor yX5_kind.desc).map (fun d => d.parameters.length) = some 0 := by decide +kernel
theorem hdX5_score : yX5_score.cls ≠ "java/lang/invoke/MethodHandle" ∧ yX5_score.cls ≠ "java/lang/invoke/VarHandle" ∧ (parseMethodDescriptor yX5_score.desc).map (fun d => d.parameters.length) = some 2 := by decide +kernel
theorem hdX6_allEggs : yX6_allEggs.cls ≠ "java/lang/invoke/MethodHandle" ∧ yX6_allEggs.cls ≠ "java/lang/invoke/VarHandle" ∧ (parseMethodDescriptor yX6_allEggs.desc).map (fun d => d.parameters.length) = some 0 := by decide +kernel
theorem hdX6_habitsOf : yX6_habitsOf.cls ≠ "java/lang/invoke/MethodHandle" ∧ yX6_habitsOf.cls ≠ "java/lang/invoke/VarHandle" ∧ (parseMethodDescriptor yX6_habitsOf.desc).map (fun d => d.parameters.length) = some 1 := by decide +kernel
theorem hdX6_init : yX6_init.cls ≠ "java/lang/invoke/MethodHandle" ∧ yX6_init.cls ≠ "java/lang/invoke/VarHandle" ∧ (parseMethodDescriptor yX6_init.desc).map (fun d => d.parameters.length) = some 0 := by decide +kernel
theorem hdX6_readFrom : yX6_readFrom.cls ≠ "java/lang/invoke/MethodHandle" ∧ yX6_readFrom.cls ≠ "java/lang/invoke/VarHandle" ∧ (parseMethodDescriptor yX6_readFrom.desc).map (fun d => d.parameters.length) = some 1 := by decide +kernel
theorem hdX6_tenthsOf : yX6_tenthsOf.cls ≠ "java/lang/invoke/MethodHandle" ∧ yX6_tenthsOf.cls ≠ "java/lang/invoke/VarHandle" ∧ (parseMethodDescriptor yX6_tenthsOf.desc).map (fun d => d.parameters.length) = some 2 := by decide +kernel
theorem hdX7_append : yX7_append.cls ≠ "java/lang/invoke/MethodHandle" ∧ yX7_append.cls ≠ "java/lang/invoke/VarHandle" ∧ (parseMethodDescriptor yX7_append.desc).map (fun d => d.parameters.length) = some 1 := by decide +kernel
theorem hdX7_clear : yX7_clear.cls ≠ "java/lang/invoke/MethodHandle" ∧ yX7_clear.cls ≠ "java/lang/invoke/VarHandle" ∧ (parseMethodDescriptor yX7_clear.desc).map (fun d => d.parameters.length) = some 0 := by decide +kernel
theorem hdX7_digit : yX7_digit.cls ≠ "java/lang/invoke/MethodHandle" ∧ yX7_digit.cls ≠ "java/lang/invoke/VarHandle" ∧ (parseMethodDescriptor yX7_digit.desc).map (fun d => d.parameters.length) = some 1 := by decide +kernel
theorem hdX7_firstFault : yX7_firstFault.cls ≠ "java/lang/invoke/MethodHandle" ∧ yX7_firstFault.cls ≠ "java/lang/invoke/VarHandle" ∧ (parseMethodDescriptor yX7_firstFault.desc).map (fun d => d.parameters.length) = some 0 := by decide +kernel
theorem hdX7_init : yX7_init.cls ≠ "java/lang/invoke/MethodHandle" ∧ yX7_init.cls ≠ "java/lang/invoke/VarHandle" ∧ (parseMethodDescriptor yX7_init.desc).map (fun d => d.parameters.length) = some 0 := by decide +kernel
theorem hdX7_isDigit : yX7_isDigit.cls ≠ "java/lang/invoke/MethodHandle" ∧ yX7_isDigit.cls ≠ "java/lang/invoke/VarHandle" ∧ (parseMethodDescriptor yX7_isDigit.desc).map (fun d => d.parameters.length) = some 3 := by decide +kernel
theorem hdX7_isFull : yX7_isFull.cls ≠ "java/lang/invoke/MethodHandle" ∧ yX7_isFull.cls ≠ "java/lang/invoke/VarHandle" ∧ (parseMethodDescriptor yX7_isFull.desc).map (fun d => d.parameters.length) = some 0 := by decide +kernel
theorem hdX7_isWholeKitchen : yX7_isWholeKitchen.cls ≠ "java/lang/invoke/MethodHandle" ∧ yX7_isWholeKitchen.cls ≠ "java/lang/invoke/VarHandle" ∧ (parseMethodDescriptor yX7_isWholeKitchen.desc).map (fun d => d.parameters.length) = some 0 := by decide +kernel
theorem hdX7_suits : yX7_suits.cls ≠ "java/lang/invoke/MethodHandle" ∧ yX7_suits.cls ≠ "java/lang/invoke/VarHandle" ∧ (parseMethodDescriptor yX7_suits.desc).map (fun d => d.parameters.length) = some 1 := by decide +kernel
theorem hdX8_allWeight : yX8_allWeight.cls ≠ "java/lang/invoke/MethodHandle" ∧ yX8_allWeight.cls ≠ "java/lang/invoke/VarHandle" ∧ (parseMethodDescriptor yX8_allWeight.desc).map (fun d => d.parameters.length) = some 0 := by decide +kernel
theorem hdX8_begin : yX8_begin.cls ≠ "java/lang/invoke/MethodHandle" ∧ yX8_begin.cls ≠ "java/lang/invoke/VarHandle" ∧ (parseMethodDescriptor yX8_begin.desc).map (fun d => d.parameters.length) = some 1 := by decide +kernel
theorem hdX8_boiledWeight : yX8_boiledWeight.cls ≠ "java/lang/invoke/MethodHandle" ∧ yX8_boiledWeight.cls ≠ "java/lang/invoke/VarHandle" ∧ (parseMethodDescriptor yX8_boiledWeight.desc).map (fun d => d.parameters.length) = some 1 := by decide +kernel
theorem hdX8_canBe : yX8_canBe.cls ≠ "java/lang/invoke/MethodHandle" ∧ yX8_canBe.cls ≠ "java/lang/invoke/VarHandle" ∧ (parseMethodDescriptor yX8_canBe.desc).map (fun d => d.parameters.length) = some 3 := by decide +kernel
theorem hdX8_canBeSure : yX8_canBeSure.cls ≠ "java/lang/invoke/MethodHandle" ∧ yX8_canBeSure.cls ≠ "java/lang/invoke/VarHandle" ∧ (parseMethodDescriptor yX8_canBeSure.desc).map (fun d => d.parameters.length) = some 2 := by decide +kernel
theorem hdX8_copyFrom : yX8_copyFrom.cls ≠ "java/lang/invoke/MethodHandle" ∧ yX8_copyFrom.cls ≠ "java/lang/invoke/VarHandle" ∧ (parseMethodDescriptor yX8_copyFrom.desc).map (fun d => d.parameters.length) = some 1 := by decide +kernel
theorem hdX8_countSpin : yX8_countSpin.cls ≠ "java/lang/invoke/MethodHandle" ∧ yX8_countSpin.cls ≠ "java/lang/invoke/VarHandle" ∧ (parseMethodDescriptor yX8_countSpin.desc).map (fun d => d.parameters.length) = some 2 := by decide +kernel
theorem hdX8_eggAtPlace : yX8_eggAtPlace.cls ≠ "java/lang/invoke/MethodHandle" ∧ yX8_eggAtPlace.cls ≠ "java/lang/invoke/VarHandle" ∧ (parseMethodDescriptor yX8_eggAtPlace.desc).map (fun d => d.parameters.length) = some 1 := by decide +kernel
theorem hdX8_fittingBox : yX8_fittingBox.cls ≠ "java/lang/invoke/MethodHandle" ∧ yX8_fittingBox.cls ≠ "java/lang/invoke/VarHandle" ∧ (parseMethodDescriptor yX8_fittingBox.desc).map (fun d => d.parameters.length) = some 1 := by decide +kernel
theorem hdX8_hasRawInBox : yX8_hasRawInBox.cls ≠ "java/lang/invoke/MethodHandle" ∧ yX8_hasRawInBox.cls ≠ "java/lang/invoke/VarHandle" ∧ (parseMethodDescriptor yX8_hasRawInBox.desc).map (fun d => d.parameters.length) = some 1 := by decide +kernel
theorem hdX8_heaviestBox : yX8_heaviestBox.cls ≠ "java/lang/invoke/MethodHandle" ∧ yX8_heaviestBox.cls ≠ "java/lang/invoke/VarHandle" ∧ (parseMethodDescriptor yX8_heaviestBox.desc).map (fun d => d.parameters.length) = some 0 := by decide +kernel
theorem hdX8_howManyInBox : yX8_howManyInBox.cls ≠ "java/lang/invoke/MethodHandle" ∧ yX8_howManyInBox.cls ≠ "java/lang/invoke/VarHandle" ∧ (parseMethodDescriptor yX8_howManyInBox.desc).map (fun d => d.parameters.length) = some 0 := by decide +kernel
theorem hdX8_init : yX8_init.cls ≠ "java/lang/invoke/MethodHandle" ∧ yX8_init.cls ≠ "java/lang/invoke/VarHandle" ∧ (parseMethodDescriptor yX8_init.desc).map (fun d => d.parameters.length) = some 0 := by decide +kernel
theorem hdX8_isInBox : yX8_isInBox.cls ≠ "java/lang/invoke/MethodHandle" ∧ yX8_isInBox.cls ≠ "java/lang/invoke/VarHandle" ∧ (parseMethodDescriptor yX8_isInBox.desc).map (fun d => d.parameters.length) = some 1 := by decide +kernel
theorem hdX8_keep : yX8_keep.cls ≠ "java/lang/invoke/MethodHandle" ∧ yX8_keep.cls ≠ "java/lang/invoke/VarHandle" ∧ (parseMethodDescriptor yX8_keep.desc).map (fun d => d.parameters.length) = some 2 := by decide +kernel
theorem hdX8_makeSure : yX8_makeSure.cls ≠ "java/lang/invoke/MethodHandle" ∧ yX8_makeSure.cls ≠ "java/lang/invoke/VarHandle" ∧ (parseMethodDescriptor yX8_makeSure.desc).map (fun d => d.parameters.length) = some 2 := by decide +kernel
theorem hdX8_surelyBoiled : yX8_surelyBoiled.cls ≠ "java/lang/invoke/MethodHandle" ∧ yX8_surelyBoiled.cls ≠ "java/lang/invoke/VarHandle" ∧ (parseMethodDescriptor yX8_surelyBoiled.desc).map (fun d => d.parameters.length) = some 1 := by decide +kernel
theorem hdX8_surelyRaw : yX8_surelyRaw.cls ≠ "java/lang/invoke/MethodHandle" ∧ yX8_surelyRaw.cls ≠ "java/lang/invoke/VarHandle" ∧ (parseMethodDescriptor yX8_surelyRaw.desc).map (fun d => d.parameters.length) = some 1 := by decide +kernel
theorem hdX8_takeOut : yX8_takeOut.cls ≠ "java/lang/invoke/MethodHandle" ∧ yX8_takeOut.cls ≠ "java/lang/invoke/VarHandle" ∧ (parseMethodDescriptor yX8_takeOut.desc).map (fun d => d.parameters.length) = some 1 := by decide +kernel
theorem hdX8_weigh : yX8_weigh.cls ≠ "java/lang/invoke/MethodHandle" ∧ yX8_weigh.cls ≠ "java/lang/invoke/VarHandle" ∧ (parseMethodDescriptor yX8_weigh.desc).map (fun d => d.parameters.length) = some 3 := by decide +kernel
theorem hdX9_init : yX9_init.cls ≠ "java/lang/invoke/MethodHandle" ∧ yX9_init.cls ≠ "java/lang/invoke/VarHandle" ∧ (parseMethodDescriptor yX9_init.desc).map (fun d => d.parameters.length) = some 0 := by decide +kernel
theorem hdX9_kind : yX9_kind.cls ≠ "java/lang/invoke/MethodHandle" ∧ yX9_kind.cls ≠ "java/lang/invoke/VarHandle" ∧ (parseMethodDescriptor yX9_kind.desc).map (fun d => d.parameters.length) = some 0 := by decide +kernel
theorem hdX9_nextEgg : yX9_nextEgg.cls ≠ "java/lang/invoke/MethodHandle" ∧ yX9_nextEgg.cls ≠ "java/lang/invoke/VarHandle" ∧ (parseMethodDescriptor yX9_nextEgg.desc).map (fun d => d.parameters.length) = some 1 := by decide +kernel
theorem hdX9_score : yX9_score.cls ≠ "java/lang/invoke/MethodHandle" ∧ yX9_score.cls ≠ "java/lang/invoke/VarHandle" ∧ (parseMethodDescriptor yX9_score.desc).map (fun d => d.parameters.length) = some 2 := by decide +kernel
theorem hdX9_takesLast : yX9_takesLast.cls ≠ "java/lang/invoke/MethodHandle" ∧ yX9_takesLast.cls ≠ "java/lang/invoke/VarHandle" ∧ (parseMethodDescriptor yX9_takesLast.desc).map (fun d => d.parameters.length) = some 0 := by decide +kernel
end
section
/-! small numbers, truth values, switches -/
def zI (b : Bool) : Int32 := if b then 1 else 0
theorem zI_f {b : Bool} : zI b = 0 ↔ b = false := by cases b <;> simp [zI]
theorem zI_t {b : Bool} : ¬ zI b = 0 ↔ b = true := by cases b <;> simp [zI]
theorem zI_or (b : Bool) : zI b = 0 ∨ zI b = 1 := by cases b <;> simp [zI]
theorem zI_0 {b : Bool} (h : b = false) : nI 0 = zI b := by subst h; decide
theorem zI_1 {b : Bool} (h : b = true) : nI 1 = zI b := by subst h; decide
theorem iinc1 (i : Nat) : nI i + Int32.ofInt 1 = nI (i + 1) := nI_1 i
theorem iincn (i k : Nat) (x : Int32) (h : x = nI k) : nI i + x = nI (i + k) := h ▸ nI_add i k
theorem sw_cases (x : Int32) (n : Nat) (hn : n < 2 ^ 31) : (∃ k : Nat, k < n ∧ x = nI k) ∨ (x.toInt < 0 ∨ (n : Int) ≤ x.toInt) := by
  by_cases h0 : x.toInt < 0
  · exact Or.inr (Or.inl h0)
  · by_cases h1 : (n : Int) ≤ x.toInt
    · exact Or.inr (Or.inr h1)
    · obtain ⟨j, hj, e⟩ := vp_in_of (vp_in_iff.mpr ⟨by omega, by omega⟩ : vp_in x n) hn
      exact Or.inl ⟨j, hj, e⟩
section KY
variable {p : Program} {l : Launch} {e : Env} {R : Room} {s : State} {m : MethodId} {args : Array Value} {below : List Frame} {meth : Method} {c : Code} {H : Heap} {locs : List Loc} {cells slots : Nat} {Q : State → Prop}
variable {cc : ByteArray} {pc : Nat} {ls : Array Slot} {rest : List Value} {g : GG} {A : Nat → Prop} {w : va_W} {a0 j k : Nat}
theorem new_i {n : Int32} {N : Nat} (hx : p.tables.exec = Jvm.exec) (hb : c.code = cc) (hC : CK g s) (hac : (Cond.arrayClass .int).before args s = true) (hP : va_P g.1 vwCl w H) (hD : va_D A w) (hS : va_S A s.heap H locs) (hA : ∀ q : Nat, s.heap.size ≤ q → A q) (hn : ¬ n < 0) (hN : n.toNatClampNeg = N) (hby : N * 4 ≤ 536870912) (hcells : cells + 1 ≤ R.cells) (hslots : slots + N ≤ R.slots) (hd : decode cc pc = .ok (.newarray .int, 2))
    (kk : ∀ (q : Nat) (H1 : Heap), va_P g.1 vwCl (w ++ [(q, .inl (g.2.1, N, .inl (fun _ => 0)))]) H1 → va_D A (w ++ [(q, .inl (g.2.1, N, .inl (fun _ => 0)))]) → va_S A s.heap H1 locs → W p l e R s m args below meth c H1 locs (cells + 1) (slots + N) Q (F0 m (pc + 2) ls (.ref q :: rest))) : W p l e R s m args below meth c H locs cells slots Q (F0 m pc ls (.int n :: rest)) := by
  refine va_newa (atype := .int) (ty := .int) (a0 := (N, .inl (fun _ => 0))) hx hb hac rfl hC.1 hP hD hS hA (fun cA => rfl) hn hN hby hcells hslots hd (fun q cA H1 hK1 hP1 hD1 hS1 => ?_)
  have e1 := va_nm_int (hK1.2 4 (cA, .int) rfl).2
  have e2 := va_nm_int (hC.1.2 0 (g.2.1, .int) rfl).2
  obtain rfl : cA = g.2.1 := Option.some.inj (e1.symm.trans e2)
  exact kk q H1 hP1 hD1 hS1
theorem new_l {n : Int32} {N : Nat} (hx : p.tables.exec = Jvm.exec) (hb : c.code = cc) (hC : CK g s) (hac : (Cond.arrayClass .long).before args s = true) (hP : va_P g.1 vwCl w H) (hD : va_D A w) (hS : va_S A s.heap H locs) (hA : ∀ q : Nat, s.heap.size ≤ q → A q) (hn : ¬ n < 0) (hN : n.toNatClampNeg = N) (hby : N * 8 ≤ 536870912) (hcells : cells + 1 ≤ R.cells) (hslots : slots + N ≤ R.slots) (hd : decode cc pc = .ok (.newarray .long, 2))
    (kk : ∀ (q : Nat) (H1 : Heap), va_P g.1 vwCl (w ++ [(q, .inl (g.2.2.1, N, .inr (.inl (fun _ => 0))))]) H1 → va_D A (w ++ [(q, .inl (g.2.2.1, N, .inr (.inl (fun _ => 0))))]) → va_S A s.heap H1 locs → W p l e R s m args below meth c H1 locs (cells + 1) (slots + N) Q (F0 m (pc + 2) ls (.ref q :: rest))) : W p l e R s m args below meth c H locs cells slots Q (F0 m pc ls (.int n :: rest)) := by
  refine va_newa (atype := .long) (ty := .long) (a0 := (N, .inr (.inl (fun _ => 0)))) hx hb hac rfl hC.1 hP hD hS hA (fun cA => rfl) hn hN hby hcells hslots hd (fun q cA H1 hK1 hP1 hD1 hS1 => ?_)
  have e1 := va_nm_long (hK1.2 4 (cA, .long) rfl).2
  have e2 := va_nm_long (hC.1.2 1 (g.2.2.1, .long) rfl).2
  obtain rfl : cA = g.2.2.1 := Option.some.inj (e1.symm.trans e2)
  exact kk q H1 hP1 hD1 hS1
theorem new_b {n : Int32} {N : Nat} (hx : p.tables.exec = Jvm.exec) (hb : c.code = cc) (hC : CK g s) (hac : (Cond.arrayClass .byte).before args s = true) (hP : va_P g.1 vwCl w H) (hD : va_D A w) (hS : va_S A s.heap H locs) (hA : ∀ q : Nat, s.heap.size ≤ q → A q) (hn : ¬ n < 0) (hN : n.toNatClampNeg = N) (hby : N * 1 ≤ 536870912) (hcells : cells + 1 ≤ R.cells) (hslots : slots + N ≤ R.slots) (hd : decode cc pc = .ok (.newarray .byte, 2))
    (kk : ∀ (q : Nat) (H1 : Heap), va_P g.1 vwCl (w ++ [(q, .inl (g.2.2.2.1, N, .inl (fun _ => 0)))]) H1 → va_D A (w ++ [(q, .inl (g.2.2.2.1, N, .inl (fun _ => 0)))]) → va_S A s.heap H1 locs → W p l e R s m args below meth c H1 locs (cells + 1) (slots + N) Q (F0 m (pc + 2) ls (.ref q :: rest))) : W p l e R s m args below meth c H locs cells slots Q (F0 m pc ls (.int n :: rest)) := by
  refine va_newa (atype := .byte) (ty := .byte) (a0 := (N, .inl (fun _ => 0))) hx hb hac rfl hC.1 hP hD hS hA (fun cA => rfl) hn hN hby hcells hslots hd (fun q cA H1 hK1 hP1 hD1 hS1 => ?_)
  have e1 := va_nm_byte (hK1.2 4 (cA, .byte) rfl).2
  have e2 := va_nm_byte (hC.1.2 2 (g.2.2.2.1, .byte) rfl).2
  obtain rfl : cA = g.2.2.2.1 := Option.some.inj (e1.symm.trans e2)
  exact kk q H1 hP1 hD1 hS1
theorem new_q {n : Int32} {N : Nat} {own : String} {index : Nat} (hx : p.tables.exec = Jvm.exec) (hb : c.code = cc) (hC : CK g s) (hown : s.vm.findClass own = some m.cls) (hcl : (Cond.classLink own index "BoiledEggs$Trier").before args s = true) (hP : va_P g.1 vwCl w H) (hD : va_D A w) (hS : va_S A s.heap H locs) (hA : ∀ q : Nat, s.heap.size ≤ q → A q) (hn : ¬ n < 0) (hN : n.toNatClampNeg = N) (hby : N * 4 ≤ 536870912) (hcells : cells + 1 ≤ R.cells) (hslots : slots + N ≤ R.slots) (hd : decode cc pc = .ok (.anewarray index, 3))
    (kk : ∀ (q : Nat) (H1 : Heap), va_P g.1 vwCl (w ++ [(q, .inl (g.2.2.2.2, N, .inr (.inr (.inr (.inr (fun _ => none))))))]) H1 → va_D A (w ++ [(q, .inl (g.2.2.2.2, N, .inr (.inr (.inr (.inr (fun _ => none))))))]) → va_S A s.heap H1 locs → W p l e R s m args below meth c H1 locs (cells + 1) (slots + N) Q (F0 m (pc + 3) ls (.ref q :: rest))) : W p l e R s m args below meth c H locs cells slots Q (F0 m pc ls (.int n :: rest)) := by
  refine va_newq hx hb hown hcl hC.2.2.2 hC.1 hP hD hS hA hn hN hby hcells hslots hd (fun q cA H1 hK1 hP1 hD1 hS1 => ?_)
  obtain ⟨_, _, _, _, _, e1⟩ := (hK1.2 4 (cA, .object "BoiledEggs$Trier") rfl).2
  obtain ⟨_, _, _, _, _, e2⟩ := (hC.1.2 3 (g.2.2.2.2, .object "BoiledEggs$Trier") rfl).2
  obtain rfl : cA = g.2.2.2.2 := Option.some.inj (e1.symm.trans e2)
  exact kk q H1 hP1 hD1 hS1
theorem ast_b {f : Nat → Int32} {x : Int32} {n : Nat} (hx : p.tables.exec = Jvm.exec) (hb : c.code = cc) (hC : CK g s) (hP : va_P g.1 vwCl w H) (hD : va_D A w) (hS : va_S A s.heap H locs) (q0 : Nat) (ha : w[q0]? = some (a0, .inl (g.2.2.2.1, n, .inl f))) (hj : j < n) (hn : n < 2 ^ 31) (hf : vp_nar .byte x = x) (hd : decode cc pc = .ok (.bastore, 1))
    (kk : ∀ (H1 : Heap) (locs1 : List Loc), va_P g.1 vwCl (w.set q0 (a0, .inl (g.2.2.2.1, n, .inl (upd f j x)))) H1 → va_D A (w.set q0 (a0, .inl (g.2.2.2.1, n, .inl (upd f j x)))) → va_S A s.heap H1 locs1 → W p l e R s m args below meth c H1 locs1 cells slots Q (F0 m (pc + 1) ls rest)) : W p l e R s m args below meth c H locs cells slots Q (F0 m pc ls (.int x :: .int (nI j) :: .ref a0 :: rest)) :=
  va_bast hx hb hC.1 hP hD hS q0 2 ha rfl (vp_in_nI hj hn) hd (by rw [nI_clamp (Nat.lt_trans hj hn), hf]; exact kk)
theorem ast_q {f : Nat → Option Nat} {v n : Nat} (hx : p.tables.exec = Jvm.exec) (hb : c.code = cc) (hC : CK g s) (hP : va_P g.1 vwCl w H) (hD : va_D A w) (hS : va_S A s.heap H locs) (q0 : Nat) (ha : w[q0]? = some (a0, .inl (g.2.2.2.2, n, .inr (.inr (.inr (.inr f)))))) (hr : va_Any "BoiledEggs$Trier" s H v) (hj : j < n) (hn : n < 2 ^ 31) (hd : decode cc pc = .ok (.aastore, 1))
    (kk : ∀ (H1 : Heap) (locs1 : List Loc), va_P g.1 vwCl (w.set q0 (a0, .inl (g.2.2.2.2, n, .inr (.inr (.inr (.inr (va_up f j (some v)))))))) H1 → va_D A (w.set q0 (a0, .inl (g.2.2.2.2, n, .inr (.inr (.inr (.inr (va_up f j (some v)))))))) → va_S A s.heap H1 locs1 → W p l e R s m args below meth c H1 locs1 cells slots Q (F0 m (pc + 1) ls rest)) : W p l e R s m args below meth c H locs cells slots Q (F0 m pc ls (.ref v :: .int (nI j) :: .ref a0 :: rest)) :=
  va_astqM hx hb hC.1 hP hD hS q0 3 ha rfl hr (vp_in_nI hj hn) hd (by rw [nI_clamp (Nat.lt_trans hj hn)]; exact kk)
theorem cp_i {f h : Nat → Int32} {n a1 index : Nat} {own : String} (hx : p.tables.exec = Jvm.exec) (hb : c.code = cc) (hml : c.maxLocals = ls.size) (hC : CK g s) (hown : s.vm.findClass own = some m.cls) (hlink : (Cond.methodLink own index arraycopyName).before args s = true) (hnat : (Cond.native arraycopyName).before args s = true) (hstat : (Cond.static arraycopyName).before args s = true) (hini : (Cond.initialized "java/lang/System").before args s = true) (hP : va_P g.1 vwCl w H) (hD : va_D A w) (hS : va_S A s.heap H locs) (q0 q1 : Nat) (ha0 : w[q0]? = some (a0, .inl (g.2.1, n, .inl f))) (ha1 : w[q1]? = some (a1, .inl (g.2.1, n, .inl h))) (hn : n < 2 ^ 31) (hframes : 1 ≤ R.frames) (hlocals : (rest.map fun v => v.category).sum + (nativeFrameWords "java/lang/System" "arraycopy" 5 + 11) ≤ R.locals) (hd : decode cc pc = .ok (.invokestatic index, 3))
    (kk : ∀ (H1 : Heap) (locs1 : List Loc), va_P g.1 vwCl (w.set q1 (a1, .inl (g.2.1, n, .inl (va_cpy f h 0 0 n)))) H1 → va_D A (w.set q1 (a1, .inl (g.2.1, n, .inl (va_cpy f h 0 0 n)))) → va_S A s.heap H1 locs1 → W p l e R s m args below meth c H1 locs1 cells slots Q (F0 m (pc + 3) ls rest)) : W p l e R s m args below meth c H locs cells slots Q (F0 m pc ls (.int (nI n) :: .int (nI 0) :: .ref a1 :: .int (nI 0) :: .ref a0 :: rest)) := by
  have e0 : (nI 0).toNatClampNeg = 0 := by decide
  have en : (nI n).toNatClampNeg = n := nI_clamp hn
  refine va_copyi hx hb hml hown hlink hnat hstat hini hC.1 hP hD hS q0 q1 0 0 ha0 ha1 rfl rfl rfl (by decide) (by decide) (nI_pos hn) (by rw [e0, en]; omega) (by rw [e0, en]; omega) (fun i _ => rfl) hframes hlocals hd ?_
  rw [e0, en]
  exact kk
theorem cp_l {f h : Nat → Int64} {n a1 index : Nat} {own : String} (hx : p.tables.exec = Jvm.exec) (hb : c.code = cc) (hml : c.maxLocals = ls.size) (hC : CK g s) (hown : s.vm.findClass own = some m.cls) (hlink : (Cond.methodLink own index arraycopyName).before args s = true) (hnat : (Cond.native arraycopyName).before args s = true) (hstat : (Cond.static arraycopyName).before args s = true) (hini : (Cond.initialized "java/lang/System").before args s = true) (hP : va_P g.1 vwCl w H) (hD : va_D A w) (hS : va_S A s.heap H locs) (q0 q1 : Nat) (ha0 : w[q0]? = some (a0, .inl (g.2.2.1, n, .inr (.inl f)))) (ha1 : w[q1]? = some (a1, .inl (g.2.2.1, n, .inr (.inl h)))) (hn : n < 2 ^ 31) (hframes : 1 ≤ R.frames) (hlocals : (rest.map fun v => v.category).sum + (nativeFrameWords "java/lang/System" "arraycopy" 5 + 11) ≤ R.locals) (hd : decode cc pc = .ok (.invokestatic index, 3))
    (kk : ∀ (H1 : Heap) (locs1 : List Loc), va_P g.1 vwCl (w.set q1 (a1, .inl (g.2.2.1, n, .inr (.inl (va_cpy f h 0 0 n))))) H1 → va_D A (w.set q1 (a1, .inl (g.2.2.1, n, .inr (.inl (va_cpy f h 0 0 n))))) → va_S A s.heap H1 locs1 → W p l e R s m args below meth c H1 locs1 cells slots Q (F0 m (pc + 3) ls rest)) : W p l e R s m args below meth c H locs cells slots Q (F0 m pc ls (.int (nI n) :: .int (nI 0) :: .ref a1 :: .int (nI 0) :: .ref a0 :: rest)) := by
  have e0 : (nI 0).toNatClampNeg = 0 := by decide
  have en : (nI n).toNatClampNeg = n := nI_clamp hn
  refine va_copyl hx hb hml hown hlink hnat hstat hini hC.1 hP hD hS q0 q1 1 1 ha0 ha1 rfl rfl rfl (by decide) (by decide) (nI_pos hn) (by rw [e0, en]; omega) (by rw [e0, en]; omega) (fun i _ => rfl) hframes hlocals hd ?_
  rw [e0, en]
  exact kk
end KY
theorem zI_ne0 {b : Bool} (h : b = true) : ¬ zI b = 0 := by subst h; decide
theorem zI_n0 {b : Bool} (h : b = false) : ¬ ¬ zI b = 0 := by subst h; decide
end
section
/-! counted loops, contents of rows as numbers -/
def fo {α : Type} (F : α → Nat → α) (a : α) : Nat → α
  | 0 => a
  | i + 1 => F (fo F a i) i
def updN (f : Nat → Nat) (k v : Nat) : Nat → Nat := fun j => if j = k then v else f j
theorem upd_nI (f : Nat → Nat) (k v : Nat) : upd (fun j => nI (f j)) k (nI v) = fun j => nI (updN f k v j) := by
  funext j
  by_cases h : j = k <;> simp [upd, updN, h]
theorem updL_lN (f : Nat → Nat) (k v : Nat) : vp_updL (fun j => lN (f j)) k (lN v) = fun j => lN (updN f k v j) := by
  funext j
  by_cases h : j = k <;> simp [vp_updL, updN, h]
theorem sh31 : ∀ n, n < 32 → ((nI n &&& 31).toBitVec.smod 32).toNat = n := by decide +kernel
theorem shr_nI {b e : Nat} (hb : b < 2 ^ 31) (he : e < 32) : nI b >>> (nI e &&& 31) = nI (b / 2 ^ e) := pk_shrN hb _ e (sh31 e he)
theorem shl_nI {b e : Nat} (he : e < 32) (h : b * 2 ^ e < 2 ^ 32) : nI b <<< (nI e &&& 31) = nI (b * 2 ^ e) := pk_shlN _ e (sh31 e he) h
theorem shl1_nI {e : Nat} (he : e < 31) : nI 1 <<< (nI e &&& 31) = nI (2 ^ e) := by
  have h : (2 : Nat) ^ e < 2 ^ 32 := Nat.pow_lt_pow_right (by decide) (by omega)
  rw [shl_nI (by omega) (by omega), Nat.one_mul]
theorem and1_nI {n : Nat} (h : n < 2 ^ 32) : nI n &&& nI 1 = nI (n % 2) := pk_andN h 1 (by decide)
theorem div_lt31 {b e : Nat} (hb : b < 2 ^ 31) : b / 2 ^ e < 2 ^ 31 := Nat.lt_of_le_of_lt (Nat.div_le_self _ _) hb
def popS (b : Nat) (k : Nat) : Nat := fo (fun a k => a + b / 2 ^ k % 2) 0 k
/-- Integer.bitCount, step by step -/
def us (x y : Int32) : Int32 := (x.toUInt32 >>> (y.toUInt32 &&& Int32.toUInt32 31)).toInt32
def bcA (x : Int32) : Int32 := x - (us x (nI 1) &&& 1431655765)
def bcB (x : Int32) : Int32 := (x &&& 858993459) + (us x (nI 2) &&& 858993459)
def bcC (x : Int32) : Int32 := (x + us x (nI 4)) &&& 252645135
def bcD (x : Int32) : Int32 := x + us x (nI 8)
def bcE (x : Int32) : Int32 := x + us x (nI 16)
theorem bc6 : ∀ b, b < 64 → bcE (bcD (bcC (bcB (bcA (nI b))))) &&& nI 63 = nI (popS b 6) := by decide +kernel
theorem tb_t {b e : Nat} (h : b / 2 ^ e % 2 = 1) : b.testBit e = true := by rw [Nat.testBit_eq_decide_div_mod_eq]; simpa using h
theorem tb_f {b e : Nat} (h : ¬ b / 2 ^ e % 2 = 1) : b.testBit e = false := by rw [Nat.testBit_eq_decide_div_mod_eq]; simpa using h
def pw (x k : Nat) : Nat := fo (fun a _ => a * x) 1 k
set_option maxHeartbeats 4000000 in
set_option maxRecDepth 100000 in
/-- BoiledEggs.has a bit of a number -/
theorem k_X10_has (l : Launch) (g : GG) (xb : Nat) (xe : Nat) (hb0 : xb < 2 ^ 31) (he0 : xe < 31) : Met l yX10_has wsX10_has ({ frames := 0, cells := 0, slots := 0, locals := 0 }) (pS g [.int (nI xb), .int (nI xe)] []) (vp_Si (fun r => r = (zI (xb.testBit xe)))) 0 0 noF := by
  refine metS (cc := cX10_has) (maxL := 2) (ret := (some .boolean)) (by decide) rfl (Nat.le_of_ble_eq_true rfl) ?_
  intro p e s m below meth c hx hb hr hts hown hlocks hml hC hP ls hl
  have hl : lv_has ls 2 [(0, .int (nI xb)), (1, .int (nI xe))] := hl
  have hown : s.vm.findClass RX10 = some m.cls := hown
  have hts : ∀ w ∈ wsX10_has, w.before ([.int (nI xb), .int (nI xe)] : List Value).toArray s = true := hts
  refine lv_iload_n hx hb dX10_has_0 rfl (lv_at hl 0 rfl) ?_
  refine lv_iload_n hx hb dX10_has_1 rfl (lv_at hl 1 rfl) ?_
  refine lv_ishr hx hb dX10_has_2 ?_
  refine top_i (y := nI (xb / 2 ^ xe)) (shr_nI hb0 (by omega)) ?_
  refine lv_iconst (v := nI 1) hx hb dX10_has_3 (by decide) ?_
  refine lv_iand hx hb dX10_has_4 ?_
  refine top_i (y := nI (xb / 2 ^ xe % 2)) (and1_nI (by have := div_lt31 (e := xe) hb0; omega)) ?_
  refine lv_iconst (v := nI 1) hx hb dX10_has_5 (by decide) ?_
  refine lv_icmp_ne (tgt := 13) hx hb dX10_has_6 (by decide) (fun c6 => ?_) (fun c6 => ?_)
  ·have c6 : ¬ (xb / 2 ^ xe % 2) = 1 := fun h9 => c6 ((nI_eq (a := xb / 2 ^ xe % 2) (b := 1) (by omega) (by omega)).mpr h9)
   refine lv_iconst (v := nI 0) hx hb dX10_has_13 (by decide) ?_
   exact retSz hx hb hr hlocks (by decide) (by first | exact zI_1 (tb_t ‹_›) | exact zI_0 (tb_f ‹_›)) dX10_has_14
  ·have c6 : (xb / 2 ^ xe % 2) = 1 := (nI_eq (a := xb / 2 ^ xe % 2) (b := 1) (by omega) (by omega)).mp c6
   refine lv_iconst (v := nI 1) hx hb dX10_has_9 (by decide) ?_
   refine lv_goto (tgt := 14) hx hb dX10_has_10 (by decide) ?_
   exact retSz hx hb hr hlocks (by decide) (by first | exact zI_1 (tb_t ‹_›) | exact zI_0 (tb_f ‹_›)) dX10_has_14

set_option maxHeartbeats 4000000 in
set_option maxRecDepth 100000 in
/-- BoiledEggsModel.has a bit of a number -/
theorem k_X11_has (l : Launch) (g : GG) (xb : Nat) (xe : Nat) (hb0 : xb < 2 ^ 31) (he0 : xe < 31) : Met l yX11_has wsX11_has ({ frames := 0, cells := 0, slots := 0, locals := 0 }) (pS g [.int (nI xb), .int (nI xe)] []) (vp_Si (fun r => r = (zI (xb.testBit xe)))) 0 0 noF := by
  refine metS (cc := cX11_has) (maxL := 2) (ret := (some .boolean)) (by decide) rfl (Nat.le_of_ble_eq_true rfl) ?_
  intro p e s m below meth c hx hb hr hts hown hlocks hml hC hP ls hl
  have hl : lv_has ls 2 [(0, .int (nI xb)), (1, .int (nI xe))] := hl
  have hown : s.vm.findClass RX11 = some m.cls := hown
  have hts : ∀ w ∈ wsX11_has, w.before ([.int (nI xb), .int (nI xe)] : List Value).toArray s = true := hts
  refine lv_iload_n hx hb dX11_has_0 rfl (lv_at hl 0 rfl) ?_
  refine lv_iload_n hx hb dX11_has_1 rfl (lv_at hl 1 rfl) ?_
  refine lv_ishr hx hb dX11_has_2 ?_
  refine top_i (y := nI (xb / 2 ^ xe)) (shr_nI hb0 (by omega)) ?_
  refine lv_iconst (v := nI 1) hx hb dX11_has_3 (by decide) ?_
  refine lv_iand hx hb dX11_has_4 ?_
  refine top_i (y := nI (xb / 2 ^ xe % 2)) (and1_nI (by have := div_lt31 (e := xe) hb0; omega)) ?_
  refine lv_iconst (v := nI 1) hx hb dX11_has_5 (by decide) ?_
  refine lv_icmp_ne (tgt := 13) hx hb dX11_has_6 (by decide) (fun c6 => ?_) (fun c6 => ?_)
  ·have c6 : ¬ (xb / 2 ^ xe % 2) = 1 := fun h9 => c6 ((nI_eq (a := xb / 2 ^ xe % 2) (b := 1) (by omega) (by omega)).mpr h9)
   refine lv_iconst (v := nI 0) hx hb dX11_has_13 (by decide) ?_
   exact retSz hx hb hr hlocks (by decide) (by first | exact zI_1 (tb_t ‹_›) | exact zI_0 (tb_f ‹_›)) dX11_has_14
  ·have c6 : (xb / 2 ^ xe % 2) = 1 := (nI_eq (a := xb / 2 ^ xe % 2) (b := 1) (by omega) (by omega)).mp c6
   refine lv_iconst (v := nI 1) hx hb dX11_has_9 (by decide) ?_
   refine lv_goto (tgt := 14) hx hb dX11_has_10 (by decide) ?_
   exact retSz hx hb hr hlocks (by decide) (by first | exact zI_1 (tb_t ‹_›) | exact zI_0 (tb_f ‹_›)) dX11_has_14

set_option maxHeartbeats 4000000 in
set_option maxRecDepth 100000 in
/-- BoiledEggsModel.within  -/
theorem k_X11_within (l : Launch) (g : GG) (xv : Int32) (xl : Int32) (xh : Int32)  : Met l yX11_within wsX11_within ({ frames := 0, cells := 0, slots := 0, locals := 0 }) (pS g [.int xv, .int xl, .int xh] []) (vp_Si (fun r => r = (zI (decide (xl ≤ xv ∧ xv ≤ xh))))) 0 0 noF := by
  refine metS (cc := cX11_within) (maxL := 3) (ret := (some .boolean)) (by decide) rfl (Nat.le_of_ble_eq_true rfl) ?_
  intro p e s m below meth c hx hb hr hts hown hlocks hml hC hP ls hl
  have hl : lv_has ls 3 [(0, .int xv), (1, .int xl), (2, .int xh)] := hl
  have hown : s.vm.findClass RX11 = some m.cls := hown
  have hts : ∀ w ∈ wsX11_within, w.before ([.int xv, .int xl, .int xh] : List Value).toArray s = true := hts
  refine lv_iload_n hx hb dX11_within_0 rfl (lv_at hl 0 rfl) ?_
  refine lv_iload_n hx hb dX11_within_1 rfl (lv_at hl 1 rfl) ?_
  refine lv_icmp_lt (tgt := 14) hx hb dX11_within_2 (by decide) (fun c2 => ?_) (fun c2 => ?_)
  ·refine lv_iconst (v := nI 0) hx hb dX11_within_14 (by decide) ?_
   exact retSz hx hb hr hlocks (by decide) (by first | exact zI_1 (decide_eq_true ⟨Int32.not_lt.mp ‹_›, Int32.not_lt.mp ‹_›⟩) | exact zI_0 (decide_eq_false (fun h9 => absurd h9.1 (Int32.not_le.mpr ‹_›))) | exact zI_0 (decide_eq_false (fun h9 => absurd h9.2 (Int32.not_le.mpr ‹_›)))) dX11_within_15
  ·refine lv_iload_n hx hb dX11_within_5 rfl (lv_at hl 0 rfl) ?_
   refine lv_iload_n hx hb dX11_within_6 rfl (lv_at hl 2 rfl) ?_
   refine lv_icmp_gt (tgt := 14) hx hb dX11_within_7 (by decide) (fun c7 => ?_) (fun c7 => ?_)
   ·refine lv_iconst (v := nI 0) hx hb dX11_within_14 (by decide) ?_
    exact retSz hx hb hr hlocks (by decide) (by first | exact zI_1 (decide_eq_true ⟨Int32.not_lt.mp ‹_›, Int32.not_lt.mp ‹_›⟩) | exact zI_0 (decide_eq_false (fun h9 => absurd h9.1 (Int32.not_le.mpr ‹_›))) | exact zI_0 (decide_eq_false (fun h9 => absurd h9.2 (Int32.not_le.mpr ‹_›)))) dX11_within_15
   ·refine lv_iconst (v := nI 1) hx hb dX11_within_10 (by decide) ?_
    refine lv_goto (tgt := 15) hx hb dX11_within_11 (by decide) ?_
    exact retSz hx hb hr hlocks (by decide) (by first | exact zI_1 (decide_eq_true ⟨Int32.not_lt.mp ‹_›, Int32.not_lt.mp ‹_›⟩) | exact zI_0 (decide_eq_false (fun h9 => absurd h9.1 (Int32.not_le.mpr ‹_›))) | exact zI_0 (decide_eq_false (fun h9 => absurd h9.2 (Int32.not_le.mpr ‹_›)))) dX11_within_15

set_option maxHeartbeats 4000000 in
set_option maxRecDepth 100000 in
/-- BoiledEggsModel.size  -/
theorem k_X11_size (l : Launch) (g : GG) (xb : Nat) (hb0 : xb < 2 ^ 31) : Met l yX11_size wsX11_size ({ frames := 0, cells := 0, slots := 0, locals := 0 }) (pS g [.int (nI xb)] []) (vp_Si (fun r => r = (nI (popS xb 6)))) 0 0 noF := by
  refine metS (cc := cX11_size) (maxL := 3) (ret := (some .int)) (by decide) rfl (Nat.le_of_ble_eq_true rfl) ?_
  intro p e s m below meth c hx hb hr hts hown hlocks hml hC hP ls hl
  have hl : lv_has ls 3 [(0, .int (nI xb))] := hl
  have hown : s.vm.findClass RX11 = some m.cls := hown
  have hts : ∀ w ∈ wsX11_size, w.before ([.int (nI xb)] : List Value).toArray s = true := hts
  refine lv_iconst (v := nI 0) hx hb dX11_size_0 (by decide) ?_
  refine lv_istore_n (lv' := [(1, .int (nI 0)), (0, .int (nI xb))]) hx hb dX11_size_1 rfl hl (by decide) rfl (fun ls hl => ?_)
  refine lv_iconst (v := nI 0) hx hb dX11_size_2 (by decide) ?_
  refine lv_istore_n (lv' := [(2, .int (nI 0)), (1, .int (nI 0)), (0, .int (nI xb))]) hx hb dX11_size_3 rfl hl (by decide) rfl (fun ls hl => ?_)
  have hL4 : ∀ (n_9 : Nat) (i : Nat), 6 - i < n_9 → (i ≤ 6) → ∀ ls : Array Slot, lv_has ls 3 [(0, .int (nI xb)), (1, .int (nI (popS xb i))), (2, .int (nI i))] → W p l e ({ frames := 0, cells := 0, slots := 0, locals := 0 }) s m ([.int (nI xb)] : List Value).toArray below meth c s.heap [] 0 0 (MQ below (vp_Si (fun r => r = (nI (popS xb 6)))) ([.int (nI xb)] : List Value).toArray s 0 0 noF) (F0 m 4 ls []) := by
   intro n_9
   induction n_9 with
   | zero => intro i hn_9; exact absurd hn_9 (Nat.not_lt_zero _)
   | succ n_9 ih4 =>
    intro i hn_9 hi ls hl
    refine lv_iload_n hx hb dX11_size_4 rfl (lv_at hl 2 rfl) ?_
    refine lv_bipush (v := nI 6) hx hb dX11_size_5 (by decide) ?_
    refine lv_icmp_ge (tgt := 24) hx hb dX11_size_7 (by decide) (fun c7 => ?_) (fun c7 => ?_)
    ·have c7 : 6 ≤ i := (nI_leI (a := 6) (b := i) (by omega) (by omega)).mp c7
     refine lv_iload_n hx hb dX11_size_24 rfl (lv_at hl 1 rfl) ?_
     exact retSi hx hb hr hlocks (by have h9 : i = 6 := (by omega); rw [h9]) dX11_size_25
    ·have c7 : ¬ 6 ≤ i := fun h9 => c7 ((nI_leI (a := 6) (b := i) (by omega) (by omega)).mpr h9)
     refine lv_iload_n hx hb dX11_size_10 rfl (lv_at hl 1 rfl) ?_
     refine lv_iload_n hx hb dX11_size_11 rfl (lv_at hl 0 rfl) ?_
     refine lv_iload_n hx hb dX11_size_12 rfl (lv_at hl 2 rfl) ?_
     refine lv_ishr hx hb dX11_size_13 ?_
     refine top_i (y := nI (xb / 2 ^ i)) (shr_nI hb0 (by omega)) ?_
     refine lv_iconst (v := nI 1) hx hb dX11_size_14 (by decide) ?_
     refine lv_iand hx hb dX11_size_15 ?_
     refine top_i (y := nI (xb / 2 ^ i % 2)) (and1_nI (by have := div_lt31 (e := i) hb0; omega)) ?_
     refine lv_iadd hx hb dX11_size_16 ?_
     refine top_i (y := nI ((popS xb i) + (xb / 2 ^ i % 2))) (nI_add _ _) ?_
     refine lv_istore_n (lv' := [(1, .int (nI ((popS xb i) + (xb / 2 ^ i % 2)))), (0, .int (nI xb)), (2, .int (nI i))]) hx hb dX11_size_17 rfl hl (by decide) rfl (fun ls hl => ?_)
     refine lv_iinc (v := nI (i + 1)) (lv' := [(2, .int (nI (i + 1))), (1, .int (nI ((popS xb i) + (xb / 2 ^ i % 2)))), (0, .int (nI xb))]) hx hb dX11_size_18 hl (k := 2) rfl (iinc1 _) (by decide) rfl (fun ls hl => ?_)
     refine lv_goto (tgt := 4) hx hb dX11_size_21 (by decide) ?_
     exact ih4 (i + 1) (by omega) (by first | assumption | exact Nat.zero_le _ | omega) ls (lv_sub hl [2, 1, 0] rfl)
  exact hL4 _ 0 (Nat.lt_succ_self _) (by first | assumption | exact Nat.zero_le _ | omega) ls (lv_sub hl [2, 1, 0] rfl)

set_option maxHeartbeats 4000000 in
set_option maxRecDepth 100000 in
/-- BoiledEggsModel.power  -/
theorem k_X11_power (l : Launch) (g : GG) (xo : Nat) (xt : Nat) (ho0 : xo < 2 ^ 31) (ht0 : xt < 2 ^ 31) : Met l yX11_power wsX11_power ({ frames := 0, cells := 0, slots := 0, locals := 0 }) (pS g [.int (nI xo), .int (nI xt)] []) (vp_Sl (fun r => r = (lN (pw xo xt)))) 0 0 noF := by
  refine metS (cc := cX11_power) (maxL := 5) (ret := (some .long)) (by decide) rfl (Nat.le_of_ble_eq_true rfl) ?_
  intro p e s m below meth c hx hb hr hts hown hlocks hml hC hP ls hl
  have hl : lv_has ls 5 [(0, .int (nI xo)), (1, .int (nI xt))] := hl
  have hown : s.vm.findClass RX11 = some m.cls := hown
  have hts : ∀ w ∈ wsX11_power, w.before ([.int (nI xo), .int (nI xt)] : List Value).toArray s = true := hts
  refine lv_lconst (v := lN 1) hx hb dX11_power_0 (by decide) ?_
  refine lv_lstore_n (lv' := [(2, .long (lN 1)), (0, .int (nI xo)), (1, .int (nI xt))]) hx hb dX11_power_1 rfl hl (by decide) rfl (fun ls hl => ?_)
  refine lv_iconst (v := nI 0) hx hb dX11_power_2 (by decide) ?_
  refine lv_istore (lv' := [(4, .int (nI 0)), (2, .long (lN 1)), (0, .int (nI xo)), (1, .int (nI xt))]) hx hb dX11_power_3 hl (by decide) rfl (fun ls hl => ?_)
  have hL5 : ∀ (n_9 : Nat) (i : Nat), xt - i < n_9 → (i ≤ xt) → ∀ ls : Array Slot, lv_has ls 5 [(0, .int (nI xo)), (1, .int (nI xt)), (2, .long (lN (pw xo i))), (4, .int (nI i))] → W p l e ({ frames := 0, cells := 0, slots := 0, locals := 0 }) s m ([.int (nI xo), .int (nI xt)] : List Value).toArray below meth c s.heap [] 0 0 (MQ below (vp_Sl (fun r => r = (lN (pw xo xt)))) ([.int (nI xo), .int (nI xt)] : List Value).toArray s 0 0 noF) (F0 m 5 ls []) := by
   intro n_9
   induction n_9 with
   | zero => intro i hn_9; exact absurd hn_9 (Nat.not_lt_zero _)
   | succ n_9 ih5 =>
    intro i hn_9 hi ls hl
    refine lv_iload hx hb dX11_power_5 (lv_at hl 3 rfl) ?_
    refine lv_iload_n hx hb dX11_power_7 rfl (lv_at hl 1 rfl) ?_
    refine lv_icmp_ge (tgt := 22) hx hb dX11_power_8 (by decide) (fun c8 => ?_) (fun c8 => ?_)
    ·have c8 : xt ≤ i := (nI_leI (a := xt) (b := i) (by omega) (by omega)).mp c8
     refine lv_lload_n hx hb dX11_power_22 rfl (lv_at hl 2 rfl) ?_
     exact retSl hx hb hr hlocks (by have h9 : i = xt := (by omega); rw [h9]) dX11_power_23
    ·have c8 : ¬ xt ≤ i := fun h9 => c8 ((nI_leI (a := xt) (b := i) (by omega) (by omega)).mpr h9)
     refine lv_lload_n hx hb dX11_power_11 rfl (lv_at hl 2 rfl) ?_
     refine lv_iload_n hx hb dX11_power_12 rfl (lv_at hl 0 rfl) ?_
     refine lv_i2l (v := lN xo) hx hb dX11_power_13 (nI_l (by omega)) ?_
     refine lv_lmul hx hb dX11_power_14 ?_
     refine top_l (y := lN ((pw xo i) * xo)) (lN_mul _ _) ?_
     refine lv_lstore_n (lv' := [(2, .long (lN ((pw xo i) * xo))), (0, .int (nI xo)), (1, .int (nI xt)), (4, .int (nI i))]) hx hb dX11_power_15 rfl hl (by decide) rfl (fun ls hl => ?_)
     refine lv_iinc (v := nI (i + 1)) (lv' := [(4, .int (nI (i + 1))), (2, .long (lN ((pw xo i) * xo))), (0, .int (nI xo)), (1, .int (nI xt))]) hx hb dX11_power_16 hl (k := 3) rfl (iinc1 _) (by decide) rfl (fun ls hl => ?_)
     refine lv_goto (tgt := 5) hx hb dX11_power_19 (by decide) ?_
     exact ih5 (i + 1) (by omega) (by first | assumption | exact Nat.zero_le _ | omega) ls (lv_sub hl [2, 3, 1, 0] rfl)
  exact hL5 _ 0 (Nat.lt_succ_self _) (by first | assumption | exact Nat.zero_le _ | omega) ls (lv_sub hl [2, 3, 1, 0] rfl)

set_option maxHeartbeats 4000000 in
set_option maxRecDepth 100000 in
/-- java/lang/Integer.bitCount  -/
theorem k_J6_bitCount (l : Launch) (g : GG) (xb : Nat) (hb0 : xb < 64) : Met l yJ6_bitCount_0f7a4 wsJ6_bitCount_0f7a4 ({ frames := 0, cells := 0, slots := 0, locals := 0 }) (pS g [.int (nI xb)] []) (vp_Si (fun r => r = (nI (popS xb 6)))) 0 0 noF := by
  refine metS (cc := cJ6_bitCount_0f7a4) (maxL := 1) (ret := (some .int)) (by decide) rfl (Nat.le_of_ble_eq_true rfl) ?_
  intro p e s m below meth c hx hb hr hts hown hlocks hml hC hP ls hl
  have hl : lv_has ls 1 [(0, .int (nI xb))] := hl
  have hown : s.vm.findClass RJ6 = some m.cls := hown
  have hts : ∀ w ∈ wsJ6_bitCount_0f7a4, w.before ([.int (nI xb)] : List Value).toArray s = true := hts
  have k265 := hts (.constant RJ6 265 (1431655765)) (by decide +kernel)
  have k266 := hts (.constant RJ6 266 (858993459)) (by decide +kernel)
  have k267 := hts (.constant RJ6 267 (252645135)) (by decide +kernel)
  refine lv_iload_n hx hb dJ6_bitCount_0f7a4_0 rfl (lv_at hl 0 rfl) ?_
  refine lv_iload_n hx hb dJ6_bitCount_0f7a4_1 rfl (lv_at hl 0 rfl) ?_
  refine lv_iconst (v := nI 1) hx hb dJ6_bitCount_0f7a4_2 (by decide) ?_
  refine lv_iushr (v := us (nI xb) (nI 1)) hx hb dJ6_bitCount_0f7a4_3 (rfl) ?_
  refine lv_ldcw hx hb hown k265 dJ6_bitCount_0f7a4_4 ?_
  refine lv_iand hx hb dJ6_bitCount_0f7a4_7 ?_
  refine lv_isub hx hb dJ6_bitCount_0f7a4_8 ?_
  refine top_i (y := bcA (nI xb)) (rfl) ?_
  refine lv_istore_n (lv' := [(0, .int (bcA (nI xb)))]) hx hb dJ6_bitCount_0f7a4_9 rfl hl (by decide) rfl (fun ls hl => ?_)
  refine lv_iload_n hx hb dJ6_bitCount_0f7a4_10 rfl (lv_at hl 0 rfl) ?_
  refine lv_ldcw hx hb hown k266 dJ6_bitCount_0f7a4_11 ?_
  refine lv_iand hx hb dJ6_bitCount_0f7a4_14 ?_
  refine lv_iload_n hx hb dJ6_bitCount_0f7a4_15 rfl (lv_at hl 0 rfl) ?_
  refine lv_iconst (v := nI 2) hx hb dJ6_bitCount_0f7a4_16 (by decide) ?_
  refine lv_iushr (v := us (bcA (nI xb)) (nI 2)) hx hb dJ6_bitCount_0f7a4_17 (rfl) ?_
  refine lv_ldcw hx hb hown k266 dJ6_bitCount_0f7a4_18 ?_
  refine lv_iand hx hb dJ6_bitCount_0f7a4_21 ?_
  refine lv_iadd hx hb dJ6_bitCount_0f7a4_22 ?_
  refine top_i (y := bcB (bcA (nI xb))) (rfl) ?_
  refine lv_istore_n (lv' := [(0, .int (bcB (bcA (nI xb))))]) hx hb dJ6_bitCount_0f7a4_23 rfl hl (by decide) rfl (fun ls hl => ?_)
  refine lv_iload_n hx hb dJ6_bitCount_0f7a4_24 rfl (lv_at hl 0 rfl) ?_
  refine lv_iload_n hx hb dJ6_bitCount_0f7a4_25 rfl (lv_at hl 0 rfl) ?_
  refine lv_iconst (v := nI 4) hx hb dJ6_bitCount_0f7a4_26 (by decide) ?_
  refine lv_iushr (v := us (bcB (bcA (nI xb))) (nI 4)) hx hb dJ6_bitCount_0f7a4_27 (rfl) ?_
  refine lv_iadd hx hb dJ6_bitCount_0f7a4_28 ?_
  refine lv_ldcw hx hb hown k267 dJ6_bitCount_0f7a4_29 ?_
  refine lv_iand hx hb dJ6_bitCount_0f7a4_32 ?_
  refine top_i (y := bcC (bcB (bcA (nI xb)))) (rfl) ?_
  refine lv_istore_n (lv' := [(0, .int (bcC (bcB (bcA (nI xb)))))]) hx hb dJ6_bitCount_0f7a4_33 rfl hl (by decide) rfl (fun ls hl => ?_)
  refine lv_iload_n hx hb dJ6_bitCount_0f7a4_34 rfl (lv_at hl 0 rfl) ?_
  refine lv_iload_n hx hb dJ6_bitCount_0f7a4_35 rfl (lv_at hl 0 rfl) ?_
  refine lv_bipush (v := nI 8) hx hb dJ6_bitCount_0f7a4_36 (by decide) ?_
  refine lv_iushr (v := us (bcC (bcB (bcA (nI xb)))) (nI 8)) hx hb dJ6_bitCount_0f7a4_38 (rfl) ?_
  refine lv_iadd hx hb dJ6_bitCount_0f7a4_39 ?_
  refine top_i (y := bcD (bcC (bcB (bcA (nI xb))))) (rfl) ?_
  refine lv_istore_n (lv' := [(0, .int (bcD (bcC (bcB (bcA (nI xb))))))]) hx hb dJ6_bitCount_0f7a4_40 rfl hl (by decide) rfl (fun ls hl => ?_)
  refine lv_iload_n hx hb dJ6_bitCount_0f7a4_41 rfl (lv_at hl 0 rfl) ?_
  refine lv_iload_n hx hb dJ6_bitCount_0f7a4_42 rfl (lv_at hl 0 rfl) ?_
  refine lv_bipush (v := nI 16) hx hb dJ6_bitCount_0f7a4_43 (by decide) ?_
  refine lv_iushr (v := us (bcD (bcC (bcB (bcA (nI xb))))) (nI 16)) hx hb dJ6_bitCount_0f7a4_45 (rfl) ?_
  refine lv_iadd hx hb dJ6_bitCount_0f7a4_46 ?_
  refine top_i (y := bcE (bcD (bcC (bcB (bcA (nI xb)))))) (rfl) ?_
  refine lv_istore_n (lv' := [(0, .int (bcE (bcD (bcC (bcB (bcA (nI xb)))))))]) hx hb dJ6_bitCount_0f7a4_47 rfl hl (by decide) rfl (fun ls hl => ?_)
  refine lv_iload_n hx hb dJ6_bitCount_0f7a4_48 rfl (lv_at hl 0 rfl) ?_
  refine lv_bipush (v := nI 63) hx hb dJ6_bitCount_0f7a4_49 (by decide) ?_
  refine lv_iand hx hb dJ6_bitCount_0f7a4_51 ?_
  exact retSi hx hb hr hlocks (bc6 xb hb0) dJ6_bitCount_0f7a4_52
end
section
/-! the reference's numbers -/
def wOK (E tb tr : Nat) (hab sp tu : Nat → Nat) : Prop := E ≤ 6 ∧ tb ≤ 9 ∧ tr ≤ 9 ∧ (∀ j, tu j ≤ sp j) ∧ (∀ j, sp j < 1000) ∧ (∀ j, hab j < 1000)
theorem p2le {e : Nat} (h : e ≤ 6) : 2 ^ e ≤ 64 := Nat.pow_le_pow_right (by decide) h
theorem popS_step (b k : Nat) : popS b (k + 1) = popS b k + b / 2 ^ k % 2 := rfl
theorem popS_le (b : Nat) : ∀ k, popS b k ≤ k
  | 0 => Nat.le_refl 0
  | k + 1 => by have h1 := popS_le b k; have h2 : b / 2 ^ k % 2 < 2 := Nat.mod_lt _ (by decide); rw [popS_step]; omega
def mCd (kn : Nat → Int32) (b e : Nat) : Bool := decide (kn e = -1 ∨ kn e = zI (b.testBit e))
def mTn (tb tr : Nat) (b e : Nat) : Nat := if b.testBit e then tb else tr
def mC (hab : Nat → Nat) (kn : Nat → Int32) (b e : Nat) : Nat := if mCd kn b e then (if b.testBit e then hab e else 1) else 0
def spu (tn s t : Nat) : Nat := pw tn t * pw (10 - tn) (s - t)
def mX (tb tr b : Nat) (eg : Int32) (k e : Nat) : Nat := if nI e = eg then pw (mTn tb tr b e) k else 1
def mWF (tb tr : Nat) (hab sp tu : Nat → Nat) (kn : Nat → Int32) (b : Nat) (eg : Int32) (k : Nat) : Nat → Nat → Nat := fun a e => a * mC hab kn b e * spu (mTn tb tr b e) (sp e) (tu e) * mX tb tr b eg k e
def mW (E B tb tr : Nat) (hab sp tu : Nat → Nat) (kn : Nat → Int32) (b : Nat) (eg : Int32) (k : Nat) : Nat := if popS b 6 = B ∧ b < 2 ^ E then fo (mWF tb tr hab sp tu kn b eg k) 1 E else 0
abbrev WT : Type := Nat → Int32 → Nat → Nat
def tot (w : WT) (E : Nat) (eg : Int32) (k : Nat) : Nat := fo (fun a b => a + w b eg k) 0 (2 ^ E)
def bwt (w : WT) (E e k : Nat) : Nat := fo (fun a b => a + (if b.testBit e then w b (nI e) k else 0)) 0 (2 ^ E)
def low (a b : Nat) (part : Int32) : Nat := if part = 0 then a / Nat.gcd a b else b / Nat.gcd a b
theorem mTn_lt {tb tr : Nat} (h1 : tb ≤ 9) (h2 : tr ≤ 9) (b e : Nat) : mTn tb tr b e ≤ 9 := by unfold mTn; split <;> assumption
set_option maxHeartbeats 4000000 in
set_option maxRecDepth 100000 in
/-- BoiledEggsModel.spun  -/
theorem k_X11_spun (l : Launch) (g : GG) (mo : Nat) (mE : Nat) (mKi : Nat) (mB : Nat) (mTb : Nat) (mTr : Nat) (mFa : Nat) (aHab : Nat) (mIb : Nat) (mS : Nat) (aSp : Nat) (aTu : Nat) (aKn : Nat) (mT : Nat) (aKd : Nat) (mAs : Nat) (mPl : Nat) (aPg : Nat) (aWo : Nat) (aWs : Nat) (aMe : Nat) (mBf : Int32) (aBw : Nat) (mSd : Int64) (mIk : Int32) (mKk : Nat) (mKb : Nat) (mKs : Nat) (mKt : Nat) (aKsp : Nat) (aKtu : Nat) (aKkn : Nat) (mH : Int64) (sp : Nat → Nat) (tu : Nat → Nat) (xe : Nat) (xt : Nat) (he0 : xe < 6) (ht0 : xt ≤ 10) (hle : tu xe ≤ sp xe) (hs0 : sp xe < 1000) : Met l yX11_spun wsX11_spun ({ frames := 1, cells := 0, slots := 0, locals := 24 }) (pS g [.ref mo, .int (nI xe), .int (nI xt)] [(mo, .inr (11, [.int (nI mE), .int (nI mKi), .int (nI mB), .int (nI mTb), .int (nI mTr), .int (nI mFa), .ref aHab, .int (nI mIb), .int (nI mS), .ref aSp, .ref aTu, .ref aKn, .int (nI mT), .ref aKd, .int (nI mAs), .int (nI mPl), .ref aPg, .ref aWo, .ref aWs, .ref aMe, .int mBf, .ref aBw, .long mSd, .int mIk, .int (nI mKk), .int (nI mKb), .int (nI mKs), .int (nI mKt), .ref aKsp, .ref aKtu, .ref aKkn, .long mH])), (aSp, .inl (g.2.1, 6, .inl (fun j => nI (sp j)))), (aTu, .inl (g.2.1, 6, .inl (fun j => nI (tu j))))]) (vp_Sl (fun r => r = (lN (spu xt (sp xe) (tu xe))))) 0 0 noF := by
  refine metS (cc := cX11_spun) (maxL := 3) (ret := (some .long)) (by decide) rfl (Nat.le_of_ble_eq_true rfl) ?_
  intro p e s m below meth c hx hb hr hts hown hlocks hml hC hP ls hl
  have hl : lv_has ls 3 [(0, .ref mo), (1, .int (nI xe)), (2, .int (nI xt))] := hl
  have hown : s.vm.findClass RX11 = some m.cls := hown
  have hts : ∀ w ∈ wsX11_spun, w.before ([.ref mo, .int (nI xe), .int (nI xt)] : List Value).toArray s = true := hts
  have hinX11 := (by decide +kernel : ∀ w ∈ u_ws RX11 TX11 32, w ∈ wsX11_spun)
  have f16 := hts (.fieldLink RX11 16 "BoiledEggsModel" "turnedOf" "[I") (by decide +kernel)
  have f13 := hts (.fieldLink RX11 13 "BoiledEggsModel" "spinsOf" "[I") (by decide +kernel)
  refine lv_iload_n hx hb dX11_spun_0 rfl (lv_at hl 2 rfl) ?_
  refine lv_aload_n hx hb dX11_spun_1 rfl (lv_at hl 0 rfl) ?_
  refine va_get (D := g.1) (ci := 11) (v := .ref aTu) (C := RX11) (T := TX11) (N := 32) hx hb hts hinX11 hown hC.1 hP 0 rfl rfl 10 (by decide) f16 (fun _ h9 => h9) rfl dX11_spun_2 ?_
  refine lv_iload_n hx hb dX11_spun_5 rfl (lv_at hl 1 rfl) ?_
  refine ald_i (f := fun j => nI (tu j)) (j := xe) hx hb hC hP 2 rfl (by omega) (by decide) dX11_spun_6 ?_
  refine goSl (T := lN (pw xt (tu xe))) (va_runS (As := [.int (nI xt), .int (nI (tu xe))]) (rest := []) ⟨hx, hb, hml, hown, hts⟩ (k_X11_power l g xt (tu xe) (by first | assumption | exact Nat.zero_le _ | omega) (by first | assumption | exact Nat.zero_le _ | omega)) (va_cwS 2 hts gX11_spun_X11_power rfl rfl rfl hdX11_power ⟨Nat.le_of_ble_eq_true rfl, Nat.le_of_ble_eq_true rfl⟩) (preSS hC (hP.sub [] rfl)) rfl rfl hl.1 rfl (lv_room (Nat.le_of_ble_eq_true rfl)) dX11_spun_7 ⟨Nat.le_of_ble_eq_true rfl, Nat.le_of_ble_eq_true rfl⟩) ?_
  refine lv_bipush (v := nI 10) hx hb dX11_spun_10 (by decide) ?_
  refine lv_iload_n hx hb dX11_spun_12 rfl (lv_at hl 2 rfl) ?_
  refine lv_isub hx hb dX11_spun_13 ?_
  refine top_i (y := nI (10 - xt)) (pk_sub ht0) ?_
  refine lv_aload_n hx hb dX11_spun_14 rfl (lv_at hl 0 rfl) ?_
  refine va_get (D := g.1) (ci := 11) (v := .ref aSp) (C := RX11) (T := TX11) (N := 32) hx hb hts hinX11 hown hC.1 hP 0 rfl rfl 9 (by decide) f13 (fun _ h9 => h9) rfl dX11_spun_15 ?_
  refine lv_iload_n hx hb dX11_spun_18 rfl (lv_at hl 1 rfl) ?_
  refine ald_i (f := fun j => nI (sp j)) (j := xe) hx hb hC hP 1 rfl (by omega) (by decide) dX11_spun_19 ?_
  refine lv_aload_n hx hb dX11_spun_20 rfl (lv_at hl 0 rfl) ?_
  refine va_get (D := g.1) (ci := 11) (v := .ref aTu) (C := RX11) (T := TX11) (N := 32) hx hb hts hinX11 hown hC.1 hP 0 rfl rfl 10 (by decide) f16 (fun _ h9 => h9) rfl dX11_spun_21 ?_
  refine lv_iload_n hx hb dX11_spun_24 rfl (lv_at hl 1 rfl) ?_
  refine ald_i (f := fun j => nI (tu j)) (j := xe) hx hb hC hP 2 rfl (by omega) (by decide) dX11_spun_25 ?_
  refine lv_isub hx hb dX11_spun_26 ?_
  refine top_i (y := nI (sp xe - tu xe)) (pk_sub hle) ?_
  refine goSl (T := lN (pw (10 - xt) (sp xe - tu xe))) (va_runS (As := [.int (nI (10 - xt)), .int (nI (sp xe - tu xe))]) (rest := [.long (lN (pw xt (tu xe)))]) ⟨hx, hb, hml, hown, hts⟩ (k_X11_power l g (10 - xt) (sp xe - tu xe) (by first | assumption | exact Nat.zero_le _ | omega) (by first | assumption | exact Nat.zero_le _ | omega)) (va_cwS 2 hts gX11_spun_X11_power rfl rfl rfl hdX11_power ⟨Nat.le_of_ble_eq_true rfl, Nat.le_of_ble_eq_true rfl⟩) (preSS hC (hP.sub [] rfl)) rfl rfl hl.1 rfl (lv_room (Nat.le_of_ble_eq_true rfl)) dX11_spun_27 ⟨Nat.le_of_ble_eq_true rfl, Nat.le_of_ble_eq_true rfl⟩) ?_
  refine lv_lmul hx hb dX11_spun_30 ?_
  refine top_l (y := lN ((pw xt (tu xe)) * (pw (10 - xt) (sp xe - tu xe)))) (lN_mul _ _) ?_
  exact retSl hx hb hr hlocks (rfl) dX11_spun_31

set_option maxHeartbeats 4000000 in
set_option maxRecDepth 100000 in
/-- BoiledEggsModel.weight  -/
theorem k_X11_weight (l : Launch) (g : GG) (mo : Nat) (mE : Nat) (mKi : Nat) (mB : Nat) (mTb : Nat) (mTr : Nat) (mFa : Nat) (aHab : Nat) (mIb : Nat) (mS : Nat) (aSp : Nat) (aTu : Nat) (aKn : Nat) (mT : Nat) (aKd : Nat) (mAs : Nat) (mPl : Nat) (aPg : Nat) (aWo : Nat) (aWs : Nat) (aMe : Nat) (mBf : Int32) (aBw : Nat) (mSd : Int64) (mIk : Int32) (mKk : Nat) (mKb : Nat) (mKs : Nat) (mKt : Nat) (aKsp : Nat) (aKtu : Nat) (aKkn : Nat) (mH : Int64) (hab : Nat → Nat) (sp : Nat → Nat) (tu : Nat → Nat) (kn : Nat → Int32) (xb : Nat) (xg : Int32) (xk : Nat) (hok : wOK mE mTb mTr hab sp tu) (hB0 : mB < 1000) (hb0 : xb < 2 ^ 31) (hk0 : xk < 1000) : Met l yX11_weight wsX11_weight ({ frames := 2, cells := 0, slots := 0, locals := 46 }) (pS g [.ref mo, .int (nI xb), .int xg, .int (nI xk)] [(mo, .inr (11, [.int (nI mE), .int (nI mKi), .int (nI mB), .int (nI mTb), .int (nI mTr), .int (nI mFa), .ref aHab, .int (nI mIb), .int (nI mS), .ref aSp, .ref aTu, .ref aKn, .int (nI mT), .ref aKd, .int (nI mAs), .int (nI mPl), .ref aPg, .ref aWo, .ref aWs, .ref aMe, .int mBf, .ref aBw, .long mSd, .int mIk, .int (nI mKk), .int (nI mKb), .int (nI mKs), .int (nI mKt), .ref aKsp, .ref aKtu, .ref aKkn, .long mH])), (aHab, .inl (g.2.1, 6, .inl (fun j => nI (hab j)))), (aSp, .inl (g.2.1, 6, .inl (fun j => nI (sp j)))), (aTu, .inl (g.2.1, 6, .inl (fun j => nI (tu j)))), (aKn, .inl (g.2.1, 6, .inl kn))]) (vp_Sl (fun r => r = (lN ((mW mE mB mTb mTr hab sp tu kn) xb xg xk)))) 0 0 noF := by
  refine metS (cc := cX11_weight) (maxL := 10) (ret := (some .long)) (by decide) rfl (Nat.le_of_ble_eq_true rfl) ?_
  intro p e s m below meth c hx hb hr hts hown hlocks hml hC hP ls hl
  have hl : lv_has ls 10 [(0, .ref mo), (1, .int (nI xb)), (2, .int xg), (3, .int (nI xk))] := hl
  have hown : s.vm.findClass RX11 = some m.cls := hown
  have hts : ∀ w ∈ wsX11_weight, w.before ([.ref mo, .int (nI xb), .int xg, .int (nI xk)] : List Value).toArray s = true := hts
  obtain ⟨hE, htb, htr, htu, hsp, hha⟩ := id hok
  have h2E := p2le hE
  have hinX11 := (by decide +kernel : ∀ w ∈ u_ws RX11 TX11 32, w ∈ wsX11_weight)
  have f74 := hts (.fieldLink RX11 74 "BoiledEggsModel" "boiled" "I") (by decide +kernel)
  have f71 := hts (.fieldLink RX11 71 "BoiledEggsModel" "eggs" "I") (by decide +kernel)
  have f7 := hts (.fieldLink RX11 7 "BoiledEggsModel" "habitOf" "[I") (by decide +kernel)
  have f80 := hts (.fieldLink RX11 80 "BoiledEggsModel" "turnsRaw" "I") (by decide +kernel)
  have f77 := hts (.fieldLink RX11 77 "BoiledEggsModel" "turnsBoiled" "I") (by decide +kernel)
  have f19 := hts (.fieldLink RX11 19 "BoiledEggsModel" "knownOf" "[I") (by decide +kernel)
  refine lv_iload_n hx hb dX11_weight_0 rfl (lv_at hl 1 rfl) ?_
  refine goSi (T := nI (popS xb 6)) (va_runS (As := [.int (nI xb)]) (rest := []) ⟨hx, hb, hml, hown, hts⟩ (k_X11_size l g xb (by first | assumption | exact Nat.zero_le _ | omega)) (va_cwS 1 hts gX11_weight_X11_size rfl rfl rfl hdX11_size ⟨Nat.le_of_ble_eq_true rfl, Nat.le_of_ble_eq_true rfl⟩) (preSS hC (hP.sub [] rfl)) rfl rfl hl.1 rfl (lv_room (Nat.le_of_ble_eq_true rfl)) dX11_weight_1 ⟨Nat.le_of_ble_eq_true rfl, Nat.le_of_ble_eq_true rfl⟩) ?_
  refine lv_aload_n hx hb dX11_weight_4 rfl (lv_at hl 0 rfl) ?_
  refine va_get (D := g.1) (ci := 11) (v := .int (nI mB)) (C := RX11) (T := TX11) (N := 32) hx hb hts hinX11 hown hC.1 hP 0 rfl rfl 2 (by decide) f74 (fun _ h9 => h9) rfl dX11_weight_5 ?_
  refine lv_icmp_ne (tgt := 21) hx hb dX11_weight_8 (by decide) (fun c8 => ?_) (fun c8 => ?_)
  ·have c8 : ¬ (popS xb 6) = mB := fun h9 => c8 ((nI_eq (a := popS xb 6) (b := mB) (by have := popS_le xb 6; omega) (by have := popS_le xb 6; omega)).mpr h9)
   refine lv_lconst (v := lN 0) hx hb dX11_weight_21 (by decide) ?_
   exact retSl hx hb hr hlocks (by rw [mW, if_neg (by omega)]) dX11_weight_22
  ·have c8 : (popS xb 6) = mB := (nI_eq (a := popS xb 6) (b := mB) (by have := popS_le xb 6; omega) (by have := popS_le xb 6; omega)).mp c8
   refine lv_iload_n hx hb dX11_weight_11 rfl (lv_at hl 1 rfl) ?_
   refine lv_iconst (v := nI 1) hx hb dX11_weight_12 (by decide) ?_
   refine lv_aload_n hx hb dX11_weight_13 rfl (lv_at hl 0 rfl) ?_
   refine va_get (D := g.1) (ci := 11) (v := .int (nI mE)) (C := RX11) (T := TX11) (N := 32) hx hb hts hinX11 hown hC.1 hP 0 rfl rfl 0 (by decide) f71 (fun _ h9 => h9) rfl dX11_weight_14 ?_
   refine lv_ishl hx hb dX11_weight_17 ?_
   refine top_i (y := nI (2 ^ mE)) (shl1_nI (by omega)) ?_
   refine lv_icmp_lt (tgt := 23) hx hb dX11_weight_18 (by decide) (fun c18 => ?_) (fun c18 => ?_)
   ·have c18 : xb < (2 ^ mE) := (nI_ltI (a := xb) (b := 2 ^ mE) (by omega) (by omega)).mp c18
    refine lv_lconst (v := lN 1) hx hb dX11_weight_23 (by decide) ?_
    refine lv_lstore (lv' := [(4, .long (lN 1)), (0, .ref mo), (1, .int (nI xb)), (2, .int xg), (3, .int (nI xk))]) hx hb dX11_weight_24 hl (by decide) rfl (fun ls hl => ?_)
    refine lv_iconst (v := nI 0) hx hb dX11_weight_26 (by decide) ?_
    refine lv_istore (lv' := [(6, .int (nI 0)), (4, .long (lN 1)), (0, .ref mo), (1, .int (nI xb)), (2, .int xg), (3, .int (nI xk))]) hx hb dX11_weight_27 hl (by decide) rfl (fun ls hl => ?_)
    have hL29 : ∀ (n_9 : Nat) (i : Nat), mE - i < n_9 → (i ≤ mE) → ∀ ls : Array Slot, lv_has ls 10 [(0, .ref mo), (1, .int (nI xb)), (2, .int xg), (3, .int (nI xk)), (4, .long (lN (fo (mWF mTb mTr hab sp tu kn xb xg xk) 1 i))), (6, .int (nI i))] → W p l e ({ frames := 2, cells := 0, slots := 0, locals := 46 }) s m ([.ref mo, .int (nI xb), .int xg, .int (nI xk)] : List Value).toArray below meth c s.heap [] 0 0 (MQ below (vp_Sl (fun r => r = (lN ((mW mE mB mTb mTr hab sp tu kn) xb xg xk)))) ([.ref mo, .int (nI xb), .int xg, .int (nI xk)] : List Value).toArray s 0 0 noF) (F0 m 29 ls []) := by
     intro n_9
     induction n_9 with
     | zero => intro i hn_9; exact absurd hn_9 (Nat.not_lt_zero _)
     | succ n_9 ih29 =>
      intro i hn_9 hi ls hl
      refine lv_iload hx hb dX11_weight_29 (lv_at hl 5 rfl) ?_
      refine lv_aload_n hx hb dX11_weight_31 rfl (lv_at hl 0 rfl) ?_
      refine va_get (D := g.1) (ci := 11) (v := .int (nI mE)) (C := RX11) (T := TX11) (N := 32) hx hb hts hinX11 hown hC.1 hP 0 rfl rfl 0 (by decide) f71 (fun _ h9 => h9) rfl dX11_weight_32 ?_
      refine lv_icmp_ge (tgt := 173) hx hb dX11_weight_35 (by decide) (fun c35 => ?_) (fun c35 => ?_)
      ·have c35 : mE ≤ i := (nI_leI (a := mE) (b := i) (by omega) (by omega)).mp c35
       refine lv_lload hx hb dX11_weight_173 (lv_at hl 4 rfl) ?_
       exact retSl hx hb hr hlocks (by have h9 : i = mE := (by omega); rw [mW, if_pos ⟨by omega, by omega⟩, h9]) dX11_weight_175
      ·have c35 : ¬ mE ≤ i := fun h9 => c35 ((nI_leI (a := mE) (b := i) (by omega) (by omega)).mpr h9)
       have hJ84 : ∀ ls : Array Slot, lv_has ls 10 [(0, .ref mo), (1, .int (nI xb)), (2, .int xg), (3, .int (nI xk)), (4, .long (lN (fo (mWF mTb mTr hab sp tu kn xb xg xk) 1 i))), (6, .int (nI i)), (7, .int (zI (xb.testBit i))), (8, .int (zI (mCd kn xb i)))] → W p l e ({ frames := 2, cells := 0, slots := 0, locals := 46 }) s m ([.ref mo, .int (nI xb), .int xg, .int (nI xk)] : List Value).toArray below meth c s.heap [] 0 0 (MQ below (vp_Sl (fun r => r = (lN ((mW mE mB mTb mTr hab sp tu kn) xb xg xk)))) ([.ref mo, .int (nI xb), .int xg, .int (nI xk)] : List Value).toArray s 0 0 noF) (F0 m 84 ls []) := by
        intro  ls hl
        have hJ102 : ∀ ls : Array Slot, lv_has ls 10 [(0, .ref mo), (1, .int (nI xb)), (2, .int xg), (3, .int (nI xk)), (4, .long (lN (fo (mWF mTb mTr hab sp tu kn xb xg xk) 1 i))), (6, .int (nI i)), (7, .int (zI (xb.testBit i))), (8, .int (zI (mCd kn xb i))), (9, .int (nI (mTn mTb mTr xb i)))] → W p l e ({ frames := 2, cells := 0, slots := 0, locals := 46 }) s m ([.ref mo, .int (nI xb), .int xg, .int (nI xk)] : List Value).toArray below meth c s.heap [] 0 0 (MQ below (vp_Sl (fun r => r = (lN ((mW mE mB mTb mTr hab sp tu kn) xb xg xk)))) ([.ref mo, .int (nI xb), .int xg, .int (nI xk)] : List Value).toArray s 0 0 noF) (F0 m 102 ls []) := by
         intro  ls hl
         refine lv_lload hx hb dX11_weight_102 (lv_at hl 4 rfl) ?_
         have hJ130 : ∀ ls : Array Slot, lv_has ls 10 [(0, .ref mo), (1, .int (nI xb)), (2, .int xg), (3, .int (nI xk)), (4, .long (lN (fo (mWF mTb mTr hab sp tu kn xb xg xk) 1 i))), (6, .int (nI i)), (7, .int (zI (xb.testBit i))), (8, .int (zI (mCd kn xb i))), (9, .int (nI (mTn mTb mTr xb i)))] → W p l e ({ frames := 2, cells := 0, slots := 0, locals := 46 }) s m ([.ref mo, .int (nI xb), .int xg, .int (nI xk)] : List Value).toArray below meth c s.heap [] 0 0 (MQ below (vp_Sl (fun r => r = (lN ((mW mE mB mTb mTr hab sp tu kn) xb xg xk)))) ([.ref mo, .int (nI xb), .int xg, .int (nI xk)] : List Value).toArray s 0 0 noF) (F0 m 130 ls [.long (lN (mC hab kn xb i)), .long (lN (fo (mWF mTb mTr hab sp tu kn xb xg xk) 1 i))]) := by
          intro  ls hl
          refine lv_lmul hx hb dX11_weight_130 ?_
          refine top_l (y := lN ((fo (mWF mTb mTr hab sp tu kn xb xg xk) 1 i) * (mC hab kn xb i))) (lN_mul _ _) ?_
          refine lv_lstore (lv' := [(4, .long (lN ((fo (mWF mTb mTr hab sp tu kn xb xg xk) 1 i) * (mC hab kn xb i)))), (0, .ref mo), (1, .int (nI xb)), (2, .int xg), (3, .int (nI xk)), (6, .int (nI i)), (7, .int (zI (xb.testBit i))), (8, .int (zI (mCd kn xb i))), (9, .int (nI (mTn mTb mTr xb i)))]) hx hb dX11_weight_131 hl (by decide) rfl (fun ls hl => ?_)
          refine lv_lload hx hb dX11_weight_133 (lv_at hl 0 rfl) ?_
          refine lv_aload_n hx hb dX11_weight_135 rfl (lv_at hl 1 rfl) ?_
          refine lv_iload hx hb dX11_weight_136 (lv_at hl 5 rfl) ?_
          refine lv_iload hx hb dX11_weight_138 (lv_at hl 8 rfl) ?_
          refine goSl (T := lN (spu (mTn mTb mTr xb i) (sp i) (tu i))) (va_runV (As := [.int (nI i), .int (nI (mTn mTb mTr xb i))]) (rest := [.long (lN ((fo (mWF mTb mTr hab sp tu kn xb xg xk) 1 i) * (mC hab kn xb i)))]) ⟨hx, hb, hml, hown, hts⟩ (k_X11_spun l g mo mE mKi mB mTb mTr mFa aHab mIb mS aSp aTu aKn mT aKd mAs mPl aPg aWo aWs aMe mBf aBw mSd mIk mKk mKb mKs mKt aKsp aKtu aKkn mH sp tu i (mTn mTb mTr xb i) (by omega) (Nat.le_trans (mTn_lt htb htr _ _) (by decide)) (htu i) (hsp i)) (cwV 2 hts gX11_weight_X11_spun rfl rfl rfl ⟨rfl, hdX11_spun⟩ ⟨Nat.le_of_ble_eq_true rfl, Nat.le_of_ble_eq_true rfl⟩) (preVS hC (hP.sub [0, 2, 3] rfl) (va_recv hC.1 hP (ci := 11) (q0 := 0) rfl rfl)) rfl rfl hl.1 rfl (lv_room (Nat.le_of_ble_eq_true rfl)) dX11_weight_140 ⟨Nat.le_of_ble_eq_true rfl, Nat.le_of_ble_eq_true rfl⟩) ?_
          refine lv_lmul hx hb dX11_weight_143 ?_
          refine top_l (y := lN (((fo (mWF mTb mTr hab sp tu kn xb xg xk) 1 i) * (mC hab kn xb i)) * (spu (mTn mTb mTr xb i) (sp i) (tu i)))) (lN_mul _ _) ?_
          refine lv_lstore (lv' := [(4, .long (lN (((fo (mWF mTb mTr hab sp tu kn xb xg xk) 1 i) * (mC hab kn xb i)) * (spu (mTn mTb mTr xb i) (sp i) (tu i))))), (0, .ref mo), (1, .int (nI xb)), (2, .int xg), (3, .int (nI xk)), (6, .int (nI i)), (7, .int (zI (xb.testBit i))), (8, .int (zI (mCd kn xb i))), (9, .int (nI (mTn mTb mTr xb i)))]) hx hb dX11_weight_144 hl (by decide) rfl (fun ls hl => ?_)
          refine lv_lload hx hb dX11_weight_146 (lv_at hl 0 rfl) ?_
          have hJ164 : ∀ ls : Array Slot, lv_has ls 10 [(0, .ref mo), (1, .int (nI xb)), (2, .int xg), (3, .int (nI xk)), (4, .long (lN (((fo (mWF mTb mTr hab sp tu kn xb xg xk) 1 i) * (mC hab kn xb i)) * (spu (mTn mTb mTr xb i) (sp i) (tu i))))), (6, .int (nI i)), (7, .int (zI (xb.testBit i))), (8, .int (zI (mCd kn xb i))), (9, .int (nI (mTn mTb mTr xb i)))] → W p l e ({ frames := 2, cells := 0, slots := 0, locals := 46 }) s m ([.ref mo, .int (nI xb), .int xg, .int (nI xk)] : List Value).toArray below meth c s.heap [] 0 0 (MQ below (vp_Sl (fun r => r = (lN ((mW mE mB mTb mTr hab sp tu kn) xb xg xk)))) ([.ref mo, .int (nI xb), .int xg, .int (nI xk)] : List Value).toArray s 0 0 noF) (F0 m 164 ls [.long (lN (mX mTb mTr xb xg xk i)), .long (lN (((fo (mWF mTb mTr hab sp tu kn xb xg xk) 1 i) * (mC hab kn xb i)) * (spu (mTn mTb mTr xb i) (sp i) (tu i))))]) := by
           intro  ls hl
           refine lv_lmul hx hb dX11_weight_164 ?_
           refine top_l (y := lN ((((fo (mWF mTb mTr hab sp tu kn xb xg xk) 1 i) * (mC hab kn xb i)) * (spu (mTn mTb mTr xb i) (sp i) (tu i))) * (mX mTb mTr xb xg xk i))) (lN_mul _ _) ?_
           refine lv_lstore (lv' := [(4, .long (lN ((((fo (mWF mTb mTr hab sp tu kn xb xg xk) 1 i) * (mC hab kn xb i)) * (spu (mTn mTb mTr xb i) (sp i) (tu i))) * (mX mTb mTr xb xg xk i)))), (0, .ref mo), (1, .int (nI xb)), (2, .int xg), (3, .int (nI xk)), (6, .int (nI i)), (7, .int (zI (xb.testBit i))), (8, .int (zI (mCd kn xb i))), (9, .int (nI (mTn mTb mTr xb i)))]) hx hb dX11_weight_165 hl (by decide) rfl (fun ls hl => ?_)
           refine lv_iinc (v := nI (i + 1)) (lv' := [(6, .int (nI (i + 1))), (4, .long (lN ((((fo (mWF mTb mTr hab sp tu kn xb xg xk) 1 i) * (mC hab kn xb i)) * (spu (mTn mTb mTr xb i) (sp i) (tu i))) * (mX mTb mTr xb xg xk i)))), (0, .ref mo), (1, .int (nI xb)), (2, .int xg), (3, .int (nI xk)), (7, .int (zI (xb.testBit i))), (8, .int (zI (mCd kn xb i))), (9, .int (nI (mTn mTb mTr xb i)))]) hx hb dX11_weight_167 hl (k := 5) rfl (iinc1 _) (by decide) rfl (fun ls hl => ?_)
           refine lv_goto (tgt := 29) hx hb dX11_weight_170 (by decide) ?_
           exact ih29 (i + 1) (by omega) (by first | assumption | exact Nat.zero_le _ | omega) ls (lv_sub hl [2, 3, 4, 5, 1, 0] rfl)
          refine lv_iload hx hb dX11_weight_148 (lv_at hl 5 rfl) ?_
          refine lv_iload_n hx hb dX11_weight_150 rfl (lv_at hl 3 rfl) ?_
          refine lv_icmp_ne (tgt := 163) hx hb dX11_weight_151 (by decide) (fun c151 => ?_) (fun c151 => ?_)
          ·refine lv_lconst (v := lN 1) hx hb dX11_weight_163 (by decide) ?_
           refine top_l (y := lN (mX mTb mTr xb xg xk i)) (by simp [mX, c151]) ?_
           exact hJ164   ls (lv_sub hl [1, 2, 3, 4, 0, 5, 6, 7, 8] rfl)
          ·refine lv_iload hx hb dX11_weight_154 (lv_at hl 8 rfl) ?_
           refine lv_iload_n hx hb dX11_weight_156 rfl (lv_at hl 4 rfl) ?_
           refine goSl (T := lN (pw (mTn mTb mTr xb i) xk)) (va_runS (As := [.int (nI (mTn mTb mTr xb i)), .int (nI xk)]) (rest := [.long (lN (((fo (mWF mTb mTr hab sp tu kn xb xg xk) 1 i) * (mC hab kn xb i)) * (spu (mTn mTb mTr xb i) (sp i) (tu i))))]) ⟨hx, hb, hml, hown, hts⟩ (k_X11_power l g (mTn mTb mTr xb i) xk (Nat.lt_of_le_of_lt (mTn_lt htb htr _ _) (by decide)) (by first | assumption | exact Nat.zero_le _ | omega)) (va_cwS 2 hts gX11_weight_X11_power rfl rfl rfl hdX11_power ⟨Nat.le_of_ble_eq_true rfl, Nat.le_of_ble_eq_true rfl⟩) (preSS hC (hP.sub [] rfl)) rfl rfl hl.1 rfl (lv_room (Nat.le_of_ble_eq_true rfl)) dX11_weight_157 ⟨Nat.le_of_ble_eq_true rfl, Nat.le_of_ble_eq_true rfl⟩) ?_
           refine lv_goto (tgt := 164) hx hb dX11_weight_160 (by decide) ?_
           refine top_l (y := lN (mX mTb mTr xb xg xk i)) (by simp [mX, c151]) ?_
           exact hJ164   ls (lv_sub hl [1, 2, 3, 4, 0, 5, 6, 7, 8] rfl)
         refine lv_iload hx hb dX11_weight_104 (lv_at hl 7 rfl) ?_
         refine lv_if_eq (tgt := 129) hx hb dX11_weight_106 (by decide) (fun c106 => ?_) (fun c106 => ?_)
         ·have c106 := zI_f.mp c106
          refine lv_lconst (v := lN 0) hx hb dX11_weight_129 (by decide) ?_
          refine top_l (y := lN (mC hab kn xb i)) (by first | simp [mC, c106, c111] | simp [mC, c106]) ?_
          exact hJ130   ls (lv_sub hl [0, 1, 2, 3, 4, 5, 6, 7, 8] rfl)
         ·have c106 := zI_t.mp c106
          refine lv_iload hx hb dX11_weight_109 (lv_at hl 6 rfl) ?_
          refine lv_if_eq (tgt := 125) hx hb dX11_weight_111 (by decide) (fun c111 => ?_) (fun c111 => ?_)
          ·have c111 := zI_f.mp c111
           refine lv_lconst (v := lN 1) hx hb dX11_weight_125 (by decide) ?_
           refine lv_goto (tgt := 130) hx hb dX11_weight_126 (by decide) ?_
           refine top_l (y := lN (mC hab kn xb i)) (by first | simp [mC, c106, c111] | simp [mC, c106]) ?_
           exact hJ130   ls (lv_sub hl [0, 1, 2, 3, 4, 5, 6, 7, 8] rfl)
          ·have c111 := zI_t.mp c111
           refine lv_aload_n hx hb dX11_weight_114 rfl (lv_at hl 0 rfl) ?_
           refine va_get (D := g.1) (ci := 11) (v := .ref aHab) (C := RX11) (T := TX11) (N := 32) hx hb hts hinX11 hown hC.1 hP 0 rfl rfl 6 (by decide) f7 (fun _ h9 => h9) rfl dX11_weight_115 ?_
           refine lv_iload hx hb dX11_weight_118 (lv_at hl 5 rfl) ?_
           refine ald_i (f := fun j => nI (hab j)) (j := i) hx hb hC hP 1 rfl (by omega) (by decide) dX11_weight_120 ?_
           refine lv_i2l (v := lN (hab i)) hx hb dX11_weight_121 (nI_l (by have := hha i; omega)) ?_
           refine lv_goto (tgt := 130) hx hb dX11_weight_122 (by decide) ?_
           refine top_l (y := lN (mC hab kn xb i)) (by first | simp [mC, c106, c111] | simp [mC, c106]) ?_
           exact hJ130   ls (lv_sub hl [0, 1, 2, 3, 4, 5, 6, 7, 8] rfl)
        refine lv_iload hx hb dX11_weight_84 (lv_at hl 6 rfl) ?_
        refine lv_if_eq (tgt := 96) hx hb dX11_weight_86 (by decide) (fun c86 => ?_) (fun c86 => ?_)
        ·have c86 := zI_f.mp c86
         refine lv_aload_n hx hb dX11_weight_96 rfl (lv_at hl 0 rfl) ?_
         refine va_get (D := g.1) (ci := 11) (v := .int (nI mTr)) (C := RX11) (T := TX11) (N := 32) hx hb hts hinX11 hown hC.1 hP 0 rfl rfl 4 (by decide) f80 (fun _ h9 => h9) rfl dX11_weight_97 ?_
         refine lv_istore (lv' := [(9, .int (nI mTr)), (0, .ref mo), (1, .int (nI xb)), (2, .int xg), (3, .int (nI xk)), (4, .long (lN (fo (mWF mTb mTr hab sp tu kn xb xg xk) 1 i))), (6, .int (nI i)), (7, .int (zI (xb.testBit i))), (8, .int (zI (mCd kn xb i)))]) hx hb dX11_weight_100 hl (by decide) rfl (fun ls hl => ?_)
         have e9 : (nI mTr) = (nI (mTn mTb mTr xb i)) := by simp [mTn, c86]
         rw [e9] at hl
         exact hJ102   ls (lv_sub hl [1, 2, 3, 4, 5, 6, 7, 8, 0] rfl)
        ·have c86 := zI_t.mp c86
         refine lv_aload_n hx hb dX11_weight_89 rfl (lv_at hl 0 rfl) ?_
         refine va_get (D := g.1) (ci := 11) (v := .int (nI mTb)) (C := RX11) (T := TX11) (N := 32) hx hb hts hinX11 hown hC.1 hP 0 rfl rfl 3 (by decide) f77 (fun _ h9 => h9) rfl dX11_weight_90 ?_
         refine lv_goto (tgt := 100) hx hb dX11_weight_93 (by decide) ?_
         refine lv_istore (lv' := [(9, .int (nI mTb)), (0, .ref mo), (1, .int (nI xb)), (2, .int xg), (3, .int (nI xk)), (4, .long (lN (fo (mWF mTb mTr hab sp tu kn xb xg xk) 1 i))), (6, .int (nI i)), (7, .int (zI (xb.testBit i))), (8, .int (zI (mCd kn xb i)))]) hx hb dX11_weight_100 hl (by decide) rfl (fun ls hl => ?_)
         have e9 : (nI mTb) = (nI (mTn mTb mTr xb i)) := by simp [mTn, c86]
         rw [e9] at hl
         exact hJ102   ls (lv_sub hl [1, 2, 3, 4, 5, 6, 7, 8, 0] rfl)
       refine lv_iload_n hx hb dX11_weight_38 rfl (lv_at hl 1 rfl) ?_
       refine lv_iload hx hb dX11_weight_39 (lv_at hl 5 rfl) ?_
       refine goSi (T := zI (xb.testBit i)) (va_runS (As := [.int (nI xb), .int (nI i)]) (rest := []) ⟨hx, hb, hml, hown, hts⟩ (k_X11_has l g xb i (by first | assumption | exact Nat.zero_le _ | omega) (by first | assumption | exact Nat.zero_le _ | omega)) (va_cwS 2 hts gX11_weight_X11_has rfl rfl rfl hdX11_has ⟨Nat.le_of_ble_eq_true rfl, Nat.le_of_ble_eq_true rfl⟩) (preSS hC (hP.sub [] rfl)) rfl rfl hl.1 rfl (lv_room (Nat.le_of_ble_eq_true rfl)) dX11_weight_41 ⟨Nat.le_of_ble_eq_true rfl, Nat.le_of_ble_eq_true rfl⟩) ?_
       refine lv_istore (lv' := [(7, .int (zI (xb.testBit i))), (0, .ref mo), (1, .int (nI xb)), (2, .int xg), (3, .int (nI xk)), (4, .long (lN (fo (mWF mTb mTr hab sp tu kn xb xg xk) 1 i))), (6, .int (nI i))]) hx hb dX11_weight_44 hl (by decide) rfl (fun ls hl => ?_)
       refine lv_aload_n hx hb dX11_weight_46 rfl (lv_at hl 1 rfl) ?_
       refine va_get (D := g.1) (ci := 11) (v := .ref aKn) (C := RX11) (T := TX11) (N := 32) hx hb hts hinX11 hown hC.1 hP 0 rfl rfl 11 (by decide) f19 (fun _ h9 => h9) rfl dX11_weight_47 ?_
       refine lv_iload hx hb dX11_weight_50 (lv_at hl 6 rfl) ?_
       refine ald_i (f := kn) (j := i) hx hb hC hP 4 rfl (by omega) (by decide) dX11_weight_52 ?_
       refine lv_iconst (v := (-1)) hx hb dX11_weight_53 (by decide) ?_
       refine lv_icmp_eq (tgt := 77) hx hb dX11_weight_54 (by decide) (fun c54 => ?_) (fun c54 => ?_)
       ·refine lv_iconst (v := nI 1) hx hb dX11_weight_77 (by decide) ?_
        refine lv_goto (tgt := 82) hx hb dX11_weight_78 (by decide) ?_
        refine lv_istore (lv' := [(8, .int (nI 1)), (7, .int (zI (xb.testBit i))), (0, .ref mo), (1, .int (nI xb)), (2, .int xg), (3, .int (nI xk)), (4, .long (lN (fo (mWF mTb mTr hab sp tu kn xb xg xk) 1 i))), (6, .int (nI i))]) hx hb dX11_weight_82 hl (by decide) rfl (fun ls hl => ?_)
        have e9 : (nI 1) = (zI (mCd kn xb i)) := by first | exact zI_1 (decide_eq_true (Or.inl c54)) | exact zI_1 (decide_eq_true (Or.inr (by rw [c66]; exact c74))) | exact zI_0 (decide_eq_false (fun h9 => h9.elim c54 (fun h9 => c74 (by rw [c66] at h9; exact h9))))
        rw [e9] at hl
        exact hJ84   ls (lv_sub hl [2, 3, 4, 5, 6, 7, 1, 0] rfl)
       ·refine lv_aload_n hx hb dX11_weight_57 rfl (lv_at hl 1 rfl) ?_
        refine va_get (D := g.1) (ci := 11) (v := .ref aKn) (C := RX11) (T := TX11) (N := 32) hx hb hts hinX11 hown hC.1 hP 0 rfl rfl 11 (by decide) f19 (fun _ h9 => h9) rfl dX11_weight_58 ?_
        refine lv_iload hx hb dX11_weight_61 (lv_at hl 6 rfl) ?_
        refine ald_i (f := kn) (j := i) hx hb hC hP 4 rfl (by omega) (by decide) dX11_weight_63 ?_
        refine lv_iload hx hb dX11_weight_64 (lv_at hl 0 rfl) ?_
        refine lv_if_eq (tgt := 73) hx hb dX11_weight_66 (by decide) (fun c66 => ?_) (fun c66 => ?_)
        ·have c66 := zI_f.mp c66
         refine lv_iconst (v := nI 0) hx hb dX11_weight_73 (by decide) ?_
         refine lv_icmp_ne (tgt := 81) hx hb dX11_weight_74 (by decide) (fun c74 => ?_) (fun c74 => ?_)
         ·refine lv_iconst (v := nI 0) hx hb dX11_weight_81 (by decide) ?_
          refine lv_istore (lv' := [(8, .int (nI 0)), (7, .int (zI (xb.testBit i))), (0, .ref mo), (1, .int (nI xb)), (2, .int xg), (3, .int (nI xk)), (4, .long (lN (fo (mWF mTb mTr hab sp tu kn xb xg xk) 1 i))), (6, .int (nI i))]) hx hb dX11_weight_82 hl (by decide) rfl (fun ls hl => ?_)
          have e9 : (nI 0) = (zI (mCd kn xb i)) := by first | exact zI_1 (decide_eq_true (Or.inl c54)) | exact zI_1 (decide_eq_true (Or.inr (by rw [c66]; exact c74))) | exact zI_0 (decide_eq_false (fun h9 => h9.elim c54 (fun h9 => c74 (by rw [c66] at h9; exact h9))))
          rw [e9] at hl
          exact hJ84   ls (lv_sub hl [2, 3, 4, 5, 6, 7, 1, 0] rfl)
         ·refine lv_iconst (v := nI 1) hx hb dX11_weight_77 (by decide) ?_
          refine lv_goto (tgt := 82) hx hb dX11_weight_78 (by decide) ?_
          refine lv_istore (lv' := [(8, .int (nI 1)), (7, .int (zI (xb.testBit i))), (0, .ref mo), (1, .int (nI xb)), (2, .int xg), (3, .int (nI xk)), (4, .long (lN (fo (mWF mTb mTr hab sp tu kn xb xg xk) 1 i))), (6, .int (nI i))]) hx hb dX11_weight_82 hl (by decide) rfl (fun ls hl => ?_)
          have e9 : (nI 1) = (zI (mCd kn xb i)) := by first | exact zI_1 (decide_eq_true (Or.inl c54)) | exact zI_1 (decide_eq_true (Or.inr (by rw [c66]; exact c74))) | exact zI_0 (decide_eq_false (fun h9 => h9.elim c54 (fun h9 => c74 (by rw [c66] at h9; exact h9))))
          rw [e9] at hl
          exact hJ84   ls (lv_sub hl [2, 3, 4, 5, 6, 7, 1, 0] rfl)
        ·have c66 := zI_t.mp c66
         refine lv_iconst (v := nI 1) hx hb dX11_weight_69 (by decide) ?_
         refine lv_goto (tgt := 74) hx hb dX11_weight_70 (by decide) ?_
         refine lv_icmp_ne (tgt := 81) hx hb dX11_weight_74 (by decide) (fun c74 => ?_) (fun c74 => ?_)
         ·refine lv_iconst (v := nI 0) hx hb dX11_weight_81 (by decide) ?_
          refine lv_istore (lv' := [(8, .int (nI 0)), (7, .int (zI (xb.testBit i))), (0, .ref mo), (1, .int (nI xb)), (2, .int xg), (3, .int (nI xk)), (4, .long (lN (fo (mWF mTb mTr hab sp tu kn xb xg xk) 1 i))), (6, .int (nI i))]) hx hb dX11_weight_82 hl (by decide) rfl (fun ls hl => ?_)
          have e9 : (nI 0) = (zI (mCd kn xb i)) := by first | exact zI_1 (decide_eq_true (Or.inl c54)) | exact zI_1 (decide_eq_true (Or.inr (by rw [c66]; exact c74))) | exact zI_0 (decide_eq_false (fun h9 => h9.elim c54 (fun h9 => c74 (by rw [c66] at h9; exact h9))))
          rw [e9] at hl
          exact hJ84   ls (lv_sub hl [2, 3, 4, 5, 6, 7, 1, 0] rfl)
         ·refine lv_iconst (v := nI 1) hx hb dX11_weight_77 (by decide) ?_
          refine lv_goto (tgt := 82) hx hb dX11_weight_78 (by decide) ?_
          refine lv_istore (lv' := [(8, .int (nI 1)), (7, .int (zI (xb.testBit i))), (0, .ref mo), (1, .int (nI xb)), (2, .int xg), (3, .int (nI xk)), (4, .long (lN (fo (mWF mTb mTr hab sp tu kn xb xg xk) 1 i))), (6, .int (nI i))]) hx hb dX11_weight_82 hl (by decide) rfl (fun ls hl => ?_)
          have e9 : (nI 1) = (zI (mCd kn xb i)) := by first | exact zI_1 (decide_eq_true (Or.inl c54)) | exact zI_1 (decide_eq_true (Or.inr (by rw [c66]; exact c74))) | exact zI_0 (decide_eq_false (fun h9 => h9.elim c54 (fun h9 => c74 (by rw [c66] at h9; exact h9))))
          rw [e9] at hl
          exact hJ84   ls (lv_sub hl [2, 3, 4, 5, 6, 7, 1, 0] rfl)
    exact hL29 _ 0 (Nat.lt_succ_self _) (by first | assumption | exact Nat.zero_le _ | omega) ls (lv_sub hl [2, 3, 4, 5, 1, 0] rfl)
   ·have c18 : ¬ xb < (2 ^ mE) := fun h9 => c18 ((nI_ltI (a := xb) (b := 2 ^ mE) (by omega) (by omega)).mpr h9)
    refine lv_lconst (v := lN 0) hx hb dX11_weight_21 (by decide) ?_
    exact retSl hx hb hr hlocks (by rw [mW, if_neg (by omega)]) dX11_weight_22

set_option maxHeartbeats 4000000 in
set_option maxRecDepth 100000 in
/-- BoiledEggsModel.total  -/
theorem k_X11_total (l : Launch) (g : GG) (mo : Nat) (mE : Nat) (mKi : Nat) (mB : Nat) (mTb : Nat) (mTr : Nat) (mFa : Nat) (aHab : Nat) (mIb : Nat) (mS : Nat) (aSp : Nat) (aTu : Nat) (aKn : Nat) (mT : Nat) (aKd : Nat) (mAs : Nat) (mPl : Nat) (aPg : Nat) (aWo : Nat) (aWs : Nat) (aMe : Nat) (mBf : Int32) (aBw : Nat) (mSd : Int64) (mIk : Int32) (mKk : Nat) (mKb : Nat) (mKs : Nat) (mKt : Nat) (aKsp : Nat) (aKtu : Nat) (aKkn : Nat) (mH : Int64) (hab : Nat → Nat) (sp : Nat → Nat) (tu : Nat → Nat) (kn : Nat → Int32) (xg : Int32) (xk : Nat) (hok : wOK mE mTb mTr hab sp tu) (hB0 : mB < 1000) (hk0 : xk < 1000) : Met l yX11_total wsX11_total ({ frames := 3, cells := 0, slots := 0, locals := 75 }) (pS g [.ref mo, .int xg, .int (nI xk)] [(mo, .inr (11, [.int (nI mE), .int (nI mKi), .int (nI mB), .int (nI mTb), .int (nI mTr), .int (nI mFa), .ref aHab, .int (nI mIb), .int (nI mS), .ref aSp, .ref aTu, .ref aKn, .int (nI mT), .ref aKd, .int (nI mAs), .int (nI mPl), .ref aPg, .ref aWo, .ref aWs, .ref aMe, .int mBf, .ref aBw, .long mSd, .int mIk, .int (nI mKk), .int (nI mKb), .int (nI mKs), .int (nI mKt), .ref aKsp, .ref aKtu, .ref aKkn, .long mH])), (aHab, .inl (g.2.1, 6, .inl (fun j => nI (hab j)))), (aSp, .inl (g.2.1, 6, .inl (fun j => nI (sp j)))), (aTu, .inl (g.2.1, 6, .inl (fun j => nI (tu j)))), (aKn, .inl (g.2.1, 6, .inl kn))]) (vp_Sl (fun r => r = (lN (tot (mW mE mB mTb mTr hab sp tu kn) mE xg xk)))) 0 0 noF := by
  refine metS (cc := cX11_total) (maxL := 6) (ret := (some .long)) (by decide) rfl (Nat.le_of_ble_eq_true rfl) ?_
  intro p e s m below meth c hx hb hr hts hown hlocks hml hC hP ls hl
  have hl : lv_has ls 6 [(0, .ref mo), (1, .int xg), (2, .int (nI xk))] := hl
  have hown : s.vm.findClass RX11 = some m.cls := hown
  have hts : ∀ w ∈ wsX11_total, w.before ([.ref mo, .int xg, .int (nI xk)] : List Value).toArray s = true := hts
  obtain ⟨hE, htb, htr, htu, hsp, hha⟩ := id hok
  have h2E := p2le hE
  have hinX11 := (by decide +kernel : ∀ w ∈ u_ws RX11 TX11 32, w ∈ wsX11_total)
  have f71 := hts (.fieldLink RX11 71 "BoiledEggsModel" "eggs" "I") (by decide +kernel)
  refine lv_lconst (v := lN 0) hx hb dX11_total_0 (by decide) ?_
  refine lv_lstore_n (lv' := [(3, .long (lN 0)), (0, .ref mo), (1, .int xg), (2, .int (nI xk))]) hx hb dX11_total_1 rfl hl (by decide) rfl (fun ls hl => ?_)
  refine lv_iconst (v := nI 0) hx hb dX11_total_2 (by decide) ?_
  refine lv_istore (lv' := [(5, .int (nI 0)), (3, .long (lN 0)), (0, .ref mo), (1, .int xg), (2, .int (nI xk))]) hx hb dX11_total_3 hl (by decide) rfl (fun ls hl => ?_)
  have hL5 : ∀ (n_9 : Nat) (i : Nat), 2 ^ mE - i < n_9 → (i ≤ 2 ^ mE) → ∀ ls : Array Slot, lv_has ls 6 [(0, .ref mo), (1, .int xg), (2, .int (nI xk)), (3, .long (lN (fo (fun a b => a + (mW mE mB mTb mTr hab sp tu kn) b xg xk) 0 i))), (5, .int (nI i))] → W p l e ({ frames := 3, cells := 0, slots := 0, locals := 75 }) s m ([.ref mo, .int xg, .int (nI xk)] : List Value).toArray below meth c s.heap [] 0 0 (MQ below (vp_Sl (fun r => r = (lN (tot (mW mE mB mTb mTr hab sp tu kn) mE xg xk)))) ([.ref mo, .int xg, .int (nI xk)] : List Value).toArray s 0 0 noF) (F0 m 5 ls []) := by
   intro n_9
   induction n_9 with
   | zero => intro i hn_9; exact absurd hn_9 (Nat.not_lt_zero _)
   | succ n_9 ih5 =>
    intro i hn_9 hi ls hl
    refine lv_iload hx hb dX11_total_5 (lv_at hl 4 rfl) ?_
    refine lv_iconst (v := nI 1) hx hb dX11_total_7 (by decide) ?_
    refine lv_aload_n hx hb dX11_total_8 rfl (lv_at hl 0 rfl) ?_
    refine va_get (D := g.1) (ci := 11) (v := .int (nI mE)) (C := RX11) (T := TX11) (N := 32) hx hb hts hinX11 hown hC.1 hP 0 rfl rfl 0 (by decide) f71 (fun _ h9 => h9) rfl dX11_total_9 ?_
    refine lv_ishl hx hb dX11_total_12 ?_
    refine top_i (y := nI (2 ^ mE)) (shl1_nI (by omega)) ?_
    refine lv_icmp_ge (tgt := 33) hx hb dX11_total_13 (by decide) (fun c13 => ?_) (fun c13 => ?_)
    ·have c13 : (2 ^ mE) ≤ i := (nI_leI (a := 2 ^ mE) (b := i) (by omega) (by omega)).mp c13
     refine lv_lload_n hx hb dX11_total_33 rfl (lv_at hl 3 rfl) ?_
     exact retSl hx hb hr hlocks (by have h9 : i = 2 ^ mE := (by omega); rw [tot, h9]) dX11_total_34
    ·have c13 : ¬ (2 ^ mE) ≤ i := fun h9 => c13 ((nI_leI (a := 2 ^ mE) (b := i) (by omega) (by omega)).mpr h9)
     refine lv_lload_n hx hb dX11_total_16 rfl (lv_at hl 3 rfl) ?_
     refine lv_aload_n hx hb dX11_total_17 rfl (lv_at hl 0 rfl) ?_
     refine lv_iload hx hb dX11_total_18 (lv_at hl 4 rfl) ?_
     refine lv_iload_n hx hb dX11_total_20 rfl (lv_at hl 1 rfl) ?_
     refine lv_iload_n hx hb dX11_total_21 rfl (lv_at hl 2 rfl) ?_
     refine goSl (T := lN ((mW mE mB mTb mTr hab sp tu kn) i xg xk)) (va_runV (As := [.int (nI i), .int xg, .int (nI xk)]) (rest := [.long (lN (fo (fun a b => a + (mW mE mB mTb mTr hab sp tu kn) b xg xk) 0 i))]) ⟨hx, hb, hml, hown, hts⟩ (k_X11_weight l g mo mE mKi mB mTb mTr mFa aHab mIb mS aSp aTu aKn mT aKd mAs mPl aPg aWo aWs aMe mBf aBw mSd mIk mKk mKb mKs mKt aKsp aKtu aKkn mH hab sp tu kn i xg xk (by first | assumption | exact Nat.zero_le _ | omega) (by first | assumption | exact Nat.zero_le _ | omega) (by first | assumption | exact Nat.zero_le _ | omega) (by first | assumption | exact Nat.zero_le _ | omega)) (cwV 3 hts gX11_total_X11_weight rfl rfl rfl ⟨rfl, hdX11_weight⟩ ⟨Nat.le_of_ble_eq_true rfl, Nat.le_of_ble_eq_true rfl⟩) (preVS hC (hP.sub [0, 1, 2, 3, 4] rfl) (va_recv hC.1 hP (ci := 11) (q0 := 0) rfl rfl)) rfl rfl hl.1 rfl (lv_room (Nat.le_of_ble_eq_true rfl)) dX11_total_22 ⟨Nat.le_of_ble_eq_true rfl, Nat.le_of_ble_eq_true rfl⟩) ?_
     refine lv_ladd hx hb dX11_total_25 ?_
     refine top_l (y := lN ((fo (fun a b => a + (mW mE mB mTb mTr hab sp tu kn) b xg xk) 0 i) + ((mW mE mB mTb mTr hab sp tu kn) i xg xk))) (lN_add _ _) ?_
     refine lv_lstore_n (lv' := [(3, .long (lN ((fo (fun a b => a + (mW mE mB mTb mTr hab sp tu kn) b xg xk) 0 i) + ((mW mE mB mTb mTr hab sp tu kn) i xg xk)))), (0, .ref mo), (1, .int xg), (2, .int (nI xk)), (5, .int (nI i))]) hx hb dX11_total_26 rfl hl (by decide) rfl (fun ls hl => ?_)
     refine lv_iinc (v := nI (i + 1)) (lv' := [(5, .int (nI (i + 1))), (3, .long (lN ((fo (fun a b => a + (mW mE mB mTb mTr hab sp tu kn) b xg xk) 0 i) + ((mW mE mB mTb mTr hab sp tu kn) i xg xk)))), (0, .ref mo), (1, .int xg), (2, .int (nI xk))]) hx hb dX11_total_27 hl (k := 4) rfl (iinc1 _) (by decide) rfl (fun ls hl => ?_)
     refine lv_goto (tgt := 5) hx hb dX11_total_30 (by decide) ?_
     exact ih5 (i + 1) (by omega) (by first | assumption | exact Nat.zero_le _ | omega) ls (lv_sub hl [2, 3, 4, 1, 0] rfl)
  exact hL5 _ 0 (Nat.lt_succ_self _) (by first | assumption | exact Nat.zero_le _ | omega) ls (lv_sub hl [2, 3, 4, 1, 0] rfl)

set_option maxHeartbeats 4000000 in
set_option maxRecDepth 100000 in
/-- BoiledEggsModel.boiledWeight  -/
theorem k_X11_boiledWeight (l : Launch) (g : GG) (mo : Nat) (mE : Nat) (mKi : Nat) (mB : Nat) (mTb : Nat) (mTr : Nat) (mFa : Nat) (aHab : Nat) (mIb : Nat) (mS : Nat) (aSp : Nat) (aTu : Nat) (aKn : Nat) (mT : Nat) (aKd : Nat) (mAs : Nat) (mPl : Nat) (aPg : Nat) (aWo : Nat) (aWs : Nat) (aMe : Nat) (mBf : Int32) (aBw : Nat) (mSd : Int64) (mIk : Int32) (mKk : Nat) (mKb : Nat) (mKs : Nat) (mKt : Nat) (aKsp : Nat) (aKtu : Nat) (aKkn : Nat) (mH : Int64) (hab : Nat → Nat) (sp : Nat → Nat) (tu : Nat → Nat) (kn : Nat → Int32) (xe : Nat) (xk : Nat) (hok : wOK mE mTb mTr hab sp tu) (hB0 : mB < 1000) (hk0 : xk < 1000) (he0 : xe < 31) : Met l yX11_boiledWeight wsX11_boiledWeight ({ frames := 3, cells := 0, slots := 0, locals := 75 }) (pS g [.ref mo, .int (nI xe), .int (nI xk)] [(mo, .inr (11, [.int (nI mE), .int (nI mKi), .int (nI mB), .int (nI mTb), .int (nI mTr), .int (nI mFa), .ref aHab, .int (nI mIb), .int (nI mS), .ref aSp, .ref aTu, .ref aKn, .int (nI mT), .ref aKd, .int (nI mAs), .int (nI mPl), .ref aPg, .ref aWo, .ref aWs, .ref aMe, .int mBf, .ref aBw, .long mSd, .int mIk, .int (nI mKk), .int (nI mKb), .int (nI mKs), .int (nI mKt), .ref aKsp, .ref aKtu, .ref aKkn, .long mH])), (aHab, .inl (g.2.1, 6, .inl (fun j => nI (hab j)))), (aSp, .inl (g.2.1, 6, .inl (fun j => nI (sp j)))), (aTu, .inl (g.2.1, 6, .inl (fun j => nI (tu j)))), (aKn, .inl (g.2.1, 6, .inl kn))]) (vp_Sl (fun r => r = (lN (bwt (mW mE mB mTb mTr hab sp tu kn) mE xe xk)))) 0 0 noF := by
  refine metS (cc := cX11_boiledWeight) (maxL := 6) (ret := (some .long)) (by decide) rfl (Nat.le_of_ble_eq_true rfl) ?_
  intro p e s m below meth c hx hb hr hts hown hlocks hml hC hP ls hl
  have hl : lv_has ls 6 [(0, .ref mo), (1, .int (nI xe)), (2, .int (nI xk))] := hl
  have hown : s.vm.findClass RX11 = some m.cls := hown
  have hts : ∀ w ∈ wsX11_boiledWeight, w.before ([.ref mo, .int (nI xe), .int (nI xk)] : List Value).toArray s = true := hts
  obtain ⟨hE, htb, htr, htu, hsp, hha⟩ := id hok
  have h2E := p2le hE
  have hinX11 := (by decide +kernel : ∀ w ∈ u_ws RX11 TX11 32, w ∈ wsX11_boiledWeight)
  have f71 := hts (.fieldLink RX11 71 "BoiledEggsModel" "eggs" "I") (by decide +kernel)
  refine lv_lconst (v := lN 0) hx hb dX11_boiledWeight_0 (by decide) ?_
  refine lv_lstore_n (lv' := [(3, .long (lN 0)), (0, .ref mo), (1, .int (nI xe)), (2, .int (nI xk))]) hx hb dX11_boiledWeight_1 rfl hl (by decide) rfl (fun ls hl => ?_)
  refine lv_iconst (v := nI 0) hx hb dX11_boiledWeight_2 (by decide) ?_
  refine lv_istore (lv' := [(5, .int (nI 0)), (3, .long (lN 0)), (0, .ref mo), (1, .int (nI xe)), (2, .int (nI xk))]) hx hb dX11_boiledWeight_3 hl (by decide) rfl (fun ls hl => ?_)
  have hL5 : ∀ (n_9 : Nat) (i : Nat), 2 ^ mE - i < n_9 → (i ≤ 2 ^ mE) → ∀ ls : Array Slot, lv_has ls 6 [(0, .ref mo), (1, .int (nI xe)), (2, .int (nI xk)), (3, .long (lN (fo (fun a b => a + (if b.testBit xe then (mW mE mB mTb mTr hab sp tu kn) b (nI xe) xk else 0)) 0 i))), (5, .int (nI i))] → W p l e ({ frames := 3, cells := 0, slots := 0, locals := 75 }) s m ([.ref mo, .int (nI xe), .int (nI xk)] : List Value).toArray below meth c s.heap [] 0 0 (MQ below (vp_Sl (fun r => r = (lN (bwt (mW mE mB mTb mTr hab sp tu kn) mE xe xk)))) ([.ref mo, .int (nI xe), .int (nI xk)] : List Value).toArray s 0 0 noF) (F0 m 5 ls []) := by
   intro n_9
   induction n_9 with
   | zero => intro i hn_9; exact absurd hn_9 (Nat.not_lt_zero _)
   | succ n_9 ih5 =>
    intro i hn_9 hi ls hl
    refine lv_iload hx hb dX11_boiledWeight_5 (lv_at hl 4 rfl) ?_
    refine lv_iconst (v := nI 1) hx hb dX11_boiledWeight_7 (by decide) ?_
    refine lv_aload_n hx hb dX11_boiledWeight_8 rfl (lv_at hl 0 rfl) ?_
    refine va_get (D := g.1) (ci := 11) (v := .int (nI mE)) (C := RX11) (T := TX11) (N := 32) hx hb hts hinX11 hown hC.1 hP 0 rfl rfl 0 (by decide) f71 (fun _ h9 => h9) rfl dX11_boiledWeight_9 ?_
    refine lv_ishl hx hb dX11_boiledWeight_12 ?_
    refine top_i (y := nI (2 ^ mE)) (shl1_nI (by omega)) ?_
    refine lv_icmp_ge (tgt := 46) hx hb dX11_boiledWeight_13 (by decide) (fun c13 => ?_) (fun c13 => ?_)
    ·have c13 : (2 ^ mE) ≤ i := (nI_leI (a := 2 ^ mE) (b := i) (by omega) (by omega)).mp c13
     refine lv_lload_n hx hb dX11_boiledWeight_46 rfl (lv_at hl 3 rfl) ?_
     exact retSl hx hb hr hlocks (by have h9 : i = 2 ^ mE := (by omega); rw [bwt, h9]) dX11_boiledWeight_47
    ·have c13 : ¬ (2 ^ mE) ≤ i := fun h9 => c13 ((nI_leI (a := 2 ^ mE) (b := i) (by omega) (by omega)).mpr h9)
     refine lv_lload_n hx hb dX11_boiledWeight_16 rfl (lv_at hl 3 rfl) ?_
     have hJ38 : ∀ ls : Array Slot, lv_has ls 6 [(0, .ref mo), (1, .int (nI xe)), (2, .int (nI xk)), (3, .long (lN (fo (fun a b => a + (if b.testBit xe then (mW mE mB mTb mTr hab sp tu kn) b (nI xe) xk else 0)) 0 i))), (5, .int (nI i))] → W p l e ({ frames := 3, cells := 0, slots := 0, locals := 75 }) s m ([.ref mo, .int (nI xe), .int (nI xk)] : List Value).toArray below meth c s.heap [] 0 0 (MQ below (vp_Sl (fun r => r = (lN (bwt (mW mE mB mTb mTr hab sp tu kn) mE xe xk)))) ([.ref mo, .int (nI xe), .int (nI xk)] : List Value).toArray s 0 0 noF) (F0 m 38 ls [.long (lN (if i.testBit xe then (mW mE mB mTb mTr hab sp tu kn) i (nI xe) xk else 0)), .long (lN (fo (fun a b => a + (if b.testBit xe then (mW mE mB mTb mTr hab sp tu kn) b (nI xe) xk else 0)) 0 i))]) := by
      intro  ls hl
      refine lv_ladd hx hb dX11_boiledWeight_38 ?_
      refine top_l (y := lN ((fo (fun a b => a + (if b.testBit xe then (mW mE mB mTb mTr hab sp tu kn) b (nI xe) xk else 0)) 0 i) + (if i.testBit xe then (mW mE mB mTb mTr hab sp tu kn) i (nI xe) xk else 0))) (lN_add _ _) ?_
      refine lv_lstore_n (lv' := [(3, .long (lN ((fo (fun a b => a + (if b.testBit xe then (mW mE mB mTb mTr hab sp tu kn) b (nI xe) xk else 0)) 0 i) + (if i.testBit xe then (mW mE mB mTb mTr hab sp tu kn) i (nI xe) xk else 0)))), (0, .ref mo), (1, .int (nI xe)), (2, .int (nI xk)), (5, .int (nI i))]) hx hb dX11_boiledWeight_39 rfl hl (by decide) rfl (fun ls hl => ?_)
      refine lv_iinc (v := nI (i + 1)) (lv' := [(5, .int (nI (i + 1))), (3, .long (lN ((fo (fun a b => a + (if b.testBit xe then (mW mE mB mTb mTr hab sp tu kn) b (nI xe) xk else 0)) 0 i) + (if i.testBit xe then (mW mE mB mTb mTr hab sp tu kn) i (nI xe) xk else 0)))), (0, .ref mo), (1, .int (nI xe)), (2, .int (nI xk))]) hx hb dX11_boiledWeight_40 hl (k := 4) rfl (iinc1 _) (by decide) rfl (fun ls hl => ?_)
      refine lv_goto (tgt := 5) hx hb dX11_boiledWeight_43 (by decide) ?_
      exact ih5 (i + 1) (by omega) (by first | assumption | exact Nat.zero_le _ | omega) ls (lv_sub hl [2, 3, 4, 1, 0] rfl)
     refine lv_iload hx hb dX11_boiledWeight_17 (lv_at hl 4 rfl) ?_
     refine lv_iload_n hx hb dX11_boiledWeight_19 rfl (lv_at hl 1 rfl) ?_
     refine goSi (T := zI (i.testBit xe)) (va_runS (As := [.int (nI i), .int (nI xe)]) (rest := [.long (lN (fo (fun a b => a + (if b.testBit xe then (mW mE mB mTb mTr hab sp tu kn) b (nI xe) xk else 0)) 0 i))]) ⟨hx, hb, hml, hown, hts⟩ (k_X11_has l g i xe (by first | assumption | exact Nat.zero_le _ | omega) (by first | assumption | exact Nat.zero_le _ | omega)) (va_cwS 2 hts gX11_boiledWeight_X11_has rfl rfl rfl hdX11_has ⟨Nat.le_of_ble_eq_true rfl, Nat.le_of_ble_eq_true rfl⟩) (preSS hC (hP.sub [] rfl)) rfl rfl hl.1 rfl (lv_room (Nat.le_of_ble_eq_true rfl)) dX11_boiledWeight_20 ⟨Nat.le_of_ble_eq_true rfl, Nat.le_of_ble_eq_true rfl⟩) ?_
     refine lv_if_eq (tgt := 37) hx hb dX11_boiledWeight_23 (by decide) (fun c23 => ?_) (fun c23 => ?_)
     ·have c23 := zI_f.mp c23
      refine lv_lconst (v := lN 0) hx hb dX11_boiledWeight_37 (by decide) ?_
      refine top_l (y := lN (if i.testBit xe then (mW mE mB mTb mTr hab sp tu kn) i (nI xe) xk else 0)) (by simp [c23]) ?_
      exact hJ38   ls (lv_sub hl [0, 1, 2, 3, 4] rfl)
     ·have c23 := zI_t.mp c23
      refine lv_aload_n hx hb dX11_boiledWeight_26 rfl (lv_at hl 0 rfl) ?_
      refine lv_iload hx hb dX11_boiledWeight_27 (lv_at hl 4 rfl) ?_
      refine lv_iload_n hx hb dX11_boiledWeight_29 rfl (lv_at hl 1 rfl) ?_
      refine lv_iload_n hx hb dX11_boiledWeight_30 rfl (lv_at hl 2 rfl) ?_
      refine goSl (T := lN ((mW mE mB mTb mTr hab sp tu kn) i (nI xe) xk)) (va_runV (As := [.int (nI i), .int (nI xe), .int (nI xk)]) (rest := [.long (lN (fo (fun a b => a + (if b.testBit xe then (mW mE mB mTb mTr hab sp tu kn) b (nI xe) xk else 0)) 0 i))]) ⟨hx, hb, hml, hown, hts⟩ (k_X11_weight l g mo mE mKi mB mTb mTr mFa aHab mIb mS aSp aTu aKn mT aKd mAs mPl aPg aWo aWs aMe mBf aBw mSd mIk mKk mKb mKs mKt aKsp aKtu aKkn mH hab sp tu kn i (nI xe) xk (by first | assumption | exact Nat.zero_le _ | omega) (by first | assumption | exact Nat.zero_le _ | omega) (by first | assumption | exact Nat.zero_le _ | omega) (by first | assumption | exact Nat.zero_le _ | omega)) (cwV 3 hts gX11_boiledWeight_X11_weight rfl rfl rfl ⟨rfl, hdX11_weight⟩ ⟨Nat.le_of_ble_eq_true rfl, Nat.le_of_ble_eq_true rfl⟩) (preVS hC (hP.sub [0, 1, 2, 3, 4] rfl) (va_recv hC.1 hP (ci := 11) (q0 := 0) rfl rfl)) rfl rfl hl.1 rfl (lv_room (Nat.le_of_ble_eq_true rfl)) dX11_boiledWeight_31 ⟨Nat.le_of_ble_eq_true rfl, Nat.le_of_ble_eq_true rfl⟩) ?_
      refine lv_goto (tgt := 38) hx hb dX11_boiledWeight_34 (by decide) ?_
      refine top_l (y := lN (if i.testBit xe then (mW mE mB mTb mTr hab sp tu kn) i (nI xe) xk else 0)) (by simp [c23]) ?_
      exact hJ38   ls (lv_sub hl [0, 1, 2, 3, 4] rfl)
  exact hL5 _ 0 (Nat.lt_succ_self _) (by first | assumption | exact Nat.zero_le _ | omega) ls (lv_sub hl [2, 3, 4, 1, 0] rfl)

set_option maxHeartbeats 4000000 in
set_option maxRecDepth 100000 in
/-- BoiledEggsModel.lowest  -/
theorem k_X11_lowest (l : Launch) (g : GG) (xa : Nat) (xb : Nat) (xp : Int32) (ha0 : xa < 2 ^ 63) (hb0 : xb < 2 ^ 63) (hp0 : 0 < xb) : Met l yX11_lowest wsX11_lowest ({ frames := 0, cells := 0, slots := 0, locals := 0 }) (pS g [.long (lN xa), .long (lN xb), .int xp] []) (vp_Sl (fun r => r = (lN (low xa xb xp)))) 0 0 noF := by
  refine metS (cc := cX11_lowest) (maxL := 11) (ret := (some .long)) (by decide) rfl (Nat.le_of_ble_eq_true rfl) ?_
  intro p e s m below meth c hx hb hr hts hown hlocks hml hC hP ls hl
  have hl : lv_has ls 11 [(0, .long (lN xa)), (2, .long (lN xb)), (4, .int xp)] := hl
  have hown : s.vm.findClass RX11 = some m.cls := hown
  have hts : ∀ w ∈ wsX11_lowest, w.before ([.long (lN xa), .long (lN xb), .int xp] : List Value).toArray s = true := hts
  refine lv_lload_n hx hb dX11_lowest_0 rfl (lv_at hl 0 rfl) ?_
  refine lv_lstore (lv' := [(5, .long (lN xa)), (0, .long (lN xa)), (2, .long (lN xb)), (4, .int xp)]) hx hb dX11_lowest_1 hl (by decide) rfl (fun ls hl => ?_)
  refine lv_lload_n hx hb dX11_lowest_3 rfl (lv_at hl 2 rfl) ?_
  refine lv_lstore (lv' := [(7, .long (lN xb)), (5, .long (lN xa)), (0, .long (lN xa)), (2, .long (lN xb)), (4, .int xp)]) hx hb dX11_lowest_4 hl (by decide) rfl (fun ls hl => ?_)
  have hL6 : ∀ (n_9 : Nat) (u : Nat) (v : Nat), v < n_9 → (u < 2 ^ 63) → (v < 2 ^ 63) → (Nat.gcd u v = Nat.gcd xa xb) → (0 < u + v) → ∀ ls : Array Slot, lv_has ls 11 [(0, .long (lN xa)), (2, .long (lN xb)), (4, .int xp), (5, .long (lN u)), (7, .long (lN v))] → W p l e ({ frames := 0, cells := 0, slots := 0, locals := 0 }) s m ([.long (lN xa), .long (lN xb), .int xp] : List Value).toArray below meth c s.heap [] 0 0 (MQ below (vp_Sl (fun r => r = (lN (low xa xb xp)))) ([.long (lN xa), .long (lN xb), .int xp] : List Value).toArray s 0 0 noF) (F0 m 6 ls []) := by
   intro n_9
   induction n_9 with
   | zero => intro u v hn_9; exact absurd hn_9 (Nat.not_lt_zero _)
   | succ n_9 ih6 =>
    intro u v hn_9 hu hv hg hpos ls hl
    refine lv_lload hx hb dX11_lowest_6 (lv_at hl 4 rfl) ?_
    refine lv_lconst (v := lN 0) hx hb dX11_lowest_8 (by decide) ?_
    refine lc_eq (tgt := 31) hx hb dX11_lowest_9 dX11_lowest_10 (by decide) (fun c9 => ?_) (fun c9 => ?_)
    ·have c9 : v = 0 := (pk_lEQ (a := v) (b := 0) (by omega) (by omega)).mp c9
     refine lv_iload hx hb dX11_lowest_31 (lv_at hl 2 rfl) ?_
     refine lv_if_ne (tgt := 43) hx hb dX11_lowest_33 (by decide) (fun c33 => ?_) (fun c33 => ?_)
     ·refine lv_lload_n hx hb dX11_lowest_43 rfl (lv_at hl 1 rfl) ?_
      refine lv_lload hx hb dX11_lowest_44 (lv_at hl 3 rfl) ?_
      refine lv_ldiv hx hb dX11_lowest_46 (fun h9 => (show ¬ u = 0 by omega) ((pk_lEQ (by omega) (by decide)).mp h9)) ?_
      refine top_l (y := lN (xb / u)) (pk_lDiv hb0 (by omega) hu) ?_
      exact retSl hx hb hr hlocks (by have h9 : u = Nat.gcd xa xb := (by rw [← hg, c9, Nat.gcd_zero_right]); first | rw [low, if_pos c33, h9] | rw [low, if_neg c33, h9]) dX11_lowest_47
     ·refine lv_lload_n hx hb dX11_lowest_36 rfl (lv_at hl 0 rfl) ?_
      refine lv_lload hx hb dX11_lowest_37 (lv_at hl 3 rfl) ?_
      refine lv_ldiv hx hb dX11_lowest_39 (fun h9 => (show ¬ u = 0 by omega) ((pk_lEQ (by omega) (by decide)).mp h9)) ?_
      refine top_l (y := lN (xa / u)) (pk_lDiv ha0 (by omega) hu) ?_
      refine lv_goto (tgt := 47) hx hb dX11_lowest_40 (by decide) ?_
      exact retSl hx hb hr hlocks (by have h9 : u = Nat.gcd xa xb := (by rw [← hg, c9, Nat.gcd_zero_right]); first | rw [low, if_pos c33, h9] | rw [low, if_neg c33, h9]) dX11_lowest_47
    ·have c9 : ¬ v = 0 := fun h9 => c9 ((pk_lEQ (a := v) (b := 0) (by omega) (by omega)).mpr h9)
     refine lv_lload hx hb dX11_lowest_13 (lv_at hl 3 rfl) ?_
     refine lv_lload hx hb dX11_lowest_15 (lv_at hl 4 rfl) ?_
     refine lv_lrem hx hb dX11_lowest_17 (fun h9 => c9 ((pk_lEQ (by omega) (by decide)).mp h9)) ?_
     refine top_l (y := lN (u % v)) (pk_lRem hu (by omega) hv) ?_
     refine lv_lstore (lv' := [(9, .long (lN (u % v))), (0, .long (lN xa)), (2, .long (lN xb)), (4, .int xp), (5, .long (lN u)), (7, .long (lN v))]) hx hb dX11_lowest_18 hl (by decide) rfl (fun ls hl => ?_)
     refine lv_lload hx hb dX11_lowest_20 (lv_at hl 5 rfl) ?_
     refine lv_lstore (lv' := [(5, .long (lN v)), (9, .long (lN (u % v))), (0, .long (lN xa)), (2, .long (lN xb)), (4, .int xp), (7, .long (lN v))]) hx hb dX11_lowest_22 hl (by decide) rfl (fun ls hl => ?_)
     refine lv_lload hx hb dX11_lowest_24 (lv_at hl 1 rfl) ?_
     refine lv_lstore (lv' := [(7, .long (lN (u % v))), (5, .long (lN v)), (9, .long (lN (u % v))), (0, .long (lN xa)), (2, .long (lN xb)), (4, .int xp)]) hx hb dX11_lowest_26 hl (by decide) rfl (fun ls hl => ?_)
     refine lv_goto (tgt := 6) hx hb dX11_lowest_28 (by decide) ?_
     exact ih6 v (u % v) (by have := Nat.mod_lt u (show 0 < v by omega); omega) (hv) (Nat.lt_of_lt_of_le (Nat.mod_lt _ (by omega)) (by omega)) (by rw [← hg, Nat.gcd_comm u v, Nat.gcd_rec v u, Nat.gcd_comm]) (by omega) ls (lv_sub hl [3, 4, 5, 1, 0] rfl)
  exact hL6 _ xa xb (Nat.lt_succ_self _) (ha0) (hb0) (rfl) (by omega) ls (lv_sub hl [2, 3, 4, 1, 0] rfl)

set_option maxHeartbeats 4000000 in
set_option maxRecDepth 100000 in
/-- BoiledEggsModel.figure  -/
theorem k_X11_figure (l : Launch) (g : GG) (mo : Nat) (mE : Nat) (mKi : Nat) (mB : Nat) (mTb : Nat) (mTr : Nat) (mFa : Nat) (aHab : Nat) (mIb : Nat) (mS : Nat) (aSp : Nat) (aTu : Nat) (aKn : Nat) (mT : Nat) (aKd : Nat) (mAs : Nat) (mPl : Nat) (aPg : Nat) (aWo : Nat) (aWs : Nat) (aMe : Nat) (mBf : Int32) (aBw : Nat) (mSd : Int64) (mIk : Int32) (mKk : Nat) (mKb : Nat) (mKs : Nat) (mKt : Nat) (aKsp : Nat) (aKtu : Nat) (aKkn : Nat) (mH : Int64) (pg : Nat → Nat) (xk : Nat) (hk0 : xk < 14) (hg0 : 48 ≤ pg xk) : Met l yX11_figure wsX11_figure ({ frames := 0, cells := 0, slots := 0, locals := 0 }) (pS g [.ref mo, .int (nI xk)] [(mo, .inr (11, [.int (nI mE), .int (nI mKi), .int (nI mB), .int (nI mTb), .int (nI mTr), .int (nI mFa), .ref aHab, .int (nI mIb), .int (nI mS), .ref aSp, .ref aTu, .ref aKn, .int (nI mT), .ref aKd, .int (nI mAs), .int (nI mPl), .ref aPg, .ref aWo, .ref aWs, .ref aMe, .int mBf, .ref aBw, .long mSd, .int mIk, .int (nI mKk), .int (nI mKb), .int (nI mKs), .int (nI mKt), .ref aKsp, .ref aKtu, .ref aKkn, .long mH])), (aPg, .inl (g.2.2.2.1, 14, .inl (fun j => nI (pg j))))]) (vp_Si (fun r => r = (nI (pg xk - 48)))) 0 0 noF := by
  refine metS (cc := cX11_figure) (maxL := 2) (ret := (some .int)) (by decide) rfl (Nat.le_of_ble_eq_true rfl) ?_
  intro p e s m below meth c hx hb hr hts hown hlocks hml hC hP ls hl
  have hl : lv_has ls 2 [(0, .ref mo), (1, .int (nI xk))] := hl
  have hown : s.vm.findClass RX11 = some m.cls := hown
  have hts : ∀ w ∈ wsX11_figure, w.before ([.ref mo, .int (nI xk)] : List Value).toArray s = true := hts
  have hinX11 := (by decide +kernel : ∀ w ∈ u_ws RX11 TX11 32, w ∈ wsX11_figure)
  have f25 := hts (.fieldLink RX11 25 "BoiledEggsModel" "page" "[B") (by decide +kernel)
  refine lv_aload_n hx hb dX11_figure_0 rfl (lv_at hl 0 rfl) ?_
  refine va_get (D := g.1) (ci := 11) (v := .ref aPg) (C := RX11) (T := TX11) (N := 32) hx hb hts hinX11 hown hC.1 hP 0 rfl rfl 16 (by decide) f25 (fun _ h9 => h9) rfl dX11_figure_1 ?_
  refine lv_iload_n hx hb dX11_figure_4 rfl (lv_at hl 1 rfl) ?_
  refine ald_b (f := fun j => nI (pg j)) (j := xk) hx hb hC hP 1 rfl (by omega) (by decide) dX11_figure_5 ?_
  refine lv_bipush (v := nI 48) hx hb dX11_figure_6 (by decide) ?_
  refine lv_isub hx hb dX11_figure_8 ?_
  refine top_i (y := nI (pg xk - 48)) (pk_sub hg0) ?_
  exact retSi hx hb hr hlocks (rfl) dX11_figure_9
end
